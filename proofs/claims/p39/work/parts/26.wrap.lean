theorem w_add {g : G0} {j : Nat → Nat → Int64} (d : Nat) {i i' : Nat → Nat → Int32} {x : Int32} {v : Int32} (hC : C g m_X6_add d 0 0 false [.ref 0, .int x] (mk i j) (rets (some (.int v)) (mk i' j)))  : C g m_L_add (d + 1) 0 0 false [.ref 0, .int x] (mk i j) (rets (some (.int v)) (mk i' j)) := by
  refine C_of (L := [some (.ref 0), some (.int x), none]) rfl ?_
  refine L_aload_n_0 dL_add_0 ?_
  refine L_iload_n_1 dL_add_1 ?_
  refine U_cv2 (d := d + 0) (lkR_RL_10 rfl dL_add_2) (hC) ⟨pn_X6_add, rfl, (Nat.le_of_ble_eq_true rfl), (Nat.le_of_ble_eq_true rfl), rfl⟩ (⟨_, _, rfl, rfl, rfl⟩) (cfS cf6) (Nat.le_of_ble_eq_true rfl) ?_
  exact V_iret dL_add_5 rfl rfl (⟨rfl, rfl⟩)
theorem w_add_x101 {g : G0} {j : Nat → Nat → Int64} (d : Nat) {i : Nat → Nat → Int32} {x : Int32} (hC : C g m_X6_add d 1 6 false [.ref 0, .int x] (mk i j) (thrs "java/lang/IndexOutOfBoundsException" (mk i j)))  : C g m_L_add (d + 1) 1 6 false [.ref 0, .int x] (mk i j) (rets (some (.int (-101))) (mk i j)) := by
  refine C_of (L := [some (.ref 0), some (.int x), none]) rfl ?_
  refine L_aload_n_0 dL_add_0 ?_
  refine L_iload_n_1 dL_add_1 ?_
  refine V_callC (As := [.ref 0, .int x]) (E := "java/lang/IndexOutOfBoundsException") (name := "java/lang/IndexOutOfBoundsException") (pre := []) (suf := [⟨0, 5, 10, 18⟩]) (x := ⟨0, 5, 6, 16⟩) (kf := 2) (j := 2) (lkX_RL_10 rfl dL_add_2) hC pn_X6_add rfl (Nat.le_of_ble_eq_true rfl) (Nat.le_of_ble_eq_true rfl) rfl (⟨_, _, rfl, rfl, rfl⟩) (cfS cf6) (Nat.le_refl _) (Nat.le_refl _) (Nat.le_refl _) (by decide) rfl (fun z hz => by cases hz) (by decide) (by decide) cl_RL_16 ca_IndexOutOfBoundsException dL_add_6 rfl (Nat.le_of_ble_eq_true rfl) rfl ?_
  refine V_bipush (v := (-101)) (by decide) dL_add_7 ?_
  exact V_iret dL_add_9 rfl rfl (⟨rfl, rfl⟩)
theorem w_add_x103 {g : G0} {j : Nat → Nat → Int64} (d : Nat) {i : Nat → Nat → Int32} {x : Int32} (hC : C g m_X6_add d 1 6 false [.ref 0, .int x] (mk i j) (thrs "java/lang/IllegalStateException" (mk i j)))  : C g m_L_add (d + 1) 1 6 false [.ref 0, .int x] (mk i j) (rets (some (.int (-103))) (mk i j)) := by
  refine C_of (L := [some (.ref 0), some (.int x), none]) rfl ?_
  refine L_aload_n_0 dL_add_0 ?_
  refine L_iload_n_1 dL_add_1 ?_
  refine V_callC (As := [.ref 0, .int x]) (E := "java/lang/IllegalStateException") (name := "java/lang/IllegalStateException") (pre := [⟨0, 5, 6, 16⟩]) (suf := []) (x := ⟨0, 5, 10, 18⟩) (kf := 2) (j := 2) (lkX_RL_10 rfl dL_add_2) hC pn_X6_add rfl (Nat.le_of_ble_eq_true rfl) (Nat.le_of_ble_eq_true rfl) rfl (⟨_, _, rfl, rfl, rfl⟩) (cfS cf6) (Nat.le_refl _) (Nat.le_refl _) (Nat.le_refl _) (by decide) rfl (fun z hz => by rcases List.mem_singleton.mp hz with rfl; exact ⟨by decide, "java/lang/IndexOutOfBoundsException", cl_RL_16, by decide⟩) (by decide) (by decide) cl_RL_18 ca_IllegalStateException dL_add_10 rfl (Nat.le_of_ble_eq_true rfl) rfl ?_
  refine V_bipush (v := (-103)) (by decide) dL_add_11 ?_
  exact V_iret dL_add_13 rfl rfl (⟨rfl, rfl⟩)
theorem w_crossOut {g : G0} {j : Nat → Nat → Int64} (d : Nat) {i i' : Nat → Nat → Int32} {x : Int32} {v : Int32} (hC : C g m_X6_crossOut d 0 0 false [.ref 0, .int x] (mk i j) (rets (some (.int v)) (mk i' j)))  : C g m_L_crossOut (d + 1) 0 0 false [.ref 0, .int x] (mk i j) (rets (some (.int v)) (mk i' j)) := by
  refine C_of (L := [some (.ref 0), some (.int x), none]) rfl ?_
  refine L_aload_n_0 dL_crossOut_0 ?_
  refine L_iload_n_1 dL_crossOut_1 ?_
  refine U_cv2 (d := d + 0) (lkR_RL_20 rfl dL_crossOut_2) (hC) ⟨pn_X6_crossOut, rfl, (Nat.le_of_ble_eq_true rfl), (Nat.le_of_ble_eq_true rfl), rfl⟩ (⟨_, _, rfl, rfl, rfl⟩) (cfS cf6) (Nat.le_of_ble_eq_true rfl) ?_
  exact V_iret dL_crossOut_5 rfl rfl (⟨rfl, rfl⟩)
theorem w_crossOut_x101 {g : G0} {j : Nat → Nat → Int64} (d : Nat) {i : Nat → Nat → Int32} {x : Int32} (hC : C g m_X6_crossOut d 1 6 false [.ref 0, .int x] (mk i j) (thrs "java/lang/IndexOutOfBoundsException" (mk i j)))  : C g m_L_crossOut (d + 1) 1 6 false [.ref 0, .int x] (mk i j) (rets (some (.int (-101))) (mk i j)) := by
  refine C_of (L := [some (.ref 0), some (.int x), none]) rfl ?_
  refine L_aload_n_0 dL_crossOut_0 ?_
  refine L_iload_n_1 dL_crossOut_1 ?_
  refine V_callC (As := [.ref 0, .int x]) (E := "java/lang/IndexOutOfBoundsException") (name := "java/lang/IndexOutOfBoundsException") (pre := []) (suf := [⟨0, 5, 10, 18⟩]) (x := ⟨0, 5, 6, 16⟩) (kf := 2) (j := 2) (lkX_RL_20 rfl dL_crossOut_2) hC pn_X6_crossOut rfl (Nat.le_of_ble_eq_true rfl) (Nat.le_of_ble_eq_true rfl) rfl (⟨_, _, rfl, rfl, rfl⟩) (cfS cf6) (Nat.le_refl _) (Nat.le_refl _) (Nat.le_refl _) (by decide) rfl (fun z hz => by cases hz) (by decide) (by decide) cl_RL_16 ca_IndexOutOfBoundsException dL_crossOut_6 rfl (Nat.le_of_ble_eq_true rfl) rfl ?_
  refine V_bipush (v := (-101)) (by decide) dL_crossOut_7 ?_
  exact V_iret dL_crossOut_9 rfl rfl (⟨rfl, rfl⟩)
theorem w_crossOut_x103 {g : G0} {j : Nat → Nat → Int64} (d : Nat) {i : Nat → Nat → Int32} {x : Int32} (hC : C g m_X6_crossOut d 1 6 false [.ref 0, .int x] (mk i j) (thrs "java/lang/IllegalStateException" (mk i j)))  : C g m_L_crossOut (d + 1) 1 6 false [.ref 0, .int x] (mk i j) (rets (some (.int (-103))) (mk i j)) := by
  refine C_of (L := [some (.ref 0), some (.int x), none]) rfl ?_
  refine L_aload_n_0 dL_crossOut_0 ?_
  refine L_iload_n_1 dL_crossOut_1 ?_
  refine V_callC (As := [.ref 0, .int x]) (E := "java/lang/IllegalStateException") (name := "java/lang/IllegalStateException") (pre := [⟨0, 5, 6, 16⟩]) (suf := []) (x := ⟨0, 5, 10, 18⟩) (kf := 2) (j := 2) (lkX_RL_20 rfl dL_crossOut_2) hC pn_X6_crossOut rfl (Nat.le_of_ble_eq_true rfl) (Nat.le_of_ble_eq_true rfl) rfl (⟨_, _, rfl, rfl, rfl⟩) (cfS cf6) (Nat.le_refl _) (Nat.le_refl _) (Nat.le_refl _) (by decide) rfl (fun z hz => by rcases List.mem_singleton.mp hz with rfl; exact ⟨by decide, "java/lang/IndexOutOfBoundsException", cl_RL_16, by decide⟩) (by decide) (by decide) cl_RL_18 ca_IllegalStateException dL_crossOut_10 rfl (Nat.le_of_ble_eq_true rfl) rfl ?_
  refine V_bipush (v := (-103)) (by decide) dL_crossOut_11 ?_
  exact V_iret dL_crossOut_13 rfl rfl (⟨rfl, rfl⟩)
theorem w_publish {g : G0} {j : Nat → Nat → Int64} (d : Nat) {i i' : Nat → Nat → Int32} {v : Int32} (hC : C g m_X6_publish d 0 0 false [.ref 0] (mk i j) (rets (some (.int v)) (mk i' j)))  : C g m_L_publish (d + 1) 0 0 false [.ref 0] (mk i j) (rets (some (.int v)) (mk i' j)) := by
  refine C_of (L := [some (.ref 0), none]) rfl ?_
  refine L_aload_n_0 dL_publish_0 ?_
  refine U_cv1 (d := d + 0) (lkR_RL_23 rfl dL_publish_1) (hC) ⟨pn_X6_publish, rfl, (Nat.le_of_ble_eq_true rfl), (Nat.le_of_ble_eq_true rfl), rfl⟩ (⟨_, _, rfl, rfl, rfl⟩) (cfS cf6) (Nat.le_of_ble_eq_true rfl) ?_
  exact V_iret dL_publish_4 rfl rfl (⟨rfl, rfl⟩)
theorem w_publish_x103 {g : G0} {j : Nat → Nat → Int64} (d : Nat) {i : Nat → Nat → Int32} (hC : C g m_X6_publish d 1 6 false [.ref 0] (mk i j) (thrs "java/lang/IllegalStateException" (mk i j)))  : C g m_L_publish (d + 1) 1 6 false [.ref 0] (mk i j) (rets (some (.int (-103))) (mk i j)) := by
  refine C_of (L := [some (.ref 0), none]) rfl ?_
  refine L_aload_n_0 dL_publish_0 ?_
  refine V_callC (As := [.ref 0]) (E := "java/lang/IllegalStateException") (name := "java/lang/IllegalStateException") (pre := []) (suf := []) (x := ⟨0, 4, 5, 18⟩) (kf := 1) (j := 1) (lkX_RL_23 rfl dL_publish_1) hC pn_X6_publish rfl (Nat.le_of_ble_eq_true rfl) (Nat.le_of_ble_eq_true rfl) rfl (⟨_, _, rfl, rfl, rfl⟩) (cfS cf6) (Nat.le_refl _) (Nat.le_refl _) (Nat.le_refl _) (by decide) rfl (fun z hz => by cases hz) (by decide) (by decide) cl_RL_18 ca_IllegalStateException dL_publish_5 rfl (Nat.le_of_ble_eq_true rfl) rfl ?_
  refine V_bipush (v := (-103)) (by decide) dL_publish_6 ?_
  exact V_iret dL_publish_8 rfl rfl (⟨rfl, rfl⟩)
theorem w_renumber {g : G0} {j : Nat → Nat → Int64} (d : Nat) {i i' : Nat → Nat → Int32} {x : Int32} {v : Int32} (hC : C g m_X6_renumber d 0 0 false [.ref 0, .int x] (mk i j) (rets (some (.int v)) (mk i' j)))  : C g m_L_renumber (d + 1) 0 0 false [.ref 0, .int x] (mk i j) (rets (some (.int v)) (mk i' j)) := by
  refine C_of (L := [some (.ref 0), some (.int x), none]) rfl ?_
  refine L_aload_n_0 dL_renumber_0 ?_
  refine L_iload_n_1 dL_renumber_1 ?_
  refine U_cv2 (d := d + 0) (lkR_RL_27 rfl dL_renumber_2) (hC) ⟨pn_X6_renumber, rfl, (Nat.le_of_ble_eq_true rfl), (Nat.le_of_ble_eq_true rfl), rfl⟩ (⟨_, _, rfl, rfl, rfl⟩) (cfS cf6) (Nat.le_of_ble_eq_true rfl) ?_
  exact V_iret dL_renumber_5 rfl rfl (⟨rfl, rfl⟩)
theorem w_renumber_x102 {g : G0} {j : Nat → Nat → Int64} (d : Nat) {i : Nat → Nat → Int32} {x : Int32} (hC : C g m_X6_renumber d 1 6 false [.ref 0, .int x] (mk i j) (thrs "java/lang/IllegalArgumentException" (mk i j)))  : C g m_L_renumber (d + 1) 1 6 false [.ref 0, .int x] (mk i j) (rets (some (.int (-102))) (mk i j)) := by
  refine C_of (L := [some (.ref 0), some (.int x), none]) rfl ?_
  refine L_aload_n_0 dL_renumber_0 ?_
  refine L_iload_n_1 dL_renumber_1 ?_
  refine V_callC (As := [.ref 0, .int x]) (E := "java/lang/IllegalArgumentException") (name := "java/lang/IllegalArgumentException") (pre := []) (suf := []) (x := ⟨0, 5, 6, 30⟩) (kf := 2) (j := 2) (lkX_RL_27 rfl dL_renumber_2) hC pn_X6_renumber rfl (Nat.le_of_ble_eq_true rfl) (Nat.le_of_ble_eq_true rfl) rfl (⟨_, _, rfl, rfl, rfl⟩) (cfS cf6) (Nat.le_refl _) (Nat.le_refl _) (Nat.le_refl _) (by decide) rfl (fun z hz => by cases hz) (by decide) (by decide) cl_RL_30 ca_IllegalArgumentException dL_renumber_6 rfl (Nat.le_of_ble_eq_true rfl) rfl ?_
  refine V_bipush (v := (-102)) (by decide) dL_renumber_7 ?_
  exact V_iret dL_renumber_9 rfl rfl (⟨rfl, rfl⟩)
theorem w_setKeep {g : G0} {j : Nat → Nat → Int64} (d : Nat) {i i' : Nat → Nat → Int32} {x : Int32} {v : Int32} (hC : C g m_X6_setKeep d 0 0 false [.ref 0, .int x] (mk i j) (rets (some (.int v)) (mk i' j)))  : C g m_L_setKeep (d + 1) 0 0 false [.ref 0, .int x] (mk i j) (rets (some (.int v)) (mk i' j)) := by
  refine C_of (L := [some (.ref 0), some (.int x), none]) rfl ?_
  refine L_aload_n_0 dL_setKeep_0 ?_
  refine L_iload_n_1 dL_setKeep_1 ?_
  refine U_cv2 (d := d + 0) (lkR_RL_32 rfl dL_setKeep_2) (hC) ⟨pn_X6_setKeep, rfl, (Nat.le_of_ble_eq_true rfl), (Nat.le_of_ble_eq_true rfl), rfl⟩ (⟨_, _, rfl, rfl, rfl⟩) (cfS cf6) (Nat.le_of_ble_eq_true rfl) ?_
  exact V_iret dL_setKeep_5 rfl rfl (⟨rfl, rfl⟩)
theorem w_setKeep_x102 {g : G0} {j : Nat → Nat → Int64} (d : Nat) {i : Nat → Nat → Int32} {x : Int32} (hC : C g m_X6_setKeep d 1 6 false [.ref 0, .int x] (mk i j) (thrs "java/lang/IllegalArgumentException" (mk i j)))  : C g m_L_setKeep (d + 1) 1 6 false [.ref 0, .int x] (mk i j) (rets (some (.int (-102))) (mk i j)) := by
  refine C_of (L := [some (.ref 0), some (.int x), none]) rfl ?_
  refine L_aload_n_0 dL_setKeep_0 ?_
  refine L_iload_n_1 dL_setKeep_1 ?_
  refine V_callC (As := [.ref 0, .int x]) (E := "java/lang/IllegalArgumentException") (name := "java/lang/IllegalArgumentException") (pre := []) (suf := []) (x := ⟨0, 5, 6, 30⟩) (kf := 2) (j := 2) (lkX_RL_32 rfl dL_setKeep_2) hC pn_X6_setKeep rfl (Nat.le_of_ble_eq_true rfl) (Nat.le_of_ble_eq_true rfl) rfl (⟨_, _, rfl, rfl, rfl⟩) (cfS cf6) (Nat.le_refl _) (Nat.le_refl _) (Nat.le_refl _) (by decide) rfl (fun z hz => by cases hz) (by decide) (by decide) cl_RL_30 ca_IllegalArgumentException dL_setKeep_6 rfl (Nat.le_of_ble_eq_true rfl) rfl ?_
  refine V_bipush (v := (-102)) (by decide) dL_setKeep_7 ?_
  exact V_iret dL_setKeep_9 rfl rfl (⟨rfl, rfl⟩)
theorem w_where {g : G0} {j : Nat → Nat → Int64} (d : Nat) {i i' : Nat → Nat → Int32} {x : Int32} {v : Int32} (hC : C g m_X6_where d 0 0 false [.ref 0, .int x] (mk i j) (rets (some (.int v)) (mk i' j)))  : C g m_L_where (d + 1) 0 0 false [.ref 0, .int x] (mk i j) (rets (some (.int v)) (mk i' j)) := by
  refine C_of (L := [some (.ref 0), some (.int x), none]) rfl ?_
  refine L_aload_n_0 dL_where_0 ?_
  refine L_iload_n_1 dL_where_1 ?_
  refine U_cv2 (d := d + 0) (lkR_RL_35 rfl dL_where_2) (hC) ⟨pn_X6_where, rfl, (Nat.le_of_ble_eq_true rfl), (Nat.le_of_ble_eq_true rfl), rfl⟩ (⟨_, _, rfl, rfl, rfl⟩) (cfS cf6) (Nat.le_of_ble_eq_true rfl) ?_
  exact V_iret dL_where_5 rfl rfl (⟨rfl, rfl⟩)
theorem w_where_x101 {g : G0} {j : Nat → Nat → Int64} (d : Nat) {i : Nat → Nat → Int32} {x : Int32} (hC : C g m_X6_where d 1 6 false [.ref 0, .int x] (mk i j) (thrs "java/lang/IndexOutOfBoundsException" (mk i j)))  : C g m_L_where (d + 1) 1 6 false [.ref 0, .int x] (mk i j) (rets (some (.int (-101))) (mk i j)) := by
  refine C_of (L := [some (.ref 0), some (.int x), none]) rfl ?_
  refine L_aload_n_0 dL_where_0 ?_
  refine L_iload_n_1 dL_where_1 ?_
  refine V_callC (As := [.ref 0, .int x]) (E := "java/lang/IndexOutOfBoundsException") (name := "java/lang/IndexOutOfBoundsException") (pre := []) (suf := []) (x := ⟨0, 5, 6, 16⟩) (kf := 2) (j := 2) (lkX_RL_35 rfl dL_where_2) hC pn_X6_where rfl (Nat.le_of_ble_eq_true rfl) (Nat.le_of_ble_eq_true rfl) rfl (⟨_, _, rfl, rfl, rfl⟩) (cfS cf6) (Nat.le_refl _) (Nat.le_refl _) (Nat.le_refl _) (by decide) rfl (fun z hz => by cases hz) (by decide) (by decide) cl_RL_16 ca_IndexOutOfBoundsException dL_where_6 rfl (Nat.le_of_ble_eq_true rfl) rfl ?_
  refine V_bipush (v := (-101)) (by decide) dL_where_7 ?_
  exact V_iret dL_where_9 rfl rfl (⟨rfl, rfl⟩)
theorem w_from {g : G0} {j : Nat → Nat → Int64} (d : Nat) {i i' : Nat → Nat → Int32} {x : Int32} {v : Int32} (hC : C g m_X6_from d 0 0 false [.ref 0, .int x] (mk i j) (rets (some (.int v)) (mk i' j)))  : C g m_L_from (d + 1) 0 0 false [.ref 0, .int x] (mk i j) (rets (some (.int v)) (mk i' j)) := by
  refine C_of (L := [some (.ref 0), some (.int x), none]) rfl ?_
  refine L_aload_n_0 dL_from_0 ?_
  refine L_iload_n_1 dL_from_1 ?_
  refine U_cv2 (d := d + 0) (lkR_RL_38 rfl dL_from_2) (hC) ⟨pn_X6_from, rfl, (Nat.le_of_ble_eq_true rfl), (Nat.le_of_ble_eq_true rfl), rfl⟩ (⟨_, _, rfl, rfl, rfl⟩) (cfS cf6) (Nat.le_of_ble_eq_true rfl) ?_
  exact V_iret dL_from_5 rfl rfl (⟨rfl, rfl⟩)
theorem w_from_x101 {g : G0} {j : Nat → Nat → Int64} (d : Nat) {i : Nat → Nat → Int32} {x : Int32} (hC : C g m_X6_from d 1 6 false [.ref 0, .int x] (mk i j) (thrs "java/lang/IndexOutOfBoundsException" (mk i j)))  : C g m_L_from (d + 1) 1 6 false [.ref 0, .int x] (mk i j) (rets (some (.int (-101))) (mk i j)) := by
  refine C_of (L := [some (.ref 0), some (.int x), none]) rfl ?_
  refine L_aload_n_0 dL_from_0 ?_
  refine L_iload_n_1 dL_from_1 ?_
  refine V_callC (As := [.ref 0, .int x]) (E := "java/lang/IndexOutOfBoundsException") (name := "java/lang/IndexOutOfBoundsException") (pre := []) (suf := []) (x := ⟨0, 5, 6, 16⟩) (kf := 2) (j := 2) (lkX_RL_38 rfl dL_from_2) hC pn_X6_from rfl (Nat.le_of_ble_eq_true rfl) (Nat.le_of_ble_eq_true rfl) rfl (⟨_, _, rfl, rfl, rfl⟩) (cfS cf6) (Nat.le_refl _) (Nat.le_refl _) (Nat.le_refl _) (by decide) rfl (fun z hz => by cases hz) (by decide) (by decide) cl_RL_16 ca_IndexOutOfBoundsException dL_from_6 rfl (Nat.le_of_ble_eq_true rfl) rfl ?_
  refine V_bipush (v := (-101)) (by decide) dL_from_7 ?_
  exact V_iret dL_from_9 rfl rfl (⟨rfl, rfl⟩)
theorem w_cost {g : G0} {j : Nat → Nat → Int64} (d : Nat) {i i' : Nat → Nat → Int32} {x : Int32} {v : Int32} (hC : C g m_X6_cost d 0 0 false [.ref 0, .int x] (mk i j) (rets (some (.int v)) (mk i' j)))  : C g m_L_cost (d + 1) 0 0 false [.ref 0, .int x] (mk i j) (rets (some (.int v)) (mk i' j)) := by
  refine C_of (L := [some (.ref 0), some (.int x), none]) rfl ?_
  refine L_aload_n_0 dL_cost_0 ?_
  refine L_iload_n_1 dL_cost_1 ?_
  refine U_cv2 (d := d + 0) (lkR_RL_41 rfl dL_cost_2) (hC) ⟨pn_X6_cost, rfl, (Nat.le_of_ble_eq_true rfl), (Nat.le_of_ble_eq_true rfl), rfl⟩ (⟨_, _, rfl, rfl, rfl⟩) (cfS cf6) (Nat.le_of_ble_eq_true rfl) ?_
  exact V_iret dL_cost_5 rfl rfl (⟨rfl, rfl⟩)
theorem w_cost_x101 {g : G0} {j : Nat → Nat → Int64} (d : Nat) {i : Nat → Nat → Int32} {x : Int32} (hC : C g m_X6_cost d 1 6 false [.ref 0, .int x] (mk i j) (thrs "java/lang/IndexOutOfBoundsException" (mk i j)))  : C g m_L_cost (d + 1) 1 6 false [.ref 0, .int x] (mk i j) (rets (some (.int (-101))) (mk i j)) := by
  refine C_of (L := [some (.ref 0), some (.int x), none]) rfl ?_
  refine L_aload_n_0 dL_cost_0 ?_
  refine L_iload_n_1 dL_cost_1 ?_
  refine V_callC (As := [.ref 0, .int x]) (E := "java/lang/IndexOutOfBoundsException") (name := "java/lang/IndexOutOfBoundsException") (pre := []) (suf := []) (x := ⟨0, 5, 6, 16⟩) (kf := 2) (j := 2) (lkX_RL_41 rfl dL_cost_2) hC pn_X6_cost rfl (Nat.le_of_ble_eq_true rfl) (Nat.le_of_ble_eq_true rfl) rfl (⟨_, _, rfl, rfl, rfl⟩) (cfS cf6) (Nat.le_refl _) (Nat.le_refl _) (Nat.le_refl _) (by decide) rfl (fun z hz => by cases hz) (by decide) (by decide) cl_RL_16 ca_IndexOutOfBoundsException dL_cost_6 rfl (Nat.le_of_ble_eq_true rfl) rfl ?_
  refine V_bipush (v := (-101)) (by decide) dL_cost_7 ?_
  exact V_iret dL_cost_9 rfl rfl (⟨rfl, rfl⟩)
theorem w_compare {g : G0} {j : Nat → Nat → Int64} (d : Nat) {i i' : Nat → Nat → Int32} {x y : Int32} {v : Int32} (hC : C g m_X6_compare d 0 0 false [.ref 0, .int x, .int y] (mk i j) (rets (some (.int v)) (mk i' j)))  : C g m_L_compare (d + 1) 0 0 false [.ref 0, .int x, .int y] (mk i j) (rets (some (.int v)) (mk i' j)) := by
  refine C_of (L := [some (.ref 0), some (.int x), some (.int y), none]) rfl ?_
  refine L_aload_n_0 dL_compare_0 ?_
  refine L_iload_n_1 dL_compare_1 ?_
  refine L_iload_n_2 dL_compare_2 ?_
  refine U_cv3 (d := d + 0) (lkR_RL_44 rfl dL_compare_3) (hC) ⟨pn_X6_compare, rfl, (Nat.le_of_ble_eq_true rfl), (Nat.le_of_ble_eq_true rfl), rfl⟩ (⟨_, _, rfl, rfl, rfl⟩) (cfS cf6) (Nat.le_of_ble_eq_true rfl) ?_
  exact V_iret dL_compare_6 rfl rfl (⟨rfl, rfl⟩)
theorem w_compare_x102 {g : G0} {j : Nat → Nat → Int64} (d : Nat) {i : Nat → Nat → Int32} {x y : Int32} (hC : C g m_X6_compare d 1 6 false [.ref 0, .int x, .int y] (mk i j) (thrs "java/lang/IllegalArgumentException" (mk i j)))  : C g m_L_compare (d + 1) 1 6 false [.ref 0, .int x, .int y] (mk i j) (rets (some (.int (-102))) (mk i j)) := by
  refine C_of (L := [some (.ref 0), some (.int x), some (.int y), none]) rfl ?_
  refine L_aload_n_0 dL_compare_0 ?_
  refine L_iload_n_1 dL_compare_1 ?_
  refine L_iload_n_2 dL_compare_2 ?_
  refine V_callC (As := [.ref 0, .int x, .int y]) (E := "java/lang/IllegalArgumentException") (name := "java/lang/IllegalArgumentException") (pre := []) (suf := []) (x := ⟨0, 6, 7, 30⟩) (kf := 3) (j := 3) (lkX_RL_44 rfl dL_compare_3) hC pn_X6_compare rfl (Nat.le_of_ble_eq_true rfl) (Nat.le_of_ble_eq_true rfl) rfl (⟨_, _, rfl, rfl, rfl⟩) (cfS cf6) (Nat.le_refl _) (Nat.le_refl _) (Nat.le_refl _) (by decide) rfl (fun z hz => by cases hz) (by decide) (by decide) cl_RL_30 ca_IllegalArgumentException dL_compare_7 rfl (Nat.le_of_ble_eq_true rfl) rfl ?_
  refine V_bipush (v := (-102)) (by decide) dL_compare_8 ?_
  exact V_iret dL_compare_10 rfl rfl (⟨rfl, rfl⟩)
theorem w_refresh {g : G0} {j : Nat → Nat → Int64} (d : Nat) {i i' : Nat → Nat → Int32} {x : Int32} {v : Int32} (hC : C g m_X6_refresh d 0 0 false [.ref 0, .int x] (mk i j) (rets (some (.int v)) (mk i' j)))  : C g m_L_refresh (d + 1) 0 0 false [.ref 0, .int x] (mk i j) (rets (some (.int v)) (mk i' j)) := by
  refine C_of (L := [some (.ref 0), some (.int x), none]) rfl ?_
  refine L_aload_n_0 dL_refresh_0 ?_
  refine L_iload_n_1 dL_refresh_1 ?_
  refine U_cv2 (d := d + 0) (lkR_RL_48 rfl dL_refresh_2) (hC) ⟨pn_X6_refresh, rfl, (Nat.le_of_ble_eq_true rfl), (Nat.le_of_ble_eq_true rfl), rfl⟩ (⟨_, _, rfl, rfl, rfl⟩) (cfS cf6) (Nat.le_of_ble_eq_true rfl) ?_
  exact V_iret dL_refresh_5 rfl rfl (⟨rfl, rfl⟩)
theorem w_refresh_x101 {g : G0} {j : Nat → Nat → Int64} (d : Nat) {i : Nat → Nat → Int32} {x : Int32} (hC : C g m_X6_refresh d 1 6 false [.ref 0, .int x] (mk i j) (thrs "java/lang/IndexOutOfBoundsException" (mk i j)))  : C g m_L_refresh (d + 1) 1 6 false [.ref 0, .int x] (mk i j) (rets (some (.int (-101))) (mk i j)) := by
  refine C_of (L := [some (.ref 0), some (.int x), none]) rfl ?_
  refine L_aload_n_0 dL_refresh_0 ?_
  refine L_iload_n_1 dL_refresh_1 ?_
  refine V_callC (As := [.ref 0, .int x]) (E := "java/lang/IndexOutOfBoundsException") (name := "java/lang/IndexOutOfBoundsException") (pre := []) (suf := [⟨0, 5, 10, 18⟩]) (x := ⟨0, 5, 6, 16⟩) (kf := 2) (j := 2) (lkX_RL_48 rfl dL_refresh_2) hC pn_X6_refresh rfl (Nat.le_of_ble_eq_true rfl) (Nat.le_of_ble_eq_true rfl) rfl (⟨_, _, rfl, rfl, rfl⟩) (cfS cf6) (Nat.le_refl _) (Nat.le_refl _) (Nat.le_refl _) (by decide) rfl (fun z hz => by cases hz) (by decide) (by decide) cl_RL_16 ca_IndexOutOfBoundsException dL_refresh_6 rfl (Nat.le_of_ble_eq_true rfl) rfl ?_
  refine V_bipush (v := (-101)) (by decide) dL_refresh_7 ?_
  exact V_iret dL_refresh_9 rfl rfl (⟨rfl, rfl⟩)
theorem w_refresh_x103 {g : G0} {j : Nat → Nat → Int64} (d : Nat) {i : Nat → Nat → Int32} {x : Int32} (hC : C g m_X6_refresh d 1 6 false [.ref 0, .int x] (mk i j) (thrs "java/lang/IllegalStateException" (mk i j)))  : C g m_L_refresh (d + 1) 1 6 false [.ref 0, .int x] (mk i j) (rets (some (.int (-103))) (mk i j)) := by
  refine C_of (L := [some (.ref 0), some (.int x), none]) rfl ?_
  refine L_aload_n_0 dL_refresh_0 ?_
  refine L_iload_n_1 dL_refresh_1 ?_
  refine V_callC (As := [.ref 0, .int x]) (E := "java/lang/IllegalStateException") (name := "java/lang/IllegalStateException") (pre := [⟨0, 5, 6, 16⟩]) (suf := []) (x := ⟨0, 5, 10, 18⟩) (kf := 2) (j := 2) (lkX_RL_48 rfl dL_refresh_2) hC pn_X6_refresh rfl (Nat.le_of_ble_eq_true rfl) (Nat.le_of_ble_eq_true rfl) rfl (⟨_, _, rfl, rfl, rfl⟩) (cfS cf6) (Nat.le_refl _) (Nat.le_refl _) (Nat.le_refl _) (by decide) rfl (fun z hz => by rcases List.mem_singleton.mp hz with rfl; exact ⟨by decide, "java/lang/IndexOutOfBoundsException", cl_RL_16, by decide⟩) (by decide) (by decide) cl_RL_18 ca_IllegalStateException dL_refresh_10 rfl (Nat.le_of_ble_eq_true rfl) rfl ?_
  refine V_bipush (v := (-103)) (by decide) dL_refresh_11 ?_
  exact V_iret dL_refresh_13 rfl rfl (⟨rfl, rfl⟩)
theorem w_sleep {g : G0} {j : Nat → Nat → Int64} (d : Nat) {i i' : Nat → Nat → Int32} {x : Int32} {v : Int32} (hC : C g m_X6_sleep d 0 0 false [.ref 0, .int x] (mk i j) (rets (some (.int v)) (mk i' j)))  : C g m_L_sleep (d + 1) 0 0 false [.ref 0, .int x] (mk i j) (rets (some (.int v)) (mk i' j)) := by
  refine C_of (L := [some (.ref 0), some (.int x), none]) rfl ?_
  refine L_aload_n_0 dL_sleep_0 ?_
  refine L_iload_n_1 dL_sleep_1 ?_
  refine U_cv2 (d := d + 0) (lkR_RL_51 rfl dL_sleep_2) (hC) ⟨pn_X6_sleep, rfl, (Nat.le_of_ble_eq_true rfl), (Nat.le_of_ble_eq_true rfl), rfl⟩ (⟨_, _, rfl, rfl, rfl⟩) (cfS cf6) (Nat.le_of_ble_eq_true rfl) ?_
  exact V_iret dL_sleep_5 rfl rfl (⟨rfl, rfl⟩)
theorem w_sleep_x101 {g : G0} {j : Nat → Nat → Int64} (d : Nat) {i : Nat → Nat → Int32} {x : Int32} (hC : C g m_X6_sleep d 1 6 false [.ref 0, .int x] (mk i j) (thrs "java/lang/IndexOutOfBoundsException" (mk i j)))  : C g m_L_sleep (d + 1) 1 6 false [.ref 0, .int x] (mk i j) (rets (some (.int (-101))) (mk i j)) := by
  refine C_of (L := [some (.ref 0), some (.int x), none]) rfl ?_
  refine L_aload_n_0 dL_sleep_0 ?_
  refine L_iload_n_1 dL_sleep_1 ?_
  refine V_callC (As := [.ref 0, .int x]) (E := "java/lang/IndexOutOfBoundsException") (name := "java/lang/IndexOutOfBoundsException") (pre := []) (suf := [⟨0, 5, 10, 18⟩]) (x := ⟨0, 5, 6, 16⟩) (kf := 2) (j := 2) (lkX_RL_51 rfl dL_sleep_2) hC pn_X6_sleep rfl (Nat.le_of_ble_eq_true rfl) (Nat.le_of_ble_eq_true rfl) rfl (⟨_, _, rfl, rfl, rfl⟩) (cfS cf6) (Nat.le_refl _) (Nat.le_refl _) (Nat.le_refl _) (by decide) rfl (fun z hz => by cases hz) (by decide) (by decide) cl_RL_16 ca_IndexOutOfBoundsException dL_sleep_6 rfl (Nat.le_of_ble_eq_true rfl) rfl ?_
  refine V_bipush (v := (-101)) (by decide) dL_sleep_7 ?_
  exact V_iret dL_sleep_9 rfl rfl (⟨rfl, rfl⟩)
theorem w_sleep_x103 {g : G0} {j : Nat → Nat → Int64} (d : Nat) {i : Nat → Nat → Int32} {x : Int32} (hC : C g m_X6_sleep d 1 6 false [.ref 0, .int x] (mk i j) (thrs "java/lang/IllegalStateException" (mk i j)))  : C g m_L_sleep (d + 1) 1 6 false [.ref 0, .int x] (mk i j) (rets (some (.int (-103))) (mk i j)) := by
  refine C_of (L := [some (.ref 0), some (.int x), none]) rfl ?_
  refine L_aload_n_0 dL_sleep_0 ?_
  refine L_iload_n_1 dL_sleep_1 ?_
  refine V_callC (As := [.ref 0, .int x]) (E := "java/lang/IllegalStateException") (name := "java/lang/IllegalStateException") (pre := [⟨0, 5, 6, 16⟩]) (suf := []) (x := ⟨0, 5, 10, 18⟩) (kf := 2) (j := 2) (lkX_RL_51 rfl dL_sleep_2) hC pn_X6_sleep rfl (Nat.le_of_ble_eq_true rfl) (Nat.le_of_ble_eq_true rfl) rfl (⟨_, _, rfl, rfl, rfl⟩) (cfS cf6) (Nat.le_refl _) (Nat.le_refl _) (Nat.le_refl _) (by decide) rfl (fun z hz => by rcases List.mem_singleton.mp hz with rfl; exact ⟨by decide, "java/lang/IndexOutOfBoundsException", cl_RL_16, by decide⟩) (by decide) (by decide) cl_RL_18 ca_IllegalStateException dL_sleep_10 rfl (Nat.le_of_ble_eq_true rfl) rfl ?_
  refine V_bipush (v := (-103)) (by decide) dL_sleep_11 ?_
  exact V_iret dL_sleep_13 rfl rfl (⟨rfl, rfl⟩)
theorem w_wake {g : G0} {j : Nat → Nat → Int64} (d : Nat) {i i' : Nat → Nat → Int32} {x : Int32} {v : Int32} (hC : C g m_X6_wake d 0 0 false [.ref 0, .int x] (mk i j) (rets (some (.int v)) (mk i' j)))  : C g m_L_wake (d + 1) 0 0 false [.ref 0, .int x] (mk i j) (rets (some (.int v)) (mk i' j)) := by
  refine C_of (L := [some (.ref 0), some (.int x), none]) rfl ?_
  refine L_aload_n_0 dL_wake_0 ?_
  refine L_iload_n_1 dL_wake_1 ?_
  refine U_cv2 (d := d + 0) (lkR_RL_54 rfl dL_wake_2) (hC) ⟨pn_X6_wake, rfl, (Nat.le_of_ble_eq_true rfl), (Nat.le_of_ble_eq_true rfl), rfl⟩ (⟨_, _, rfl, rfl, rfl⟩) (cfS cf6) (Nat.le_of_ble_eq_true rfl) ?_
  exact V_iret dL_wake_5 rfl rfl (⟨rfl, rfl⟩)
theorem w_wake_x101 {g : G0} {j : Nat → Nat → Int64} (d : Nat) {i : Nat → Nat → Int32} {x : Int32} (hC : C g m_X6_wake d 1 6 false [.ref 0, .int x] (mk i j) (thrs "java/lang/IndexOutOfBoundsException" (mk i j)))  : C g m_L_wake (d + 1) 1 6 false [.ref 0, .int x] (mk i j) (rets (some (.int (-101))) (mk i j)) := by
  refine C_of (L := [some (.ref 0), some (.int x), none]) rfl ?_
  refine L_aload_n_0 dL_wake_0 ?_
  refine L_iload_n_1 dL_wake_1 ?_
  refine V_callC (As := [.ref 0, .int x]) (E := "java/lang/IndexOutOfBoundsException") (name := "java/lang/IndexOutOfBoundsException") (pre := []) (suf := [⟨0, 5, 10, 18⟩]) (x := ⟨0, 5, 6, 16⟩) (kf := 2) (j := 2) (lkX_RL_54 rfl dL_wake_2) hC pn_X6_wake rfl (Nat.le_of_ble_eq_true rfl) (Nat.le_of_ble_eq_true rfl) rfl (⟨_, _, rfl, rfl, rfl⟩) (cfS cf6) (Nat.le_refl _) (Nat.le_refl _) (Nat.le_refl _) (by decide) rfl (fun z hz => by cases hz) (by decide) (by decide) cl_RL_16 ca_IndexOutOfBoundsException dL_wake_6 rfl (Nat.le_of_ble_eq_true rfl) rfl ?_
  refine V_bipush (v := (-101)) (by decide) dL_wake_7 ?_
  exact V_iret dL_wake_9 rfl rfl (⟨rfl, rfl⟩)
theorem w_wake_x103 {g : G0} {j : Nat → Nat → Int64} (d : Nat) {i : Nat → Nat → Int32} {x : Int32} (hC : C g m_X6_wake d 1 6 false [.ref 0, .int x] (mk i j) (thrs "java/lang/IllegalStateException" (mk i j)))  : C g m_L_wake (d + 1) 1 6 false [.ref 0, .int x] (mk i j) (rets (some (.int (-103))) (mk i j)) := by
  refine C_of (L := [some (.ref 0), some (.int x), none]) rfl ?_
  refine L_aload_n_0 dL_wake_0 ?_
  refine L_iload_n_1 dL_wake_1 ?_
  refine V_callC (As := [.ref 0, .int x]) (E := "java/lang/IllegalStateException") (name := "java/lang/IllegalStateException") (pre := [⟨0, 5, 6, 16⟩]) (suf := []) (x := ⟨0, 5, 10, 18⟩) (kf := 2) (j := 2) (lkX_RL_54 rfl dL_wake_2) hC pn_X6_wake rfl (Nat.le_of_ble_eq_true rfl) (Nat.le_of_ble_eq_true rfl) rfl (⟨_, _, rfl, rfl, rfl⟩) (cfS cf6) (Nat.le_refl _) (Nat.le_refl _) (Nat.le_refl _) (by decide) rfl (fun z hz => by rcases List.mem_singleton.mp hz with rfl; exact ⟨by decide, "java/lang/IndexOutOfBoundsException", cl_RL_16, by decide⟩) (by decide) (by decide) cl_RL_18 ca_IllegalStateException dL_wake_10 rfl (Nat.le_of_ble_eq_true rfl) rfl ?_
  refine V_bipush (v := (-103)) (by decide) dL_wake_11 ?_
  exact V_iret dL_wake_13 rfl rfl (⟨rfl, rfl⟩)
theorem w_throwAway {g : G0} {j : Nat → Nat → Int64} (d : Nat) {i i' : Nat → Nat → Int32} {x : Int32} {v : Int32} (hC : C g m_X6_throwAway d 0 0 false [.ref 0, .int x] (mk i j) (rets (some (.int v)) (mk i' j)))  : C g m_L_throwAway (d + 1) 0 0 false [.ref 0, .int x] (mk i j) (rets (some (.int v)) (mk i' j)) := by
  refine C_of (L := [some (.ref 0), some (.int x), none]) rfl ?_
  refine L_aload_n_0 dL_throwAway_0 ?_
  refine L_iload_n_1 dL_throwAway_1 ?_
  refine U_cv2 (d := d + 0) (lkR_RL_57 rfl dL_throwAway_2) (hC) ⟨pn_X6_throwAway, rfl, (Nat.le_of_ble_eq_true rfl), (Nat.le_of_ble_eq_true rfl), rfl⟩ (⟨_, _, rfl, rfl, rfl⟩) (cfS cf6) (Nat.le_of_ble_eq_true rfl) ?_
  exact V_iret dL_throwAway_5 rfl rfl (⟨rfl, rfl⟩)
theorem w_throwAway_x101 {g : G0} {j : Nat → Nat → Int64} (d : Nat) {i : Nat → Nat → Int32} {x : Int32} (hC : C g m_X6_throwAway d 1 6 false [.ref 0, .int x] (mk i j) (thrs "java/lang/IndexOutOfBoundsException" (mk i j)))  : C g m_L_throwAway (d + 1) 1 6 false [.ref 0, .int x] (mk i j) (rets (some (.int (-101))) (mk i j)) := by
  refine C_of (L := [some (.ref 0), some (.int x), none]) rfl ?_
  refine L_aload_n_0 dL_throwAway_0 ?_
  refine L_iload_n_1 dL_throwAway_1 ?_
  refine V_callC (As := [.ref 0, .int x]) (E := "java/lang/IndexOutOfBoundsException") (name := "java/lang/IndexOutOfBoundsException") (pre := []) (suf := []) (x := ⟨0, 5, 6, 16⟩) (kf := 2) (j := 2) (lkX_RL_57 rfl dL_throwAway_2) hC pn_X6_throwAway rfl (Nat.le_of_ble_eq_true rfl) (Nat.le_of_ble_eq_true rfl) rfl (⟨_, _, rfl, rfl, rfl⟩) (cfS cf6) (Nat.le_refl _) (Nat.le_refl _) (Nat.le_refl _) (by decide) rfl (fun z hz => by cases hz) (by decide) (by decide) cl_RL_16 ca_IndexOutOfBoundsException dL_throwAway_6 rfl (Nat.le_of_ble_eq_true rfl) rfl ?_
  refine V_bipush (v := (-101)) (by decide) dL_throwAway_7 ?_
  exact V_iret dL_throwAway_9 rfl rfl (⟨rfl, rfl⟩)
theorem w_editionOf {g : G0} {j : Nat → Nat → Int64} (d : Nat) {i i' : Nat → Nat → Int32} {x : Int32} {v : Int32} (hC : C g m_X6_editionOf d 0 0 false [.ref 0, .int x] (mk i j) (rets (some (.int v)) (mk i' j)))  : C g m_L_editionOf (d + 1) 0 0 false [.ref 0, .int x] (mk i j) (rets (some (.int v)) (mk i' j)) := by
  refine C_of (L := [some (.ref 0), some (.int x), none]) rfl ?_
  refine L_aload_n_0 dL_editionOf_0 ?_
  refine L_iload_n_1 dL_editionOf_1 ?_
  refine U_cv2 (d := d + 0) (lkR_RL_60 rfl dL_editionOf_2) (hC) ⟨pn_X6_editionOf, rfl, (Nat.le_of_ble_eq_true rfl), (Nat.le_of_ble_eq_true rfl), rfl⟩ (⟨_, _, rfl, rfl, rfl⟩) (cfS cf6) (Nat.le_of_ble_eq_true rfl) ?_
  exact V_iret dL_editionOf_5 rfl rfl (⟨rfl, rfl⟩)
theorem w_editionOf_x101 {g : G0} {j : Nat → Nat → Int64} (d : Nat) {i : Nat → Nat → Int32} {x : Int32} (hC : C g m_X6_editionOf d 1 6 false [.ref 0, .int x] (mk i j) (thrs "java/lang/IndexOutOfBoundsException" (mk i j)))  : C g m_L_editionOf (d + 1) 1 6 false [.ref 0, .int x] (mk i j) (rets (some (.int (-101))) (mk i j)) := by
  refine C_of (L := [some (.ref 0), some (.int x), none]) rfl ?_
  refine L_aload_n_0 dL_editionOf_0 ?_
  refine L_iload_n_1 dL_editionOf_1 ?_
  refine V_callC (As := [.ref 0, .int x]) (E := "java/lang/IndexOutOfBoundsException") (name := "java/lang/IndexOutOfBoundsException") (pre := []) (suf := []) (x := ⟨0, 5, 6, 16⟩) (kf := 2) (j := 2) (lkX_RL_60 rfl dL_editionOf_2) hC pn_X6_editionOf rfl (Nat.le_of_ble_eq_true rfl) (Nat.le_of_ble_eq_true rfl) rfl (⟨_, _, rfl, rfl, rfl⟩) (cfS cf6) (Nat.le_refl _) (Nat.le_refl _) (Nat.le_refl _) (by decide) rfl (fun z hz => by cases hz) (by decide) (by decide) cl_RL_16 ca_IndexOutOfBoundsException dL_editionOf_6 rfl (Nat.le_of_ble_eq_true rfl) rfl ?_
  refine V_bipush (v := (-101)) (by decide) dL_editionOf_7 ?_
  exact V_iret dL_editionOf_9 rfl rfl (⟨rfl, rfl⟩)
theorem w_streets {g : G0} {j : Nat → Nat → Int64} (d : Nat) {i i' : Nat → Nat → Int32} {x : Int32} {v : Int32} (hC : C g m_X6_streets d 0 0 false [.ref 0, .int x] (mk i j) (rets (some (.int v)) (mk i' j)))  : C g m_L_streets (d + 1) 0 0 false [.ref 0, .int x] (mk i j) (rets (some (.int v)) (mk i' j)) := by
  refine C_of (L := [some (.ref 0), some (.int x), none]) rfl ?_
  refine L_aload_n_0 dL_streets_0 ?_
  refine L_iload_n_1 dL_streets_1 ?_
  refine U_cv2 (d := d + 0) (lkR_RL_63 rfl dL_streets_2) (hC) ⟨pn_X6_streets, rfl, (Nat.le_of_ble_eq_true rfl), (Nat.le_of_ble_eq_true rfl), rfl⟩ (⟨_, _, rfl, rfl, rfl⟩) (cfS cf6) (Nat.le_of_ble_eq_true rfl) ?_
  exact V_iret dL_streets_5 rfl rfl (⟨rfl, rfl⟩)
theorem w_streets_x101 {g : G0} {j : Nat → Nat → Int64} (d : Nat) {i : Nat → Nat → Int32} {x : Int32} (hC : C g m_X6_streets d 1 6 false [.ref 0, .int x] (mk i j) (thrs "java/lang/IndexOutOfBoundsException" (mk i j)))  : C g m_L_streets (d + 1) 1 6 false [.ref 0, .int x] (mk i j) (rets (some (.int (-101))) (mk i j)) := by
  refine C_of (L := [some (.ref 0), some (.int x), none]) rfl ?_
  refine L_aload_n_0 dL_streets_0 ?_
  refine L_iload_n_1 dL_streets_1 ?_
  refine V_callC (As := [.ref 0, .int x]) (E := "java/lang/IndexOutOfBoundsException") (name := "java/lang/IndexOutOfBoundsException") (pre := []) (suf := []) (x := ⟨0, 5, 6, 16⟩) (kf := 2) (j := 2) (lkX_RL_63 rfl dL_streets_2) hC pn_X6_streets rfl (Nat.le_of_ble_eq_true rfl) (Nat.le_of_ble_eq_true rfl) rfl (⟨_, _, rfl, rfl, rfl⟩) (cfS cf6) (Nat.le_refl _) (Nat.le_refl _) (Nat.le_refl _) (by decide) rfl (fun z hz => by cases hz) (by decide) (by decide) cl_RL_16 ca_IndexOutOfBoundsException dL_streets_6 rfl (Nat.le_of_ble_eq_true rfl) rfl ?_
  refine V_bipush (v := (-101)) (by decide) dL_streets_7 ?_
  exact V_iret dL_streets_9 rfl rfl (⟨rfl, rfl⟩)
theorem w_has {g : G0} {j : Nat → Nat → Int64} (d : Nat) {i i' : Nat → Nat → Int32} {x y : Int32} {p : Prop} [Decidable p] (hC : C g m_X6_has d 0 0 false [.ref 0, .int x, .int y] (mk i j) (rets (some (.int (b2i p))) (mk i' j)))  : C g m_L_has (d + 1) 0 0 false [.ref 0, .int x, .int y] (mk i j) (rets (some (.int (b2i p))) (mk i' j)) := by
  refine C_of (L := [some (.ref 0), some (.int x), some (.int y), none]) rfl ?_
  refine L_aload_n_0 dL_has_0 ?_
  refine L_iload_n_1 dL_has_1 ?_
  refine L_iload_n_2 dL_has_2 ?_
  refine U_cv3 (d := d + 0) (lkR_RL_66 rfl dL_has_3) (hC) ⟨pn_X6_has, rfl, (Nat.le_of_ble_eq_true rfl), (Nat.le_of_ble_eq_true rfl), rfl⟩ (⟨_, _, rfl, rfl, rfl⟩) (cfS cf6) (Nat.le_of_ble_eq_true rfl) ?_
  refine V_ifx_eq (tgt := 13) dL_has_6 (by decide) (fun h6 => ?_) (fun h6 => ?_)
  · refine V_iconst (v := 0) (by decide) dL_has_13 ?_
    exact V_iret dL_has_14 rfl rfl (by rw [b2f (b2z.mp h6)]; exact ⟨rfl, rfl⟩)
  · refine V_iconst (v := 1) (by decide) dL_has_9 ?_
    refine V_goto (tgt := 14) dL_has_10 (by decide) ?_
    exact V_iret dL_has_14 rfl rfl (by rw [b2t (b2p h6)]; exact ⟨rfl, rfl⟩)
theorem w_has_x101 {g : G0} {j : Nat → Nat → Int64} (d : Nat) {i : Nat → Nat → Int32} {x y : Int32} (hC : C g m_X6_has d 1 6 false [.ref 0, .int x, .int y] (mk i j) (thrs "java/lang/IndexOutOfBoundsException" (mk i j)))  : C g m_L_has (d + 1) 1 6 false [.ref 0, .int x, .int y] (mk i j) (rets (some (.int (-101))) (mk i j)) := by
  refine C_of (L := [some (.ref 0), some (.int x), some (.int y), none]) rfl ?_
  refine L_aload_n_0 dL_has_0 ?_
  refine L_iload_n_1 dL_has_1 ?_
  refine L_iload_n_2 dL_has_2 ?_
  refine V_callC (As := [.ref 0, .int x, .int y]) (E := "java/lang/IndexOutOfBoundsException") (name := "java/lang/IndexOutOfBoundsException") (pre := []) (suf := []) (x := ⟨0, 14, 15, 16⟩) (kf := 3) (j := 3) (lkX_RL_66 rfl dL_has_3) hC pn_X6_has rfl (Nat.le_of_ble_eq_true rfl) (Nat.le_of_ble_eq_true rfl) rfl (⟨_, _, rfl, rfl, rfl⟩) (cfS cf6) (Nat.le_refl _) (Nat.le_refl _) (Nat.le_refl _) (by decide) rfl (fun z hz => by cases hz) (by decide) (by decide) cl_RL_16 ca_IndexOutOfBoundsException dL_has_15 rfl (Nat.le_of_ble_eq_true rfl) rfl ?_
  refine V_bipush (v := (-101)) (by decide) dL_has_16 ?_
  exact V_iret dL_has_18 rfl rfl (⟨rfl, rfl⟩)
theorem w_isRight {g : G0} {j : Nat → Nat → Int64} (d : Nat) {i i' : Nat → Nat → Int32} {x : Int32} {p : Prop} [Decidable p] (hC : C g m_X6_isRight d 0 0 false [.ref 0, .int x] (mk i j) (rets (some (.int (b2i p))) (mk i' j)))  : C g m_L_isRight (d + 1) 0 0 false [.ref 0, .int x] (mk i j) (rets (some (.int (b2i p))) (mk i' j)) := by
  refine C_of (L := [some (.ref 0), some (.int x), none]) rfl ?_
  refine L_aload_n_0 dL_isRight_0 ?_
  refine L_iload_n_1 dL_isRight_1 ?_
  refine U_cv2 (d := d + 0) (lkR_RL_70 rfl dL_isRight_2) (hC) ⟨pn_X6_isRight, rfl, (Nat.le_of_ble_eq_true rfl), (Nat.le_of_ble_eq_true rfl), rfl⟩ (⟨_, _, rfl, rfl, rfl⟩) (cfS cf6) (Nat.le_of_ble_eq_true rfl) ?_
  refine V_ifx_eq (tgt := 12) dL_isRight_5 (by decide) (fun h5 => ?_) (fun h5 => ?_)
  · refine V_iconst (v := 0) (by decide) dL_isRight_12 ?_
    exact V_iret dL_isRight_13 rfl rfl (by rw [b2f (b2z.mp h5)]; exact ⟨rfl, rfl⟩)
  · refine V_iconst (v := 1) (by decide) dL_isRight_8 ?_
    refine V_goto (tgt := 13) dL_isRight_9 (by decide) ?_
    exact V_iret dL_isRight_13 rfl rfl (by rw [b2t (b2p h5)]; exact ⟨rfl, rfl⟩)
theorem w_isRight_x101 {g : G0} {j : Nat → Nat → Int64} (d : Nat) {i : Nat → Nat → Int32} {x : Int32} (hC : C g m_X6_isRight d 1 6 false [.ref 0, .int x] (mk i j) (thrs "java/lang/IndexOutOfBoundsException" (mk i j)))  : C g m_L_isRight (d + 1) 1 6 false [.ref 0, .int x] (mk i j) (rets (some (.int (-101))) (mk i j)) := by
  refine C_of (L := [some (.ref 0), some (.int x), none]) rfl ?_
  refine L_aload_n_0 dL_isRight_0 ?_
  refine L_iload_n_1 dL_isRight_1 ?_
  refine V_callC (As := [.ref 0, .int x]) (E := "java/lang/IndexOutOfBoundsException") (name := "java/lang/IndexOutOfBoundsException") (pre := []) (suf := []) (x := ⟨0, 13, 14, 16⟩) (kf := 2) (j := 2) (lkX_RL_70 rfl dL_isRight_2) hC pn_X6_isRight rfl (Nat.le_of_ble_eq_true rfl) (Nat.le_of_ble_eq_true rfl) rfl (⟨_, _, rfl, rfl, rfl⟩) (cfS cf6) (Nat.le_refl _) (Nat.le_refl _) (Nat.le_refl _) (by decide) rfl (fun z hz => by cases hz) (by decide) (by decide) cl_RL_16 ca_IndexOutOfBoundsException dL_isRight_14 rfl (Nat.le_of_ble_eq_true rfl) rfl ?_
  refine V_bipush (v := (-101)) (by decide) dL_isRight_15 ?_
  exact V_iret dL_isRight_17 rfl rfl (⟨rfl, rfl⟩)
theorem w_attention {g : G0} {j : Nat → Nat → Int64} (d : Nat) {i i' : Nat → Nat → Int32} {x : Int32} {v : Int32} (hC : C g m_X6_attention d 0 0 false [.ref 0, .int x] (mk i j) (rets (some (.int v)) (mk i' j)))  : C g m_L_attention (d + 1) 0 0 false [.ref 0, .int x] (mk i j) (rets (some (.int v)) (mk i' j)) := by
  refine C_of (L := [some (.ref 0), some (.int x), none]) rfl ?_
  refine L_aload_n_0 dL_attention_0 ?_
  refine L_iload_n_1 dL_attention_1 ?_
  refine U_cv2 (d := d + 0) (lkR_RL_74 rfl dL_attention_2) (hC) ⟨pn_X6_attention, rfl, (Nat.le_of_ble_eq_true rfl), (Nat.le_of_ble_eq_true rfl), rfl⟩ (⟨_, _, rfl, rfl, rfl⟩) (cfS cf6) (Nat.le_of_ble_eq_true rfl) ?_
  exact V_iret dL_attention_5 rfl rfl (⟨rfl, rfl⟩)
theorem w_attention_x101 {g : G0} {j : Nat → Nat → Int64} (d : Nat) {i : Nat → Nat → Int32} {x : Int32} (hC : C g m_X6_attention d 1 6 false [.ref 0, .int x] (mk i j) (thrs "java/lang/IndexOutOfBoundsException" (mk i j)))  : C g m_L_attention (d + 1) 1 6 false [.ref 0, .int x] (mk i j) (rets (some (.int (-101))) (mk i j)) := by
  refine C_of (L := [some (.ref 0), some (.int x), none]) rfl ?_
  refine L_aload_n_0 dL_attention_0 ?_
  refine L_iload_n_1 dL_attention_1 ?_
  refine V_callC (As := [.ref 0, .int x]) (E := "java/lang/IndexOutOfBoundsException") (name := "java/lang/IndexOutOfBoundsException") (pre := []) (suf := []) (x := ⟨0, 5, 6, 16⟩) (kf := 2) (j := 2) (lkX_RL_74 rfl dL_attention_2) hC pn_X6_attention rfl (Nat.le_of_ble_eq_true rfl) (Nat.le_of_ble_eq_true rfl) rfl (⟨_, _, rfl, rfl, rfl⟩) (cfS cf6) (Nat.le_refl _) (Nat.le_refl _) (Nat.le_refl _) (by decide) rfl (fun z hz => by cases hz) (by decide) (by decide) cl_RL_16 ca_IndexOutOfBoundsException dL_attention_6 rfl (Nat.le_of_ble_eq_true rfl) rfl ?_
  refine V_bipush (v := (-101)) (by decide) dL_attention_7 ?_
  exact V_iret dL_attention_9 rfl rfl (⟨rfl, rfl⟩)
theorem w_costs {g : G0} {j : Nat → Nat → Int64} (d : Nat) {i i' : Nat → Nat → Int32} {x : Int32} {v : Int32} (hC : C g m_X6_costs d 0 0 false [.ref 0, .int x] (mk i j) (rets (some (.int v)) (mk i' j)))  : C g m_L_costs (d + 1) 0 0 false [.ref 0, .int x] (mk i j) (rets (some (.int v)) (mk i' j)) := by
  refine C_of (L := [some (.ref 0), some (.int x), none]) rfl ?_
  refine L_aload_n_0 dL_costs_0 ?_
  refine L_iload_n_1 dL_costs_1 ?_
  refine U_cv2 (d := d + 0) (lkR_RL_77 rfl dL_costs_2) (hC) ⟨pn_X6_costs, rfl, (Nat.le_of_ble_eq_true rfl), (Nat.le_of_ble_eq_true rfl), rfl⟩ (⟨_, _, rfl, rfl, rfl⟩) (cfS cf6) (Nat.le_of_ble_eq_true rfl) ?_
  exact V_iret dL_costs_5 rfl rfl (⟨rfl, rfl⟩)
theorem w_costs_x101 {g : G0} {j : Nat → Nat → Int64} (d : Nat) {i : Nat → Nat → Int32} {x : Int32} (hC : C g m_X6_costs d 1 6 false [.ref 0, .int x] (mk i j) (thrs "java/lang/IndexOutOfBoundsException" (mk i j)))  : C g m_L_costs (d + 1) 1 6 false [.ref 0, .int x] (mk i j) (rets (some (.int (-101))) (mk i j)) := by
  refine C_of (L := [some (.ref 0), some (.int x), none]) rfl ?_
  refine L_aload_n_0 dL_costs_0 ?_
  refine L_iload_n_1 dL_costs_1 ?_
  refine V_callC (As := [.ref 0, .int x]) (E := "java/lang/IndexOutOfBoundsException") (name := "java/lang/IndexOutOfBoundsException") (pre := []) (suf := []) (x := ⟨0, 5, 6, 16⟩) (kf := 2) (j := 2) (lkX_RL_77 rfl dL_costs_2) hC pn_X6_costs rfl (Nat.le_of_ble_eq_true rfl) (Nat.le_of_ble_eq_true rfl) rfl (⟨_, _, rfl, rfl, rfl⟩) (cfS cf6) (Nat.le_refl _) (Nat.le_refl _) (Nat.le_refl _) (by decide) rfl (fun z hz => by cases hz) (by decide) (by decide) cl_RL_16 ca_IndexOutOfBoundsException dL_costs_6 rfl (Nat.le_of_ble_eq_true rfl) rfl ?_
  refine V_bipush (v := (-101)) (by decide) dL_costs_7 ?_
  exact V_iret dL_costs_9 rfl rfl (⟨rfl, rfl⟩)
theorem w_answer {g : G0} {j : Nat → Nat → Int64} (d : Nat) {i i' : Nat → Nat → Int32} {x : Int32} {v : Int32} (hC : C g m_X6_answer d 0 0 false [.ref 0, .int x] (mk i j) (rets (some (.int v)) (mk i' j)))  : C g m_L_answer (d + 1) 0 0 false [.ref 0, .int x] (mk i j) (rets (some (.int v)) (mk i' j)) := by
  refine C_of (L := [some (.ref 0), some (.int x), none]) rfl ?_
  refine L_aload_n_0 dL_answer_0 ?_
  refine L_iload_n_1 dL_answer_1 ?_
  refine U_cv2 (d := d + 0) (lkR_RL_80 rfl dL_answer_2) (hC) ⟨pn_X6_answer, rfl, (Nat.le_of_ble_eq_true rfl), (Nat.le_of_ble_eq_true rfl), rfl⟩ (⟨_, _, rfl, rfl, rfl⟩) (cfS cf6) (Nat.le_of_ble_eq_true rfl) ?_
  exact V_iret dL_answer_5 rfl rfl (⟨rfl, rfl⟩)
theorem w_answer_x101 {g : G0} {j : Nat → Nat → Int64} (d : Nat) {i : Nat → Nat → Int32} {x : Int32} (hC : C g m_X6_answer d 1 6 false [.ref 0, .int x] (mk i j) (thrs "java/lang/IndexOutOfBoundsException" (mk i j)))  : C g m_L_answer (d + 1) 1 6 false [.ref 0, .int x] (mk i j) (rets (some (.int (-101))) (mk i j)) := by
  refine C_of (L := [some (.ref 0), some (.int x), none]) rfl ?_
  refine L_aload_n_0 dL_answer_0 ?_
  refine L_iload_n_1 dL_answer_1 ?_
  refine V_callC (As := [.ref 0, .int x]) (E := "java/lang/IndexOutOfBoundsException") (name := "java/lang/IndexOutOfBoundsException") (pre := []) (suf := []) (x := ⟨0, 5, 6, 16⟩) (kf := 2) (j := 2) (lkX_RL_80 rfl dL_answer_2) hC pn_X6_answer rfl (Nat.le_of_ble_eq_true rfl) (Nat.le_of_ble_eq_true rfl) rfl (⟨_, _, rfl, rfl, rfl⟩) (cfS cf6) (Nat.le_refl _) (Nat.le_refl _) (Nat.le_refl _) (by decide) rfl (fun z hz => by cases hz) (by decide) (by decide) cl_RL_16 ca_IndexOutOfBoundsException dL_answer_6 rfl (Nat.le_of_ble_eq_true rfl) rfl ?_
  refine V_bipush (v := (-101)) (by decide) dL_answer_7 ?_
  exact V_iret dL_answer_9 rfl rfl (⟨rfl, rfl⟩)
theorem w_costToCome {g : G0} {j : Nat → Nat → Int64} (d : Nat) {i i' : Nat → Nat → Int32} {x : Int32} {v : Int32} (hC : C g m_X6_costToCome d 0 0 false [.ref 0, .int x] (mk i j) (rets (some (.int v)) (mk i' j)))  : C g m_L_costToCome (d + 1) 0 0 false [.ref 0, .int x] (mk i j) (rets (some (.int v)) (mk i' j)) := by
  refine C_of (L := [some (.ref 0), some (.int x), none]) rfl ?_
  refine L_aload_n_0 dL_costToCome_0 ?_
  refine L_iload_n_1 dL_costToCome_1 ?_
  refine U_cv2 (d := d + 0) (lkR_RL_83 rfl dL_costToCome_2) (hC) ⟨pn_X6_costToCome, rfl, (Nat.le_of_ble_eq_true rfl), (Nat.le_of_ble_eq_true rfl), rfl⟩ (⟨_, _, rfl, rfl, rfl⟩) (cfS cf6) (Nat.le_of_ble_eq_true rfl) ?_
  exact V_iret dL_costToCome_5 rfl rfl (⟨rfl, rfl⟩)
theorem w_costToCome_x101 {g : G0} {j : Nat → Nat → Int64} (d : Nat) {i : Nat → Nat → Int32} {x : Int32} (hC : C g m_X6_costToCome d 1 6 false [.ref 0, .int x] (mk i j) (thrs "java/lang/IndexOutOfBoundsException" (mk i j)))  : C g m_L_costToCome (d + 1) 1 6 false [.ref 0, .int x] (mk i j) (rets (some (.int (-101))) (mk i j)) := by
  refine C_of (L := [some (.ref 0), some (.int x), none]) rfl ?_
  refine L_aload_n_0 dL_costToCome_0 ?_
  refine L_iload_n_1 dL_costToCome_1 ?_
  refine V_callC (As := [.ref 0, .int x]) (E := "java/lang/IndexOutOfBoundsException") (name := "java/lang/IndexOutOfBoundsException") (pre := []) (suf := []) (x := ⟨0, 5, 6, 16⟩) (kf := 2) (j := 2) (lkX_RL_83 rfl dL_costToCome_2) hC pn_X6_costToCome rfl (Nat.le_of_ble_eq_true rfl) (Nat.le_of_ble_eq_true rfl) rfl (⟨_, _, rfl, rfl, rfl⟩) (cfS cf6) (Nat.le_refl _) (Nat.le_refl _) (Nat.le_refl _) (by decide) rfl (fun z hz => by cases hz) (by decide) (by decide) cl_RL_16 ca_IndexOutOfBoundsException dL_costToCome_6 rfl (Nat.le_of_ble_eq_true rfl) rfl ?_
  refine V_bipush (v := (-101)) (by decide) dL_costToCome_7 ?_
  exact V_iret dL_costToCome_9 rfl rfl (⟨rfl, rfl⟩)
theorem w_wrong {g : G0} {j : Nat → Nat → Int64} (d : Nat) {i i' : Nat → Nat → Int32} {x : Int32} {v : Int32} (hC : C g m_X6_wrong d 0 0 false [.ref 0, .int x] (mk i j) (rets (some (.int v)) (mk i' j)))  : C g m_L_wrong (d + 1) 0 0 false [.ref 0, .int x] (mk i j) (rets (some (.int v)) (mk i' j)) := by
  refine C_of (L := [some (.ref 0), some (.int x), none]) rfl ?_
  refine L_aload_n_0 dL_wrong_0 ?_
  refine L_iload_n_1 dL_wrong_1 ?_
  refine U_cv2 (d := d + 0) (lkR_RL_86 rfl dL_wrong_2) (hC) ⟨pn_X6_wrong, rfl, (Nat.le_of_ble_eq_true rfl), (Nat.le_of_ble_eq_true rfl), rfl⟩ (⟨_, _, rfl, rfl, rfl⟩) (cfS cf6) (Nat.le_of_ble_eq_true rfl) ?_
  exact V_iret dL_wrong_5 rfl rfl (⟨rfl, rfl⟩)
theorem w_wrong_x101 {g : G0} {j : Nat → Nat → Int64} (d : Nat) {i : Nat → Nat → Int32} {x : Int32} (hC : C g m_X6_wrong d 1 6 false [.ref 0, .int x] (mk i j) (thrs "java/lang/IndexOutOfBoundsException" (mk i j)))  : C g m_L_wrong (d + 1) 1 6 false [.ref 0, .int x] (mk i j) (rets (some (.int (-101))) (mk i j)) := by
  refine C_of (L := [some (.ref 0), some (.int x), none]) rfl ?_
  refine L_aload_n_0 dL_wrong_0 ?_
  refine L_iload_n_1 dL_wrong_1 ?_
  refine V_callC (As := [.ref 0, .int x]) (E := "java/lang/IndexOutOfBoundsException") (name := "java/lang/IndexOutOfBoundsException") (pre := []) (suf := []) (x := ⟨0, 5, 6, 16⟩) (kf := 2) (j := 2) (lkX_RL_86 rfl dL_wrong_2) hC pn_X6_wrong rfl (Nat.le_of_ble_eq_true rfl) (Nat.le_of_ble_eq_true rfl) rfl (⟨_, _, rfl, rfl, rfl⟩) (cfS cf6) (Nat.le_refl _) (Nat.le_refl _) (Nat.le_refl _) (by decide) rfl (fun z hz => by cases hz) (by decide) (by decide) cl_RL_16 ca_IndexOutOfBoundsException dL_wrong_6 rfl (Nat.le_of_ble_eq_true rfl) rfl ?_
  refine V_bipush (v := (-101)) (by decide) dL_wrong_7 ?_
  exact V_iret dL_wrong_9 rfl rfl (⟨rfl, rfl⟩)
theorem w_undo {g : G0} {j : Nat → Nat → Int64} (d : Nat) {i i' : Nat → Nat → Int32} {v : Int32} (hC : C g m_X6_undo d 0 0 false [.ref 0] (mk i j) (rets (some (.int v)) (mk i' j)))  : C g m_L_undo (d + 1) 0 0 false [.ref 0] (mk i j) (rets (some (.int v)) (mk i' j)) := by
  refine C_of (L := [some (.ref 0), none]) rfl ?_
  refine L_aload_n_0 dL_undo_0 ?_
  refine U_cv1 (d := d + 0) (lkR_RL_89 rfl dL_undo_1) (hC) ⟨pn_X6_undo, rfl, (Nat.le_of_ble_eq_true rfl), (Nat.le_of_ble_eq_true rfl), rfl⟩ (⟨_, _, rfl, rfl, rfl⟩) (cfS cf6) (Nat.le_of_ble_eq_true rfl) ?_
  exact V_iret dL_undo_4 rfl rfl (⟨rfl, rfl⟩)
theorem w_undo_x103 {g : G0} {j : Nat → Nat → Int64} (d : Nat) {i : Nat → Nat → Int32} (hC : C g m_X6_undo d 1 6 false [.ref 0] (mk i j) (thrs "java/lang/IllegalStateException" (mk i j)))  : C g m_L_undo (d + 1) 1 6 false [.ref 0] (mk i j) (rets (some (.int (-103))) (mk i j)) := by
  refine C_of (L := [some (.ref 0), none]) rfl ?_
  refine L_aload_n_0 dL_undo_0 ?_
  refine V_callC (As := [.ref 0]) (E := "java/lang/IllegalStateException") (name := "java/lang/IllegalStateException") (pre := []) (suf := []) (x := ⟨0, 4, 5, 18⟩) (kf := 1) (j := 1) (lkX_RL_89 rfl dL_undo_1) hC pn_X6_undo rfl (Nat.le_of_ble_eq_true rfl) (Nat.le_of_ble_eq_true rfl) rfl (⟨_, _, rfl, rfl, rfl⟩) (cfS cf6) (Nat.le_refl _) (Nat.le_refl _) (Nat.le_refl _) (by decide) rfl (fun z hz => by cases hz) (by decide) (by decide) cl_RL_18 ca_IllegalStateException dL_undo_5 rfl (Nat.le_of_ble_eq_true rfl) rfl ?_
  refine V_bipush (v := (-103)) (by decide) dL_undo_6 ?_
  exact V_iret dL_undo_8 rfl rfl (⟨rfl, rfl⟩)
