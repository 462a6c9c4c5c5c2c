/-- every step of the law's loop -/
def AllSt (g : G0) (INV : (Nat → Nat → Int32) → Nat → Prop) : Prop := (∀ i t, INV i t → INV i (t + 1)) ∧
  (∀ x : Int32, St g INV m_L_add m_X7_add [.int x]) ∧
  (∀ x : Int32, St g INV m_L_crossOut m_X7_crossOut [.int x]) ∧
  (St g INV m_L_publish m_X7_publish []) ∧
  (∀ x : Int32, St g INV m_L_renumber m_X7_renumber [.int x]) ∧
  (∀ x : Int32, St g INV m_L_setKeep m_X7_setKeep [.int x]) ∧
  (StP g INV m_X6_edition m_X7_edition) ∧
  (StP g INV m_X6_draft m_X7_draft) ∧
  (StP g INV m_X6_published m_X7_published) ∧
  (∀ x : Int32, St g INV m_L_where m_X7_where [.int x]) ∧
  (StP g INV m_X6_pending m_X7_pending) ∧
  (StP g INV m_X6_kept m_X7_kept) ∧
  (∀ x : Int32, St g INV m_L_from m_X7_from [.int x]) ∧
  (∀ x : Int32, St g INV m_L_cost m_X7_cost [.int x]) ∧
  (∀ x y : Int32, St g INV m_L_compare m_X7_compare [.int x, .int y]) ∧
  (∀ x : Int32, St g INV m_L_refresh m_X7_refresh [.int x]) ∧
  (StP g INV m_X6_refreshAll m_X7_refreshAll) ∧
  (∀ x : Int32, St g INV m_L_sleep m_X7_sleep [.int x]) ∧
  (∀ x : Int32, St g INV m_L_wake m_X7_wake [.int x]) ∧
  (∀ x : Int32, St g INV m_L_throwAway m_X7_throwAway [.int x]) ∧
  (∀ x : Int32, St g INV m_L_editionOf m_X7_editionOf [.int x]) ∧
  (∀ x : Int32, St g INV m_L_streets m_X7_streets [.int x]) ∧
  (∀ x y : Int32, StB g INV m_L_has m_X7_has [.int x, .int y]) ∧
  (∀ x : Int32, StB g INV m_L_isRight m_X7_isRight [.int x]) ∧
  (∀ x : Int32, St g INV m_L_attention m_X7_attention [.int x]) ∧
  (∀ x : Int32, St g INV m_L_costs m_X7_costs [.int x]) ∧
  (∀ x : Int32, St g INV m_L_answer m_X7_answer [.int x]) ∧
  (∀ x : Int32, St g INV m_L_costToCome m_X7_costToCome [.int x]) ∧
  (∀ x : Int32, St g INV m_L_wrong m_X7_wrong [.int x]) ∧
  (StD g INV m_X6_savedShare m_X7_savedShare) ∧
  (∀ x : Int32, St g INV m_L_append m_X7_append [.int x]) ∧
  (StP g INV m_X6_clearText m_X7_clearText) ∧
  (StP g INV m_X6_firstError m_X7_firstError) ∧
  (St g INV m_L_run m_X7_run []) ∧
  (St g INV m_L_undo m_X7_undo []) ∧
  (StP g INV m_X6_savedStates m_X7_savedStates) ∧
  (StL g INV m_X6_digest m_X7_digest)
theorem law_start {g : G0} {nm : String} {hh : List (Nat × Nat × Nat × Nat)} {INV : (Nat → Nat → Int32) → Nat → Prop} {K : K0} (hg : gL g ≤ 1536) (hall : AllSt g INV) (h0 : INV i7 0)
    (hfin : ∀ (kc ks m : Nat) (i : Nat → Nat → Int32) (j : Nat → Nat → Int64), V g (mL nm hh) 11 kc ks false K 1776 [some (.ref 999), some (.ref 0), some (.ref 89), some (.ref 93), some (.int (nI (3 * m))), none, none, none, none] [] (mk i j)) :
    V g (mL nm hh) 11 651999 7140107 true K 0 [some (.ref 999), none, none, none, none, none, none, none, none] [] (wo 0 z0 q0) := by
  obtain ⟨hskip, s0, s1, s2, s3, s4, s5, s6, s7, s8, s9, s10, s11, s12, s13, s14, s15, s16, s17, s18, s19, s20, s21, s22, s23, s24, s25, s26, s27, s28, s29, s30, s31, s32, s33, s34, s35⟩ := hall
  refine N_new (kc' := 651998) (ks' := 7140104) dL_law_0 cf6 cl_RL_8 is_RX6n in_RX6 df_6 (by omega) rfl (fun f => rfl) (fun f => rfl) (by omega) (by show 7140104 + 3 ≤ 7140107; omega) ?_
  refine V_dup rfl dL_law_3 ?_
  refine N_call (kc' := 651910) (ks' := 7139557) (lkR_RL_95 rfl dL_law_4) (c_X6 5) ⟨by decide, rfl, (Nat.le_of_ble_eq_true rfl), (Nat.le_of_ble_eq_true rfl), rfl⟩ (N_rcv (z := 0) (c := 6) (by omega) rfl rfl) (cfS cf6) (by omega) (by omega) (Nat.le_of_ble_eq_true rfl) ?_
  refine V_astore_n_1 dL_law_7 (Nat.le_of_ble_eq_true rfl) rfl ?_
  refine N_new (kc' := 651909) (ks' := 7139547) dL_law_8 cf7 cl_RL_96 is_RX7n in_RX7 df_7 (by omega) rfl (fun f => i6_z (by omega)) (fun f => R6_z (by omega)) (by omega) (by show 7139547 + 10 ≤ 7139557; omega) ?_
  refine V_dup rfl dL_law_11 ?_
  refine N_call (kc' := 651906) (ks' := 7139151) (lkR_RL_98 rfl dL_law_12) (c_X7 9) ⟨by decide, rfl, (Nat.le_of_ble_eq_true rfl), (Nat.le_of_ble_eq_true rfl), rfl⟩ (N_rcv (z := 0) (c := 7) (by omega) rfl rfl) (cfS cf7) (by omega) (by omega) (Nat.le_of_ble_eq_true rfl) ?_
  refine V_astore_n_2 dL_law_15 (Nat.le_of_ble_eq_true rfl) rfl ?_
  refine V_iconst (v := 1) (by decide) dL_law_16 ?_
  refine N_arr (z := 1) (kd := 11) (kc' := 651905) (ks' := 7139150) dL_law_17 (Or.inr ⟨rfl, rfl⟩) ac_long rfl (by decide) (by omega) rfl (fun f => by unfold i7; rw [up2_ne (by omega)]; exact i6_z (by omega)) (fun f => by unfold R7; rw [up2_nR (by omega), up2_nR (by omega), up2_nR (by omega)]; exact R6_z (by omega)) (by omega) (by omega) ?_
  refine V_astore_n_3 dL_law_19 (Nat.le_of_ble_eq_true rfl) rfl ?_
  refine V_world (w' := mk i7 j0) rfl (fun k hk => wo_mk k hk) ?_
  refine V_shut ?_
  refine V_iconst (v := 0) (by decide) dL_law_20 ?_
  refine V_istore_4 dL_law_21 (Nat.le_of_ble_eq_true rfl) rfl ?_
  refine V_less (kc' := 512) (ks' := 6 * 512) (by omega) (by omega) ?_
  exact law_loop hg hskip s0 s1 s2 s3 s4 s5 s6 s7 s8 s9 s10 s11 s12 s13 s14 s15 s16 s17 s18 s19 s20 s21 s22 s23 s24 s25 s26 s27 s28 s29 s30 s31 s32 s33 s34 s35 hfin 512 0 i7 j0 (by omega) h0
