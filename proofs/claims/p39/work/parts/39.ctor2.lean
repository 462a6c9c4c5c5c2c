def iL (i : Nat → Nat → Int32) (m : Nat) : Nat → Nat → Int32 := fun k f => if f = 4 ∧ 17 ≤ k ∧ k < 17 + 12 * m ∧ (k - 17) % 12 = 0 then 3 else i k f
def RL9 (R : Nat → Nat → Option Nat) (m : Nat) : Nat → Nat → Option Nat := fun k f => if 13 ≤ k ∧ k < 15 + 12 * m then (if k = 14 then (if f < m then some (15 + 12 * f) else none) else RR k f) else R k f
def RS9 (R : Nat → Nat → Option Nat) : Nat → Nat → Option Nat := fun k f => if 13 ≤ k ∧ k < 87 then RR k f else R k f
theorem RL_S {R : Nat → Nat → Option Nat} : RL9 R 6 = RS9 R := by
  funext k f
  unfold RL9 RS9
  by_cases h : 13 ≤ k ∧ k < 87
  · by_cases h2 : k = 14
    · subst h2; rfl
    · rw [if_pos h, if_neg h2, if_pos h]
  · rw [if_neg h, if_neg (by omega)]
theorem c_X4 {g : G0} (d : Nat) {i : Nat → Nat → Int32} {R : Nat → Nat → Option Nat} (hf : fr 13 i R) : C g m_X4_init (d + 4) 73 414 true [.ref 13] (wo 14 i R) (rets none (wo 87 (iL i 6) (RS9 R))) := by
  refine C_of (L := [some (.ref 13), none]) rfl ?_
  have loop : ∀ (n m : Nat), m + n = 6 → V g m_X4_init (d + 4) (72 - 12 * m) (408 - 68 * m) true (Kp g true (rets none (wo 87 (iL i 6) (RS9 R)))) 15 [some (.ref 13), some (.int (nI m))] [] (wo (15 + 12 * m) (iL i m) (RL9 R m)) := by
    intro n
    induction n with
    | zero =>
      intro m hm
      have hm0 : m = 6 := by omega
      subst hm0
      refine L_iload_n_1 dX4_init_15 ?_
      refine V_bipush (v := 6) (by decide) dX4_init_16 ?_
      refine V_icmp_ge (tgt := 40) dX4_init_18 (by decide) (fun h27 => ?_) (fun h27 => ?_)
      · exact V_vret dX4_init_40 rfl ⟨rfl, by rw [RL_S]⟩
      · exact absurd (by decide) h27
    | succ n ih =>
      intro m hm
      have hlt : m < 6 := by omega
      have hfr : fr (15 + 12 * m) (iL i m) (RL9 R m) := fun k f hk => ⟨by unfold iL; rw [if_neg (by omega)]; exact (hf k f (by omega)).1, by unfold RL9; rw [if_neg (by omega)]; exact (hf k f (by omega)).2⟩
      have hb := blk_row hlt
      have hSb : SH (15 + 12 * m) = (5, 0) := SHb (o := 0) hb (by omega)
      refine L_iload_n_1 dX4_init_15 ?_
      refine V_bipush (v := 6) (by decide) dX4_init_16 ?_
      refine V_icmp_ge (tgt := 40) dX4_init_18 (by decide) (fun h27 => ?_) (fun h27 => ?_)
      · exact absurd ((nI_leI (a := 6) (b := m) (by omega) (by omega)).mp h27) (by omega)
      · refine L_aload_n_0 dX4_init_21 ?_
        refine V_getR (r := 14) (c := 4) (f := 0) (z := 0) dX4_init_22 fl_RX4_11 ((if_pos (by show 13 < 15 + 12 * m; omega)).trans rfl) rfl (by show RL9 R m 13 0 = _; unfold RL9; rw [if_pos (by omega)]; rfl) ?_
        refine L_iload_n_1 dX4_init_25 ?_
        refine N_new (kc' := 71 - 12 * m) (ks' := 406 - 68 * m) dX4_init_26 cf5 cl_RX4_9 is_RX5n in_RX5 df_5 (by omega) hSb (fun f => (hfr _ f (by omega)).1) (fun f => (hfr _ f (by omega)).2) (by omega) (by show 406 - 68 * m + 2 ≤ 408 - 68 * m; omega) ?_
        refine V_dup rfl dX4_init_29 ?_
        refine N_call (kc' := 60 - 12 * m) (ks' := 340 - 68 * m) (lkR_RX4_17 rfl dX4_init_30) (c_X5 d hb hfr) ⟨by decide, rfl, (Nat.le_of_ble_eq_true rfl), (Nat.le_of_ble_eq_true rfl), rfl⟩ (N_rcv (z := 0) (c := 5) (by omega) hSb rfl) (cfS cf5) (by omega) (by omega) (Nat.le_of_ble_eq_true rfl) ?_
        refine V_aast (w := wo (15 + 12 * m + 12) (up2 (iL i m) (15 + 12 * m + 2) 4 3) (RB (15 + 12 * m) (RL9 R m))) (kd := 12) (c := 5) (z := 6) (zc := 0) (i := m) dX4_init_33 ((if_pos (by show 14 < 15 + 12 * m + 12; omega)).trans rfl) ((if_pos (by show 15 + 12 * m < 15 + 12 * m + 12; omega)).trans hSb) (Or.inl ⟨rfl, rfl⟩) rfl hlt (by decide) ?_
        refine V_iinc_1 (v := nI (m + 1)) dX4_init_34 (Nat.le_of_ble_eq_true rfl) rfl (nI_1 _) ?_
        refine V_goto (tgt := 15) dX4_init_37 (by decide) ?_
        have h9 := ih (m + 1) (by omega)
        rw [show 72 - 12 * (m + 1) = 60 - 12 * m by omega, show 408 - 68 * (m + 1) = 340 - 68 * m by omega, show iL i (m + 1) = up2 (iL i m) (15 + 12 * m + 2) 4 3 from by
          funext k f
          unfold up2 iL
          by_cases h5 : k = 15 + 12 * m + 2 ∧ f = 4
          · rw [if_pos (by omega), if_pos h5]
          · rw [if_neg h5]
            by_cases h6 : f = 4 ∧ 17 ≤ k ∧ k < 17 + 12 * m ∧ (k - 17) % 12 = 0
            · rw [if_pos h6, if_pos (by omega)]
            · rw [if_neg h6, if_neg (by omega)], show RL9 R (m + 1) = up2 (RB (15 + 12 * m) (RL9 R m)) 14 m (some (15 + 12 * m)) from by
          funext k f
          unfold up2 RB RL9
          by_cases h5 : k = 14 ∧ f = m
          · obtain ⟨rfl, rfl⟩ := h5
            rw [if_pos (by omega), if_pos rfl, if_pos (by omega), if_pos ⟨rfl, rfl⟩]
          · rw [if_neg h5]
            by_cases h6 : 15 + 12 * m ≤ k ∧ k < 15 + 12 * m + 12
            · rw [if_pos h6, if_pos (by omega), if_neg (by omega)]
            · rw [if_neg h6]
              by_cases h7 : 13 ≤ k ∧ k < 15 + 12 * m
              · rw [if_pos h7, if_pos (by omega)]
                by_cases h8 : k = 14
                · rw [if_pos h8, if_pos h8]
                  by_cases h10 : f < m
                  · rw [if_pos h10, if_pos (by omega)]
                  · rw [if_neg h10, if_neg (by omega)]
                · rw [if_neg h8, if_neg h8]
              · rw [if_neg h7, if_neg (by omega)], show 15 + 12 * (m + 1) = 15 + 12 * m + 12 by omega] at h9
        exact h9
  refine L_aload_n_0 dX4_init_0 ?_
  refine V_objI dX4_init_1 ob_RX4 (by omega) (by decide) ?_
  refine L_aload_n_0 dX4_init_4 ?_
  refine V_bipush (v := 6) (by decide) dX4_init_5 ?_
  refine N_anew (kc' := 72) (ks' := 408) (z := 6) dX4_init_7 (Or.inl ⟨rfl, rfl⟩) cl_RX4_9 ao_RX5 rfl (by decide) (by omega) rfl (fun f => (hf _ f (by omega)).1) (fun f => (hf _ f (by omega)).2) (by omega) (by omega) ?_
  refine N_putR (c := 4) (f := 0) (z := 0) dX4_init_10 fl_RX4_11 (by omega) rfl rfl rfl rfl fw_RX4_11 rfl ?_
  refine V_iconst (v := 0) (by decide) dX4_init_13 ?_
  refine V_istore_n_1 dX4_init_14 (Nat.le_of_ble_eq_true rfl) rfl ?_
  have h9 := loop 6 0 (by omega)
  rw [show iL i 0 = i from by funext k f; unfold iL; rw [if_neg (by omega)], show RL9 R 0 = up2 R 13 0 (some 14) from by
    funext k f
    unfold RL9 up2
    by_cases h5 : k = 13 ∧ f = 0
    · obtain ⟨rfl, rfl⟩ := h5
      rfl
    · rw [if_neg h5]
      by_cases h6 : 13 ≤ k ∧ k < 15 + 12 * 0
      · rw [if_pos h6, (hf k f (by omega)).2]
        by_cases h7 : k = 14
        · rw [if_pos h7, if_neg (by omega)]
        · rw [if_neg h7]
          have h8 : k = 13 := by omega
          subst h8
          match f with
          | 0 => exact absurd ⟨rfl, rfl⟩ h5
          | f + 1 => rfl
      · rw [if_neg h6]] at h9
  exact h9
theorem c_X2 {g : G0} (d : Nat) {i : Nat → Nat → Int32} {R : Nat → Nat → Option Nat} (hf : fr 88 i R) : C g m_X2_init (d + 1) 1 60 true [.ref 87] (wo 88 i R) (rets none (wo 89 i (up2 R 87 0 (some 88)))) := by
  refine C_of (L := [some (.ref 87)]) rfl ?_
  refine L_aload_n_0 dX2_init_0 ?_
  refine V_objI dX2_init_1 ob_RX2 (by omega) (by decide) ?_
  refine L_aload_n_0 dX2_init_4 ?_
  refine V_bipush (v := 60) (by decide) dX2_init_5 ?_
  refine N_arr (z := 60) (kd := 10) (kc' := 0) (ks' := 0) dX2_init_7 (Or.inl ⟨rfl, rfl⟩) ac_int rfl (by decide) (by omega) rfl (fun f => (hf _ f (by omega)).1) (fun f => (hf _ f (by omega)).2) (by omega) (by omega) ?_
  refine N_putR (c := 2) (f := 0) (z := 0) dX2_init_9 fl_RX2_9 (by omega) rfl rfl rfl rfl fw_RX2_9 rfl ?_
  exact V_vret dX2_init_12 rfl ⟨rfl, rfl⟩
abbrev z0 : Nat → Nat → Int32 := fun _ _ => 0
abbrev q0 : Nat → Nat → Option Nat := fun _ _ => none
def i6 : Nat → Nat → Int32 := iL (up2 z0 3 4 3) 6
def R6 : Nat → Nat → Option Nat := up2 (up2 (up2 (RS9 (up2 (RB 1 q0) 0 0 (some 1))) 0 1 (some 13)) 87 0 (some 88)) 0 2 (some 87)
theorem i6_z {k f : Nat} (h : 88 ≤ k) : i6 k f = 0 := by
  unfold i6 iL up2
  rw [if_neg (by omega), if_neg (by omega)]
theorem R5_z {k f : Nat} (h : 13 ≤ k) : up2 (RB 1 q0) 0 0 (some 1) k f = none := by
  unfold up2 RB
  rw [if_neg (by omega), if_neg (by omega)]
theorem RS_z {k f : Nat} (h : 87 ≤ k) : up2 (RS9 (up2 (RB 1 q0) 0 0 (some 1))) 0 1 (some 13) k f = none := by
  unfold up2 RS9
  rw [if_neg (by omega), if_neg (by omega)]
  exact R5_z (by omega)
theorem R6_z {k f : Nat} (h : 88 ≤ k) : R6 k f = none := by
  unfold R6
  rw [up2_nR (by omega), up2_nR (by omega)]
  exact RS_z (by omega)
theorem c_X6 {g : G0} (d : Nat) : C g m_X6_init (d + 5) 88 547 true [.ref 0] (wo 1 z0 q0) (rets none (wo 89 i6 R6)) := by
  refine C_of (L := [some (.ref 0)]) rfl ?_
  refine L_aload_n_0 dX6_init_0 ?_
  refine V_objI dX6_init_1 ob_RX6 (by omega) (by decide) ?_
  refine L_aload_n_0 dX6_init_4 ?_
  refine N_new (kc' := 87) (ks' := 545) dX6_init_5 cf5 cl_RX6_7 is_RX5n in_RX5 df_5 (by omega) rfl (fun f => rfl) (fun f => rfl) (by omega) (by show 545 + 2 ≤ 547; omega) ?_
  refine V_dup rfl dX6_init_8 ?_
  refine N_call (kc' := 76) (ks' := 479) (lkR_RX6_9 rfl dX6_init_9) (c_X5 (d + 1) (b := 1) blk_1 (fun k f h => ⟨rfl, rfl⟩)) ⟨by decide, rfl, (Nat.le_of_ble_eq_true rfl), (Nat.le_of_ble_eq_true rfl), rfl⟩ (N_rcv (z := 0) (c := 5) (by omega) rfl rfl) (cfS cf5) (by omega) (by omega) (Nat.le_of_ble_eq_true rfl) ?_
  refine N_putR (c := 6) (f := 0) (z := 0) dX6_init_12 fl_RX6_10 (by omega) rfl rfl rfl rfl fw_RX6_10 rfl ?_
  refine L_aload_n_0 dX6_init_15 ?_
  refine N_new (kc' := 75) (ks' := 476) dX6_init_16 cf4 cl_RX6_16 is_RX4n in_RX4 df_4 (by omega) rfl (fun f => by unfold up2; rw [if_neg (by omega)]) (fun f => R5_z (by omega)) (by omega) (by show 476 + 3 ≤ 479; omega) ?_
  refine V_dup rfl dX6_init_19 ?_
  refine N_call (kc' := 2) (ks' := 62) (lkR_RX6_18 rfl dX6_init_20) (c_X4 d (fun k f h => ⟨by unfold up2; rw [if_neg (by omega)], R5_z (by omega)⟩)) ⟨by decide, rfl, (Nat.le_of_ble_eq_true rfl), (Nat.le_of_ble_eq_true rfl), rfl⟩ (N_rcv (z := 0) (c := 4) (by omega) rfl rfl) (cfS cf4) (by omega) (by omega) (Nat.le_of_ble_eq_true rfl) ?_
  refine N_putR (c := 6) (f := 1) (z := 0) dX6_init_23 fl_RX6_19 (by omega) rfl rfl rfl rfl fw_RX6_19 rfl ?_
  refine L_aload_n_0 dX6_init_26 ?_
  refine N_new (kc' := 1) (ks' := 60) dX6_init_27 cf2 cl_RX6_23 is_RX2n in_RX2 df_2 (by omega) rfl (fun f => by unfold iL up2; rw [if_neg (by omega), if_neg (by omega)]) (fun f => RS_z (by omega)) (by omega) (by show 60 + 2 ≤ 62; omega) ?_
  refine V_dup rfl dX6_init_30 ?_
  refine N_call (kc' := 0) (ks' := 0) (lkR_RX6_25 rfl dX6_init_31) (c_X2 (d + 3) (fun k f h => ⟨i6_z h, RS_z (by omega)⟩)) ⟨by decide, rfl, (Nat.le_of_ble_eq_true rfl), (Nat.le_of_ble_eq_true rfl), rfl⟩ (N_rcv (z := 0) (c := 2) (by omega) rfl rfl) (cfS cf2) (by omega) (by omega) (Nat.le_of_ble_eq_true rfl) ?_
  refine N_putR (c := 6) (f := 2) (z := 0) dX6_init_34 fl_RX6_26 (by omega) rfl rfl rfl rfl fw_RX6_26 rfl ?_
  exact V_vret dX6_init_37 rfl ⟨rfl, rfl⟩
theorem R7_RR {k f : Nat} (h : k < 92) : R6 k f = RR k f := by
  unfold R6 RS9
  by_cases h0 : k = 0
  · subst h0
    match f with
    | 0 => rfl
    | 1 => rfl
    | 2 => rfl
    | f + 3 => rfl
  by_cases h1 : k < 13
  · unfold up2 RB
    rw [if_neg (by omega), if_neg (by omega), if_neg (by omega)]
    dsimp only
    rw [if_neg (by omega), if_neg (by omega), if_pos (by omega)]
  by_cases h2 : k < 87
  · unfold up2
    rw [if_neg (by omega), if_neg (by omega), if_neg (by omega)]
    dsimp only
    rw [if_pos (by omega)]
  have h3 : k = 87 ∨ k = 88 ∨ k = 89 ∨ k = 90 ∨ k = 91 := by omega
  rcases h3 with rfl | rfl | rfl | rfl | rfl
  · match f with
    | 0 => rfl
    | f + 1 => rfl
  · rfl
  · rfl
  · rfl
  · rfl
abbrev j0 : Nat → Nat → Int64 := fun _ _ => 0
theorem wo_mk {g : G0} (k : Nat) (h : k < 92) : ce g (mk i6 j0) k = ce g (wo 92 i6 R6) k := by
  refine ce_congr rfl rfl rfl ?_
  funext f
  exact (R7_RR h).symm
