def mun (i : Nat → Nat → Int32) (n : Nat) : Nat → Nat → Int32 := unW (up2 (th i 0) 89 3 (nI n)) n 48
theorem k_X7_undo__1 {g : G0} {j : Nat → Nat → Int64} (d : Nat) {i : Nat → Nat → Int32} (hn : i 89 3 = 0)  : C g m_X7_undo (d + 1) 0 0 false [.ref 89] (mk i j) (rets (some (.int 0)) (mk (th (th i 0) 1) j)) := by
  refine C_of (L := [some (.ref 89), none]) rfl ?_
  refine L_aload_n_0 dX7_undo_0 ?_
  refine V_iconst (v := 0) (by decide) dX7_undo_1 ?_
  refine U_putI dX7_undo_2 fl_RX7_19 rfl rfl rfl ?_
  refine L_aload_n_0 dX7_undo_5 ?_
  refine U_getI dX7_undo_6 fl_RX7_27 rfl rfl ?_
  refine V_ifx_ne (tgt := 18) dX7_undo_9 (by decide) (fun h9 => ?_) (fun h9 => ?_)
  · exact absurd ((up2_nf (by omega)).trans hn) h9
  · refine L_aload_n_0 dX7_undo_12 ?_
    refine V_iconst (v := 1) (by decide) dX7_undo_13 ?_
    refine U_cv2 (d := d + 0) (lkR_RX7_30 rfl dX7_undo_14) (k_X7_fails _) ⟨pn_X7_fails, rfl, (Nat.le_of_ble_eq_true rfl), (Nat.le_of_ble_eq_true rfl), rfl⟩ (⟨_, _, rfl, rfl, rfl⟩) (cfS cf7) (Nat.le_of_ble_eq_true rfl) ?_
    exact V_iret dX7_undo_17 rfl rfl (⟨rfl, rfl⟩)
theorem k_X7_undo {g : G0} {j : Nat → Nat → Int64} (d : Nat) {i : Nat → Nat → Int32} {q : Nat} (hn : i 89 3 = nI (q + 1)) (h6 : q < 6)  : C g m_X7_undo (d + 1) 0 0 false [.ref 89] (mk i j) (rets (some (.int (mun i q 89 3))) (mk (mun i q) j)) := by
  refine C_of (L := [some (.ref 89), none]) rfl ?_
  have loop : ∀ (n m : Nat), m + n = 48 → V g m_X7_undo (d + 1) 0 0 false (Kp g false (rets (some (.int (mun i q 89 3))) (mk (mun i q) j))) 30 [some (.ref 89), some (.int (nI m))] [] (mk (unW (up2 (th i 0) 89 3 (nI q)) q m) j) := by
    intro n
    induction n with
    | zero =>
      intro m hm
      have hm0 : m = 48 := by omega
      subst hm0
      refine L_iload_n_1 dX7_undo_30 ?_
      refine V_bipush (v := 48) (by decide) dX7_undo_31 ?_
      refine V_icmp_ge (tgt := 62) dX7_undo_33 (by decide) (fun h33 => ?_) (fun h33 => ?_)
      · refine L_aload_n_0 dX7_undo_62 ?_
        refine U_getI dX7_undo_63 fl_RX7_27 rfl rfl ?_
        exact V_iret dX7_undo_66 rfl rfl (⟨rfl, rfl⟩)
      · exact absurd (by decide) h33
    | succ n ih =>
      intro m hm
      have hlt : m < 48 := by omega
      refine L_iload_n_1 dX7_undo_30 ?_
      refine V_bipush (v := 48) (by decide) dX7_undo_31 ?_
      refine V_icmp_ge (tgt := 62) dX7_undo_33 (by decide) (fun h33 => ?_) (fun h33 => ?_)
      · exact absurd ((nI_leI (a := 48) (b := m) (by omega) (by omega)).mp h33) (by omega)
      · refine L_aload_n_0 dX7_undo_36 ?_
        refine U_getR (r := 90) dX7_undo_37 fl_RX7_7 rfl rfl rfl ?_
        refine L_iload_n_1 dX7_undo_40 ?_
        refine L_aload_n_0 dX7_undo_41 ?_
        refine U_getR (r := 91) dX7_undo_42 fl_RX7_13 rfl rfl rfl ?_
        refine L_aload_n_0 dX7_undo_45 ?_
        refine U_getI dX7_undo_46 fl_RX7_27 rfl rfl ?_
        refine V_eqv (y := nI q) (by show unW _ q m 89 3 = nI q; unfold unW; rw [if_neg (by omega)]; exact up2_eq) ?_
        refine V_bipush (v := 48) (by decide) dX7_undo_49 ?_
        refine V_imul dX7_undo_51 ?_
        refine L_iload_n_1 dX7_undo_52 ?_
        refine V_iadd dX7_undo_53 ?_
        refine U_iald (n := (48 * q + m)) dX7_undo_54 rfl (by rw [show nI q * 48 = nI (q * 48) from pk_mul q 48, nI_add, Nat.mul_comm]) (by omega) (by decide) ?_
        refine V_eqv (y := (up2 (th i 0) 89 3 (nI q)) 91 (48 * q + m)) (by unfold unW; rw [if_neg (by omega)]) ?_
        refine U_iast (n := m) dX7_undo_55 rfl (rfl) (by omega) (by decide) ?_
        refine V_iinc_1 (v := nI (m + 1)) dX7_undo_56 (Nat.le_of_ble_eq_true rfl) rfl (nI_1 _) ?_
        refine V_goto (tgt := 30) dX7_undo_59 (by decide) ?_
        refine V_eqI (i' := unW (up2 (th i 0) 89 3 (nI q)) q (m + 1)) (by
          refine up2_ext fun a9 f9 => ?_
          unfold up2 unW
          (repeat' split) <;> first | rfl | (exact ieq (by omega) (by omega)) | (exfalso; omega) | (simp_all; done)) ?_
        exact ih (m + 1) (by omega)
  refine L_aload_n_0 dX7_undo_0 ?_
  refine V_iconst (v := 0) (by decide) dX7_undo_1 ?_
  refine U_putI dX7_undo_2 fl_RX7_19 rfl rfl rfl ?_
  refine L_aload_n_0 dX7_undo_5 ?_
  refine U_getI dX7_undo_6 fl_RX7_27 rfl rfl ?_
  refine V_ifx_ne (tgt := 18) dX7_undo_9 (by decide) (fun h9 => ?_) (fun h9 => ?_)
  · refine L_aload_n_0 dX7_undo_18 ?_
    refine V_dup rfl dX7_undo_19 ?_
    refine U_getI dX7_undo_20 fl_RX7_27 rfl rfl ?_
    refine V_iconst (v := 1) (by decide) dX7_undo_23 ?_
    refine V_isub dX7_undo_24 ?_
    refine V_eqv (y := nI q) (by rw [show up2 i 89 0 0 89 3 = nI (q + 1) from (up2_nf (by omega)).trans hn]; exact nI_pred q) ?_
    refine U_putI dX7_undo_25 fl_RX7_27 rfl rfl rfl ?_
    refine V_iconst (v := 0) (by decide) dX7_undo_28 ?_
    refine V_istore_n_1 dX7_undo_29 (Nat.le_of_ble_eq_true rfl) rfl ?_
    refine V_eqI (i' := unW (up2 (th i 0) 89 3 (nI q)) q 0) (by
      refine up2_ext fun a9 f9 => ?_
      unfold unW
      rw [if_neg (by omega)]) ?_
    exact loop 48 0 (by omega)
  · exact absurd (((up2_nf (by omega)).trans hn).symm.trans h9) (nI_ne0 (by omega) (by omega))
def mraC (i : Nat → Nat → Int32) (m : Nat) : Bool := decide (i 90 (24 + 6 * m + 3) = 0 ∧ i 90 (24 + 6 * m + 4) = 1)
def mraF (c : Nat) (i : Nat → Nat → Int32) : Nat → Nat → Nat → Int32
  | 0 => i
  | m + 1 => if mraC (mraF c i m) m = true then mrf (mraF c i m) m c else mraF c i m
def mraN (c : Nat) (i : Nat → Nat → Int32) : Nat → Int32
  | 0 => 0
  | m + 1 => if mraC (mraF c i m) m = true then mraN c i m + 1 else mraN c i m
theorem mraF_oth {c : Nat} {i : Nat → Nat → Int32} : ∀ {m a p : Nat}, (a ≠ 90 ∨ p < 5 ∨ (6 ≤ p ∧ p < 24)) → mraF c i m a p = i a p
  | 0, a, p, h => rfl
  | m + 1, a, p, h => by
    unfold mraF
    split
    · rw [mrf_oth (by omega)]; exact mraF_oth h
    · exact mraF_oth h
theorem k_X7_refreshAll {g : G0} {j : Nat → Nat → Int64} (d : Nat) {i : Nat → Nat → Int32} {c : Nat} (hc : i 90 4 = nI c) (hb : c ≤ 6) {n : Nat} (hn : i 89 3 = nI n) (h6 : n ≤ 6)  : C g m_X7_refreshAll (d + 6) 0 0 false [.ref 89] (mk i j) (rets (some (.int (mraN c (msv (th i 0) n) 4))) (mk (mraF c (msv (th i 0) n) 4) j)) := by
  refine C_of (L := [some (.ref 89), none, none, none]) rfl ?_
  have loop : ∀ (r m : Nat) (c3 : Option Value), m + r = 4 → c1 [some (Value.ref 89), some (.int (mraN c (msv (th i 0) n) m)), some (.int (nI m)), c3] 3 = true → V g m_X7_refreshAll (d + 6) 0 0 false (Kp g false (rets (some (.int (mraN c (msv (th i 0) n) 4))) (mk (mraF c (msv (th i 0) n) 4) j))) 13 [some (.ref 89), some (.int (mraN c (msv (th i 0) n) m)), some (.int (nI m)), c3] [] (mk (mraF c (msv (th i 0) n) m) j) := by
    intro r
    induction r with
    | zero =>
      intro m c3 hm hc3
      have hm0 : m = 4 := by omega
      subst hm0
      refine L_iload_n_2 dX7_refreshAll_13 ?_
      refine V_iconst (v := 4) (by decide) dX7_refreshAll_14 ?_
      refine V_icmp_ge (tgt := 61) dX7_refreshAll_15 (by decide) (fun h15 => ?_) (fun h15 => ?_)
      · refine L_iload_n_1 dX7_refreshAll_61 ?_
        exact V_iret dX7_refreshAll_62 rfl rfl (⟨rfl, rfl⟩)
      · exact absurd (by decide) h15
    | succ r ih =>
      intro m c3 hm hc3
      have hlt : m < 4 := by omega
      refine L_iload_n_2 dX7_refreshAll_13 ?_
      refine V_iconst (v := 4) (by decide) dX7_refreshAll_14 ?_
      refine V_icmp_ge (tgt := 61) dX7_refreshAll_15 (by decide) (fun h15 => ?_) (fun h15 => ?_)
      · exact absurd ((nI_leI (a := 4) (b := m) (by omega) (by omega)).mp h15) (by omega)
      · refine L_aload_n_0 dX7_refreshAll_18 ?_
        refine L_iload_n_2 dX7_refreshAll_19 ?_
        refine V_iconst (v := 3) (by decide) dX7_refreshAll_20 ?_
        refine U_cv3 (d := d + 5) (lkR_RX7_34 rfl dX7_refreshAll_21) (k_X7_of _ (f := m) (w := 3) rfl rfl (by omega) (by decide)) ⟨pn_X7_of, rfl, (Nat.le_of_ble_eq_true rfl), (Nat.le_of_ble_eq_true rfl), rfl⟩ (⟨_, _, rfl, rfl, rfl⟩) (cfS cf7) (Nat.le_of_ble_eq_true rfl) ?_
        refine V_ifx_ne (tgt := 55) dX7_refreshAll_24 (by decide) (fun h24 => ?_) (fun h24 => ?_)
        · refine V_iinc_2 (v := nI (m + 1)) dX7_refreshAll_55 (Nat.le_of_ble_eq_true rfl) rfl (nI_1 _) ?_
          refine V_goto (tgt := 13) dX7_refreshAll_58 (by decide) ?_
          have hC : ¬ mraC (mraF c (msv (th i 0) n) m) m = true := fun z => h24 (of_decide_eq_true z).1
          have h9 := ih (m + 1) _ (by omega) hc3
          rw [show mraF c (msv (th i 0) n) (m + 1) = _ from if_neg hC, show mraN c (msv (th i 0) n) (m + 1) = _ from if_neg hC] at h9
          exact h9
        · refine L_aload_n_0 dX7_refreshAll_27 ?_
          refine L_iload_n_2 dX7_refreshAll_28 ?_
          refine V_iconst (v := 4) (by decide) dX7_refreshAll_29 ?_
          refine U_cv3 (d := d + 5) (lkR_RX7_34 rfl dX7_refreshAll_30) (k_X7_of _ (f := m) (w := 4) rfl rfl (by omega) (by decide)) ⟨pn_X7_of, rfl, (Nat.le_of_ble_eq_true rfl), (Nat.le_of_ble_eq_true rfl), rfl⟩ (⟨_, _, rfl, rfl, rfl⟩) (cfS cf7) (Nat.le_of_ble_eq_true rfl) ?_
          refine V_iconst (v := 1) (by decide) dX7_refreshAll_33 ?_
          refine V_icmp_ne (tgt := 55) dX7_refreshAll_34 (by decide) (fun h34 => ?_) (fun h34 => ?_)
          · refine V_iinc_2 (v := nI (m + 1)) dX7_refreshAll_55 (Nat.le_of_ble_eq_true rfl) rfl (nI_1 _) ?_
            refine V_goto (tgt := 13) dX7_refreshAll_58 (by decide) ?_
            have hC : ¬ mraC (mraF c (msv (th i 0) n) m) m = true := fun z => h34 (of_decide_eq_true z).2
            have h9 := ih (m + 1) _ (by omega) hc3
            rw [show mraF c (msv (th i 0) n) (m + 1) = _ from if_neg hC, show mraN c (msv (th i 0) n) (m + 1) = _ from if_neg hC] at h9
            exact h9
          · refine L_aload_n_0 dX7_refreshAll_37 ?_
            refine L_iload_n_2 dX7_refreshAll_38 ?_
            refine U_cv2 (d := d + 5) (lkR_RX7_124 rfl dX7_refreshAll_39) (k_X7_refreshes _ (f := m) rfl hlt ((mraF_oth (by omega)).trans (msc hc)) hb) ⟨pn_X7_refreshes, rfl, (Nat.le_of_ble_eq_true rfl), (Nat.le_of_ble_eq_true rfl), rfl⟩ (⟨_, _, rfl, rfl, rfl⟩) (cfS cf7) (Nat.le_of_ble_eq_true rfl) ?_
            refine V_istore_n_3 dX7_refreshAll_42 (Nat.le_of_ble_eq_true rfl) hc3 ?_
            refine L_iload_n_1 dX7_refreshAll_43 ?_
            refine L_iload_n_3 dX7_refreshAll_44 ?_
            refine V_ifx_ge (tgt := 52) dX7_refreshAll_45 (by decide) (fun h45 => ?_) (fun h45 => ?_)
            · refine V_iconst (v := 1) (by decide) dX7_refreshAll_52 ?_
              refine V_iadd dX7_refreshAll_53 ?_
              refine V_istore_n_1 dX7_refreshAll_54 (Nat.le_of_ble_eq_true rfl) rfl ?_
              refine V_iinc_2 (v := nI (m + 1)) dX7_refreshAll_55 (Nat.le_of_ble_eq_true rfl) rfl (nI_1 _) ?_
              refine V_goto (tgt := 13) dX7_refreshAll_58 (by decide) ?_
              have hC : mraC (mraF c (msv (th i 0) n) m) m = true := decide_eq_true ⟨h24, h34⟩
              have h9 := ih (m + 1) (some (.int (man (mraF c (msv (th i 0) n) m) m c))) (by omega) rfl
              rw [show mraF c (msv (th i 0) n) (m + 1) = _ from if_pos hC, show mraN c (msv (th i 0) n) (m + 1) = _ from if_pos hC] at h9
              exact h9
            · exact absurd h45 (by rcases @man_in (mraF c (msv (th i 0) n) m) m c with e | e | e | e <;> rw [e] <;> decide)
  refine L_aload_n_0 dX7_refreshAll_0 ?_
  refine V_iconst (v := 0) (by decide) dX7_refreshAll_1 ?_
  refine U_putI dX7_refreshAll_2 fl_RX7_19 rfl rfl rfl ?_
  refine L_aload_n_0 dX7_refreshAll_5 ?_
  refine U_cV1 (d := d + 5) (lkR_RX7_93 rfl dX7_refreshAll_6) (k_X7_save _ (thn hn) h6) ⟨pn_X7_save, rfl, (Nat.le_of_ble_eq_true rfl), (Nat.le_of_ble_eq_true rfl), rfl⟩ (⟨_, _, rfl, rfl, rfl⟩) (cfS cf7) (Nat.le_of_ble_eq_true rfl) ?_
  refine V_iconst (v := 0) (by decide) dX7_refreshAll_9 ?_
  refine V_istore_n_1 dX7_refreshAll_10 (Nat.le_of_ble_eq_true rfl) rfl ?_
  refine V_iconst (v := 0) (by decide) dX7_refreshAll_11 ?_
  refine V_istore_n_2 dX7_refreshAll_12 (Nat.le_of_ble_eq_true rfl) rfl ?_
  exact loop 4 0 _ (by omega) rfl
def hj (j : Nat → Nat → Int64) (h : Int64) : Nat → Nat → Int64 := up2 j 89 9 h
theorem hj_9 {j : Nat → Nat → Int64} {h : Int64} : hj j h 89 9 = h := by unfold hj up2; exact if_pos ⟨rfl, rfl⟩
theorem hj_u {j : Nat → Nat → Int64} {h x : Int64} : up2 (hj j h) 89 9 x = hj j x := funext fun a => funext fun b => by
  unfold hj up2
  by_cases e : a = 89 ∧ b = 9
  · rw [if_pos e, if_pos e]
  · rw [if_neg e, if_neg e, if_neg e]
theorem V_eqJ {g : G0} {M : M0} {d kc ks : Nat} {op : Bool} {K : K0} {pc : Nat} {L : List (Option Value)} {S : List Value} {i : Nat → Nat → Int32} {j j' : Nat → Nat → Int64} (h : j = j') (kk : V g M d kc ks op K pc L S (mk i j')) : V g M d kc ks op K pc L S (mk i j) := by rw [h]; exact kk
theorem k_X7_mix {g : G0} {j : Nat → Nat → Int64} (d : Nat) {i : Nat → Nat → Int32} {h v : Int64}  : C g m_X7_mix (d + 0) 0 0 false [.ref 89, .long v] (mk i (hj j h)) (rets (none) (mk i (hj j (31 * h + v)))) := by
  refine C_of (L := [some (.ref 89), some (.long v), none]) rfl ?_
  refine L_aload_n_0 dX7_mix_0 ?_
  refine V_ldc2 kl_RX7_180 dX7_mix_1 ?_
  refine L_aload_n_0 dX7_mix_4 ?_
  refine U_getJ dX7_mix_5 fl_RX7_182 rfl rfl ?_
  rw [hj_9]
  refine V_lmul dX7_mix_8 ?_
  refine L_lload_n_1 dX7_mix_9 ?_
  refine V_ladd dX7_mix_10 ?_
  refine U_putJ dX7_mix_11 fl_RX7_182 rfl rfl rfl ?_
  refine V_eqJ hj_u ?_
  exact V_vret dX7_mix_14 rfl (⟨rfl, rfl⟩)
def mwf (i : Nat → Nat → Int32) (c : Nat) (h : Int64) (f : Nat) : Int64 := mx (mx (mx (mx (mx (mx (mx h (mtE i f)) (mtS i f)) (mtA i f)) (i 90 (24 + 6 * f + 5))) (man i f c)) (mca i f c)) (mtW i f)
theorem k_X7_mixFollower {g : G0} {j : Nat → Nat → Int64} (d : Nat) {i : Nat → Nat → Int32} {x : Int32} {f : Nat} (hx : x = nI f) (hf : f < 4) {c : Nat} (hc : i 90 4 = nI c) (hb : c ≤ 6) {h : Int64}  : C g m_X7_mixFollower (d + 5) 0 0 false [.ref 89, .int x] (mk i (hj j h)) (rets (none) (mk i (hj j (mwf i c h f)))) := by
  refine C_of (L := [some (.ref 89), some (.int x)]) rfl ?_
  refine L_aload_n_0 dX7_mixFollower_0 ?_
  refine L_aload_n_0 dX7_mixFollower_1 ?_
  refine L_iload_n_1 dX7_mixFollower_2 ?_
  refine U_cv2 (d := d + 4) (lkR_RX7_133 rfl dX7_mixFollower_3) (k_X7_tellsEdition _ hx hf) ⟨pn_X7_tellsEdition, rfl, (Nat.le_of_ble_eq_true rfl), (Nat.le_of_ble_eq_true rfl), rfl⟩ (⟨_, _, rfl, rfl, rfl⟩) (cfS cf7) (Nat.le_of_ble_eq_true rfl) ?_
  refine V_i2l dX7_mixFollower_6 ?_
  refine U_cV2 (d := d + 4) (lkR_RX7_186 rfl dX7_mixFollower_7) (k_X7_mix _) ⟨pn_X7_mix, rfl, (Nat.le_of_ble_eq_true rfl), (Nat.le_of_ble_eq_true rfl), rfl⟩ (⟨_, _, rfl, rfl, rfl⟩) (cfS cf7) (Nat.le_of_ble_eq_true rfl) ?_
  refine L_aload_n_0 dX7_mixFollower_10 ?_
  refine L_aload_n_0 dX7_mixFollower_11 ?_
  refine L_iload_n_1 dX7_mixFollower_12 ?_
  refine U_cv2 (d := d + 4) (lkR_RX7_130 rfl dX7_mixFollower_13) (k_X7_tellsStreets _ hx hf) ⟨pn_X7_tellsStreets, rfl, (Nat.le_of_ble_eq_true rfl), (Nat.le_of_ble_eq_true rfl), rfl⟩ (⟨_, _, rfl, rfl, rfl⟩) (cfS cf7) (Nat.le_of_ble_eq_true rfl) ?_
  refine V_i2l dX7_mixFollower_16 ?_
  refine U_cV2 (d := d + 4) (lkR_RX7_186 rfl dX7_mixFollower_17) (k_X7_mix _) ⟨pn_X7_mix, rfl, (Nat.le_of_ble_eq_true rfl), (Nat.le_of_ble_eq_true rfl), rfl⟩ (⟨_, _, rfl, rfl, rfl⟩) (cfS cf7) (Nat.le_of_ble_eq_true rfl) ?_
  refine L_aload_n_0 dX7_mixFollower_20 ?_
  refine L_aload_n_0 dX7_mixFollower_21 ?_
  refine L_iload_n_1 dX7_mixFollower_22 ?_
  refine U_cv2 (d := d + 4) (lkR_RX7_140 rfl dX7_mixFollower_23) (k_X7_tellsAttention _ hx hf) ⟨pn_X7_tellsAttention, rfl, (Nat.le_of_ble_eq_true rfl), (Nat.le_of_ble_eq_true rfl), rfl⟩ (⟨_, _, rfl, rfl, rfl⟩) (cfS cf7) (Nat.le_of_ble_eq_true rfl) ?_
  refine V_i2l dX7_mixFollower_26 ?_
  refine U_cV2 (d := d + 4) (lkR_RX7_186 rfl dX7_mixFollower_27) (k_X7_mix _) ⟨pn_X7_mix, rfl, (Nat.le_of_ble_eq_true rfl), (Nat.le_of_ble_eq_true rfl), rfl⟩ (⟨_, _, rfl, rfl, rfl⟩) (cfS cf7) (Nat.le_of_ble_eq_true rfl) ?_
  refine L_aload_n_0 dX7_mixFollower_30 ?_
  refine L_aload_n_0 dX7_mixFollower_31 ?_
  refine L_iload_n_1 dX7_mixFollower_32 ?_
  refine V_iconst (v := 5) (by decide) dX7_mixFollower_33 ?_
  refine U_cv3 (d := d + 4) (lkR_RX7_34 rfl dX7_mixFollower_34) (k_X7_of _ (f := f) (w := 5) hx rfl (hf) (by decide)) ⟨pn_X7_of, rfl, (Nat.le_of_ble_eq_true rfl), (Nat.le_of_ble_eq_true rfl), rfl⟩ (⟨_, _, rfl, rfl, rfl⟩) (cfS cf7) (Nat.le_of_ble_eq_true rfl) ?_
  refine V_i2l dX7_mixFollower_37 ?_
  refine U_cV2 (d := d + 4) (lkR_RX7_186 rfl dX7_mixFollower_38) (k_X7_mix _) ⟨pn_X7_mix, rfl, (Nat.le_of_ble_eq_true rfl), (Nat.le_of_ble_eq_true rfl), rfl⟩ (⟨_, _, rfl, rfl, rfl⟩) (cfS cf7) (Nat.le_of_ble_eq_true rfl) ?_
  refine L_aload_n_0 dX7_mixFollower_41 ?_
  refine L_aload_n_0 dX7_mixFollower_42 ?_
  refine L_iload_n_1 dX7_mixFollower_43 ?_
  refine U_cv2 (d := d + 4) (lkR_RX7_64 rfl dX7_mixFollower_44) (k_X7_answerTo _ hx hf hc hb) ⟨pn_X7_answerTo, rfl, (Nat.le_of_ble_eq_true rfl), (Nat.le_of_ble_eq_true rfl), rfl⟩ (⟨_, _, rfl, rfl, rfl⟩) (cfS cf7) (Nat.le_of_ble_eq_true rfl) ?_
  refine V_i2l dX7_mixFollower_47 ?_
  refine U_cV2 (d := d + 4) (lkR_RX7_186 rfl dX7_mixFollower_48) (k_X7_mix _) ⟨pn_X7_mix, rfl, (Nat.le_of_ble_eq_true rfl), (Nat.le_of_ble_eq_true rfl), rfl⟩ (⟨_, _, rfl, rfl, rfl⟩) (cfS cf7) (Nat.le_of_ble_eq_true rfl) ?_
  refine L_aload_n_0 dX7_mixFollower_51 ?_
  refine L_aload_n_0 dX7_mixFollower_52 ?_
  refine L_iload_n_1 dX7_mixFollower_53 ?_
  refine U_cv2 (d := d + 4) (lkR_RX7_67 rfl dX7_mixFollower_54) (k_X7_costOfAnswer _ hx hf hc hb) ⟨pn_X7_costOfAnswer, rfl, (Nat.le_of_ble_eq_true rfl), (Nat.le_of_ble_eq_true rfl), rfl⟩ (⟨_, _, rfl, rfl, rfl⟩) (cfS cf7) (Nat.le_of_ble_eq_true rfl) ?_
  refine V_i2l dX7_mixFollower_57 ?_
  refine U_cV2 (d := d + 4) (lkR_RX7_186 rfl dX7_mixFollower_58) (k_X7_mix _) ⟨pn_X7_mix, rfl, (Nat.le_of_ble_eq_true rfl), (Nat.le_of_ble_eq_true rfl), rfl⟩ (⟨_, _, rfl, rfl, rfl⟩) (cfS cf7) (Nat.le_of_ble_eq_true rfl) ?_
  refine L_aload_n_0 dX7_mixFollower_61 ?_
  refine L_aload_n_0 dX7_mixFollower_62 ?_
  refine L_iload_n_1 dX7_mixFollower_63 ?_
  refine U_cv2 (d := d + 4) (lkR_RX7_143 rfl dX7_mixFollower_64) (k_X7_tellsWrong _ hx hf) ⟨pn_X7_tellsWrong, rfl, (Nat.le_of_ble_eq_true rfl), (Nat.le_of_ble_eq_true rfl), rfl⟩ (⟨_, _, rfl, rfl, rfl⟩) (cfS cf7) (Nat.le_of_ble_eq_true rfl) ?_
  refine V_i2l dX7_mixFollower_67 ?_
  refine U_cV2 (d := d + 4) (lkR_RX7_186 rfl dX7_mixFollower_68) (k_X7_mix _) ⟨pn_X7_mix, rfl, (Nat.le_of_ble_eq_true rfl), (Nat.le_of_ble_eq_true rfl), rfl⟩ (⟨_, _, rfl, rfl, rfl⟩) (cfS cf7) (Nat.le_of_ble_eq_true rfl) ?_
  exact V_vret dX7_mixFollower_71 rfl (⟨rfl, rfl⟩)
def mwd (i : Nat → Nat → Int32) (h : Int64) : Nat → Int64
  | 0 => h
  | m + 1 => mx (mx (mwd i h m) (i 90 (6 + 3 * m + 0))) (mco i m)
def mh0 (i : Nat → Nat → Int32) : Int64 := mx (mx (mx (mx (mx 4691 (i 90 2)) (one (i 90 0))) (one (i 90 1))) (one (i 90 0 ^^^ i 90 1))) (i 90 4)
def mfo (i : Nat → Nat → Int32) (c : Nat) : Nat → Int64
  | 0 => mwd i (mh0 i) c
  | m + 1 => mwf i c (mfo i c m) m
def mws (i : Nat → Nat → Int32) (s : Nat) (h : Int64) : Nat → Int64
  | 0 => mx h (mtP i (nI s))
  | m + 1 => mx (mws i s h m) (b2i (mbt (i 90 (24 + 6 * m + 1)) (nI s) = 1))
def mst (i : Nat → Nat → Int32) (c : Nat) : Nat → Int64
  | 0 => mfo i c 4
  | m + 1 => mws i m (mst i c m) 4
theorem k_X7_digest {g : G0} {j : Nat → Nat → Int64} (d : Nat) {i : Nat → Nat → Int32} {c : Nat} (hc : i 90 4 = nI c) (hb : c ≤ 6)  : C g m_X7_digest (d + 6) 0 0 false [.ref 89] (mk i j) (rets (some (.long (mst (th i 0) c 30))) (mk (th i 0) (hj j (mst (th i 0) c 30)))) := by
  refine C_of (L := [some (.ref 89), none, none]) rfl ?_
  have loop4 : ∀ (r m s : Nat) (h : Int64), m + r = 4 → (∀ (c2 : Option Value), c1 [some (Value.ref 89), some (.int (nI s)), c2] 2 = true → V g m_X7_digest (d + 6) 0 0 false (Kp g false (rets (some (.long (mst (th i 0) c 30))) (mk (th i 0) (hj j (mst (th i 0) c 30))))) 130 [some (.ref 89), some (.int (nI (s + 1))), c2] [] (mk (th i 0) (hj j (mws (th i 0) s h 4)))) → V g m_X7_digest (d + 6) 0 0 false (Kp g false (rets (some (.long (mst (th i 0) c 30))) (mk (th i 0) (hj j (mst (th i 0) c 30))))) 148 [some (.ref 89), some (.int (nI s)), some (.int (nI m))] [] (mk (th i 0) (hj j (mws (th i 0) s h m))) := by
    intro r
    induction r with
    | zero =>
      intro m s h hm kk
      have hm0 : m = 4 := by omega
      subst hm0
      refine L_iload_n_2 dX7_digest_148 ?_
      refine V_iconst (v := 4) (by decide) dX7_digest_149 ?_
      refine V_icmp_ge (tgt := 177) dX7_digest_150 (by decide) (fun h150 => ?_) (fun h150 => ?_)
      · refine V_iinc_1 (v := nI (s + 1)) dX7_digest_177 (Nat.le_of_ble_eq_true rfl) rfl (nI_1 _) ?_
        refine V_goto (tgt := 130) dX7_digest_180 (by decide) ?_
        exact kk _ rfl
      · exact absurd (by decide) h150
    | succ r ih =>
      intro m s h hm kk
      refine L_iload_n_2 dX7_digest_148 ?_
      refine V_iconst (v := 4) (by decide) dX7_digest_149 ?_
      refine V_icmp_ge (tgt := 177) dX7_digest_150 (by decide) (fun h150 => ?_) (fun h150 => ?_)
      · exact absurd ((nI_leI (a := 4) (b := m) (by omega) (by omega)).mp h150) (by omega)
      · refine L_aload_n_0 dX7_digest_153 ?_
        refine L_aload_n_0 dX7_digest_154 ?_
        refine L_iload_n_2 dX7_digest_155 ?_
        refine L_iload_n_1 dX7_digest_156 ?_
        refine U_cv3 (d := d + 5) (lkR_RX7_136 rfl dX7_digest_157) (k_X7_hasStreet _ (f := m) rfl (by omega)) ⟨pn_X7_hasStreet, rfl, (Nat.le_of_ble_eq_true rfl), (Nat.le_of_ble_eq_true rfl), rfl⟩ (⟨_, _, rfl, rfl, rfl⟩) (cfS cf7) (Nat.le_of_ble_eq_true rfl) ?_
        refine V_ifx_eq (tgt := 167) dX7_digest_160 (by decide) (fun h160 => ?_) (fun h160 => ?_)
        · refine V_lconst (v := 0) (by decide) dX7_digest_167 ?_
          refine U_cV2 (d := d + 5) (lkR_RX7_186 rfl dX7_digest_168) (k_X7_mix _) ⟨pn_X7_mix, rfl, (Nat.le_of_ble_eq_true rfl), (Nat.le_of_ble_eq_true rfl), rfl⟩ (⟨_, _, rfl, rfl, rfl⟩) (cfS cf7) (Nat.le_of_ble_eq_true rfl) ?_
          refine V_iinc_2 (v := nI (m + 1)) dX7_digest_171 (Nat.le_of_ble_eq_true rfl) rfl (nI_1 _) ?_
          refine V_goto (tgt := 148) dX7_digest_174 (by decide) ?_
          have h9 := ih (m + 1) s h (by omega) kk
          rw [show mws (th i 0) s h (m + 1) = mx (mws (th i 0) s h m) (b2i (mbt (th i 0 90 (24 + 6 * m + 1)) (nI s) = 1)) from rfl, b2f (b2z.mp h160)] at h9
          exact h9
        · refine V_lconst (v := 1) (by decide) dX7_digest_163 ?_
          refine V_goto (tgt := 168) dX7_digest_164 (by decide) ?_
          refine U_cV2 (d := d + 5) (lkR_RX7_186 rfl dX7_digest_168) (k_X7_mix _) ⟨pn_X7_mix, rfl, (Nat.le_of_ble_eq_true rfl), (Nat.le_of_ble_eq_true rfl), rfl⟩ (⟨_, _, rfl, rfl, rfl⟩) (cfS cf7) (Nat.le_of_ble_eq_true rfl) ?_
          refine V_iinc_2 (v := nI (m + 1)) dX7_digest_171 (Nat.le_of_ble_eq_true rfl) rfl (nI_1 _) ?_
          refine V_goto (tgt := 148) dX7_digest_174 (by decide) ?_
          have h9 := ih (m + 1) s h (by omega) kk
          rw [show mws (th i 0) s h (m + 1) = mx (mws (th i 0) s h m) (b2i (mbt (th i 0 90 (24 + 6 * m + 1)) (nI s) = 1)) from rfl, b2t (b2p h160)] at h9
          exact h9
  have loop3 : ∀ (r m : Nat) (c2 : Option Value), m + r = 30 → c1 [some (Value.ref 89), some (.int (nI m)), c2] 2 = true → V g m_X7_digest (d + 6) 0 0 false (Kp g false (rets (some (.long (mst (th i 0) c 30))) (mk (th i 0) (hj j (mst (th i 0) c 30))))) 130 [some (.ref 89), some (.int (nI m)), c2] [] (mk (th i 0) (hj j (mst (th i 0) c m))) := by
    intro r
    induction r with
    | zero =>
      intro m c2 hm hc2
      have hm0 : m = 30 := by omega
      subst hm0
      refine L_iload_n_1 dX7_digest_130 ?_
      refine V_bipush (v := 30) (by decide) dX7_digest_131 ?_
      refine V_icmp_ge (tgt := 183) dX7_digest_133 (by decide) (fun h133 => ?_) (fun h133 => ?_)
      · refine L_aload_n_0 dX7_digest_183 ?_
        refine U_getJ dX7_digest_184 fl_RX7_182 rfl rfl ?_
        rw [hj_9]
        exact V_lret dX7_digest_187 rfl (⟨rfl, rfl⟩)
      · exact absurd (by decide) h133
    | succ r ih =>
      intro m c2 hm hc2
      refine L_iload_n_1 dX7_digest_130 ?_
      refine V_bipush (v := 30) (by decide) dX7_digest_131 ?_
      refine V_icmp_ge (tgt := 183) dX7_digest_133 (by decide) (fun h133 => ?_) (fun h133 => ?_)
      · exact absurd ((nI_leI (a := 30) (b := m) (by omega) (by omega)).mp h133) (by omega)
      · refine L_aload_n_0 dX7_digest_136 ?_
        refine L_aload_n_0 dX7_digest_137 ?_
        refine L_iload_n_1 dX7_digest_138 ?_
        refine U_cv2 (d := d + 5) (lkR_RX7_112 rfl dX7_digest_139) (k_X7_tellsWhere _) ⟨pn_X7_tellsWhere, rfl, (Nat.le_of_ble_eq_true rfl), (Nat.le_of_ble_eq_true rfl), rfl⟩ (⟨_, _, rfl, rfl, rfl⟩) (cfS cf7) (Nat.le_of_ble_eq_true rfl) ?_
        refine V_i2l dX7_digest_142 ?_
        refine U_cV2 (d := d + 5) (lkR_RX7_186 rfl dX7_digest_143) (k_X7_mix _) ⟨pn_X7_mix, rfl, (Nat.le_of_ble_eq_true rfl), (Nat.le_of_ble_eq_true rfl), rfl⟩ (⟨_, _, rfl, rfl, rfl⟩) (cfS cf7) (Nat.le_of_ble_eq_true rfl) ?_
        refine V_iconst (v := 0) (by decide) dX7_digest_146 ?_
        refine V_istore_n_2 dX7_digest_147 (Nat.le_of_ble_eq_true rfl) hc2 ?_
        exact loop4 4 0 m (mst (th i 0) c m) (by omega) (fun q9 h9 => ih (m + 1) q9 (by omega) h9)
  have loop2 : ∀ (r m : Nat), m + r = 4 → V g m_X7_digest (d + 6) 0 0 false (Kp g false (rets (some (.long (mst (th i 0) c 30))) (mk (th i 0) (hj j (mst (th i 0) c 30))))) 112 [some (.ref 89), some (.int (nI m)), none] [] (mk (th i 0) (hj j (mfo (th i 0) c m))) := by
    intro r
    induction r with
    | zero =>
      intro m hm
      have hm0 : m = 4 := by omega
      subst hm0
      refine L_iload_n_1 dX7_digest_112 ?_
      refine V_iconst (v := 4) (by decide) dX7_digest_113 ?_
      refine V_icmp_ge (tgt := 128) dX7_digest_114 (by decide) (fun h114 => ?_) (fun h114 => ?_)
      · refine V_iconst (v := 0) (by decide) dX7_digest_128 ?_
        refine V_istore_n_1 dX7_digest_129 (Nat.le_of_ble_eq_true rfl) rfl ?_
        exact loop3 30 0 _ (by omega) rfl
      · exact absurd (by decide) h114
    | succ r ih =>
      intro m hm
      refine L_iload_n_1 dX7_digest_112 ?_
      refine V_iconst (v := 4) (by decide) dX7_digest_113 ?_
      refine V_icmp_ge (tgt := 128) dX7_digest_114 (by decide) (fun h114 => ?_) (fun h114 => ?_)
      · exact absurd ((nI_leI (a := 4) (b := m) (by omega) (by omega)).mp h114) (by omega)
      · refine L_aload_n_0 dX7_digest_117 ?_
        refine L_iload_n_1 dX7_digest_118 ?_
        refine U_cV2 (d := d + 5) (lkR_RX7_192 rfl dX7_digest_119) (k_X7_mixFollower _ (f := m) rfl (by omega) (thc hc) hb) ⟨pn_X7_mixFollower, rfl, (Nat.le_of_ble_eq_true rfl), (Nat.le_of_ble_eq_true rfl), rfl⟩ (⟨_, _, rfl, rfl, rfl⟩) (cfS cf7) (Nat.le_of_ble_eq_true rfl) ?_
        refine V_iinc_1 (v := nI (m + 1)) dX7_digest_122 (Nat.le_of_ble_eq_true rfl) rfl (nI_1 _) ?_
        refine V_goto (tgt := 112) dX7_digest_125 (by decide) ?_
        exact ih (m + 1) (by omega)
  have loop1 : ∀ (r m : Nat), m + r = c → V g m_X7_digest (d + 6) 0 0 false (Kp g false (rets (some (.long (mst (th i 0) c 30))) (mk (th i 0) (hj j (mst (th i 0) c 30))))) 73 [some (.ref 89), some (.int (nI m)), none] [] (mk (th i 0) (hj j (mwd (th i 0) (mh0 (th i 0)) m))) := by
    intro r
    induction r with
    | zero =>
      intro m hm
      have hm0 : m = c := by omega
      subst hm0
      refine L_iload_n_1 dX7_digest_73 ?_
      refine L_aload_n_0 dX7_digest_74 ?_
      refine U_getR (r := 90) dX7_digest_75 fl_RX7_7 rfl rfl rfl ?_
      refine V_iconst (v := 4) (by decide) dX7_digest_78 ?_
      refine U_iald (n := 4) dX7_digest_79 rfl (rfl) (by decide) (by decide) ?_
      refine V_eqv (y := nI m) (thc hc) ?_
      refine V_icmp_ge (tgt := 110) dX7_digest_80 (by decide) (fun h80 => ?_) (fun h80 => ?_)
      · refine V_iconst (v := 0) (by decide) dX7_digest_110 ?_
        refine V_istore_n_1 dX7_digest_111 (Nat.le_of_ble_eq_true rfl) rfl ?_
        exact loop2 4 0 (by omega)
      · exact absurd (Int32.le_refl _) h80
    | succ r ih =>
      intro m hm
      refine L_iload_n_1 dX7_digest_73 ?_
      refine L_aload_n_0 dX7_digest_74 ?_
      refine U_getR (r := 90) dX7_digest_75 fl_RX7_7 rfl rfl rfl ?_
      refine V_iconst (v := 4) (by decide) dX7_digest_78 ?_
      refine U_iald (n := 4) dX7_digest_79 rfl (rfl) (by decide) (by decide) ?_
      refine V_eqv (y := nI c) (thc hc) ?_
      refine V_icmp_ge (tgt := 110) dX7_digest_80 (by decide) (fun h80 => ?_) (fun h80 => ?_)
      · exact absurd ((nI_leI (a := c) (b := m) (by omega) (by omega)).mp h80) (by omega)
      · refine L_aload_n_0 dX7_digest_83 ?_
        refine L_aload_n_0 dX7_digest_84 ?_
        refine L_iload_n_1 dX7_digest_85 ?_
        refine V_iconst (v := 0) (by decide) dX7_digest_86 ?_
        refine U_cv3 (d := d + 5) (lkR_RX7_42 rfl dX7_digest_87) (k_X7_ofDifference _ (f := m) (w := 0) rfl rfl ((by omega)) (by decide)) ⟨pn_X7_ofDifference, rfl, (Nat.le_of_ble_eq_true rfl), (Nat.le_of_ble_eq_true rfl), rfl⟩ (⟨_, _, rfl, rfl, rfl⟩) (cfS cf7) (Nat.le_of_ble_eq_true rfl) ?_
        refine V_i2l dX7_digest_90 ?_
        refine U_cV2 (d := d + 5) (lkR_RX7_186 rfl dX7_digest_91) (k_X7_mix _) ⟨pn_X7_mix, rfl, (Nat.le_of_ble_eq_true rfl), (Nat.le_of_ble_eq_true rfl), rfl⟩ (⟨_, _, rfl, rfl, rfl⟩) (cfS cf7) (Nat.le_of_ble_eq_true rfl) ?_
        refine L_aload_n_0 dX7_digest_94 ?_
        refine L_aload_n_0 dX7_digest_95 ?_
        refine L_iload_n_1 dX7_digest_96 ?_
        refine U_cv2 (d := d + 5) (lkR_RX7_48 rfl dX7_digest_97) (k_X7_costOf _ (f := m) rfl (by omega)) ⟨pn_X7_costOf, rfl, (Nat.le_of_ble_eq_true rfl), (Nat.le_of_ble_eq_true rfl), rfl⟩ (⟨_, _, rfl, rfl, rfl⟩) (cfS cf7) (Nat.le_of_ble_eq_true rfl) ?_
        refine V_i2l dX7_digest_100 ?_
        refine U_cV2 (d := d + 5) (lkR_RX7_186 rfl dX7_digest_101) (k_X7_mix _) ⟨pn_X7_mix, rfl, (Nat.le_of_ble_eq_true rfl), (Nat.le_of_ble_eq_true rfl), rfl⟩ (⟨_, _, rfl, rfl, rfl⟩) (cfS cf7) (Nat.le_of_ble_eq_true rfl) ?_
        refine V_iinc_1 (v := nI (m + 1)) dX7_digest_104 (Nat.le_of_ble_eq_true rfl) rfl (nI_1 _) ?_
        refine V_goto (tgt := 73) dX7_digest_107 (by decide) ?_
        exact ih (m + 1) (by omega)
  refine L_aload_n_0 dX7_digest_0 ?_
  refine V_iconst (v := 0) (by decide) dX7_digest_1 ?_
  refine U_putI dX7_digest_2 fl_RX7_19 rfl rfl rfl ?_
  refine L_aload_n_0 dX7_digest_5 ?_
  refine V_ldc2 kl_RX7_190 dX7_digest_6 ?_
  refine U_putJ dX7_digest_9 fl_RX7_182 rfl rfl rfl ?_
  refine L_aload_n_0 dX7_digest_12 ?_
  refine L_aload_n_0 dX7_digest_13 ?_
  refine U_getR (r := 90) dX7_digest_14 fl_RX7_7 rfl rfl rfl ?_
  refine V_iconst (v := 2) (by decide) dX7_digest_17 ?_
  refine U_iald (n := 2) dX7_digest_18 rfl (rfl) (by decide) (by decide) ?_
  refine V_i2l dX7_digest_19 ?_
  refine U_cV2 (d := d + 5) (lkR_RX7_186 rfl dX7_digest_20) (k_X7_mix _) ⟨pn_X7_mix, rfl, (Nat.le_of_ble_eq_true rfl), (Nat.le_of_ble_eq_true rfl), rfl⟩ (⟨_, _, rfl, rfl, rfl⟩) (cfS cf7) (Nat.le_of_ble_eq_true rfl) ?_
  refine L_aload_n_0 dX7_digest_23 ?_
  refine L_aload_n_0 dX7_digest_24 ?_
  refine U_getR (r := 90) dX7_digest_25 fl_RX7_7 rfl rfl rfl ?_
  refine V_iconst (v := 0) (by decide) dX7_digest_28 ?_
  refine U_iald (n := 0) dX7_digest_29 rfl (rfl) (by decide) (by decide) ?_
  refine U_cv1 (d := d + 5) (lkR_RX7_45 rfl dX7_digest_30) (k_X7_ones _) ⟨pn_X7_ones, rfl, (Nat.le_of_ble_eq_true rfl), (Nat.le_of_ble_eq_true rfl), rfl⟩ (trivial) cfn (Nat.le_of_ble_eq_true rfl) ?_
  refine V_i2l dX7_digest_33 ?_
  refine U_cV2 (d := d + 5) (lkR_RX7_186 rfl dX7_digest_34) (k_X7_mix _) ⟨pn_X7_mix, rfl, (Nat.le_of_ble_eq_true rfl), (Nat.le_of_ble_eq_true rfl), rfl⟩ (⟨_, _, rfl, rfl, rfl⟩) (cfS cf7) (Nat.le_of_ble_eq_true rfl) ?_
  refine L_aload_n_0 dX7_digest_37 ?_
  refine L_aload_n_0 dX7_digest_38 ?_
  refine U_getR (r := 90) dX7_digest_39 fl_RX7_7 rfl rfl rfl ?_
  refine V_iconst (v := 1) (by decide) dX7_digest_42 ?_
  refine U_iald (n := 1) dX7_digest_43 rfl (rfl) (by decide) (by decide) ?_
  refine U_cv1 (d := d + 5) (lkR_RX7_45 rfl dX7_digest_44) (k_X7_ones _) ⟨pn_X7_ones, rfl, (Nat.le_of_ble_eq_true rfl), (Nat.le_of_ble_eq_true rfl), rfl⟩ (trivial) cfn (Nat.le_of_ble_eq_true rfl) ?_
  refine V_i2l dX7_digest_47 ?_
  refine U_cV2 (d := d + 5) (lkR_RX7_186 rfl dX7_digest_48) (k_X7_mix _) ⟨pn_X7_mix, rfl, (Nat.le_of_ble_eq_true rfl), (Nat.le_of_ble_eq_true rfl), rfl⟩ (⟨_, _, rfl, rfl, rfl⟩) (cfS cf7) (Nat.le_of_ble_eq_true rfl) ?_
  refine L_aload_n_0 dX7_digest_51 ?_
  refine L_aload_n_0 dX7_digest_52 ?_
  refine U_cv1 (d := d + 5) (lkR_RX7_115 rfl dX7_digest_53) (k_X7_unlike _) ⟨pn_X7_unlike, rfl, (Nat.le_of_ble_eq_true rfl), (Nat.le_of_ble_eq_true rfl), rfl⟩ (⟨_, _, rfl, rfl, rfl⟩) (cfS cf7) (Nat.le_of_ble_eq_true rfl) ?_
  refine V_i2l dX7_digest_56 ?_
  refine U_cV2 (d := d + 5) (lkR_RX7_186 rfl dX7_digest_57) (k_X7_mix _) ⟨pn_X7_mix, rfl, (Nat.le_of_ble_eq_true rfl), (Nat.le_of_ble_eq_true rfl), rfl⟩ (⟨_, _, rfl, rfl, rfl⟩) (cfS cf7) (Nat.le_of_ble_eq_true rfl) ?_
  refine L_aload_n_0 dX7_digest_60 ?_
  refine L_aload_n_0 dX7_digest_61 ?_
  refine U_getR (r := 90) dX7_digest_62 fl_RX7_7 rfl rfl rfl ?_
  refine V_iconst (v := 4) (by decide) dX7_digest_65 ?_
  refine U_iald (n := 4) dX7_digest_66 rfl (rfl) (by decide) (by decide) ?_
  refine V_i2l dX7_digest_67 ?_
  refine U_cV2 (d := d + 5) (lkR_RX7_186 rfl dX7_digest_68) (k_X7_mix _) ⟨pn_X7_mix, rfl, (Nat.le_of_ble_eq_true rfl), (Nat.le_of_ble_eq_true rfl), rfl⟩ (⟨_, _, rfl, rfl, rfl⟩) (cfS cf7) (Nat.le_of_ble_eq_true rfl) ?_
  refine V_iconst (v := 0) (by decide) dX7_digest_71 ?_
  refine V_istore_n_1 dX7_digest_72 (Nat.le_of_ble_eq_true rfl) rfl ?_
  exact loop1 c 0 (by omega)
