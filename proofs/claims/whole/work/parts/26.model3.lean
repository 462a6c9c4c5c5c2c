def map1 (i : Nat → Nat → Int32) (f k : Nat) : Nat → Nat → Int32 := up2 i 90 (24 + 6 * f + 1) (i 90 (24 + 6 * f + 1) &&& (i 90 (6 + 3 * k + 1) ^^^ (-1)) ||| i 90 (6 + 3 * k + 2))
def mapA (f : Nat) : Nat → Nat → (Nat → Nat → Int32) → Nat → Nat → Int32
  | 0, _, i => i
  | r + 1, k, i => mapA f r (k + 1) (map1 i f k)
theorem k_X7_applyAll {g : G0} {j : Nat → Nat → Int64} (d : Nat) {i : Nat → Nat → Int32} {x : Int32} {f : Nat} (hx : x = nI f) (hf : f < 4) {c : Nat} (hc : i 90 4 = nI c) (hb : c ≤ 6) {k : Nat} (hk : mlf i f c 0 = some k)  : C g m_X7_applyAll (d + 2) 0 0 false [.ref 89, .int x] (mk i j) (rets (none) (mk (mapA f (c - k) k i) j)) := by
  refine C_of (L := [some (.ref 89), some (.int x), none, none]) rfl ?_
  have loop : ∀ (r m : Nat) (q : Nat → Nat → Int32) (c3 : Option Value), m + r = c → q 90 4 = nI c → c1 [some (Value.ref 89), some (.int x), some (.int (nI m)), c3] 3 = true → V g m_X7_applyAll (d + 2) 0 0 false (Kp g false (rets none (mk (mapA f r m q) j))) 6 [some (.ref 89), some (.int x), some (.int (nI m)), c3] [] (mk q j) := by
    intro r
    induction r with
    | zero =>
      intro m q c3 hm hq hc3
      have hm0 : m = c := by omega
      subst hm0
      refine L_iload_n_2 dX7_applyAll_6 ?_
      refine L_aload_n_0 dX7_applyAll_7 ?_
      refine U_getR (r := 90) dX7_applyAll_8 fl_RX7_7 rfl rfl rfl ?_
      refine V_iconst (v := 4) (by decide) dX7_applyAll_11 ?_
      refine U_iald (n := 4) dX7_applyAll_12 rfl (rfl) (by decide) (by decide) ?_
      refine V_eqv (y := nI m) hq ?_
      refine V_icmp_ge (tgt := 52) dX7_applyAll_13 (by decide) (fun h13 => ?_) (fun h13 => ?_)
      · exact V_vret dX7_applyAll_52 rfl (⟨rfl, rfl⟩)
      · exact absurd (Int32.le_refl _) h13
    | succ r ih =>
      intro m q c3 hm hq hc3
      refine L_iload_n_2 dX7_applyAll_6 ?_
      refine L_aload_n_0 dX7_applyAll_7 ?_
      refine U_getR (r := 90) dX7_applyAll_8 fl_RX7_7 rfl rfl rfl ?_
      refine V_iconst (v := 4) (by decide) dX7_applyAll_11 ?_
      refine U_iald (n := 4) dX7_applyAll_12 rfl (rfl) (by decide) (by decide) ?_
      refine V_eqv (y := nI c) hq ?_
      refine V_icmp_ge (tgt := 52) dX7_applyAll_13 (by decide) (fun h13 => ?_) (fun h13 => ?_)
      · exact absurd ((nI_leI (a := c) (b := m) (by omega) (by omega)).mp h13) (by omega)
      · refine L_aload_n_0 dX7_applyAll_16 ?_
        refine L_iload_n_1 dX7_applyAll_17 ?_
        refine V_iconst (v := 1) (by decide) dX7_applyAll_18 ?_
        refine U_cv3 (d := d + 1) (lkR_RX7_34 rfl dX7_applyAll_19) (k_X7_of _ (f := f) (w := 1) hx rfl (hf) (by decide)) ⟨pn_X7_of, rfl, (Nat.le_of_ble_eq_true rfl), (Nat.le_of_ble_eq_true rfl), rfl⟩ (⟨_, _, rfl, rfl, rfl⟩) (cfS cf7) (Nat.le_of_ble_eq_true rfl) ?_
        refine L_aload_n_0 dX7_applyAll_22 ?_
        refine L_iload_n_2 dX7_applyAll_23 ?_
        refine V_iconst (v := 1) (by decide) dX7_applyAll_24 ?_
        refine U_cv3 (d := d + 1) (lkR_RX7_42 rfl dX7_applyAll_25) (k_X7_ofDifference _ (f := m) (w := 1) rfl rfl ((by omega)) (by decide)) ⟨pn_X7_ofDifference, rfl, (Nat.le_of_ble_eq_true rfl), (Nat.le_of_ble_eq_true rfl), rfl⟩ (⟨_, _, rfl, rfl, rfl⟩) (cfS cf7) (Nat.le_of_ble_eq_true rfl) ?_
        refine V_iconst (v := (-1)) (by decide) dX7_applyAll_28 ?_
        refine V_ixor dX7_applyAll_29 ?_
        refine V_iand dX7_applyAll_30 ?_
        refine L_aload_n_0 dX7_applyAll_31 ?_
        refine L_iload_n_2 dX7_applyAll_32 ?_
        refine V_iconst (v := 2) (by decide) dX7_applyAll_33 ?_
        refine U_cv3 (d := d + 1) (lkR_RX7_42 rfl dX7_applyAll_34) (k_X7_ofDifference _ (f := m) (w := 2) rfl rfl ((by omega)) (by decide)) ⟨pn_X7_ofDifference, rfl, (Nat.le_of_ble_eq_true rfl), (Nat.le_of_ble_eq_true rfl), rfl⟩ (⟨_, _, rfl, rfl, rfl⟩) (cfS cf7) (Nat.le_of_ble_eq_true rfl) ?_
        refine V_ior dX7_applyAll_37 ?_
        refine V_istore_n_3 dX7_applyAll_38 (Nat.le_of_ble_eq_true rfl) hc3 ?_
        refine L_aload_n_0 dX7_applyAll_39 ?_
        refine L_iload_n_1 dX7_applyAll_40 ?_
        refine V_iconst (v := 1) (by decide) dX7_applyAll_41 ?_
        refine L_iload_n_3 dX7_applyAll_42 ?_
        refine U_cV4 (d := d + 1) (lkR_RX7_38 rfl dX7_applyAll_43) (k_X7_setOf _ (f := f) (w := 1) hx rfl (hf) (by decide)) ⟨pn_X7_setOf, rfl, (Nat.le_of_ble_eq_true rfl), (Nat.le_of_ble_eq_true rfl), rfl⟩ (⟨_, _, rfl, rfl, rfl⟩) (cfS cf7) (Nat.le_of_ble_eq_true rfl) ?_
        refine V_iinc_2 (v := nI (m + 1)) dX7_applyAll_46 (Nat.le_of_ble_eq_true rfl) rfl (nI_1 _) ?_
        refine V_goto (tgt := 6) dX7_applyAll_49 (by decide) ?_
        exact ih (m + 1) (map1 q f m) _ (by omega) (by unfold map1; rw [up2_nf (by omega)]; exact hq) rfl
  have hkc := (mlf_lt c 0 hk).2
  refine L_aload_n_0 dX7_applyAll_0 ?_
  refine L_iload_n_1 dX7_applyAll_1 ?_
  refine U_cv2 (d := d + 1) (lkR_RX7_54 rfl dX7_applyAll_2) (k_X7_leadsFrom _ hx hf hc hb) ⟨pn_X7_leadsFrom, rfl, (Nat.le_of_ble_eq_true rfl), (Nat.le_of_ble_eq_true rfl), rfl⟩ (⟨_, _, rfl, rfl, rfl⟩) (cfS cf7) (Nat.le_of_ble_eq_true rfl) ?_
  refine V_eqv (y := nI k) (by rw [hk]; rfl) ?_
  refine V_istore_n_2 dX7_applyAll_5 (Nat.le_of_ble_eq_true rfl) rfl ?_
  exact loop (c - k) k i _ (by omega) hc rfl
theorem mlf_up {i : Nat → Nat → Int32} {f p : Nat} {v : Int32} (hp : 24 + 6 * f + 2 < p) : ∀ (r k : Nat), r + k ≤ 6 → mlf (up2 i 90 p v) f r k = mlf i f r k
  | 0, k, h => rfl
  | r + 1, k, h => by
    unfold mlf
    rw [up2_nf (by omega), up2_nf (by omega), mlf_up hp r (k + 1) (by omega)]
theorem mapA_oth {f : Nat} : ∀ (r k : Nat) (i : Nat → Nat → Int32) {p : Nat}, p ≠ 24 + 6 * f + 1 → mapA f r k i 90 p = i 90 p
  | 0, k, i, p, h => rfl
  | r + 1, k, i, p, h => by
    unfold mapA
    rw [mapA_oth r (k + 1) _ h]
    unfold map1
    exact up2_nf h
def mrA (i : Nat → Nat → Int32) (f c : Nat) : Nat → Nat → Int32 :=
  match mlf i f c 0 with
  | none => i
  | some k => mapA f (c - k) k i
def mrf1 (i : Nat → Nat → Int32) (f : Nat) (co : Int32) : Nat → Nat → Int32 :=
  let a := up2 i 90 (24 + 6 * f + 0) 1
  let b := up2 a 90 (24 + 6 * f + 2) (a 90 2)
  let e := up2 b 90 (24 + 6 * f + 5) (b 90 (24 + 6 * f + 5) + co)
  up2 e 90 5 (e 90 5 + mwh e)
def mrf (i : Nat → Nat → Int32) (f c : Nat) : Nat → Nat → Int32 :=
  let a := man i f c
  let i1 := up2 i 90 (24 + 6 * f + 4) 0
  if a = 0 ∨ a = 3 then i1 else if a = 1 then mrf1 (mrA i1 f c) f (mca i f c) else mrf1 (up2 i1 90 (24 + 6 * f + 1) (i1 90 1)) f (mca i f c)
theorem k_X7_refreshes {g : G0} {j : Nat → Nat → Int64} (d : Nat) {i : Nat → Nat → Int32} {x : Int32} {f : Nat} (hx : x = nI f) (hf : f < 4) {c : Nat} (hc : i 90 4 = nI c) (hb : c ≤ 6)  : C g m_X7_refreshes (d + 5) 0 0 false [.ref 89, .int x] (mk i j) (rets (some (.int (man i f c))) (mk (mrf i f c) j)) := by
  refine C_of (L := [some (.ref 89), some (.int x), none, none]) rfl ?_
  refine L_aload_n_0 dX7_refreshes_0 ?_
  refine L_iload_n_1 dX7_refreshes_1 ?_
  refine U_cv2 (d := d + 4) (lkR_RX7_64 rfl dX7_refreshes_2) (k_X7_answerTo _ hx hf hc hb) ⟨pn_X7_answerTo, rfl, (Nat.le_of_ble_eq_true rfl), (Nat.le_of_ble_eq_true rfl), rfl⟩ (⟨_, _, rfl, rfl, rfl⟩) (cfS cf7) (Nat.le_of_ble_eq_true rfl) ?_
  refine V_istore_n_2 dX7_refreshes_5 (Nat.le_of_ble_eq_true rfl) rfl ?_
  refine L_aload_n_0 dX7_refreshes_6 ?_
  refine L_iload_n_1 dX7_refreshes_7 ?_
  refine U_cv2 (d := d + 4) (lkR_RX7_67 rfl dX7_refreshes_8) (k_X7_costOfAnswer _ hx hf hc hb) ⟨pn_X7_costOfAnswer, rfl, (Nat.le_of_ble_eq_true rfl), (Nat.le_of_ble_eq_true rfl), rfl⟩ (⟨_, _, rfl, rfl, rfl⟩) (cfS cf7) (Nat.le_of_ble_eq_true rfl) ?_
  refine V_istore_n_3 dX7_refreshes_11 (Nat.le_of_ble_eq_true rfl) rfl ?_
  refine L_aload_n_0 dX7_refreshes_12 ?_
  refine L_iload_n_1 dX7_refreshes_13 ?_
  refine V_iconst (v := 4) (by decide) dX7_refreshes_14 ?_
  refine V_iconst (v := 0) (by decide) dX7_refreshes_15 ?_
  refine U_cV4 (d := d + 4) (lkR_RX7_38 rfl dX7_refreshes_16) (k_X7_setOf _ (f := f) (w := 4) hx rfl (hf) (by decide)) ⟨pn_X7_setOf, rfl, (Nat.le_of_ble_eq_true rfl), (Nat.le_of_ble_eq_true rfl), rfl⟩ (⟨_, _, rfl, rfl, rfl⟩) (cfS cf7) (Nat.le_of_ble_eq_true rfl) ?_
  refine L_iload_n_2 dX7_refreshes_19 ?_
  refine V_ifx_eq (tgt := 28) dX7_refreshes_20 (by decide) (fun h20 => ?_) (fun h20 => ?_)
  · refine L_iload_n_2 dX7_refreshes_28 ?_
    exact V_iret dX7_refreshes_29 rfl rfl (⟨rfl, by unfold mrf; dsimp only; rw [if_pos (Or.inl h20)]⟩)
  · refine L_iload_n_2 dX7_refreshes_23 ?_
    refine V_iconst (v := 3) (by decide) dX7_refreshes_24 ?_
    refine V_icmp_ne (tgt := 30) dX7_refreshes_25 (by decide) (fun h25 => ?_) (fun h25 => ?_)
    · refine L_iload_n_2 dX7_refreshes_30 ?_
      refine V_iconst (v := 1) (by decide) dX7_refreshes_31 ?_
      refine V_icmp_ne (tgt := 43) dX7_refreshes_32 (by decide) (fun h32 => ?_) (fun h32 => ?_)
      · refine L_aload_n_0 dX7_refreshes_43 ?_
        refine L_iload_n_1 dX7_refreshes_44 ?_
        refine V_iconst (v := 1) (by decide) dX7_refreshes_45 ?_
        refine L_aload_n_0 dX7_refreshes_46 ?_
        refine U_getR (r := 90) dX7_refreshes_47 fl_RX7_7 rfl rfl rfl ?_
        refine V_iconst (v := 1) (by decide) dX7_refreshes_50 ?_
        refine U_iald (n := 1) dX7_refreshes_51 rfl (rfl) (by decide) (by decide) ?_
        refine U_cV4 (d := d + 4) (lkR_RX7_38 rfl dX7_refreshes_52) (k_X7_setOf _ (f := f) (w := 1) hx rfl (hf) (by decide)) ⟨pn_X7_setOf, rfl, (Nat.le_of_ble_eq_true rfl), (Nat.le_of_ble_eq_true rfl), rfl⟩ (⟨_, _, rfl, rfl, rfl⟩) (cfS cf7) (Nat.le_of_ble_eq_true rfl) ?_
        refine L_aload_n_0 dX7_refreshes_55 ?_
        refine L_iload_n_1 dX7_refreshes_56 ?_
        refine V_iconst (v := 0) (by decide) dX7_refreshes_57 ?_
        refine V_iconst (v := 1) (by decide) dX7_refreshes_58 ?_
        refine U_cV4 (d := d + 4) (lkR_RX7_38 rfl dX7_refreshes_59) (k_X7_setOf _ (f := f) (w := 0) hx rfl (hf) (by decide)) ⟨pn_X7_setOf, rfl, (Nat.le_of_ble_eq_true rfl), (Nat.le_of_ble_eq_true rfl), rfl⟩ (⟨_, _, rfl, rfl, rfl⟩) (cfS cf7) (Nat.le_of_ble_eq_true rfl) ?_
        refine L_aload_n_0 dX7_refreshes_62 ?_
        refine L_iload_n_1 dX7_refreshes_63 ?_
        refine V_iconst (v := 2) (by decide) dX7_refreshes_64 ?_
        refine L_aload_n_0 dX7_refreshes_65 ?_
        refine U_getR (r := 90) dX7_refreshes_66 fl_RX7_7 rfl rfl rfl ?_
        refine V_iconst (v := 2) (by decide) dX7_refreshes_69 ?_
        refine U_iald (n := 2) dX7_refreshes_70 rfl (rfl) (by decide) (by decide) ?_
        refine U_cV4 (d := d + 4) (lkR_RX7_38 rfl dX7_refreshes_71) (k_X7_setOf _ (f := f) (w := 2) hx rfl (hf) (by decide)) ⟨pn_X7_setOf, rfl, (Nat.le_of_ble_eq_true rfl), (Nat.le_of_ble_eq_true rfl), rfl⟩ (⟨_, _, rfl, rfl, rfl⟩) (cfS cf7) (Nat.le_of_ble_eq_true rfl) ?_
        refine L_aload_n_0 dX7_refreshes_74 ?_
        refine L_iload_n_1 dX7_refreshes_75 ?_
        refine V_iconst (v := 5) (by decide) dX7_refreshes_76 ?_
        refine L_aload_n_0 dX7_refreshes_77 ?_
        refine L_iload_n_1 dX7_refreshes_78 ?_
        refine V_iconst (v := 5) (by decide) dX7_refreshes_79 ?_
        refine U_cv3 (d := d + 4) (lkR_RX7_34 rfl dX7_refreshes_80) (k_X7_of _ (f := f) (w := 5) hx rfl (hf) (by decide)) ⟨pn_X7_of, rfl, (Nat.le_of_ble_eq_true rfl), (Nat.le_of_ble_eq_true rfl), rfl⟩ (⟨_, _, rfl, rfl, rfl⟩) (cfS cf7) (Nat.le_of_ble_eq_true rfl) ?_
        refine L_iload_n_3 dX7_refreshes_83 ?_
        refine V_iadd dX7_refreshes_84 ?_
        refine U_cV4 (d := d + 4) (lkR_RX7_38 rfl dX7_refreshes_85) (k_X7_setOf _ (f := f) (w := 5) hx rfl (hf) (by decide)) ⟨pn_X7_setOf, rfl, (Nat.le_of_ble_eq_true rfl), (Nat.le_of_ble_eq_true rfl), rfl⟩ (⟨_, _, rfl, rfl, rfl⟩) (cfS cf7) (Nat.le_of_ble_eq_true rfl) ?_
        refine L_aload_n_0 dX7_refreshes_88 ?_
        refine U_getR (r := 90) dX7_refreshes_89 fl_RX7_7 rfl rfl rfl ?_
        refine V_iconst (v := 5) (by decide) dX7_refreshes_92 ?_
        refine V_dup2 rfl rfl dX7_refreshes_93 ?_
        refine U_iald (n := 5) dX7_refreshes_94 rfl (rfl) (by decide) (by decide) ?_
        refine L_aload_n_0 dX7_refreshes_95 ?_
        refine U_cv1 (d := d + 4) (lkR_RX7_60 rfl dX7_refreshes_96) (k_X7_wholeCost _) ⟨pn_X7_wholeCost, rfl, (Nat.le_of_ble_eq_true rfl), (Nat.le_of_ble_eq_true rfl), rfl⟩ (⟨_, _, rfl, rfl, rfl⟩) (cfS cf7) (Nat.le_of_ble_eq_true rfl) ?_
        refine V_iadd dX7_refreshes_99 ?_
        refine U_iast (n := 5) dX7_refreshes_100 rfl (rfl) (by decide) (by decide) ?_
        refine L_iload_n_2 dX7_refreshes_101 ?_
        exact V_iret dX7_refreshes_102 rfl rfl (⟨rfl, by unfold mrf; dsimp only; rw [if_neg (fun z => z.elim h20 h25)]; rw [if_neg h32]; rfl⟩)
      · refine L_aload_n_0 dX7_refreshes_35 ?_
        refine L_iload_n_1 dX7_refreshes_36 ?_
        obtain ⟨k, hk, hkc⟩ := man_one h32
        have hk1 : mlf (up2 i 90 (24 + 6 * f + 4) 0) f c 0 = some k := (mlf_up (by omega) c 0 (by omega)).trans hk
        refine U_cV2 (d := d + 4) (lkR_RX7_70 rfl dX7_refreshes_37) (k_X7_applyAll _ hx hf (c := c) ((up2_nf (by omega)).trans hc) hb hk1) ⟨pn_X7_applyAll, rfl, (Nat.le_of_ble_eq_true rfl), (Nat.le_of_ble_eq_true rfl), rfl⟩ (⟨_, _, rfl, rfl, rfl⟩) (cfS cf7) (Nat.le_of_ble_eq_true rfl) ?_
        refine V_goto (tgt := 55) dX7_refreshes_40 (by decide) ?_
        refine L_aload_n_0 dX7_refreshes_55 ?_
        refine L_iload_n_1 dX7_refreshes_56 ?_
        refine V_iconst (v := 0) (by decide) dX7_refreshes_57 ?_
        refine V_iconst (v := 1) (by decide) dX7_refreshes_58 ?_
        refine U_cV4 (d := d + 4) (lkR_RX7_38 rfl dX7_refreshes_59) (k_X7_setOf _ (f := f) (w := 0) hx rfl (hf) (by decide)) ⟨pn_X7_setOf, rfl, (Nat.le_of_ble_eq_true rfl), (Nat.le_of_ble_eq_true rfl), rfl⟩ (⟨_, _, rfl, rfl, rfl⟩) (cfS cf7) (Nat.le_of_ble_eq_true rfl) ?_
        refine L_aload_n_0 dX7_refreshes_62 ?_
        refine L_iload_n_1 dX7_refreshes_63 ?_
        refine V_iconst (v := 2) (by decide) dX7_refreshes_64 ?_
        refine L_aload_n_0 dX7_refreshes_65 ?_
        refine U_getR (r := 90) dX7_refreshes_66 fl_RX7_7 rfl rfl rfl ?_
        refine V_iconst (v := 2) (by decide) dX7_refreshes_69 ?_
        refine U_iald (n := 2) dX7_refreshes_70 rfl (rfl) (by decide) (by decide) ?_
        refine U_cV4 (d := d + 4) (lkR_RX7_38 rfl dX7_refreshes_71) (k_X7_setOf _ (f := f) (w := 2) hx rfl (hf) (by decide)) ⟨pn_X7_setOf, rfl, (Nat.le_of_ble_eq_true rfl), (Nat.le_of_ble_eq_true rfl), rfl⟩ (⟨_, _, rfl, rfl, rfl⟩) (cfS cf7) (Nat.le_of_ble_eq_true rfl) ?_
        refine L_aload_n_0 dX7_refreshes_74 ?_
        refine L_iload_n_1 dX7_refreshes_75 ?_
        refine V_iconst (v := 5) (by decide) dX7_refreshes_76 ?_
        refine L_aload_n_0 dX7_refreshes_77 ?_
        refine L_iload_n_1 dX7_refreshes_78 ?_
        refine V_iconst (v := 5) (by decide) dX7_refreshes_79 ?_
        refine U_cv3 (d := d + 4) (lkR_RX7_34 rfl dX7_refreshes_80) (k_X7_of _ (f := f) (w := 5) hx rfl (hf) (by decide)) ⟨pn_X7_of, rfl, (Nat.le_of_ble_eq_true rfl), (Nat.le_of_ble_eq_true rfl), rfl⟩ (⟨_, _, rfl, rfl, rfl⟩) (cfS cf7) (Nat.le_of_ble_eq_true rfl) ?_
        refine L_iload_n_3 dX7_refreshes_83 ?_
        refine V_iadd dX7_refreshes_84 ?_
        refine U_cV4 (d := d + 4) (lkR_RX7_38 rfl dX7_refreshes_85) (k_X7_setOf _ (f := f) (w := 5) hx rfl (hf) (by decide)) ⟨pn_X7_setOf, rfl, (Nat.le_of_ble_eq_true rfl), (Nat.le_of_ble_eq_true rfl), rfl⟩ (⟨_, _, rfl, rfl, rfl⟩) (cfS cf7) (Nat.le_of_ble_eq_true rfl) ?_
        refine L_aload_n_0 dX7_refreshes_88 ?_
        refine U_getR (r := 90) dX7_refreshes_89 fl_RX7_7 rfl rfl rfl ?_
        refine V_iconst (v := 5) (by decide) dX7_refreshes_92 ?_
        refine V_dup2 rfl rfl dX7_refreshes_93 ?_
        refine U_iald (n := 5) dX7_refreshes_94 rfl (rfl) (by decide) (by decide) ?_
        refine L_aload_n_0 dX7_refreshes_95 ?_
        refine U_cv1 (d := d + 4) (lkR_RX7_60 rfl dX7_refreshes_96) (k_X7_wholeCost _) ⟨pn_X7_wholeCost, rfl, (Nat.le_of_ble_eq_true rfl), (Nat.le_of_ble_eq_true rfl), rfl⟩ (⟨_, _, rfl, rfl, rfl⟩) (cfS cf7) (Nat.le_of_ble_eq_true rfl) ?_
        refine V_iadd dX7_refreshes_99 ?_
        refine U_iast (n := 5) dX7_refreshes_100 rfl (rfl) (by decide) (by decide) ?_
        refine L_iload_n_2 dX7_refreshes_101 ?_
        exact V_iret dX7_refreshes_102 rfl rfl (⟨rfl, by unfold mrf; dsimp only; rw [if_neg (fun z => z.elim h20 h25)]; rw [if_pos h32, show mrA (up2 i 90 (24 + 6 * f + 4) 0) f c = mapA f (c - k) k (up2 i 90 (24 + 6 * f + 4) 0) from by unfold mrA; rw [hk1]]; rfl⟩)
    · refine L_iload_n_2 dX7_refreshes_28 ?_
      exact V_iret dX7_refreshes_29 rfl rfl (⟨rfl, by unfold mrf; dsimp only; rw [if_pos (Or.inr h25)]⟩)
abbrev mbt (l s : Int32) : Int32 := l >>> (s &&& 31) &&& 1
def mcd (i : Nat → Nat → Int32) (x : Int32) : Nat → Nat → Int32 := up2 i 90 0 (i 90 0 ^^^ (1 <<< (x &&& 31)))
theorem k_X7_canAdd {g : G0} {j : Nat → Nat → Int64} (d : Nat) {i : Nat → Nat → Int32} {x : Int32}  : C g m_X7_canAdd (d + 0) 0 0 false [.ref 89, .int x] (mk i j) (rets (some (.int (b2i (mbt (i 90 0) x = 0)))) (mk i j)) := by
  refine C_of (L := [some (.ref 89), some (.int x)]) rfl ?_
  refine L_aload_n_0 dX7_canAdd_0 ?_
  refine U_getR (r := 90) dX7_canAdd_1 fl_RX7_7 rfl rfl rfl ?_
  refine V_iconst (v := 0) (by decide) dX7_canAdd_4 ?_
  refine U_iald (n := 0) dX7_canAdd_5 rfl (rfl) (by decide) (by decide) ?_
  refine L_iload_n_1 dX7_canAdd_6 ?_
  refine V_ishr dX7_canAdd_7 ?_
  refine V_iconst (v := 1) (by decide) dX7_canAdd_8 ?_
  refine V_iand dX7_canAdd_9 ?_
  refine V_ifx_ne (tgt := 17) dX7_canAdd_10 (by decide) (fun h10 => ?_) (fun h10 => ?_)
  · refine V_iconst (v := 0) (by decide) dX7_canAdd_17 ?_
    exact V_iret dX7_canAdd_18 rfl rfl (rtI (b2f h10).symm)
  · refine V_iconst (v := 1) (by decide) dX7_canAdd_13 ?_
    refine V_goto (tgt := 18) dX7_canAdd_14 (by decide) ?_
    exact V_iret dX7_canAdd_18 rfl rfl (rtI (b2t h10).symm)
theorem k_X7_changeDraft {g : G0} {j : Nat → Nat → Int64} (d : Nat) {i : Nat → Nat → Int32} {x : Int32}  : C g m_X7_changeDraft (d + 1) 0 0 false [.ref 89, .int x] (mk i j) (rets (some (.int (one (mcd i x 90 0)))) (mk (mcd i x) j)) := by
  refine C_of (L := [some (.ref 89), some (.int x)]) rfl ?_
  refine L_aload_n_0 dX7_changeDraft_0 ?_
  refine U_getR (r := 90) dX7_changeDraft_1 fl_RX7_7 rfl rfl rfl ?_
  refine V_iconst (v := 0) (by decide) dX7_changeDraft_4 ?_
  refine V_dup2 rfl rfl dX7_changeDraft_5 ?_
  refine U_iald (n := 0) dX7_changeDraft_6 rfl (rfl) (by decide) (by decide) ?_
  refine V_iconst (v := 1) (by decide) dX7_changeDraft_7 ?_
  refine L_iload_n_1 dX7_changeDraft_8 ?_
  refine V_ishl dX7_changeDraft_9 ?_
  refine V_ixor dX7_changeDraft_10 ?_
  refine U_iast (n := 0) dX7_changeDraft_11 rfl (rfl) (by decide) (by decide) ?_
  refine L_aload_n_0 dX7_changeDraft_12 ?_
  refine U_getR (r := 90) dX7_changeDraft_13 fl_RX7_7 rfl rfl rfl ?_
  refine V_iconst (v := 0) (by decide) dX7_changeDraft_16 ?_
  refine U_iald (n := 0) dX7_changeDraft_17 rfl (rfl) (by decide) (by decide) ?_
  refine U_cv1 (d := d + 0) (lkR_RX7_45 rfl dX7_changeDraft_18) (k_X7_ones _) ⟨pn_X7_ones, rfl, (Nat.le_of_ble_eq_true rfl), (Nat.le_of_ble_eq_true rfl), rfl⟩ (trivial) cfn (Nat.le_of_ble_eq_true rfl) ?_
  exact V_iret dX7_changeDraft_21 rfl rfl (⟨rfl, rfl⟩)
theorem k_X7_canPublish {g : G0} {j : Nat → Nat → Int64} (d : Nat) {i : Nat → Nat → Int32}  : C g m_X7_canPublish (d + 0) 0 0 false [.ref 89] (mk i j) (rets (some (.int (b2i (¬ i 90 0 = i 90 1)))) (mk i j)) := by
  refine C_of (L := [some (.ref 89)]) rfl ?_
  refine L_aload_n_0 dX7_canPublish_0 ?_
  refine U_getR (r := 90) dX7_canPublish_1 fl_RX7_7 rfl rfl rfl ?_
  refine V_iconst (v := 0) (by decide) dX7_canPublish_4 ?_
  refine U_iald (n := 0) dX7_canPublish_5 rfl (rfl) (by decide) (by decide) ?_
  refine L_aload_n_0 dX7_canPublish_6 ?_
  refine U_getR (r := 90) dX7_canPublish_7 fl_RX7_7 rfl rfl rfl ?_
  refine V_iconst (v := 1) (by decide) dX7_canPublish_10 ?_
  refine U_iald (n := 1) dX7_canPublish_11 rfl (rfl) (by decide) (by decide) ?_
  refine V_icmp_eq (tgt := 19) dX7_canPublish_12 (by decide) (fun h12 => ?_) (fun h12 => ?_)
  · refine V_iconst (v := 0) (by decide) dX7_canPublish_19 ?_
    exact V_iret dX7_canPublish_20 rfl rfl (rtI (b2f fun z => z h12).symm)
  · refine V_iconst (v := 1) (by decide) dX7_canPublish_15 ?_
    refine V_goto (tgt := 20) dX7_canPublish_16 (by decide) ?_
    exact V_iret dX7_canPublish_20 rfl rfl (rtI (b2t h12).symm)
theorem k_X7_canRenumber {g : G0} {j : Nat → Nat → Int64} (d : Nat) {i : Nat → Nat → Int32} {x : Int32}  : C g m_X7_canRenumber (d + 2) 0 0 false [.ref 89, .int x] (mk i j) (rets (some (.int (b2i (wit x 0 15 ∧ ¬ x = i 90 2)))) (mk i j)) := by
  refine C_of (L := [some (.ref 89), some (.int x)]) rfl ?_
  refine L_iload_n_1 dX7_canRenumber_0 ?_
  refine U_cv1 (d := d + 1) (lkR_RX7_80 rfl dX7_canRenumber_1) (k_X7_isEdition _) ⟨pn_X7_isEdition, rfl, (Nat.le_of_ble_eq_true rfl), (Nat.le_of_ble_eq_true rfl), rfl⟩ (trivial) cfn (Nat.le_of_ble_eq_true rfl) ?_
  refine V_ifx_eq (tgt := 21) dX7_canRenumber_4 (by decide) (fun h4 => ?_) (fun h4 => ?_)
  · refine V_iconst (v := 0) (by decide) dX7_canRenumber_21 ?_
    exact V_iret dX7_canRenumber_22 rfl rfl (rtI (b2f fun z => absurd h4 (by rw [b2t z.1]; decide)).symm)
  · refine L_iload_n_1 dX7_canRenumber_7 ?_
    refine L_aload_n_0 dX7_canRenumber_8 ?_
    refine U_getR (r := 90) dX7_canRenumber_9 fl_RX7_7 rfl rfl rfl ?_
    refine V_iconst (v := 2) (by decide) dX7_canRenumber_12 ?_
    refine U_iald (n := 2) dX7_canRenumber_13 rfl (rfl) (by decide) (by decide) ?_
    refine V_icmp_eq (tgt := 21) dX7_canRenumber_14 (by decide) (fun h14 => ?_) (fun h14 => ?_)
    · refine V_iconst (v := 0) (by decide) dX7_canRenumber_21 ?_
      exact V_iret dX7_canRenumber_22 rfl rfl (rtI (b2f fun z => z.2 h14).symm)
    · refine V_iconst (v := 1) (by decide) dX7_canRenumber_17 ?_
      refine V_goto (tgt := 22) dX7_canRenumber_18 (by decide) ?_
      exact V_iret dX7_canRenumber_22 rfl rfl (rtI (b2t ⟨b2p h4, h14⟩).symm)
def mpW (i : Nat → Nat → Int32) (c : Nat) : Nat → Nat → Int32 :=
  let a1 := up2 i 90 (6 + 3 * c + 0) (i 90 2)
  let a2 := up2 a1 90 (6 + 3 * c + 1) (a1 90 1 &&& (a1 90 0 ^^^ (-1)))
  let a3 := up2 a2 90 (6 + 3 * c + 2) (a2 90 0 &&& (a2 90 1 ^^^ (-1)))
  let a4 := up2 a3 90 4 (a3 90 4 + 1)
  let a5 := up2 a4 90 1 (a4 90 0)
  let a6 := up2 a5 90 2 (remI (a5 90 2 + 1) 16)
  mgv a6 4
def mpb (i : Nat → Nat → Int32) (c K : Nat) : Nat → Nat → Int32 := if c = K then mpW (mdr i (c - 1)) (c - 1) else mpW i c
theorem k_X7_publishes_a {g : G0} {j : Nat → Nat → Int64} (d : Nat) {i : Nat → Nat → Int32} {c q : Nat} (hc : i 90 4 = nI c) (hK : i 90 3 = nI q) (hb : c ≤ q) (hq1 : 1 ≤ q) (hq6 : q ≤ 6) (he : c = q)  : C g m_X7_publishes (d + 2) 0 0 false [.ref 89] (mk i j) (rets (some (.int (mpb i c q 90 2))) (mk (mpb i c q) j)) := by
  refine C_of (L := [some (.ref 89), none]) rfl ?_
  have hix0 : (6 : Int32) + 3 * nI (c - 1) + 0 = nI (6 + 3 * (c - 1) + 0) := mdx3 rfl rfl
  have hix1 : (6 : Int32) + 3 * nI (c - 1) + 1 = nI (6 + 3 * (c - 1) + 1) := mdx3 rfl rfl
  have hix2 : (6 : Int32) + 3 * nI (c - 1) + 2 = nI (6 + 3 * (c - 1) + 2) := mdx3 rfl rfl
  refine L_aload_n_0 dX7_publishes_0 ?_
  refine U_getR (r := 90) dX7_publishes_1 fl_RX7_7 rfl rfl rfl ?_
  refine V_iconst (v := 4) (by decide) dX7_publishes_4 ?_
  refine U_iald (n := 4) dX7_publishes_5 rfl (rfl) (by decide) (by decide) ?_
  refine L_aload_n_0 dX7_publishes_6 ?_
  refine U_getR (r := 90) dX7_publishes_7 fl_RX7_7 rfl rfl rfl ?_
  refine V_iconst (v := 3) (by decide) dX7_publishes_10 ?_
  refine U_iald (n := 3) dX7_publishes_11 rfl (rfl) (by decide) (by decide) ?_
  refine V_icmp_ne (tgt := 19) dX7_publishes_12 (by decide) (fun h12 => ?_) (fun h12 => ?_)
  · exact absurd (by rw [hc, hK, he]) h12
  · refine L_aload_n_0 dX7_publishes_15 ?_
    refine U_cV1 (d := d + 1) (lkR_RX7_74 rfl dX7_publishes_16) (k_X7_dropOldest _ (c := c - 1) (by rw [hc]; exact congrArg nI (by omega)) (by omega)) ⟨pn_X7_dropOldest, rfl, (Nat.le_of_ble_eq_true rfl), (Nat.le_of_ble_eq_true rfl), rfl⟩ (⟨_, _, rfl, rfl, rfl⟩) (cfS cf7) (Nat.le_of_ble_eq_true rfl) ?_
    refine V_bipush (v := 6) (by decide) dX7_publishes_19 ?_
    refine V_iconst (v := 3) (by decide) dX7_publishes_21 ?_
    refine L_aload_n_0 dX7_publishes_22 ?_
    refine U_getR (r := 90) dX7_publishes_23 fl_RX7_7 rfl rfl rfl ?_
    refine V_iconst (v := 4) (by decide) dX7_publishes_26 ?_
    refine U_iald (n := 4) dX7_publishes_27 rfl (rfl) (by decide) (by decide) ?_
    refine V_eqv (y := nI (c - 1)) (by show mdF _ _ 90 4 = _; unfold mdF; rw [if_neg (by omega)]; exact up2_eq) ?_
    refine V_imul dX7_publishes_28 ?_
    refine V_iadd dX7_publishes_29 ?_
    refine V_istore_n_1 dX7_publishes_30 (Nat.le_of_ble_eq_true rfl) rfl ?_
    refine L_aload_n_0 dX7_publishes_31 ?_
    refine U_getR (r := 90) dX7_publishes_32 fl_RX7_7 rfl rfl rfl ?_
    refine L_iload_n_1 dX7_publishes_35 ?_
    refine V_iconst (v := 0) (by decide) dX7_publishes_36 ?_
    refine V_iadd dX7_publishes_37 ?_
    refine L_aload_n_0 dX7_publishes_38 ?_
    refine U_getR (r := 90) dX7_publishes_39 fl_RX7_7 rfl rfl rfl ?_
    refine V_iconst (v := 2) (by decide) dX7_publishes_42 ?_
    refine U_iald (n := 2) dX7_publishes_43 rfl (rfl) (by decide) (by decide) ?_
    refine U_iast (n := (6 + 3 * (c - 1) + 0)) dX7_publishes_44 rfl (hix0) (by omega) (by decide) ?_
    refine L_aload_n_0 dX7_publishes_45 ?_
    refine U_getR (r := 90) dX7_publishes_46 fl_RX7_7 rfl rfl rfl ?_
    refine L_iload_n_1 dX7_publishes_49 ?_
    refine V_iconst (v := 1) (by decide) dX7_publishes_50 ?_
    refine V_iadd dX7_publishes_51 ?_
    refine L_aload_n_0 dX7_publishes_52 ?_
    refine U_getR (r := 90) dX7_publishes_53 fl_RX7_7 rfl rfl rfl ?_
    refine V_iconst (v := 1) (by decide) dX7_publishes_56 ?_
    refine U_iald (n := 1) dX7_publishes_57 rfl (rfl) (by decide) (by decide) ?_
    refine L_aload_n_0 dX7_publishes_58 ?_
    refine U_getR (r := 90) dX7_publishes_59 fl_RX7_7 rfl rfl rfl ?_
    refine V_iconst (v := 0) (by decide) dX7_publishes_62 ?_
    refine U_iald (n := 0) dX7_publishes_63 rfl (rfl) (by decide) (by decide) ?_
    refine V_iconst (v := (-1)) (by decide) dX7_publishes_64 ?_
    refine V_ixor dX7_publishes_65 ?_
    refine V_iand dX7_publishes_66 ?_
    refine U_iast (n := (6 + 3 * (c - 1) + 1)) dX7_publishes_67 rfl (hix1) (by omega) (by decide) ?_
    refine L_aload_n_0 dX7_publishes_68 ?_
    refine U_getR (r := 90) dX7_publishes_69 fl_RX7_7 rfl rfl rfl ?_
    refine L_iload_n_1 dX7_publishes_72 ?_
    refine V_iconst (v := 2) (by decide) dX7_publishes_73 ?_
    refine V_iadd dX7_publishes_74 ?_
    refine L_aload_n_0 dX7_publishes_75 ?_
    refine U_getR (r := 90) dX7_publishes_76 fl_RX7_7 rfl rfl rfl ?_
    refine V_iconst (v := 0) (by decide) dX7_publishes_79 ?_
    refine U_iald (n := 0) dX7_publishes_80 rfl (rfl) (by decide) (by decide) ?_
    refine L_aload_n_0 dX7_publishes_81 ?_
    refine U_getR (r := 90) dX7_publishes_82 fl_RX7_7 rfl rfl rfl ?_
    refine V_iconst (v := 1) (by decide) dX7_publishes_85 ?_
    refine U_iald (n := 1) dX7_publishes_86 rfl (rfl) (by decide) (by decide) ?_
    refine V_iconst (v := (-1)) (by decide) dX7_publishes_87 ?_
    refine V_ixor dX7_publishes_88 ?_
    refine V_iand dX7_publishes_89 ?_
    refine U_iast (n := (6 + 3 * (c - 1) + 2)) dX7_publishes_90 rfl (hix2) (by omega) (by decide) ?_
    refine L_aload_n_0 dX7_publishes_91 ?_
    refine U_getR (r := 90) dX7_publishes_92 fl_RX7_7 rfl rfl rfl ?_
    refine V_iconst (v := 4) (by decide) dX7_publishes_95 ?_
    refine V_dup2 rfl rfl dX7_publishes_96 ?_
    refine U_iald (n := 4) dX7_publishes_97 rfl (rfl) (by decide) (by decide) ?_
    refine V_iconst (v := 1) (by decide) dX7_publishes_98 ?_
    refine V_iadd dX7_publishes_99 ?_
    refine U_iast (n := 4) dX7_publishes_100 rfl (rfl) (by decide) (by decide) ?_
    refine L_aload_n_0 dX7_publishes_101 ?_
    refine U_getR (r := 90) dX7_publishes_102 fl_RX7_7 rfl rfl rfl ?_
    refine V_iconst (v := 1) (by decide) dX7_publishes_105 ?_
    refine L_aload_n_0 dX7_publishes_106 ?_
    refine U_getR (r := 90) dX7_publishes_107 fl_RX7_7 rfl rfl rfl ?_
    refine V_iconst (v := 0) (by decide) dX7_publishes_110 ?_
    refine U_iald (n := 0) dX7_publishes_111 rfl (rfl) (by decide) (by decide) ?_
    refine U_iast (n := 1) dX7_publishes_112 rfl (rfl) (by decide) (by decide) ?_
    refine L_aload_n_0 dX7_publishes_113 ?_
    refine U_getR (r := 90) dX7_publishes_114 fl_RX7_7 rfl rfl rfl ?_
    refine V_iconst (v := 2) (by decide) dX7_publishes_117 ?_
    refine L_aload_n_0 dX7_publishes_118 ?_
    refine U_getR (r := 90) dX7_publishes_119 fl_RX7_7 rfl rfl rfl ?_
    refine V_iconst (v := 2) (by decide) dX7_publishes_122 ?_
    refine U_iald (n := 2) dX7_publishes_123 rfl (rfl) (by decide) (by decide) ?_
    refine V_iconst (v := 1) (by decide) dX7_publishes_124 ?_
    refine V_iadd dX7_publishes_125 ?_
    refine V_bipush (v := 16) (by decide) dX7_publishes_126 ?_
    refine V_irem (by decide) dX7_publishes_128 ?_
    refine U_iast (n := 2) dX7_publishes_129 rfl (rfl) (by decide) (by decide) ?_
    refine L_aload_n_0 dX7_publishes_130 ?_
    refine U_cV1 (d := d + 1) (lkR_RX7_77 rfl dX7_publishes_131) (k_X7_give _) ⟨pn_X7_give, rfl, (Nat.le_of_ble_eq_true rfl), (Nat.le_of_ble_eq_true rfl), rfl⟩ (⟨_, _, rfl, rfl, rfl⟩) (cfS cf7) (Nat.le_of_ble_eq_true rfl) ?_
    refine L_aload_n_0 dX7_publishes_134 ?_
    refine U_getR (r := 90) dX7_publishes_135 fl_RX7_7 rfl rfl rfl ?_
    refine V_iconst (v := 2) (by decide) dX7_publishes_138 ?_
    refine U_iald (n := 2) dX7_publishes_139 rfl (rfl) (by decide) (by decide) ?_
    exact V_iret dX7_publishes_140 rfl rfl (⟨congrArg (fun z => Sum.inl (some (Value.int z))) (by unfold mpb; rw [if_pos he]; rfl), by unfold mpb; rw [if_pos he]; rfl⟩)
theorem k_X7_publishes_b {g : G0} {j : Nat → Nat → Int64} (d : Nat) {i : Nat → Nat → Int32} {c q : Nat} (hc : i 90 4 = nI c) (hK : i 90 3 = nI q) (hb : c ≤ q) (hq1 : 1 ≤ q) (hq6 : q ≤ 6) (he : ¬ c = q)  : C g m_X7_publishes (d + 2) 0 0 false [.ref 89] (mk i j) (rets (some (.int (mpb i c q 90 2))) (mk (mpb i c q) j)) := by
  refine C_of (L := [some (.ref 89), none]) rfl ?_
  have hix0 : (6 : Int32) + 3 * nI c + 0 = nI (6 + 3 * c + 0) := mdx3 rfl rfl
  have hix1 : (6 : Int32) + 3 * nI c + 1 = nI (6 + 3 * c + 1) := mdx3 rfl rfl
  have hix2 : (6 : Int32) + 3 * nI c + 2 = nI (6 + 3 * c + 2) := mdx3 rfl rfl
  refine L_aload_n_0 dX7_publishes_0 ?_
  refine U_getR (r := 90) dX7_publishes_1 fl_RX7_7 rfl rfl rfl ?_
  refine V_iconst (v := 4) (by decide) dX7_publishes_4 ?_
  refine U_iald (n := 4) dX7_publishes_5 rfl (rfl) (by decide) (by decide) ?_
  refine L_aload_n_0 dX7_publishes_6 ?_
  refine U_getR (r := 90) dX7_publishes_7 fl_RX7_7 rfl rfl rfl ?_
  refine V_iconst (v := 3) (by decide) dX7_publishes_10 ?_
  refine U_iald (n := 3) dX7_publishes_11 rfl (rfl) (by decide) (by decide) ?_
  refine V_icmp_ne (tgt := 19) dX7_publishes_12 (by decide) (fun h12 => ?_) (fun h12 => ?_)
  · refine V_bipush (v := 6) (by decide) dX7_publishes_19 ?_
    refine V_iconst (v := 3) (by decide) dX7_publishes_21 ?_
    refine L_aload_n_0 dX7_publishes_22 ?_
    refine U_getR (r := 90) dX7_publishes_23 fl_RX7_7 rfl rfl rfl ?_
    refine V_iconst (v := 4) (by decide) dX7_publishes_26 ?_
    refine U_iald (n := 4) dX7_publishes_27 rfl (rfl) (by decide) (by decide) ?_
    refine V_eqv (y := nI c) hc ?_
    refine V_imul dX7_publishes_28 ?_
    refine V_iadd dX7_publishes_29 ?_
    refine V_istore_n_1 dX7_publishes_30 (Nat.le_of_ble_eq_true rfl) rfl ?_
    refine L_aload_n_0 dX7_publishes_31 ?_
    refine U_getR (r := 90) dX7_publishes_32 fl_RX7_7 rfl rfl rfl ?_
    refine L_iload_n_1 dX7_publishes_35 ?_
    refine V_iconst (v := 0) (by decide) dX7_publishes_36 ?_
    refine V_iadd dX7_publishes_37 ?_
    refine L_aload_n_0 dX7_publishes_38 ?_
    refine U_getR (r := 90) dX7_publishes_39 fl_RX7_7 rfl rfl rfl ?_
    refine V_iconst (v := 2) (by decide) dX7_publishes_42 ?_
    refine U_iald (n := 2) dX7_publishes_43 rfl (rfl) (by decide) (by decide) ?_
    refine U_iast (n := (6 + 3 * c + 0)) dX7_publishes_44 rfl (hix0) (by omega) (by decide) ?_
    refine L_aload_n_0 dX7_publishes_45 ?_
    refine U_getR (r := 90) dX7_publishes_46 fl_RX7_7 rfl rfl rfl ?_
    refine L_iload_n_1 dX7_publishes_49 ?_
    refine V_iconst (v := 1) (by decide) dX7_publishes_50 ?_
    refine V_iadd dX7_publishes_51 ?_
    refine L_aload_n_0 dX7_publishes_52 ?_
    refine U_getR (r := 90) dX7_publishes_53 fl_RX7_7 rfl rfl rfl ?_
    refine V_iconst (v := 1) (by decide) dX7_publishes_56 ?_
    refine U_iald (n := 1) dX7_publishes_57 rfl (rfl) (by decide) (by decide) ?_
    refine L_aload_n_0 dX7_publishes_58 ?_
    refine U_getR (r := 90) dX7_publishes_59 fl_RX7_7 rfl rfl rfl ?_
    refine V_iconst (v := 0) (by decide) dX7_publishes_62 ?_
    refine U_iald (n := 0) dX7_publishes_63 rfl (rfl) (by decide) (by decide) ?_
    refine V_iconst (v := (-1)) (by decide) dX7_publishes_64 ?_
    refine V_ixor dX7_publishes_65 ?_
    refine V_iand dX7_publishes_66 ?_
    refine U_iast (n := (6 + 3 * c + 1)) dX7_publishes_67 rfl (hix1) (by omega) (by decide) ?_
    refine L_aload_n_0 dX7_publishes_68 ?_
    refine U_getR (r := 90) dX7_publishes_69 fl_RX7_7 rfl rfl rfl ?_
    refine L_iload_n_1 dX7_publishes_72 ?_
    refine V_iconst (v := 2) (by decide) dX7_publishes_73 ?_
    refine V_iadd dX7_publishes_74 ?_
    refine L_aload_n_0 dX7_publishes_75 ?_
    refine U_getR (r := 90) dX7_publishes_76 fl_RX7_7 rfl rfl rfl ?_
    refine V_iconst (v := 0) (by decide) dX7_publishes_79 ?_
    refine U_iald (n := 0) dX7_publishes_80 rfl (rfl) (by decide) (by decide) ?_
    refine L_aload_n_0 dX7_publishes_81 ?_
    refine U_getR (r := 90) dX7_publishes_82 fl_RX7_7 rfl rfl rfl ?_
    refine V_iconst (v := 1) (by decide) dX7_publishes_85 ?_
    refine U_iald (n := 1) dX7_publishes_86 rfl (rfl) (by decide) (by decide) ?_
    refine V_iconst (v := (-1)) (by decide) dX7_publishes_87 ?_
    refine V_ixor dX7_publishes_88 ?_
    refine V_iand dX7_publishes_89 ?_
    refine U_iast (n := (6 + 3 * c + 2)) dX7_publishes_90 rfl (hix2) (by omega) (by decide) ?_
    refine L_aload_n_0 dX7_publishes_91 ?_
    refine U_getR (r := 90) dX7_publishes_92 fl_RX7_7 rfl rfl rfl ?_
    refine V_iconst (v := 4) (by decide) dX7_publishes_95 ?_
    refine V_dup2 rfl rfl dX7_publishes_96 ?_
    refine U_iald (n := 4) dX7_publishes_97 rfl (rfl) (by decide) (by decide) ?_
    refine V_iconst (v := 1) (by decide) dX7_publishes_98 ?_
    refine V_iadd dX7_publishes_99 ?_
    refine U_iast (n := 4) dX7_publishes_100 rfl (rfl) (by decide) (by decide) ?_
    refine L_aload_n_0 dX7_publishes_101 ?_
    refine U_getR (r := 90) dX7_publishes_102 fl_RX7_7 rfl rfl rfl ?_
    refine V_iconst (v := 1) (by decide) dX7_publishes_105 ?_
    refine L_aload_n_0 dX7_publishes_106 ?_
    refine U_getR (r := 90) dX7_publishes_107 fl_RX7_7 rfl rfl rfl ?_
    refine V_iconst (v := 0) (by decide) dX7_publishes_110 ?_
    refine U_iald (n := 0) dX7_publishes_111 rfl (rfl) (by decide) (by decide) ?_
    refine U_iast (n := 1) dX7_publishes_112 rfl (rfl) (by decide) (by decide) ?_
    refine L_aload_n_0 dX7_publishes_113 ?_
    refine U_getR (r := 90) dX7_publishes_114 fl_RX7_7 rfl rfl rfl ?_
    refine V_iconst (v := 2) (by decide) dX7_publishes_117 ?_
    refine L_aload_n_0 dX7_publishes_118 ?_
    refine U_getR (r := 90) dX7_publishes_119 fl_RX7_7 rfl rfl rfl ?_
    refine V_iconst (v := 2) (by decide) dX7_publishes_122 ?_
    refine U_iald (n := 2) dX7_publishes_123 rfl (rfl) (by decide) (by decide) ?_
    refine V_iconst (v := 1) (by decide) dX7_publishes_124 ?_
    refine V_iadd dX7_publishes_125 ?_
    refine V_bipush (v := 16) (by decide) dX7_publishes_126 ?_
    refine V_irem (by decide) dX7_publishes_128 ?_
    refine U_iast (n := 2) dX7_publishes_129 rfl (rfl) (by decide) (by decide) ?_
    refine L_aload_n_0 dX7_publishes_130 ?_
    refine U_cV1 (d := d + 1) (lkR_RX7_77 rfl dX7_publishes_131) (k_X7_give _) ⟨pn_X7_give, rfl, (Nat.le_of_ble_eq_true rfl), (Nat.le_of_ble_eq_true rfl), rfl⟩ (⟨_, _, rfl, rfl, rfl⟩) (cfS cf7) (Nat.le_of_ble_eq_true rfl) ?_
    refine L_aload_n_0 dX7_publishes_134 ?_
    refine U_getR (r := 90) dX7_publishes_135 fl_RX7_7 rfl rfl rfl ?_
    refine V_iconst (v := 2) (by decide) dX7_publishes_138 ?_
    refine U_iald (n := 2) dX7_publishes_139 rfl (rfl) (by decide) (by decide) ?_
    exact V_iret dX7_publishes_140 rfl rfl (⟨congrArg (fun z => Sum.inl (some (Value.int z))) (by unfold mpb; rw [if_neg he]; rfl), by unfold mpb; rw [if_neg he]; rfl⟩)
  · exact absurd ((nI_eq (a := c) (b := q) (by omega) (by omega)).mp (by rw [hc, hK] at h12; exact h12)) he
theorem k_X7_publishes {g : G0} {j : Nat → Nat → Int64} (d : Nat) {i : Nat → Nat → Int32} {c q : Nat} (hc : i 90 4 = nI c) (hK : i 90 3 = nI q) (hb : c ≤ q) (hq1 : 1 ≤ q) (hq6 : q ≤ 6) : C g m_X7_publishes (d + 2) 0 0 false [.ref 89] (mk i j) (rets (some (.int (mpb i c q 90 2))) (mk (mpb i c q) j)) := by
  by_cases he : c = q
  · exact k_X7_publishes_a d hc hK hb hq1 hq6 he
  · exact k_X7_publishes_b d hc hK hb hq1 hq6 he
def mrn (i : Nat → Nat → Int32) (x : Int32) : Nat → Nat → Int32 := mgv (up2 (up2 i 90 2 x) 90 4 0) 4
def msl (i : Nat → Nat → Int32) : Nat → Int32
  | 0 => 0
  | m + 1 => msl i m + i 90 (24 + 6 * m + 3)
theorem k_X7_renumbers {g : G0} {j : Nat → Nat → Int64} (d : Nat) {i : Nat → Nat → Int32} {x : Int32}  : C g m_X7_renumbers (d + 2) 0 0 false [.ref 89, .int x] (mk i j) (rets (some (.int (i 90 2))) (mk (mrn i x) j)) := by
  refine C_of (L := [some (.ref 89), some (.int x), none]) rfl ?_
  refine L_aload_n_0 dX7_renumbers_0 ?_
  refine U_getR (r := 90) dX7_renumbers_1 fl_RX7_7 rfl rfl rfl ?_
  refine V_iconst (v := 2) (by decide) dX7_renumbers_4 ?_
  refine U_iald (n := 2) dX7_renumbers_5 rfl (rfl) (by decide) (by decide) ?_
  refine V_istore_n_2 dX7_renumbers_6 (Nat.le_of_ble_eq_true rfl) rfl ?_
  refine L_aload_n_0 dX7_renumbers_7 ?_
  refine U_getR (r := 90) dX7_renumbers_8 fl_RX7_7 rfl rfl rfl ?_
  refine V_iconst (v := 2) (by decide) dX7_renumbers_11 ?_
  refine L_iload_n_1 dX7_renumbers_12 ?_
  refine U_iast (n := 2) dX7_renumbers_13 rfl (rfl) (by decide) (by decide) ?_
  refine L_aload_n_0 dX7_renumbers_14 ?_
  refine U_getR (r := 90) dX7_renumbers_15 fl_RX7_7 rfl rfl rfl ?_
  refine V_iconst (v := 4) (by decide) dX7_renumbers_18 ?_
  refine V_iconst (v := 0) (by decide) dX7_renumbers_19 ?_
  refine U_iast (n := 4) dX7_renumbers_20 rfl (rfl) (by decide) (by decide) ?_
  refine L_aload_n_0 dX7_renumbers_21 ?_
  refine U_cV1 (d := d + 1) (lkR_RX7_77 rfl dX7_renumbers_22) (k_X7_give _) ⟨pn_X7_give, rfl, (Nat.le_of_ble_eq_true rfl), (Nat.le_of_ble_eq_true rfl), rfl⟩ (⟨_, _, rfl, rfl, rfl⟩) (cfS cf7) (Nat.le_of_ble_eq_true rfl) ?_
  refine L_iload_n_2 dX7_renumbers_25 ?_
  exact V_iret dX7_renumbers_26 rfl rfl (⟨rfl, rfl⟩)
theorem k_X7_sleepers {g : G0} {j : Nat → Nat → Int64} (d : Nat) {i : Nat → Nat → Int32}  : C g m_X7_sleepers (d + 1) 0 0 false [.ref 89] (mk i j) (rets (some (.int (msl i 4))) (mk i j)) := by
  refine C_of (L := [some (.ref 89), none, none]) rfl ?_
  have loop : ∀ (n m : Nat), m + n = 4 → V g m_X7_sleepers (d + 1) 0 0 false (Kp g false (rets (some (.int (msl i 4))) (mk i j))) 4 [some (.ref 89), some (.int (msl i m)), some (.int (nI m))] [] (mk i j) := by
    intro n
    induction n with
    | zero =>
      intro m hm
      have hm0 : m = 4 := by omega
      subst hm0
      refine L_iload_n_2 dX7_sleepers_4 ?_
      refine V_iconst (v := 4) (by decide) dX7_sleepers_5 ?_
      refine V_icmp_ge (tgt := 24) dX7_sleepers_6 (by decide) (fun h6 => ?_) (fun h6 => ?_)
      · refine L_iload_n_1 dX7_sleepers_24 ?_
        exact V_iret dX7_sleepers_25 rfl rfl (⟨rfl, rfl⟩)
      · exact absurd (by decide) h6
    | succ n ih =>
      intro m hm
      have hlt : m < 4 := by omega
      refine L_iload_n_2 dX7_sleepers_4 ?_
      refine V_iconst (v := 4) (by decide) dX7_sleepers_5 ?_
      refine V_icmp_ge (tgt := 24) dX7_sleepers_6 (by decide) (fun h6 => ?_) (fun h6 => ?_)
      · exact absurd ((nI_leI (a := 4) (b := m) (by omega) (by omega)).mp h6) (by omega)
      · refine L_iload_n_1 dX7_sleepers_9 ?_
        refine L_aload_n_0 dX7_sleepers_10 ?_
        refine L_iload_n_2 dX7_sleepers_11 ?_
        refine V_iconst (v := 3) (by decide) dX7_sleepers_12 ?_
        refine U_cv3 (d := d + 0) (lkR_RX7_34 rfl dX7_sleepers_13) (k_X7_of _ (f := m) (w := 3) rfl rfl (by omega) (by decide)) ⟨pn_X7_of, rfl, (Nat.le_of_ble_eq_true rfl), (Nat.le_of_ble_eq_true rfl), rfl⟩ (⟨_, _, rfl, rfl, rfl⟩) (cfS cf7) (Nat.le_of_ble_eq_true rfl) ?_
        refine V_iadd dX7_sleepers_16 ?_
        refine V_istore_n_1 dX7_sleepers_17 (Nat.le_of_ble_eq_true rfl) rfl ?_
        refine V_iinc_2 (v := nI (m + 1)) dX7_sleepers_18 (Nat.le_of_ble_eq_true rfl) rfl (nI_1 _) ?_
        refine V_goto (tgt := 4) dX7_sleepers_21 (by decide) ?_
        exact ih (m + 1) (by omega)
  refine V_iconst (v := 0) (by decide) dX7_sleepers_0 ?_
  refine V_istore_n_1 dX7_sleepers_1 (Nat.le_of_ble_eq_true rfl) rfl ?_
  refine V_iconst (v := 0) (by decide) dX7_sleepers_2 ?_
  refine V_istore_n_2 dX7_sleepers_3 (Nat.le_of_ble_eq_true rfl) rfl ?_
  exact loop 4 0 (by omega)
theorem k_X7_turns {g : G0} {j : Nat → Nat → Int64} (d : Nat) {i : Nat → Nat → Int32} {x : Int32} {f : Nat} (hx : x = nI f) (hf : f < 4) {v : Int32}  : C g m_X7_turns (d + 2) 0 0 false [.ref 89, .int x, .int v] (mk i j) (rets (some (.int (msl (up2 i 90 (24 + 6 * f + 3) v) 4))) (mk (up2 i 90 (24 + 6 * f + 3) v) j)) := by
  refine C_of (L := [some (.ref 89), some (.int x), some (.int v)]) rfl ?_
  refine L_aload_n_0 dX7_turns_0 ?_
  refine L_iload_n_1 dX7_turns_1 ?_
  refine V_iconst (v := 3) (by decide) dX7_turns_2 ?_
  refine L_iload_n_2 dX7_turns_3 ?_
  refine U_cV4 (d := d + 1) (lkR_RX7_38 rfl dX7_turns_4) (k_X7_setOf _ (f := f) (w := 3) hx rfl (hf) (by decide)) ⟨pn_X7_setOf, rfl, (Nat.le_of_ble_eq_true rfl), (Nat.le_of_ble_eq_true rfl), rfl⟩ (⟨_, _, rfl, rfl, rfl⟩) (cfS cf7) (Nat.le_of_ble_eq_true rfl) ?_
  refine L_aload_n_0 dX7_turns_7 ?_
  refine U_cv1 (d := d + 1) (lkR_RX7_84 rfl dX7_turns_8) (k_X7_sleepers _) ⟨pn_X7_sleepers, rfl, (Nat.le_of_ble_eq_true rfl), (Nat.le_of_ble_eq_true rfl), rfl⟩ (⟨_, _, rfl, rfl, rfl⟩) (cfS cf7) (Nat.le_of_ble_eq_true rfl) ?_
  exact V_iret dX7_turns_11 rfl rfl (⟨rfl, rfl⟩)
def mtS (i : Nat → Nat → Int32) (f : Nat) : Int32 := if i 90 (24 + 6 * f + 0) = 1 then one (i 90 (24 + 6 * f + 1)) else -1
def mtE (i : Nat → Nat → Int32) (f : Nat) : Int32 := if i 90 (24 + 6 * f + 0) = 1 then i 90 (24 + 6 * f + 2) else -1
def mtW (i : Nat → Nat → Int32) (f : Nat) : Int32 := if i 90 (24 + 6 * f + 0) = 1 then one (i 90 (24 + 6 * f + 1) ^^^ i 90 1) else -1
def mtA (i : Nat → Nat → Int32) (f : Nat) : Int32 := 2 * i 90 (24 + 6 * f + 3) + i 90 (24 + 6 * f + 4)
def mtP (i : Nat → Nat → Int32) (x : Int32) : Int32 := mbt (i 90 0) x + 2 * mbt (i 90 1) x
def msu (i : Nat → Nat → Int32) : Int32 := i 90 (24 + 6 * 0 + 5) + i 90 (24 + 6 * 1 + 5) + i 90 (24 + 6 * 2 + 5) + i 90 (24 + 6 * 3 + 5)
def msh (a b : Int32) : UInt64 := if a = 0 then 0 else FP.dsub 4607182418800017408 (FP.ddiv (FP.i2d a) (FP.i2d b))
theorem k_X7_tellsStreets {g : G0} {j : Nat → Nat → Int64} (d : Nat) {i : Nat → Nat → Int32} {x : Int32} {f : Nat} (hx : x = nI f) (hf : f < 4)  : C g m_X7_tellsStreets (d + 1) 0 0 false [.ref 89, .int x] (mk i j) (rets (some (.int (mtS i f))) (mk i j)) := by
  refine C_of (L := [some (.ref 89), some (.int x)]) rfl ?_
  refine L_aload_n_0 dX7_tellsStreets_0 ?_
  refine L_iload_n_1 dX7_tellsStreets_1 ?_
  refine V_iconst (v := 0) (by decide) dX7_tellsStreets_2 ?_
  refine U_cv3 (d := d + 0) (lkR_RX7_34 rfl dX7_tellsStreets_3) (k_X7_of _ (f := f) (w := 0) hx rfl (hf) (by decide)) ⟨pn_X7_of, rfl, (Nat.le_of_ble_eq_true rfl), (Nat.le_of_ble_eq_true rfl), rfl⟩ (⟨_, _, rfl, rfl, rfl⟩) (cfS cf7) (Nat.le_of_ble_eq_true rfl) ?_
  refine V_iconst (v := 1) (by decide) dX7_tellsStreets_6 ?_
  refine V_icmp_ne (tgt := 22) dX7_tellsStreets_7 (by decide) (fun h7 => ?_) (fun h7 => ?_)
  · refine V_iconst (v := (-1)) (by decide) dX7_tellsStreets_22 ?_
    exact V_iret dX7_tellsStreets_23 rfl rfl (rtI (by unfold mtS; rw [if_neg h7]))
  · refine L_aload_n_0 dX7_tellsStreets_10 ?_
    refine L_iload_n_1 dX7_tellsStreets_11 ?_
    refine V_iconst (v := 1) (by decide) dX7_tellsStreets_12 ?_
    refine U_cv3 (d := d + 0) (lkR_RX7_34 rfl dX7_tellsStreets_13) (k_X7_of _ (f := f) (w := 1) hx rfl (hf) (by decide)) ⟨pn_X7_of, rfl, (Nat.le_of_ble_eq_true rfl), (Nat.le_of_ble_eq_true rfl), rfl⟩ (⟨_, _, rfl, rfl, rfl⟩) (cfS cf7) (Nat.le_of_ble_eq_true rfl) ?_
    refine U_cv1 (d := d + 0) (lkR_RX7_45 rfl dX7_tellsStreets_16) (k_X7_ones _) ⟨pn_X7_ones, rfl, (Nat.le_of_ble_eq_true rfl), (Nat.le_of_ble_eq_true rfl), rfl⟩ (trivial) cfn (Nat.le_of_ble_eq_true rfl) ?_
    refine V_goto (tgt := 23) dX7_tellsStreets_19 (by decide) ?_
    exact V_iret dX7_tellsStreets_23 rfl rfl (rtI (by unfold mtS; rw [if_pos h7]))
theorem k_X7_tellsEdition {g : G0} {j : Nat → Nat → Int64} (d : Nat) {i : Nat → Nat → Int32} {x : Int32} {f : Nat} (hx : x = nI f) (hf : f < 4)  : C g m_X7_tellsEdition (d + 1) 0 0 false [.ref 89, .int x] (mk i j) (rets (some (.int (mtE i f))) (mk i j)) := by
  refine C_of (L := [some (.ref 89), some (.int x)]) rfl ?_
  refine L_aload_n_0 dX7_tellsEdition_0 ?_
  refine L_iload_n_1 dX7_tellsEdition_1 ?_
  refine V_iconst (v := 0) (by decide) dX7_tellsEdition_2 ?_
  refine U_cv3 (d := d + 0) (lkR_RX7_34 rfl dX7_tellsEdition_3) (k_X7_of _ (f := f) (w := 0) hx rfl (hf) (by decide)) ⟨pn_X7_of, rfl, (Nat.le_of_ble_eq_true rfl), (Nat.le_of_ble_eq_true rfl), rfl⟩ (⟨_, _, rfl, rfl, rfl⟩) (cfS cf7) (Nat.le_of_ble_eq_true rfl) ?_
  refine V_iconst (v := 1) (by decide) dX7_tellsEdition_6 ?_
  refine V_icmp_ne (tgt := 19) dX7_tellsEdition_7 (by decide) (fun h7 => ?_) (fun h7 => ?_)
  · refine V_iconst (v := (-1)) (by decide) dX7_tellsEdition_19 ?_
    exact V_iret dX7_tellsEdition_20 rfl rfl (rtI (by unfold mtE; rw [if_neg h7]))
  · refine L_aload_n_0 dX7_tellsEdition_10 ?_
    refine L_iload_n_1 dX7_tellsEdition_11 ?_
    refine V_iconst (v := 2) (by decide) dX7_tellsEdition_12 ?_
    refine U_cv3 (d := d + 0) (lkR_RX7_34 rfl dX7_tellsEdition_13) (k_X7_of _ (f := f) (w := 2) hx rfl (hf) (by decide)) ⟨pn_X7_of, rfl, (Nat.le_of_ble_eq_true rfl), (Nat.le_of_ble_eq_true rfl), rfl⟩ (⟨_, _, rfl, rfl, rfl⟩) (cfS cf7) (Nat.le_of_ble_eq_true rfl) ?_
    refine V_goto (tgt := 20) dX7_tellsEdition_16 (by decide) ?_
    exact V_iret dX7_tellsEdition_20 rfl rfl (rtI (by unfold mtE; rw [if_pos h7]))
theorem k_X7_tellsWrong {g : G0} {j : Nat → Nat → Int64} (d : Nat) {i : Nat → Nat → Int32} {x : Int32} {f : Nat} (hx : x = nI f) (hf : f < 4)  : C g m_X7_tellsWrong (d + 1) 0 0 false [.ref 89, .int x] (mk i j) (rets (some (.int (mtW i f))) (mk i j)) := by
  refine C_of (L := [some (.ref 89), some (.int x)]) rfl ?_
  refine L_aload_n_0 dX7_tellsWrong_0 ?_
  refine L_iload_n_1 dX7_tellsWrong_1 ?_
  refine V_iconst (v := 0) (by decide) dX7_tellsWrong_2 ?_
  refine U_cv3 (d := d + 0) (lkR_RX7_34 rfl dX7_tellsWrong_3) (k_X7_of _ (f := f) (w := 0) hx rfl (hf) (by decide)) ⟨pn_X7_of, rfl, (Nat.le_of_ble_eq_true rfl), (Nat.le_of_ble_eq_true rfl), rfl⟩ (⟨_, _, rfl, rfl, rfl⟩) (cfS cf7) (Nat.le_of_ble_eq_true rfl) ?_
  refine V_iconst (v := 1) (by decide) dX7_tellsWrong_6 ?_
  refine V_icmp_ne (tgt := 29) dX7_tellsWrong_7 (by decide) (fun h7 => ?_) (fun h7 => ?_)
  · refine V_iconst (v := (-1)) (by decide) dX7_tellsWrong_29 ?_
    exact V_iret dX7_tellsWrong_30 rfl rfl (rtI (by unfold mtW; rw [if_neg h7]))
  · refine L_aload_n_0 dX7_tellsWrong_10 ?_
    refine L_iload_n_1 dX7_tellsWrong_11 ?_
    refine V_iconst (v := 1) (by decide) dX7_tellsWrong_12 ?_
    refine U_cv3 (d := d + 0) (lkR_RX7_34 rfl dX7_tellsWrong_13) (k_X7_of _ (f := f) (w := 1) hx rfl (hf) (by decide)) ⟨pn_X7_of, rfl, (Nat.le_of_ble_eq_true rfl), (Nat.le_of_ble_eq_true rfl), rfl⟩ (⟨_, _, rfl, rfl, rfl⟩) (cfS cf7) (Nat.le_of_ble_eq_true rfl) ?_
    refine L_aload_n_0 dX7_tellsWrong_16 ?_
    refine U_getR (r := 90) dX7_tellsWrong_17 fl_RX7_7 rfl rfl rfl ?_
    refine V_iconst (v := 1) (by decide) dX7_tellsWrong_20 ?_
    refine U_iald (n := 1) dX7_tellsWrong_21 rfl (rfl) (by decide) (by decide) ?_
    refine V_ixor dX7_tellsWrong_22 ?_
    refine U_cv1 (d := d + 0) (lkR_RX7_45 rfl dX7_tellsWrong_23) (k_X7_ones _) ⟨pn_X7_ones, rfl, (Nat.le_of_ble_eq_true rfl), (Nat.le_of_ble_eq_true rfl), rfl⟩ (trivial) cfn (Nat.le_of_ble_eq_true rfl) ?_
    refine V_goto (tgt := 30) dX7_tellsWrong_26 (by decide) ?_
    exact V_iret dX7_tellsWrong_30 rfl rfl (rtI (by unfold mtW; rw [if_pos h7]))
theorem k_X7_tellsAttention {g : G0} {j : Nat → Nat → Int64} (d : Nat) {i : Nat → Nat → Int32} {x : Int32} {f : Nat} (hx : x = nI f) (hf : f < 4)  : C g m_X7_tellsAttention (d + 1) 0 0 false [.ref 89, .int x] (mk i j) (rets (some (.int (mtA i f))) (mk i j)) := by
  refine C_of (L := [some (.ref 89), some (.int x)]) rfl ?_
  refine V_iconst (v := 2) (by decide) dX7_tellsAttention_0 ?_
  refine L_aload_n_0 dX7_tellsAttention_1 ?_
  refine L_iload_n_1 dX7_tellsAttention_2 ?_
  refine V_iconst (v := 3) (by decide) dX7_tellsAttention_3 ?_
  refine U_cv3 (d := d + 0) (lkR_RX7_34 rfl dX7_tellsAttention_4) (k_X7_of _ (f := f) (w := 3) hx rfl (hf) (by decide)) ⟨pn_X7_of, rfl, (Nat.le_of_ble_eq_true rfl), (Nat.le_of_ble_eq_true rfl), rfl⟩ (⟨_, _, rfl, rfl, rfl⟩) (cfS cf7) (Nat.le_of_ble_eq_true rfl) ?_
  refine V_imul dX7_tellsAttention_7 ?_
  refine L_aload_n_0 dX7_tellsAttention_8 ?_
  refine L_iload_n_1 dX7_tellsAttention_9 ?_
  refine V_iconst (v := 4) (by decide) dX7_tellsAttention_10 ?_
  refine U_cv3 (d := d + 0) (lkR_RX7_34 rfl dX7_tellsAttention_11) (k_X7_of _ (f := f) (w := 4) hx rfl (hf) (by decide)) ⟨pn_X7_of, rfl, (Nat.le_of_ble_eq_true rfl), (Nat.le_of_ble_eq_true rfl), rfl⟩ (⟨_, _, rfl, rfl, rfl⟩) (cfS cf7) (Nat.le_of_ble_eq_true rfl) ?_
  refine V_iadd dX7_tellsAttention_14 ?_
  exact V_iret dX7_tellsAttention_15 rfl rfl (⟨rfl, rfl⟩)
theorem k_X7_tellsWhere {g : G0} {j : Nat → Nat → Int64} (d : Nat) {i : Nat → Nat → Int32} {x : Int32}  : C g m_X7_tellsWhere (d + 0) 0 0 false [.ref 89, .int x] (mk i j) (rets (some (.int (mtP i x))) (mk i j)) := by
  refine C_of (L := [some (.ref 89), some (.int x)]) rfl ?_
  refine L_aload_n_0 dX7_tellsWhere_0 ?_
  refine U_getR (r := 90) dX7_tellsWhere_1 fl_RX7_7 rfl rfl rfl ?_
  refine V_iconst (v := 0) (by decide) dX7_tellsWhere_4 ?_
  refine U_iald (n := 0) dX7_tellsWhere_5 rfl (rfl) (by decide) (by decide) ?_
  refine L_iload_n_1 dX7_tellsWhere_6 ?_
  refine V_ishr dX7_tellsWhere_7 ?_
  refine V_iconst (v := 1) (by decide) dX7_tellsWhere_8 ?_
  refine V_iand dX7_tellsWhere_9 ?_
  refine V_iconst (v := 2) (by decide) dX7_tellsWhere_10 ?_
  refine L_aload_n_0 dX7_tellsWhere_11 ?_
  refine U_getR (r := 90) dX7_tellsWhere_12 fl_RX7_7 rfl rfl rfl ?_
  refine V_iconst (v := 1) (by decide) dX7_tellsWhere_15 ?_
  refine U_iald (n := 1) dX7_tellsWhere_16 rfl (rfl) (by decide) (by decide) ?_
  refine L_iload_n_1 dX7_tellsWhere_17 ?_
  refine V_ishr dX7_tellsWhere_18 ?_
  refine V_iconst (v := 1) (by decide) dX7_tellsWhere_19 ?_
  refine V_iand dX7_tellsWhere_20 ?_
  refine V_imul dX7_tellsWhere_21 ?_
  refine V_iadd dX7_tellsWhere_22 ?_
  exact V_iret dX7_tellsWhere_23 rfl rfl (⟨rfl, rfl⟩)
theorem k_X7_hasStreet {g : G0} {j : Nat → Nat → Int64} (d : Nat) {i : Nat → Nat → Int32} {x : Int32} {f : Nat} (hx : x = nI f) (hf : f < 4) {y : Int32}  : C g m_X7_hasStreet (d + 1) 0 0 false [.ref 89, .int x, .int y] (mk i j) (rets (some (.int (b2i (mbt (i 90 (24 + 6 * f + 1)) y = 1)))) (mk i j)) := by
  refine C_of (L := [some (.ref 89), some (.int x), some (.int y)]) rfl ?_
  refine L_aload_n_0 dX7_hasStreet_0 ?_
  refine L_iload_n_1 dX7_hasStreet_1 ?_
  refine V_iconst (v := 1) (by decide) dX7_hasStreet_2 ?_
  refine U_cv3 (d := d + 0) (lkR_RX7_34 rfl dX7_hasStreet_3) (k_X7_of _ (f := f) (w := 1) hx rfl (hf) (by decide)) ⟨pn_X7_of, rfl, (Nat.le_of_ble_eq_true rfl), (Nat.le_of_ble_eq_true rfl), rfl⟩ (⟨_, _, rfl, rfl, rfl⟩) (cfS cf7) (Nat.le_of_ble_eq_true rfl) ?_
  refine L_iload_n_2 dX7_hasStreet_6 ?_
  refine V_ishr dX7_hasStreet_7 ?_
  refine V_iconst (v := 1) (by decide) dX7_hasStreet_8 ?_
  refine V_iand dX7_hasStreet_9 ?_
  refine V_iconst (v := 1) (by decide) dX7_hasStreet_10 ?_
  refine V_icmp_ne (tgt := 18) dX7_hasStreet_11 (by decide) (fun h11 => ?_) (fun h11 => ?_)
  · refine V_iconst (v := 0) (by decide) dX7_hasStreet_18 ?_
    exact V_iret dX7_hasStreet_19 rfl rfl (rtI (b2f h11).symm)
  · refine V_iconst (v := 1) (by decide) dX7_hasStreet_14 ?_
    refine V_goto (tgt := 19) dX7_hasStreet_15 (by decide) ?_
    exact V_iret dX7_hasStreet_19 rfl rfl (rtI (b2t h11).symm)
theorem k_X7_unlike {g : G0} {j : Nat → Nat → Int64} (d : Nat) {i : Nat → Nat → Int32}  : C g m_X7_unlike (d + 1) 0 0 false [.ref 89] (mk i j) (rets (some (.int (one (i 90 0 ^^^ i 90 1)))) (mk i j)) := by
  refine C_of (L := [some (.ref 89)]) rfl ?_
  refine L_aload_n_0 dX7_unlike_0 ?_
  refine U_getR (r := 90) dX7_unlike_1 fl_RX7_7 rfl rfl rfl ?_
  refine V_iconst (v := 0) (by decide) dX7_unlike_4 ?_
  refine U_iald (n := 0) dX7_unlike_5 rfl (rfl) (by decide) (by decide) ?_
  refine L_aload_n_0 dX7_unlike_6 ?_
  refine U_getR (r := 90) dX7_unlike_7 fl_RX7_7 rfl rfl rfl ?_
  refine V_iconst (v := 1) (by decide) dX7_unlike_10 ?_
  refine U_iald (n := 1) dX7_unlike_11 rfl (rfl) (by decide) (by decide) ?_
  refine V_ixor dX7_unlike_12 ?_
  refine U_cv1 (d := d + 0) (lkR_RX7_45 rfl dX7_unlike_13) (k_X7_ones _) ⟨pn_X7_ones, rfl, (Nat.le_of_ble_eq_true rfl), (Nat.le_of_ble_eq_true rfl), rfl⟩ (trivial) cfn (Nat.le_of_ble_eq_true rfl) ?_
  exact V_iret dX7_unlike_16 rfl rfl (⟨rfl, rfl⟩)
theorem k_X7_isDifference {g : G0} {j : Nat → Nat → Int64} (d : Nat) {i : Nat → Nat → Int32} {x : Int32}  : C g m_X7_isDifference (d + 1) 0 0 false [.ref 89, .int x] (mk i j) (rets (some (.int (b2i (wit x 0 (i 90 4 - 1))))) (mk i j)) := by
  refine C_of (L := [some (.ref 89), some (.int x)]) rfl ?_
  refine L_iload_n_1 dX7_isDifference_0 ?_
  refine V_iconst (v := 0) (by decide) dX7_isDifference_1 ?_
  refine L_aload_n_0 dX7_isDifference_2 ?_
  refine U_getR (r := 90) dX7_isDifference_3 fl_RX7_7 rfl rfl rfl ?_
  refine V_iconst (v := 4) (by decide) dX7_isDifference_6 ?_
  refine U_iald (n := 4) dX7_isDifference_7 rfl (rfl) (by decide) (by decide) ?_
  refine V_iconst (v := 1) (by decide) dX7_isDifference_8 ?_
  refine V_isub dX7_isDifference_9 ?_
  refine U_cv3 (d := d + 0) (lkR_RX7_23 rfl dX7_isDifference_10) (k_X7_within _) ⟨pn_X7_within, rfl, (Nat.le_of_ble_eq_true rfl), (Nat.le_of_ble_eq_true rfl), rfl⟩ (trivial) cfn (Nat.le_of_ble_eq_true rfl) ?_
  exact V_iret dX7_isDifference_13 rfl b2n (⟨rfl, rfl⟩)
theorem k_X7_share {g : G0} {j : Nat → Nat → Int64} (d : Nat) {i : Nat → Nat → Int32} (hz : ¬ msu i = 0 → ¬ i 90 5 = 0)  : C g m_X7_share (d + 1) 0 0 false [.ref 89] (mk i j) (rets (some (.double (msh (msu i) (i 90 5)))) (mk i j)) := by
  refine C_of (L := [some (.ref 89), none]) rfl ?_
  refine L_aload_n_0 dX7_share_0 ?_
  refine V_iconst (v := 0) (by decide) dX7_share_1 ?_
  refine V_iconst (v := 5) (by decide) dX7_share_2 ?_
  refine U_cv3 (d := d + 0) (lkR_RX7_34 rfl dX7_share_3) (k_X7_of _ (f := 0) (w := 5) rfl rfl (by decide) (by decide)) ⟨pn_X7_of, rfl, (Nat.le_of_ble_eq_true rfl), (Nat.le_of_ble_eq_true rfl), rfl⟩ (⟨_, _, rfl, rfl, rfl⟩) (cfS cf7) (Nat.le_of_ble_eq_true rfl) ?_
  refine L_aload_n_0 dX7_share_6 ?_
  refine V_iconst (v := 1) (by decide) dX7_share_7 ?_
  refine V_iconst (v := 5) (by decide) dX7_share_8 ?_
  refine U_cv3 (d := d + 0) (lkR_RX7_34 rfl dX7_share_9) (k_X7_of _ (f := 1) (w := 5) rfl rfl (by decide) (by decide)) ⟨pn_X7_of, rfl, (Nat.le_of_ble_eq_true rfl), (Nat.le_of_ble_eq_true rfl), rfl⟩ (⟨_, _, rfl, rfl, rfl⟩) (cfS cf7) (Nat.le_of_ble_eq_true rfl) ?_
  refine V_iadd dX7_share_12 ?_
  refine L_aload_n_0 dX7_share_13 ?_
  refine V_iconst (v := 2) (by decide) dX7_share_14 ?_
  refine V_iconst (v := 5) (by decide) dX7_share_15 ?_
  refine U_cv3 (d := d + 0) (lkR_RX7_34 rfl dX7_share_16) (k_X7_of _ (f := 2) (w := 5) rfl rfl (by decide) (by decide)) ⟨pn_X7_of, rfl, (Nat.le_of_ble_eq_true rfl), (Nat.le_of_ble_eq_true rfl), rfl⟩ (⟨_, _, rfl, rfl, rfl⟩) (cfS cf7) (Nat.le_of_ble_eq_true rfl) ?_
  refine V_iadd dX7_share_19 ?_
  refine L_aload_n_0 dX7_share_20 ?_
  refine V_iconst (v := 3) (by decide) dX7_share_21 ?_
  refine V_iconst (v := 5) (by decide) dX7_share_22 ?_
  refine U_cv3 (d := d + 0) (lkR_RX7_34 rfl dX7_share_23) (k_X7_of _ (f := 3) (w := 5) rfl rfl (by decide) (by decide)) ⟨pn_X7_of, rfl, (Nat.le_of_ble_eq_true rfl), (Nat.le_of_ble_eq_true rfl), rfl⟩ (⟨_, _, rfl, rfl, rfl⟩) (cfS cf7) (Nat.le_of_ble_eq_true rfl) ?_
  refine V_iadd dX7_share_26 ?_
  refine V_istore_n_1 dX7_share_27 (Nat.le_of_ble_eq_true rfl) rfl ?_
  refine L_iload_n_1 dX7_share_28 ?_
  refine V_ifx_ne (tgt := 36) dX7_share_29 (by decide) (fun h29 => ?_) (fun h29 => ?_)
  · refine V_dconst1 dX7_share_36 ?_
    refine L_iload_n_1 dX7_share_37 ?_
    refine V_i2d dX7_share_38 ?_
    refine L_aload_n_0 dX7_share_39 ?_
    refine U_getR (r := 90) dX7_share_40 fl_RX7_7 rfl rfl rfl ?_
    refine V_iconst (v := 5) (by decide) dX7_share_43 ?_
    refine U_iald (n := 5) dX7_share_44 rfl (rfl) (by decide) (by decide) ?_
    refine V_i2d dX7_share_45 ?_
    refine V_ddiv (vf_of (fp_div (hz h29))) dX7_share_46 ?_
    refine V_dsub (vf_of (fp_sub (hz h29))) dX7_share_47 ?_
    exact V_dret dX7_share_48 rfl (by unfold msh; rw [if_neg (show ¬ msu i = 0 from h29)]; exact ⟨rfl, rfl⟩)
  · refine V_dconst0 dX7_share_32 ?_
    refine V_goto (tgt := 48) dX7_share_33 (by decide) ?_
    exact V_dret dX7_share_48 rfl (by unfold msh; rw [if_pos (show msu i = 0 from h29)]; exact ⟨rfl, rfl⟩)
