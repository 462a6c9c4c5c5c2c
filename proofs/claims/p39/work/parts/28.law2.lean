/-- the oldest difference goes: c are left -/
def dpk (i : Nat → Nat → Int32) (c m : Nat) : Nat → Nat → Int32 := fun a f => if a = 89 ∧ f = 4 then nI c else if a = 90 ∧ f < m then i 90 (f + 3) else i a f
def dpR (m : Nat) : Nat → (Nat → Nat → Int32) → Nat → Nat → Int32
  | 0, i => i
  | c + 1, i => if m < c + 1 then dpR m c (dpk i c (3 * c)) else i
theorem k_L_drops {g : G0} {j : Nat → Nat → Int64} (d : Nat) {i : Nat → Nat → Int32} {c q : Nat} (hc : i 89 4 = nI c) (h6 : c ≤ 6) (hq : q ≤ 6)  : C g m_L_drops (d + 0) 0 0 false [.int (nI q), .ref 89, .ref 90] (mk i j) (rets (none) (mk (dpR q c i) j)) := by
  refine C_of (L := [some (.int (nI q)), some (.ref 89), some (.ref 90), none]) rfl ?_
  have outer : ∀ (c : Nat) (i : Nat → Nat → Int32) (l3 : Option Value), c1 [some (.int (nI q)), some (.ref 89), some (.ref 90), l3] 3 = true → c ≤ 6 → i 89 4 = nI c → V g m_L_drops (d + 0) 0 0 false (Kp g false (rets none (mk (dpR q c i) j))) 0 [some (.int (nI q)), some (.ref 89), some (.ref 90), l3] [] (mk i j) := by
    intro c
    induction c with
    | zero =>
      intro i l3 hl3 h6 hc
      refine L_aload_n_1 dL_drops_0 ?_
      refine V_iconst (v := 4) (by decide) dL_drops_1 ?_
      refine U_iald (n := 4) dL_drops_2 rfl (rfl) (by decide) (by decide) ?_
      refine V_eqv (y := nI 0) hc ?_
      refine L_iload_n_0 dL_drops_3 ?_
      refine V_icmp_le (tgt := 42) dL_drops_4 (by decide) (fun h4 => ?_) (fun h4 => ?_)
      · exact V_vret dL_drops_42 rfl (⟨rfl, rfl⟩)
      · exact absurd ((nI_leI (a := 0) (b := q) (by omega) (by omega)).mpr (by omega)) h4
    | succ c ih9 =>
      intro i l3 hl3 h6 hc
      by_cases hlt : q < c + 1
      · rw [show dpR q (c + 1) i = dpR q c (dpk i c (3 * c)) from if_pos hlt]
        have loop : ∀ (n m : Nat), m + n = (3 * c) → V g m_L_drops (d + 0) 0 0 false (Kp g false (rets none (mk (dpR q c (dpk i c (3 * c))) j))) 16 [some (.int (nI q)), some (.ref 89), some (.ref 90), some (.int (nI m))] [] (mk (dpk i c m) j) := by
          intro n
          induction n with
          | zero =>
            intro m hm
            have hm0 : m = (3 * c) := by omega
            subst hm0
            refine L_iload_n_3 dL_drops_16 ?_
            refine V_iconst (v := 3) (by decide) dL_drops_17 ?_
            refine L_aload_n_1 dL_drops_18 ?_
            refine V_iconst (v := 4) (by decide) dL_drops_19 ?_
            refine U_iald (n := 4) dL_drops_20 rfl (rfl) (by decide) (by decide) ?_
            refine V_eqv (y := nI c) (if_pos ⟨rfl, rfl⟩) ?_
            refine V_imul dL_drops_21 ?_
            refine V_eqv (y := nI (3 * c)) (pk_mul 3 c) ?_
            refine V_icmp_ge (tgt := 39) dL_drops_22 (by decide) (fun h22 => ?_) (fun h22 => ?_)
            · refine V_goto (tgt := 0) dL_drops_39 (by decide) ?_
              exact ih9 (dpk i c (3 * c)) _ rfl (by omega) (if_pos ⟨rfl, rfl⟩)
            · exact absurd (Int32.le_refl _) h22
          | succ n ih =>
            intro m hm
            have hlt : m < (3 * c) := by omega
            refine L_iload_n_3 dL_drops_16 ?_
            refine V_iconst (v := 3) (by decide) dL_drops_17 ?_
            refine L_aload_n_1 dL_drops_18 ?_
            refine V_iconst (v := 4) (by decide) dL_drops_19 ?_
            refine U_iald (n := 4) dL_drops_20 rfl (rfl) (by decide) (by decide) ?_
            refine V_eqv (y := nI c) (if_pos ⟨rfl, rfl⟩) ?_
            refine V_imul dL_drops_21 ?_
            refine V_eqv (y := nI (3 * c)) (pk_mul 3 c) ?_
            refine V_icmp_ge (tgt := 39) dL_drops_22 (by decide) (fun h22 => ?_) (fun h22 => ?_)
            · exact absurd ((nI_leI (a := 3 * c) (b := m) (by omega) (by omega)).mp h22) (by omega)
            · refine L_aload_n_2 dL_drops_25 ?_
              refine L_iload_n_3 dL_drops_26 ?_
              refine L_aload_n_2 dL_drops_27 ?_
              refine L_iload_n_3 dL_drops_28 ?_
              refine V_iconst (v := 3) (by decide) dL_drops_29 ?_
              refine V_iadd dL_drops_30 ?_
              refine U_iald (n := (m + 3)) dL_drops_31 rfl (nI_add m 3) (by omega) (by decide) ?_
              refine U_iast (n := m) dL_drops_32 rfl (rfl) (by omega) (by decide) ?_
              refine V_iinc_3 (v := nI (m + 1)) dL_drops_33 (Nat.le_of_ble_eq_true rfl) rfl (nI_1 _) ?_
              refine V_goto (tgt := 16) dL_drops_36 (by decide) ?_
              refine V_eqI (i' := dpk i c (m + 1)) (by
                refine up2_ext fun a9 f9 => ?_
                unfold up2 dpk
                by_cases e1 : a9 = 89 ∧ f9 = 4
                · rw [if_neg (by omega), if_pos e1, if_pos e1]
                · rw [if_neg e1, if_neg e1]
                  by_cases e2 : a9 = 90 ∧ f9 = m
                  · rw [if_pos e2, if_neg (by omega), if_neg (by omega), if_pos (by omega)]
                    exact ieq rfl (by omega)
                  · rw [if_neg e2]
                    by_cases e3 : a9 = 90 ∧ f9 < m
                    · rw [if_pos e3, if_pos (by omega)]
                    · rw [if_neg e3, if_neg (by omega)]) ?_
              exact ih (m + 1) (by omega)
        refine L_aload_n_1 dL_drops_0 ?_
        refine V_iconst (v := 4) (by decide) dL_drops_1 ?_
        refine U_iald (n := 4) dL_drops_2 rfl (rfl) (by decide) (by decide) ?_
        refine V_eqv (y := nI (c + 1)) hc ?_
        refine L_iload_n_0 dL_drops_3 ?_
        refine V_icmp_le (tgt := 42) dL_drops_4 (by decide) (fun h4 => ?_) (fun h4 => ?_)
        · exact absurd ((nI_leI (a := c + 1) (b := q) (by omega) (by omega)).mp h4) (by omega)
        · refine L_aload_n_1 dL_drops_7 ?_
          refine V_iconst (v := 4) (by decide) dL_drops_8 ?_
          refine V_dup2 rfl rfl dL_drops_9 ?_
          refine U_iald (n := 4) dL_drops_10 rfl (rfl) (by decide) (by decide) ?_
          refine V_iconst (v := 1) (by decide) dL_drops_11 ?_
          refine V_isub dL_drops_12 ?_
          refine V_eqv (y := nI c) (by rw [hc]; exact nI_pred c) ?_
          refine U_iast (n := 4) dL_drops_13 rfl (rfl) (by decide) (by decide) ?_
          refine V_iconst (v := 0) (by decide) dL_drops_14 ?_
          refine V_istore_n_3 dL_drops_15 (Nat.le_of_ble_eq_true rfl) hl3 ?_
          refine V_eqI (i' := dpk i c 0) (by
            refine up2_ext fun a9 f9 => ?_
            unfold up2 dpk
            by_cases e1 : a9 = 89 ∧ f9 = 4
            · rw [if_pos e1, if_pos e1]
            · rw [if_neg e1, if_neg e1, if_neg (by omega)]) ?_
          exact loop (3 * c) 0 (by omega)
      · rw [show dpR q (c + 1) i = i from if_neg hlt]
        refine L_aload_n_1 dL_drops_0 ?_
        refine V_iconst (v := 4) (by decide) dL_drops_1 ?_
        refine U_iald (n := 4) dL_drops_2 rfl (rfl) (by decide) (by decide) ?_
        refine V_eqv (y := nI (c + 1)) hc ?_
        refine L_iload_n_0 dL_drops_3 ?_
        refine V_icmp_le (tgt := 42) dL_drops_4 (by decide) (fun h4 => ?_) (fun h4 => ?_)
        · exact V_vret dL_drops_42 rfl (⟨rfl, rfl⟩)
        · exact absurd ((nI_leI (a := c + 1) (b := q) (by omega) (by omega)).mpr (by omega)) h4
  exact outer c i _ rfl h6 hc
def ntF (i : Nat → Nat → Int32) (m : Nat) : Nat → Nat → Int32 := fun a f => if a = 91 ∧ f < 5 * m ∧ f % 5 = 3 ∧ ¬ i 91 (f - 1) = 1 then 1 else i a f
theorem k_L_notices {g : G0} {j : Nat → Nat → Int64} (d : Nat) {i : Nat → Nat → Int32}  : C g m_L_notices (d + 0) 0 0 false [.ref 91] (mk i j) (rets (none) (mk (ntF i 4) j)) := by
  refine C_of (L := [some (.ref 91), none]) rfl ?_
  have loop : ∀ (n m : Nat), m + n = 4 → V g m_L_notices (d + 0) 0 0 false (Kp g false (rets (none) (mk (ntF i 4) j))) 2 [some (.ref 91), some (.int (nI m))] [] (mk (ntF i m) j) := by
    intro n
    induction n with
    | zero =>
      intro m hm
      have hm0 : m = 4 := by omega
      subst hm0
      refine L_iload_n_1 dL_notices_2 ?_
      refine V_iconst (v := 4) (by decide) dL_notices_3 ?_
      refine V_icmp_ge (tgt := 42) dL_notices_4 (by decide) (fun h4 => ?_) (fun h4 => ?_)
      · exact V_vret dL_notices_42 rfl (⟨rfl, rfl⟩)
      · exact absurd (by decide) h4
    | succ n ih =>
      intro m hm
      have hlt : m < 4 := by omega
      refine L_iload_n_1 dL_notices_2 ?_
      refine V_iconst (v := 4) (by decide) dL_notices_3 ?_
      refine V_icmp_ge (tgt := 42) dL_notices_4 (by decide) (fun h4 => ?_) (fun h4 => ?_)
      · exact absurd ((nI_leI (a := 4) (b := m) (by omega) (by omega)).mp h4) (by omega)
      · refine L_aload_n_0 dL_notices_7 ?_
        refine V_iconst (v := 5) (by decide) dL_notices_8 ?_
        refine L_iload_n_1 dL_notices_9 ?_
        refine V_imul dL_notices_10 ?_
        refine V_iconst (v := 3) (by decide) dL_notices_11 ?_
        refine V_iadd dL_notices_12 ?_
        refine L_aload_n_0 dL_notices_13 ?_
        refine V_iconst (v := 5) (by decide) dL_notices_14 ?_
        refine L_iload_n_1 dL_notices_15 ?_
        refine V_imul dL_notices_16 ?_
        refine V_iconst (v := 2) (by decide) dL_notices_17 ?_
        refine V_iadd dL_notices_18 ?_
        refine U_iald (n := (5 * m + 2)) dL_notices_19 rfl (mdx5 rfl rfl) (by omega) (by decide) ?_
        refine V_eqv (y := i 91 (5 * m + 2)) (by unfold ntF; rw [if_neg (by omega)]) ?_
        refine V_iconst (v := 1) (by decide) dL_notices_20 ?_
        refine V_icmp_ne (tgt := 34) dL_notices_21 (by decide) (fun h21 => ?_) (fun h21 => ?_)
        · refine V_iconst (v := 1) (by decide) dL_notices_34 ?_
          refine U_iast (n := (5 * m + 3)) dL_notices_35 rfl (mdx5 rfl rfl) (by omega) (by decide) ?_
          refine V_iinc_1 (v := nI (m + 1)) dL_notices_36 (Nat.le_of_ble_eq_true rfl) rfl (nI_1 _) ?_
          refine V_goto (tgt := 2) dL_notices_39 (by decide) ?_
          refine V_eqI (i' := ntF i (m + 1)) (by
            refine up2_ext fun a9 f9 => ?_
            unfold up2 ntF
            by_cases e1 : a9 = 91 ∧ f9 = 5 * m + 3
            · obtain ⟨rfl, rfl⟩ := e1
              first | (rw [if_pos ⟨rfl, rfl⟩, if_pos ⟨rfl, by omega, by omega, h21⟩]; done) | (rw [if_pos ⟨rfl, rfl⟩, if_neg (fun z => z.2.2.2 h21)]; done)
            · rw [if_neg e1]
              have e9 : (a9 = 91 ∧ f9 < 5 * m ∧ f9 % 5 = 3 ∧ ¬ i 91 (f9 - 1) = 1) ↔ (a9 = 91 ∧ f9 < 5 * (m + 1) ∧ f9 % 5 = 3 ∧ ¬ i 91 (f9 - 1) = 1) := ⟨fun z => ⟨z.1, by omega, z.2.2⟩, fun z => ⟨z.1, by omega, z.2.2⟩⟩
              simp only [e9]) ?_
          exact ih (m + 1) (by omega)
        · refine L_aload_n_0 dL_notices_24 ?_
          refine V_iconst (v := 5) (by decide) dL_notices_25 ?_
          refine L_iload_n_1 dL_notices_26 ?_
          refine V_imul dL_notices_27 ?_
          refine V_iconst (v := 3) (by decide) dL_notices_28 ?_
          refine V_iadd dL_notices_29 ?_
          refine U_iald (n := (5 * m + 3)) dL_notices_30 rfl (mdx5 rfl rfl) (by omega) (by decide) ?_
          refine V_eqv (y := i 91 (5 * m + 3)) (by unfold ntF; rw [if_neg (by omega)]) ?_
          refine V_goto (tgt := 35) dL_notices_31 (by decide) ?_
          refine U_iast (n := (5 * m + 3)) dL_notices_35 rfl (mdx5 rfl rfl) (by omega) (by decide) ?_
          refine V_iinc_1 (v := nI (m + 1)) dL_notices_36 (Nat.le_of_ble_eq_true rfl) rfl (nI_1 _) ?_
          refine V_goto (tgt := 2) dL_notices_39 (by decide) ?_
          refine V_eqI (i' := ntF i (m + 1)) (by
            refine up2_ext fun a9 f9 => ?_
            unfold up2 ntF
            by_cases e1 : a9 = 91 ∧ f9 = 5 * m + 3
            · obtain ⟨rfl, rfl⟩ := e1
              first | (rw [if_pos ⟨rfl, rfl⟩, if_pos ⟨rfl, by omega, by omega, h21⟩]; done) | (rw [if_pos ⟨rfl, rfl⟩, if_neg (fun z => z.2.2.2 h21)]; done)
            · rw [if_neg e1]
              have e9 : (a9 = 91 ∧ f9 < 5 * m ∧ f9 % 5 = 3 ∧ ¬ i 91 (f9 - 1) = 1) ↔ (a9 = 91 ∧ f9 < 5 * (m + 1) ∧ f9 % 5 = 3 ∧ ¬ i 91 (f9 - 1) = 1) := ⟨fun z => ⟨z.1, by omega, z.2.2⟩, fun z => ⟨z.1, by omega, z.2.2⟩⟩
              simp only [e9]) ?_
          exact ih (m + 1) (by omega)
  refine V_eqI (i' := ntF i 0) (by
    refine up2_ext fun a9 f9 => ?_
    unfold ntF
    rw [if_neg (by omega)]) ?_
  refine V_iconst (v := 0) (by decide) dL_notices_0 ?_
  refine V_istore_n_1 dL_notices_1 (Nat.le_of_ble_eq_true rfl) rfl ?_
  exact loop 4 0 (by omega)
def lco (e : Nat → Int32) (k : Nat) : Int32 := 1 + bcI (e (3 * k + 1) ||| e (3 * k + 2))
theorem k_L_costOf {g : G0} {j : Nat → Nat → Int64} (d : Nat) {i : Nat → Nat → Int32} {k : Nat} (hk : k < 6) (h1 : L30 (i 90 (3 * k + 1))) (h2 : L30 (i 90 (3 * k + 2)))  : C g m_L_costOf (d + 1) 0 0 false [.int (nI k), .ref 90] (mk i j) (rets (some (.int (lco (i 90) k))) (mk i j)) := by
  refine C_of (L := [some (.int (nI k)), some (.ref 90)]) rfl ?_
  refine V_iconst (v := 1) (by decide) dL_costOf_0 ?_
  refine L_aload_n_1 dL_costOf_1 ?_
  refine V_iconst (v := 3) (by decide) dL_costOf_2 ?_
  refine L_iload_n_0 dL_costOf_3 ?_
  refine V_imul dL_costOf_4 ?_
  refine V_iconst (v := 1) (by decide) dL_costOf_5 ?_
  refine V_iadd dL_costOf_6 ?_
  refine U_iald (n := (3 * k + 1)) dL_costOf_7 rfl (md3 rfl rfl) (by omega) (by decide) ?_
  refine L_aload_n_1 dL_costOf_8 ?_
  refine V_iconst (v := 3) (by decide) dL_costOf_9 ?_
  refine L_iload_n_0 dL_costOf_10 ?_
  refine V_imul dL_costOf_11 ?_
  refine V_iconst (v := 2) (by decide) dL_costOf_12 ?_
  refine V_iadd dL_costOf_13 ?_
  refine U_iald (n := (3 * k + 2)) dL_costOf_14 rfl (md3 rfl rfl) (by omega) (by decide) ?_
  refine V_ior dL_costOf_15 ?_
  refine Q_v1 (lkR_RL_92 rfl dL_costOf_16) (k_L_ones 0 (L30_or h1 h2)) ⟨pn_L_ones, rfl, (Nat.le_of_ble_eq_true rfl), (Nat.le_of_ble_eq_true rfl), rfl⟩ (trivial) cfn (by omega) (Nat.le_of_ble_eq_true rfl) ?_
  refine V_iadd dL_costOf_19 ?_
  exact V_iret dL_costOf_20 rfl rfl (⟨rfl, rfl⟩)
def lpS (s x : Int32) : Int32 := s + (if s < 999 then x else 0)
def lpa (e : Nat → Int32) (x : Int32) : Nat → Int32
  | 0 => 999
  | m + 1 => lpS (if e (3 * m) = x then 0 else lpa e x m) (lco e m)
theorem k_L_path {g : G0} {j : Nat → Nat → Int64} (d : Nat) {i : Nat → Nat → Int32} {x : Int32} {c : Nat} (hc : i 89 4 = nI c) (h6 : c ≤ 6) (hL : ∀ e, e < c → L30 (i 90 (3 * e + 1)) ∧ L30 (i 90 (3 * e + 2)))  : C g m_L_path (d + 2) 0 0 false [.int x, .ref 89, .ref 90] (mk i j) (rets (some (.int (lpa (i 90) x c))) (mk i j)) := by
  refine C_of (L := [some (.int x), some (.ref 89), some (.ref 90), none, none]) rfl ?_
  have loop : ∀ (n m : Nat), m + n = c → V g m_L_path (d + 2) 0 0 false (Kp g false (rets (some (.int (lpa (i 90) x c))) (mk i j))) 7 [some (.int x), some (.ref 89), some (.ref 90), some (.int (lpa (i 90) x m)), some (.int (nI m))] [] (mk i j) := by
    intro n
    induction n with
    | zero =>
      intro m hm
      have hm0 : m = c := by omega
      subst hm0
      refine L_iload_4 dL_path_7 ?_
      refine L_aload_n_1 dL_path_9 ?_
      refine V_iconst (v := 4) (by decide) dL_path_10 ?_
      refine U_iald (n := 4) dL_path_11 rfl (rfl) (by decide) (by decide) ?_
      refine V_icmp_ge (tgt := 57) dL_path_12 (by decide) (fun h12 => ?_) (fun h12 => ?_)
      · refine L_iload_n_3 dL_path_57 ?_
        exact V_iret dL_path_58 rfl rfl (⟨rfl, rfl⟩)
      · exact absurd (by rw [hc]; exact Int32.le_refl _) h12
    | succ n ih =>
      intro m hm
      have hlt : m < c := by omega
      refine L_iload_4 dL_path_7 ?_
      refine L_aload_n_1 dL_path_9 ?_
      refine V_iconst (v := 4) (by decide) dL_path_10 ?_
      refine U_iald (n := 4) dL_path_11 rfl (rfl) (by decide) (by decide) ?_
      refine V_eqv (y := nI c) hc ?_
      refine V_icmp_ge (tgt := 57) dL_path_12 (by decide) (fun h12 => ?_) (fun h12 => ?_)
      · exact absurd ((nI_leI (a := c) (b := m) (by omega) (by omega)).mp h12) (by omega)
      · refine L_aload_n_2 dL_path_15 ?_
        refine V_iconst (v := 3) (by decide) dL_path_16 ?_
        refine L_iload_4 dL_path_17 ?_
        refine V_imul dL_path_19 ?_
        refine U_iald (n := (3 * m)) dL_path_20 rfl (pk_mul 3 m) (by omega) (by decide) ?_
        refine L_iload_n_0 dL_path_21 ?_
        refine V_icmp_ne (tgt := 29) dL_path_22 (by decide) (fun h22 => ?_) (fun h22 => ?_)
        · refine L_iload_n_3 dL_path_29 ?_
          refine V_istore_n_3 dL_path_30 (Nat.le_of_ble_eq_true rfl) rfl ?_
          refine L_iload_n_3 dL_path_31 ?_
          refine L_iload_n_3 dL_path_32 ?_
          refine V_sipush (v := 999) (by decide) dL_path_33 ?_
          refine V_icmp_ge (tgt := 48) dL_path_36 (by decide) (fun h36 => ?_) (fun h36 => ?_)
          · refine V_iconst (v := 0) (by decide) dL_path_48 ?_
            refine V_iadd dL_path_49 ?_
            refine V_eqv (y := lpa (i 90) x (m + 1)) (by show _ = lpS (if _ then _ else _) _; unfold lpS; rw [if_neg h22, if_neg (Int32.not_lt.mpr h36)]) ?_
            refine V_istore_n_3 dL_path_50 (Nat.le_of_ble_eq_true rfl) rfl ?_
            refine V_iinc_4 (v := nI (m + 1)) dL_path_51 (Nat.le_of_ble_eq_true rfl) rfl (nI_1 _) ?_
            refine V_goto (tgt := 7) dL_path_54 (by decide) ?_
            exact ih (m + 1) (by omega)
          · refine L_iload_4 dL_path_39 ?_
            refine L_aload_n_2 dL_path_41 ?_
            refine Q_v2 (lkR_RL_97 rfl dL_path_42) (k_L_costOf 0 (k := m) (by omega) (hL m (by omega)).1 (hL m (by omega)).2) ⟨pn_L_costOf, rfl, (Nat.le_of_ble_eq_true rfl), (Nat.le_of_ble_eq_true rfl), rfl⟩ (trivial) cfn (by omega) (Nat.le_of_ble_eq_true rfl) ?_
            refine V_goto (tgt := 49) dL_path_45 (by decide) ?_
            refine V_iadd dL_path_49 ?_
            refine V_eqv (y := lpa (i 90) x (m + 1)) (by show _ = lpS (if _ then _ else _) _; unfold lpS; rw [if_neg h22, if_pos (Int32.not_le.mp h36)]) ?_
            refine V_istore_n_3 dL_path_50 (Nat.le_of_ble_eq_true rfl) rfl ?_
            refine V_iinc_4 (v := nI (m + 1)) dL_path_51 (Nat.le_of_ble_eq_true rfl) rfl (nI_1 _) ?_
            refine V_goto (tgt := 7) dL_path_54 (by decide) ?_
            exact ih (m + 1) (by omega)
        · refine V_iconst (v := 0) (by decide) dL_path_25 ?_
          refine V_goto (tgt := 30) dL_path_26 (by decide) ?_
          refine V_istore_n_3 dL_path_30 (Nat.le_of_ble_eq_true rfl) rfl ?_
          refine L_iload_n_3 dL_path_31 ?_
          refine L_iload_n_3 dL_path_32 ?_
          refine V_sipush (v := 999) (by decide) dL_path_33 ?_
          refine V_icmp_ge (tgt := 48) dL_path_36 (by decide) (fun h36 => ?_) (fun h36 => ?_)
          · exfalso; revert h36; decide
          · refine L_iload_4 dL_path_39 ?_
            refine L_aload_n_2 dL_path_41 ?_
            refine Q_v2 (lkR_RL_97 rfl dL_path_42) (k_L_costOf 0 (k := m) (by omega) (hL m (by omega)).1 (hL m (by omega)).2) ⟨pn_L_costOf, rfl, (Nat.le_of_ble_eq_true rfl), (Nat.le_of_ble_eq_true rfl), rfl⟩ (trivial) cfn (by omega) (Nat.le_of_ble_eq_true rfl) ?_
            refine V_goto (tgt := 49) dL_path_45 (by decide) ?_
            refine V_iadd dL_path_49 ?_
            refine V_eqv (y := lpa (i 90) x (m + 1)) (by show _ = lpS (if _ then _ else _) _; unfold lpS; rw [if_pos h22, if_pos (Int32.not_le.mp h36)]) ?_
            refine V_istore_n_3 dL_path_50 (Nat.le_of_ble_eq_true rfl) rfl ?_
            refine V_iinc_4 (v := nI (m + 1)) dL_path_51 (Nat.le_of_ble_eq_true rfl) rfl (nI_1 _) ?_
            refine V_goto (tgt := 7) dL_path_54 (by decide) ?_
            exact ih (m + 1) (by omega)
  refine V_sipush (v := 999) (by decide) dL_path_0 ?_
  refine V_istore_n_3 dL_path_3 (Nat.le_of_ble_eq_true rfl) rfl ?_
  refine V_iconst (v := 0) (by decide) dL_path_4 ?_
  refine V_istore_4 dL_path_5 (Nat.le_of_ble_eq_true rfl) rfl ?_
  exact loop c 0 (by omega)
def lan (p e f : Nat → Int32) (k c : Nat) : Int32 := if f (5 * k) < 0 then 2 else if nwI (p 2) (f (5 * k + 1)) = 0 then 0 else if nwI (p 2) (f (5 * k + 1)) < 0 then 3 else if 1 + bcI (p 1) < lpa e (f (5 * k + 1)) c then 2 else 1
def lcn (p e f : Nat → Int32) (k c : Nat) : Int32 := if lan p e f k c = 1 then lpa e (f (5 * k + 1)) c else if lan p e f k c = 2 then 1 + bcI (p 1) else 0
/-- what the law's answers ask of its rows -/
def AW (i : Nat → Nat → Int32) (c n : Nat) : Prop := i 89 4 = nI c ∧ c ≤ 6 ∧ i 89 2 = nI n ∧ n < 16 ∧ L30 (i 89 1) ∧ (∀ e, e < c → L30 (i 90 (3 * e + 1)) ∧ L30 (i 90 (3 * e + 2))) ∧ ∀ f, f < 4 → ¬ i 91 (5 * f) < 0 → ∃ e, e < 16 ∧ i 91 (5 * f + 1) = nI e
theorem k_L_newer' {g : G0} {j : Nat → Nat → Int64} (d : Nat) {i : Nat → Nat → Int32} {a b : Int32} {p q : Nat} (hp : p < 16) (hq : q < 16) (ha : a = nI p) (hb : b = nI q) : C g m_L_newer (d + 0) 0 0 false [.int a, .int b] (mk i j) (rets (some (.int (nwI a b))) (mk i j)) := by
  subst ha hb
  exact k_L_newer d hp hq
theorem k_L_answers {g : G0} {j : Nat → Nat → Int64} (d : Nat) {i : Nat → Nat → Int32} {k c n : Nat} (hk : k < 4) (hA : AW i c n)  : C g m_L_answers (d + 3) 0 0 false [.int (nI k), .ref 89, .ref 90, .ref 91] (mk i j) (rets (some (.int (lan (i 89) (i 90) (i 91) k c))) (mk i j)) := by
  refine C_of (L := [some (.int (nI k)), some (.ref 89), some (.ref 90), some (.ref 91), none]) rfl ?_
  obtain ⟨hc, h6, hn, hn16, hL1, hL, hE⟩ := hA
  refine L_aload_n_3 dL_answers_0 ?_
  refine V_iconst (v := 5) (by decide) dL_answers_1 ?_
  refine L_iload_n_0 dL_answers_2 ?_
  refine V_imul dL_answers_3 ?_
  refine U_iald (n := (5 * k)) dL_answers_4 rfl (pk_mul 5 k) (by omega) (by decide) ?_
  refine V_ifx_ge (tgt := 10) dL_answers_5 (by decide) (fun h5 => ?_) (fun h5 => ?_)
  · refine L_aload_n_1 dL_answers_10 ?_
    refine V_iconst (v := 2) (by decide) dL_answers_11 ?_
    refine U_iald (n := 2) dL_answers_12 rfl (rfl) (by decide) (by decide) ?_
    refine L_aload_n_3 dL_answers_13 ?_
    refine V_iconst (v := 5) (by decide) dL_answers_14 ?_
    refine L_iload_n_0 dL_answers_15 ?_
    refine V_imul dL_answers_16 ?_
    refine V_iconst (v := 1) (by decide) dL_answers_17 ?_
    refine V_iadd dL_answers_18 ?_
    refine U_iald (n := (5 * k + 1)) dL_answers_19 rfl (mdx5 rfl rfl) (by omega) (by decide) ?_
    obtain ⟨e0, he0, he1⟩ := hE k hk (Int32.not_lt.mpr h5)
    refine Q_v2 (lkR_RL_101 rfl dL_answers_20) (k_L_newer' 0 hn16 he0 hn he1) ⟨pn_L_newer, rfl, (Nat.le_of_ble_eq_true rfl), (Nat.le_of_ble_eq_true rfl), rfl⟩ (trivial) cfn (by omega) (Nat.le_of_ble_eq_true rfl) ?_
    refine V_istore_4 dL_answers_23 (Nat.le_of_ble_eq_true rfl) rfl ?_
    refine L_iload_4 dL_answers_25 ?_
    refine V_ifx_ne (tgt := 34) dL_answers_27 (by decide) (fun h27 => ?_) (fun h27 => ?_)
    · refine L_iload_4 dL_answers_34 ?_
      refine V_ifx_ge (tgt := 43) dL_answers_36 (by decide) (fun h36 => ?_) (fun h36 => ?_)
      · refine L_aload_n_3 dL_answers_43 ?_
        refine V_iconst (v := 5) (by decide) dL_answers_44 ?_
        refine L_iload_n_0 dL_answers_45 ?_
        refine V_imul dL_answers_46 ?_
        refine V_iconst (v := 1) (by decide) dL_answers_47 ?_
        refine V_iadd dL_answers_48 ?_
        refine U_iald (n := (5 * k + 1)) dL_answers_49 rfl (mdx5 rfl rfl) (by omega) (by decide) ?_
        refine L_aload_n_1 dL_answers_50 ?_
        refine L_aload_n_2 dL_answers_51 ?_
        refine Q_v3 (lkR_RL_104 rfl dL_answers_52) (k_L_path 0 hc h6 hL) ⟨pn_L_path, rfl, (Nat.le_of_ble_eq_true rfl), (Nat.le_of_ble_eq_true rfl), rfl⟩ (trivial) cfn (by omega) (Nat.le_of_ble_eq_true rfl) ?_
        refine V_iconst (v := 1) (by decide) dL_answers_55 ?_
        refine L_aload_n_1 dL_answers_56 ?_
        refine V_iconst (v := 1) (by decide) dL_answers_57 ?_
        refine U_iald (n := 1) dL_answers_58 rfl (rfl) (by decide) (by decide) ?_
        refine Q_v1 (lkR_RL_92 rfl dL_answers_59) (k_L_ones 0 hL1) ⟨pn_L_ones, rfl, (Nat.le_of_ble_eq_true rfl), (Nat.le_of_ble_eq_true rfl), rfl⟩ (trivial) cfn (by omega) (Nat.le_of_ble_eq_true rfl) ?_
        refine V_iadd dL_answers_62 ?_
        refine V_icmp_gt (tgt := 70) dL_answers_63 (by decide) (fun h63 => ?_) (fun h63 => ?_)
        · refine V_iconst (v := 2) (by decide) dL_answers_70 ?_
          exact V_iret dL_answers_71 rfl rfl (rtI (by unfold lan; rw [if_neg (Int32.not_lt.mpr h5), if_neg h27, if_neg (Int32.not_lt.mpr h36), if_pos h63]))
        · refine V_iconst (v := 1) (by decide) dL_answers_66 ?_
          refine V_goto (tgt := 71) dL_answers_67 (by decide) ?_
          exact V_iret dL_answers_71 rfl rfl (rtI (by unfold lan; rw [if_neg (Int32.not_lt.mpr h5), if_neg h27, if_neg (Int32.not_lt.mpr h36), if_neg h63]))
      · refine V_iconst (v := 3) (by decide) dL_answers_39 ?_
        refine V_goto (tgt := 71) dL_answers_40 (by decide) ?_
        exact V_iret dL_answers_71 rfl rfl (rtI (by unfold lan; rw [if_neg (Int32.not_lt.mpr h5), if_neg h27, if_pos (Int32.not_le.mp h36)]))
    · refine V_iconst (v := 0) (by decide) dL_answers_30 ?_
      refine V_goto (tgt := 71) dL_answers_31 (by decide) ?_
      exact V_iret dL_answers_71 rfl rfl (rtI (by unfold lan; rw [if_neg (Int32.not_lt.mpr h5), if_pos h27]))
  · refine V_iconst (v := 2) (by decide) dL_answers_8 ?_
    exact V_iret dL_answers_9 rfl rfl (⟨by unfold lan; rw [if_pos (Int32.not_le.mp h5)], rfl⟩)
theorem k_L_costNow {g : G0} {j : Nat → Nat → Int64} (d : Nat) {i : Nat → Nat → Int32} {k c n : Nat} (hk : k < 4) (hA : AW i c n)  : C g m_L_costNow (d + 4) 0 0 false [.int (nI k), .ref 89, .ref 90, .ref 91] (mk i j) (rets (some (.int (lcn (i 89) (i 90) (i 91) k c))) (mk i j)) := by
  refine C_of (L := [some (.int (nI k)), some (.ref 89), some (.ref 90), some (.ref 91), none]) rfl ?_
  obtain ⟨hc, h6, hn, hn16, hL1, hL, hE⟩ := id hA
  refine L_iload_n_0 dL_costNow_0 ?_
  refine L_aload_n_1 dL_costNow_1 ?_
  refine L_aload_n_2 dL_costNow_2 ?_
  refine L_aload_n_3 dL_costNow_3 ?_
  refine Q_v4 (lkR_RL_108 rfl dL_costNow_4) (k_L_answers 0 hk hA) ⟨pn_L_answers, rfl, (Nat.le_of_ble_eq_true rfl), (Nat.le_of_ble_eq_true rfl), rfl⟩ (trivial) cfn (by omega) (Nat.le_of_ble_eq_true rfl) ?_
  refine V_istore_4 dL_costNow_7 (Nat.le_of_ble_eq_true rfl) rfl ?_
  refine L_iload_4 dL_costNow_9 ?_
  refine V_iconst (v := 1) (by decide) dL_costNow_11 ?_
  refine V_icmp_ne (tgt := 30) dL_costNow_12 (by decide) (fun h12 => ?_) (fun h12 => ?_)
  · refine L_iload_4 dL_costNow_30 ?_
    refine V_iconst (v := 2) (by decide) dL_costNow_32 ?_
    refine V_icmp_ne (tgt := 47) dL_costNow_33 (by decide) (fun h33 => ?_) (fun h33 => ?_)
    · refine V_iconst (v := 0) (by decide) dL_costNow_47 ?_
      exact V_iret dL_costNow_48 rfl rfl (rtI (by unfold lcn; rw [if_neg h12, if_neg h33]))
    · refine V_iconst (v := 1) (by decide) dL_costNow_36 ?_
      refine L_aload_n_1 dL_costNow_37 ?_
      refine V_iconst (v := 1) (by decide) dL_costNow_38 ?_
      refine U_iald (n := 1) dL_costNow_39 rfl (rfl) (by decide) (by decide) ?_
      refine Q_v1 (lkR_RL_92 rfl dL_costNow_40) (k_L_ones 0 hL1) ⟨pn_L_ones, rfl, (Nat.le_of_ble_eq_true rfl), (Nat.le_of_ble_eq_true rfl), rfl⟩ (trivial) cfn (by omega) (Nat.le_of_ble_eq_true rfl) ?_
      refine V_iadd dL_costNow_43 ?_
      refine V_goto (tgt := 48) dL_costNow_44 (by decide) ?_
      exact V_iret dL_costNow_48 rfl rfl (rtI (by unfold lcn; rw [if_neg h12, if_pos h33]))
  · refine L_aload_n_3 dL_costNow_15 ?_
    refine V_iconst (v := 5) (by decide) dL_costNow_16 ?_
    refine L_iload_n_0 dL_costNow_17 ?_
    refine V_imul dL_costNow_18 ?_
    refine V_iconst (v := 1) (by decide) dL_costNow_19 ?_
    refine V_iadd dL_costNow_20 ?_
    refine U_iald (n := (5 * k + 1)) dL_costNow_21 rfl (mdx5 rfl rfl) (by omega) (by decide) ?_
    refine L_aload_n_1 dL_costNow_22 ?_
    refine L_aload_n_2 dL_costNow_23 ?_
    refine Q_v3 (lkR_RL_104 rfl dL_costNow_24) (k_L_path 0 hc h6 hL) ⟨pn_L_path, rfl, (Nat.le_of_ble_eq_true rfl), (Nat.le_of_ble_eq_true rfl), rfl⟩ (trivial) cfn (by omega) (Nat.le_of_ble_eq_true rfl) ?_
    refine V_goto (tgt := 48) dL_costNow_27 (by decide) ?_
    exact V_iret dL_costNow_48 rfl rfl (rtI (by unfold lcn; rw [if_pos h12]))
def lsl (f : Nat → Int32) : Int32 := f 2 + f 7 + f 12 + f 17
theorem k_L_asleep {g : G0} {j : Nat → Nat → Int64} (d : Nat) {i : Nat → Nat → Int32}  : C g m_L_asleep (d + 0) 0 0 false [.ref 91] (mk i j) (rets (some (.int (lsl (i 91)))) (mk i j)) := by
  refine C_of (L := [some (.ref 91)]) rfl ?_
  refine L_aload_n_0 dL_asleep_0 ?_
  refine V_iconst (v := 2) (by decide) dL_asleep_1 ?_
  refine U_iald (n := 2) dL_asleep_2 rfl (rfl) (by decide) (by decide) ?_
  refine L_aload_n_0 dL_asleep_3 ?_
  refine V_bipush (v := 7) (by decide) dL_asleep_4 ?_
  refine U_iald (n := 7) dL_asleep_6 rfl (rfl) (by decide) (by decide) ?_
  refine V_iadd dL_asleep_7 ?_
  refine L_aload_n_0 dL_asleep_8 ?_
  refine V_bipush (v := 12) (by decide) dL_asleep_9 ?_
  refine U_iald (n := 12) dL_asleep_11 rfl (rfl) (by decide) (by decide) ?_
  refine V_iadd dL_asleep_12 ?_
  refine L_aload_n_0 dL_asleep_13 ?_
  refine V_bipush (v := 17) (by decide) dL_asleep_14 ?_
  refine U_iald (n := 17) dL_asleep_16 rfl (rfl) (by decide) (by decide) ?_
  refine V_iadd dL_asleep_17 ?_
  exact V_iret dL_asleep_18 rfl rfl (⟨rfl, rfl⟩)
