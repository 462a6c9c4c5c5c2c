section RFL
variable {i M : Nat → Nat → Int32} {k c n : Nat} {co : Int32}
theorem lan_in : lan (i 89) (i 90) (i 91) k c = 0 ∨ lan (i 89) (i 90) (i 91) k c = 1 ∨ lan (i 89) (i 90) (i 91) k c = 2 ∨ lan (i 89) (i 90) (i 91) k c = 3 := by
  unfold lan
  split
  · exact Or.inr (Or.inr (Or.inl rfl))
  · split
    · exact Or.inl rfl
    · split
      · exact Or.inr (Or.inr (Or.inr rfl))
      · split
        · exact Or.inr (Or.inr (Or.inl rfl))
        · exact Or.inr (Or.inl rfl)
theorem lan_ge : ¬ lan (i 89) (i 90) (i 91) k c < 0 := by
  rcases lan_in (i := i) (k := k) (c := c) with h | h | h | h <;> rw [h] <;> decide
/-- the list after a refresh -/
def rfl9 (i : Nat → Nat → Int32) (k c : Nat) : Int32 := if lan (i 89) (i 90) (i 91) k c = 1 then lap (i 90) (i 91 (5 * k + 1)) c 0 (i 91 (5 * k)) false else i 89 1
theorem rfT_at {b : Nat → Nat → Int32} {x : Int32} (hM : M = up2 (up2 b 91 (5 * k + 3) 0) 91 (5 * k) x) :
    rfT M k co 91 (5 * k) = x ∧ rfT M k co 91 (5 * k + 1) = b 89 2 ∧ rfT M k co 91 (5 * k + 2) = b 91 (5 * k + 2) ∧ rfT M k co 91 (5 * k + 3) = 0 ∧ rfT M k co 91 (5 * k + 4) = b 91 (5 * k + 4) + co ∧ rfT M k co 89 5 = b 89 5 + (1 + bcI (b 89 1)) ∧ ∀ a f, (a ≠ 91 ∨ f < 5 * k ∨ 5 * k + 5 ≤ f) → (a ≠ 89 ∨ f ≠ 5) → rfT M k co a f = b a f := by
  subst hM
  unfold rfT
  refine ⟨?_, ?_, ?_, ?_, ?_, ?_, fun a f h1 h2 => ?_⟩
  · rw [up2_ne (by omega), up2_nf (by omega), up2_nf (by omega), up2_eq]
  · rw [up2_ne (by omega), up2_nf (by omega), up2_eq, up2_ne (by omega), up2_ne (by omega)]
  · rw [up2_ne (by omega), up2_nf (by omega), up2_nf (by omega), up2_nf (by omega), up2_nf (by omega)]
  · rw [up2_ne (by omega), up2_nf (by omega), up2_nf (by omega), up2_nf (by omega), up2_eq]
  · rw [up2_ne (by omega), up2_eq, up2_nf (by omega), up2_nf (by omega)]
  · rw [up2_eq, up2_ne (by omega), up2_ne (by omega), up2_ne (by omega), up2_ne (by omega)]
  · unfold up2
    rw [if_neg (by omega), if_neg (by omega), if_neg (by omega), if_neg (by omega), if_neg (by omega)]
theorem rf_at (h : lan (i 89) (i 90) (i 91) k c = 1 ∨ lan (i 89) (i 90) (i 91) k c = 2) :
    rfL i k c 91 (5 * k) = rfl9 i k c ∧ rfL i k c 91 (5 * k + 1) = i 89 2 ∧ rfL i k c 91 (5 * k + 2) = i 91 (5 * k + 2) ∧ rfL i k c 91 (5 * k + 3) = 0 ∧ rfL i k c 91 (5 * k + 4) = i 91 (5 * k + 4) + lcn (i 89) (i 90) (i 91) k c ∧ rfL i k c 89 5 = i 89 5 + (1 + bcI (i 89 1)) ∧ ∀ a f, (a ≠ 91 ∨ f < 5 * k ∨ 5 * k + 5 ≤ f) → (a ≠ 89 ∨ f ≠ 5) → rfL i k c a f = i a f := by
  unfold rfl9
  by_cases h1 : lan (i 89) (i 90) (i 91) k c = 1
  · rw [rfL_1 h1, if_pos h1]
    exact rfT_at rfl
  · rw [rfL_2 (h.resolve_left h1), if_neg h1]
    exact rfT_at rfl
theorem rf_no (h : ¬ (lan (i 89) (i 90) (i 91) k c = 1 ∨ lan (i 89) (i 90) (i 91) k c = 2)) : rfL i k c = up2 i 91 (5 * k + 3) 0 := rfL_0 (fun z => h (Or.inl z)) (fun z => h (Or.inr z))
theorem rf_oth (a f : Nat) (h1 : a ≠ 91 ∨ f < 5 * k ∨ 5 * k + 5 ≤ f) (h2 : a ≠ 89 ∨ f ≠ 5) : rfL i k c a f = i a f := by
  by_cases h : lan (i 89) (i 90) (i 91) k c = 1 ∨ lan (i 89) (i 90) (i 91) k c = 2
  · exact (rf_at h).2.2.2.2.2.2 a f h1 h2
  · rw [rf_no h]
    unfold up2
    rw [if_neg (by omega)]
theorem AW_rf (h : AW i c n) (hk : k < 4) : AW (rfL i k c) c n := by
  obtain ⟨hc, h6, hn, hn16, hL1, hL, hE⟩ := h
  refine ⟨?_, h6, ?_, hn16, ?_, fun e he => ?_, fun f hf h0 => ?_⟩
  · rw [rf_oth _ _ (by omega) (by omega)]; exact hc
  · rw [rf_oth _ _ (by omega) (by omega)]; exact hn
  · rw [rf_oth _ _ (by omega) (by omega)]; exact hL1
  · rw [rf_oth _ _ (by omega) (by omega), rf_oth _ _ (by omega) (by omega)]; exact hL e he
  · by_cases e : f = k
    · subst e
      by_cases h : lan (i 89) (i 90) (i 91) f c = 1 ∨ lan (i 89) (i 90) (i 91) f c = 2
      · exact ⟨n, hn16, (rf_at h).2.1.trans hn⟩
      · rw [rf_no h] at h0 ⊢
        rw [up2_nf (by omega)] at h0 ⊢
        exact hE f hf h0
    · rw [rf_oth _ _ (by omega) (by omega)] at h0
      rw [rf_oth _ _ (by omega) (by omega)]
      exact hE f hf h0
def raL (c : Nat) (i : Nat → Nat → Int32) : Nat → Nat → Nat → Int32
  | 0 => i
  | m + 1 => if raL c i m 91 (5 * m + 2) = 0 ∧ raL c i m 91 (5 * m + 3) = 1 then rfL (raL c i m) m c else raL c i m
def rnL (c : Nat) (i : Nat → Nat → Int32) : Nat → Int32
  | 0 => 0
  | m + 1 => if raL c i m 91 (5 * m + 2) = 0 ∧ raL c i m 91 (5 * m + 3) = 1 then rnL c i m + 1 else rnL c i m
theorem AW_ra (h : AW i c n) : ∀ m, m ≤ 4 → AW (raL c i m) c n
  | 0, _ => h
  | m + 1, hm => by
    have h9 := AW_ra h m (by omega)
    unfold raL
    split
    · exact AW_rf h9 (by omega)
    · exact h9
theorem raL_y {m : Nat} (h : raL c i m 91 (5 * m + 2) = 0 ∧ raL c i m 91 (5 * m + 3) = 1) : raL c i (m + 1) = rfL (raL c i m) m c ∧ rnL c i (m + 1) = rnL c i m + 1 := ⟨if_pos h, if_pos h⟩
theorem raL_n {m : Nat} (h : ¬ (raL c i m 91 (5 * m + 2) = 0 ∧ raL c i m 91 (5 * m + 3) = 1)) : raL c i (m + 1) = raL c i m ∧ rnL c i (m + 1) = rnL c i m := ⟨if_neg h, if_neg h⟩
end RFL
theorem k_L_due0 {g : G0} {j : Nat → Nat → Int64} (d : Nat) {i i' : Nat → Nat → Int32} {v x : Int32} (hC : C g m_L_ofPrinter d 0 0 false [.int 0, .int x, .ref 89, .ref 90, .ref 91] (mk i j) (rets (some (.int v)) (mk i' j)))  : C g m_L_due (d + 1) 0 0 false [.int 0, .int x, .ref 89, .ref 90, .ref 91] (mk i j) (rets (some (.int v)) (mk i' j)) := by
  refine C_of (L := [some (.int 0), some (.int x), some (.ref 89), some (.ref 90), some (.ref 91), none, none]) rfl ?_
  refine L_iload_n_0 dL_due_0 ?_
  refine V_iconst (v := 3) (by decide) dL_due_1 ?_
  refine V_icmp_lt (tgt := 17) dL_due_2 (by decide) (fun h2 => ?_) (fun h2 => ?_)
  · refine L_iload_n_0 dL_due_17 ?_
    refine L_iload_n_1 dL_due_18 ?_
    refine L_aload_n_2 dL_due_19 ?_
    refine L_aload_n_3 dL_due_20 ?_
    refine L_aload_4 dL_due_21 ?_
    refine Q_v5 (lkR_RL_146 rfl dL_due_23) (hC) ⟨pn_L_ofPrinter, rfl, (Nat.le_of_ble_eq_true rfl), (Nat.le_of_ble_eq_true rfl), rfl⟩ (trivial) cfn (by omega) (Nat.le_of_ble_eq_true rfl) ?_
    exact V_iret dL_due_26 rfl rfl (⟨rfl, rfl⟩)
  · exfalso; revert h2; decide
theorem k_L_due1 {g : G0} {j : Nat → Nat → Int64} (d : Nat) {i i' : Nat → Nat → Int32} {v x : Int32} (hC : C g m_L_ofPrinter d 0 0 false [.int 1, .int x, .ref 89, .ref 90, .ref 91] (mk i j) (rets (some (.int v)) (mk i' j)))  : C g m_L_due (d + 1) 0 0 false [.int 1, .int x, .ref 89, .ref 90, .ref 91] (mk i j) (rets (some (.int v)) (mk i' j)) := by
  refine C_of (L := [some (.int 1), some (.int x), some (.ref 89), some (.ref 90), some (.ref 91), none, none]) rfl ?_
  refine L_iload_n_0 dL_due_0 ?_
  refine V_iconst (v := 3) (by decide) dL_due_1 ?_
  refine V_icmp_lt (tgt := 17) dL_due_2 (by decide) (fun h2 => ?_) (fun h2 => ?_)
  · refine L_iload_n_0 dL_due_17 ?_
    refine L_iload_n_1 dL_due_18 ?_
    refine L_aload_n_2 dL_due_19 ?_
    refine L_aload_n_3 dL_due_20 ?_
    refine L_aload_4 dL_due_21 ?_
    refine Q_v5 (lkR_RL_146 rfl dL_due_23) (hC) ⟨pn_L_ofPrinter, rfl, (Nat.le_of_ble_eq_true rfl), (Nat.le_of_ble_eq_true rfl), rfl⟩ (trivial) cfn (by omega) (Nat.le_of_ble_eq_true rfl) ?_
    exact V_iret dL_due_26 rfl rfl (⟨rfl, rfl⟩)
  · exfalso; revert h2; decide
theorem k_L_due2 {g : G0} {j : Nat → Nat → Int64} (d : Nat) {i i' : Nat → Nat → Int32} {v x : Int32} (hC : C g m_L_ofPrinter d 0 0 false [.int 2, .int x, .ref 89, .ref 90, .ref 91] (mk i j) (rets (some (.int v)) (mk i' j)))  : C g m_L_due (d + 1) 0 0 false [.int 2, .int x, .ref 89, .ref 90, .ref 91] (mk i j) (rets (some (.int v)) (mk i' j)) := by
  refine C_of (L := [some (.int 2), some (.int x), some (.ref 89), some (.ref 90), some (.ref 91), none, none]) rfl ?_
  refine L_iload_n_0 dL_due_0 ?_
  refine V_iconst (v := 3) (by decide) dL_due_1 ?_
  refine V_icmp_lt (tgt := 17) dL_due_2 (by decide) (fun h2 => ?_) (fun h2 => ?_)
  · refine L_iload_n_0 dL_due_17 ?_
    refine L_iload_n_1 dL_due_18 ?_
    refine L_aload_n_2 dL_due_19 ?_
    refine L_aload_n_3 dL_due_20 ?_
    refine L_aload_4 dL_due_21 ?_
    refine Q_v5 (lkR_RL_146 rfl dL_due_23) (hC) ⟨pn_L_ofPrinter, rfl, (Nat.le_of_ble_eq_true rfl), (Nat.le_of_ble_eq_true rfl), rfl⟩ (trivial) cfn (by omega) (Nat.le_of_ble_eq_true rfl) ?_
    exact V_iret dL_due_26 rfl rfl (⟨rfl, rfl⟩)
  · exfalso; revert h2; decide
theorem k_L_due7 {g : G0} {j : Nat → Nat → Int64} (d : Nat) {i i' : Nat → Nat → Int32} {v x : Int32} (hC : C g m_L_ofPrinter d 0 0 false [.int 7, .int x, .ref 89, .ref 90, .ref 91] (mk i j) (rets (some (.int v)) (mk i' j)))  : C g m_L_due (d + 1) 0 0 false [.int 7, .int x, .ref 89, .ref 90, .ref 91] (mk i j) (rets (some (.int v)) (mk i' j)) := by
  refine C_of (L := [some (.int 7), some (.int x), some (.ref 89), some (.ref 90), some (.ref 91), none, none]) rfl ?_
  refine L_iload_n_0 dL_due_0 ?_
  refine V_iconst (v := 3) (by decide) dL_due_1 ?_
  refine V_icmp_lt (tgt := 17) dL_due_2 (by decide) (fun h2 => ?_) (fun h2 => ?_)
  · exfalso; revert h2; decide
  · refine L_iload_n_0 dL_due_5 ?_
    refine V_bipush (v := 7) (by decide) dL_due_6 ?_
    refine V_icmp_eq (tgt := 17) dL_due_8 (by decide) (fun h8 => ?_) (fun h8 => ?_)
    · refine L_iload_n_0 dL_due_17 ?_
      refine L_iload_n_1 dL_due_18 ?_
      refine L_aload_n_2 dL_due_19 ?_
      refine L_aload_n_3 dL_due_20 ?_
      refine L_aload_4 dL_due_21 ?_
      refine Q_v5 (lkR_RL_146 rfl dL_due_23) (hC) ⟨pn_L_ofPrinter, rfl, (Nat.le_of_ble_eq_true rfl), (Nat.le_of_ble_eq_true rfl), rfl⟩ (trivial) cfn (by omega) (Nat.le_of_ble_eq_true rfl) ?_
      exact V_iret dL_due_26 rfl rfl (⟨rfl, rfl⟩)
    · exfalso; revert h8; decide
theorem k_L_due8 {g : G0} {j : Nat → Nat → Int64} (d : Nat) {i i' : Nat → Nat → Int32} {v x : Int32} (hC : C g m_L_ofPrinter d 0 0 false [.int 8, .int x, .ref 89, .ref 90, .ref 91] (mk i j) (rets (some (.int v)) (mk i' j)))  : C g m_L_due (d + 1) 0 0 false [.int 8, .int x, .ref 89, .ref 90, .ref 91] (mk i j) (rets (some (.int v)) (mk i' j)) := by
  refine C_of (L := [some (.int 8), some (.int x), some (.ref 89), some (.ref 90), some (.ref 91), none, none]) rfl ?_
  refine L_iload_n_0 dL_due_0 ?_
  refine V_iconst (v := 3) (by decide) dL_due_1 ?_
  refine V_icmp_lt (tgt := 17) dL_due_2 (by decide) (fun h2 => ?_) (fun h2 => ?_)
  · exfalso; revert h2; decide
  · refine L_iload_n_0 dL_due_5 ?_
    refine V_bipush (v := 7) (by decide) dL_due_6 ?_
    refine V_icmp_eq (tgt := 17) dL_due_8 (by decide) (fun h8 => ?_) (fun h8 => ?_)
    · exfalso; revert h8; decide
    · refine L_iload_n_0 dL_due_11 ?_
      refine V_bipush (v := 8) (by decide) dL_due_12 ?_
      refine V_icmp_ne (tgt := 27) dL_due_14 (by decide) (fun h14 => ?_) (fun h14 => ?_)
      · exfalso; revert h14; decide
      · refine L_iload_n_0 dL_due_17 ?_
        refine L_iload_n_1 dL_due_18 ?_
        refine L_aload_n_2 dL_due_19 ?_
        refine L_aload_n_3 dL_due_20 ?_
        refine L_aload_4 dL_due_21 ?_
        refine Q_v5 (lkR_RL_146 rfl dL_due_23) (hC) ⟨pn_L_ofPrinter, rfl, (Nat.le_of_ble_eq_true rfl), (Nat.le_of_ble_eq_true rfl), rfl⟩ (trivial) cfn (by omega) (Nat.le_of_ble_eq_true rfl) ?_
        exact V_iret dL_due_26 rfl rfl (⟨rfl, rfl⟩)
theorem k_L_due4 {g : G0} {j : Nat → Nat → Int64} (d : Nat) {i : Nat → Nat → Int32} {x : Int32} {c n : Nat} (hA : AW i c n)  : C g m_L_due (d + 6) 0 0 false [.int 4, .int x, .ref 89, .ref 90, .ref 91] (mk i j) (rets (some (.int (rnL c i 4))) (mk (raL c i 4) j)) := by
  refine C_of (L := [some (.int 4), some (.int x), some (.ref 89), some (.ref 90), some (.ref 91), none, none]) rfl ?_
  have loop : ∀ (n m : Nat), m + n = 4 → V g m_L_due (d + 6) 0 0 false (Kp g false (rets (some (.int (rnL c i 4))) (mk (raL c i 4) j))) 38 [some (.int 4), some (.int x), some (.ref 89), some (.ref 90), some (.ref 91), some (.int (rnL c i m)), some (.int (nI m))] [] (mk (raL c i m) j) := by
    intro n
    induction n with
    | zero =>
      intro m hm
      have hm0 : m = 4 := by omega
      subst hm0
      refine L_iload_6 dL_due_38 ?_
      refine V_iconst (v := 4) (by decide) dL_due_40 ?_
      refine V_icmp_ge (tgt := 97) dL_due_41 (by decide) (fun h41 => ?_) (fun h41 => ?_)
      · refine L_iload_5 dL_due_97 ?_
        exact V_iret dL_due_99 rfl rfl (⟨rfl, rfl⟩)
      · exact absurd (by decide) h41
    | succ n ih =>
      intro m hm
      have hlt : m < 4 := by omega
      refine L_iload_6 dL_due_38 ?_
      refine V_iconst (v := 4) (by decide) dL_due_40 ?_
      refine V_icmp_ge (tgt := 97) dL_due_41 (by decide) (fun h41 => ?_) (fun h41 => ?_)
      · exact absurd ((nI_leI (a := 4) (b := m) (by omega) (by omega)).mp h41) (by omega)
      · refine L_aload_4 dL_due_44 ?_
        refine V_iconst (v := 5) (by decide) dL_due_46 ?_
        refine L_iload_6 dL_due_47 ?_
        refine V_imul dL_due_49 ?_
        refine V_iconst (v := 2) (by decide) dL_due_50 ?_
        refine V_iadd dL_due_51 ?_
        refine U_iald (n := (5 * m + 2)) dL_due_52 rfl (mdx5 rfl rfl) (by omega) (by decide) ?_
        refine V_ifx_ne (tgt := 91) dL_due_53 (by decide) (fun h53 => ?_) (fun h53 => ?_)
        · refine V_iinc_6 (v := nI (m + 1)) dL_due_91 (Nat.le_of_ble_eq_true rfl) rfl (nI_1 _) ?_
          refine V_goto (tgt := 38) dL_due_94 (by decide) ?_
          have e9 := ih (m + 1) (by omega)
          rw [(raL_n (fun z => h53 z.1)).1, (raL_n (fun z => h53 z.1)).2] at e9
          exact e9
        · refine L_aload_4 dL_due_56 ?_
          refine V_iconst (v := 5) (by decide) dL_due_58 ?_
          refine L_iload_6 dL_due_59 ?_
          refine V_imul dL_due_61 ?_
          refine V_iconst (v := 3) (by decide) dL_due_62 ?_
          refine V_iadd dL_due_63 ?_
          refine U_iald (n := (5 * m + 3)) dL_due_64 rfl (mdx5 rfl rfl) (by omega) (by decide) ?_
          refine V_iconst (v := 1) (by decide) dL_due_65 ?_
          refine V_icmp_ne (tgt := 91) dL_due_66 (by decide) (fun h66 => ?_) (fun h66 => ?_)
          · refine V_iinc_6 (v := nI (m + 1)) dL_due_91 (Nat.le_of_ble_eq_true rfl) rfl (nI_1 _) ?_
            refine V_goto (tgt := 38) dL_due_94 (by decide) ?_
            have e9 := ih (m + 1) (by omega)
            rw [(raL_n (fun z => h66 z.2)).1, (raL_n (fun z => h66 z.2)).2] at e9
            exact e9
          · refine L_iload_5 dL_due_69 ?_
            refine L_iload_6 dL_due_71 ?_
            refine L_aload_n_2 dL_due_73 ?_
            refine L_aload_n_3 dL_due_74 ?_
            refine L_aload_4 dL_due_75 ?_
            refine Q_v4 (lkR_RL_150 rfl dL_due_77) (k_L_refreshes 0 (k := m) (by omega) (AW_ra hA m (by omega))) ⟨pn_L_refreshes, rfl, (Nat.le_of_ble_eq_true rfl), (Nat.le_of_ble_eq_true rfl), rfl⟩ (trivial) cfn (by omega) (Nat.le_of_ble_eq_true rfl) ?_
            refine V_ifx_ge (tgt := 87) dL_due_80 (by decide) (fun h80 => ?_) (fun h80 => ?_)
            · refine V_iconst (v := 1) (by decide) dL_due_87 ?_
              refine V_iadd dL_due_88 ?_
              refine V_istore_5 dL_due_89 (Nat.le_of_ble_eq_true rfl) rfl ?_
              refine V_iinc_6 (v := nI (m + 1)) dL_due_91 (Nat.le_of_ble_eq_true rfl) rfl (nI_1 _) ?_
              refine V_goto (tgt := 38) dL_due_94 (by decide) ?_
              rw [← (raL_y ⟨h53, h66⟩).1, ← (raL_y ⟨h53, h66⟩).2]
              exact ih (m + 1) (by omega)
            · exact absurd (Int32.not_lt.mp lan_ge) h80
  refine L_iload_n_0 dL_due_0 ?_
  refine V_iconst (v := 3) (by decide) dL_due_1 ?_
  refine V_icmp_lt (tgt := 17) dL_due_2 (by decide) (fun h2 => ?_) (fun h2 => ?_)
  · exfalso; revert h2; decide
  · refine L_iload_n_0 dL_due_5 ?_
    refine V_bipush (v := 7) (by decide) dL_due_6 ?_
    refine V_icmp_eq (tgt := 17) dL_due_8 (by decide) (fun h8 => ?_) (fun h8 => ?_)
    · exfalso; revert h8; decide
    · refine L_iload_n_0 dL_due_11 ?_
      refine V_bipush (v := 8) (by decide) dL_due_12 ?_
      refine V_icmp_ne (tgt := 27) dL_due_14 (by decide) (fun h14 => ?_) (fun h14 => ?_)
      · refine L_iload_n_0 dL_due_27 ?_
        refine V_iconst (v := 4) (by decide) dL_due_28 ?_
        refine V_icmp_ne (tgt := 100) dL_due_29 (by decide) (fun h29 => ?_) (fun h29 => ?_)
        · exfalso; revert h29; decide
        · refine V_iconst (v := 0) (by decide) dL_due_32 ?_
          refine V_istore_5 dL_due_33 (Nat.le_of_ble_eq_true rfl) rfl ?_
          refine V_iconst (v := 0) (by decide) dL_due_35 ?_
          refine V_istore_6 dL_due_36 (Nat.le_of_ble_eq_true rfl) rfl ?_
          exact loop 4 0 (by omega)
      · exfalso; revert h14; decide
theorem k_L_due9 {g : G0} {j : Nat → Nat → Int64} (d : Nat) {i : Nat → Nat → Int32} {v : Nat} (hv : v < 4) (hL : ¬ i 91 (5 * v) < 0 → L30 (i 91 (5 * v)))  : C g m_L_due (d + 1) 0 0 false [.int 9, .int (nI v), .ref 89, .ref 90, .ref 91] (mk i j) (rets (some (.int (if i 91 (5 * v) < 0 then -1 else bcI (i 91 (5 * v))))) (mk (up2 i 91 (5 * v) (-1)) j)) := by
  refine C_of (L := [some (.int 9), some (.int (nI v)), some (.ref 89), some (.ref 90), some (.ref 91), none, none]) rfl ?_
  refine L_iload_n_0 dL_due_0 ?_
  refine V_iconst (v := 3) (by decide) dL_due_1 ?_
  refine V_icmp_lt (tgt := 17) dL_due_2 (by decide) (fun h2 => ?_) (fun h2 => ?_)
  · exfalso; revert h2; decide
  · refine L_iload_n_0 dL_due_5 ?_
    refine V_bipush (v := 7) (by decide) dL_due_6 ?_
    refine V_icmp_eq (tgt := 17) dL_due_8 (by decide) (fun h8 => ?_) (fun h8 => ?_)
    · exfalso; revert h8; decide
    · refine L_iload_n_0 dL_due_11 ?_
      refine V_bipush (v := 8) (by decide) dL_due_12 ?_
      refine V_icmp_ne (tgt := 27) dL_due_14 (by decide) (fun h14 => ?_) (fun h14 => ?_)
      · refine L_iload_n_0 dL_due_27 ?_
        refine V_iconst (v := 4) (by decide) dL_due_28 ?_
        refine V_icmp_ne (tgt := 100) dL_due_29 (by decide) (fun h29 => ?_) (fun h29 => ?_)
        · refine V_iconst (v := 5) (by decide) dL_due_100 ?_
          refine L_iload_n_1 dL_due_101 ?_
          refine V_imul dL_due_102 ?_
          refine V_eqv (y := nI (5 * v)) (pk_mul 5 v) ?_
          refine V_istore_5 dL_due_103 (Nat.le_of_ble_eq_true rfl) rfl ?_
          refine L_iload_n_0 dL_due_105 ?_
          refine V_bipush (v := 9) (by decide) dL_due_106 ?_
          refine V_icmp_ne (tgt := 142) dL_due_108 (by decide) (fun h108 => ?_) (fun h108 => ?_)
          · exfalso; revert h108; decide
          · refine L_aload_4 dL_due_111 ?_
            refine L_iload_5 dL_due_113 ?_
            refine U_iald (n := 5 * v) dL_due_115 rfl (rfl) (by omega) (by decide) ?_
            refine V_ifx_ge (tgt := 123) dL_due_116 (by decide) (fun h116 => ?_) (fun h116 => ?_)
            · refine L_aload_4 dL_due_123 ?_
              refine L_iload_5 dL_due_125 ?_
              refine U_iald (n := 5 * v) dL_due_127 rfl (rfl) (by omega) (by decide) ?_
              refine Q_v1 (lkR_RL_92 rfl dL_due_128) (k_L_ones 0 (hL (Int32.not_lt.mpr h116))) ⟨pn_L_ones, rfl, (Nat.le_of_ble_eq_true rfl), (Nat.le_of_ble_eq_true rfl), rfl⟩ (trivial) cfn (by omega) (Nat.le_of_ble_eq_true rfl) ?_
              refine V_istore_6 dL_due_131 (Nat.le_of_ble_eq_true rfl) rfl ?_
              refine L_aload_4 dL_due_133 ?_
              refine L_iload_5 dL_due_135 ?_
              refine V_iconst (v := (-1)) (by decide) dL_due_137 ?_
              refine U_iast (n := 5 * v) dL_due_138 rfl (rfl) (by omega) (by decide) ?_
              refine L_iload_6 dL_due_139 ?_
              exact V_iret dL_due_141 rfl rfl (rtI (if_neg (Int32.not_lt.mpr h116)).symm)
            · refine V_iconst (v := (-1)) (by decide) dL_due_119 ?_
              refine V_goto (tgt := 131) dL_due_120 (by decide) ?_
              refine V_istore_6 dL_due_131 (Nat.le_of_ble_eq_true rfl) rfl ?_
              refine L_aload_4 dL_due_133 ?_
              refine L_iload_5 dL_due_135 ?_
              refine V_iconst (v := (-1)) (by decide) dL_due_137 ?_
              refine U_iast (n := 5 * v) dL_due_138 rfl (rfl) (by omega) (by decide) ?_
              refine L_iload_6 dL_due_139 ?_
              exact V_iret dL_due_141 rfl rfl (rtI (if_pos (Int32.not_le.mp h116)).symm)
        · exfalso; revert h29; decide
      · exfalso; revert h14; decide
theorem k_L_due3 {g : G0} {j : Nat → Nat → Int64} (d : Nat) {i : Nat → Nat → Int32} {v c n : Nat} (hv : v < 4) (hA : AW i c n) (hs : i 91 (5 * v + 2) = 0)  : C g m_L_due (d + 6) 0 0 false [.int 3, .int (nI v), .ref 89, .ref 90, .ref 91] (mk i j) (rets (some (.int (lan (i 89) (i 90) (i 91) v c))) (mk (rfL i v c) j)) := by
  refine C_of (L := [some (.int 3), some (.int (nI v)), some (.ref 89), some (.ref 90), some (.ref 91), none, none]) rfl ?_
  refine L_iload_n_0 dL_due_0 ?_
  refine V_iconst (v := 3) (by decide) dL_due_1 ?_
  refine V_icmp_lt (tgt := 17) dL_due_2 (by decide) (fun h2 => ?_) (fun h2 => ?_)
  · exfalso; revert h2; decide
  · refine L_iload_n_0 dL_due_5 ?_
    refine V_bipush (v := 7) (by decide) dL_due_6 ?_
    refine V_icmp_eq (tgt := 17) dL_due_8 (by decide) (fun h8 => ?_) (fun h8 => ?_)
    · exfalso; revert h8; decide
    · refine L_iload_n_0 dL_due_11 ?_
      refine V_bipush (v := 8) (by decide) dL_due_12 ?_
      refine V_icmp_ne (tgt := 27) dL_due_14 (by decide) (fun h14 => ?_) (fun h14 => ?_)
      · refine L_iload_n_0 dL_due_27 ?_
        refine V_iconst (v := 4) (by decide) dL_due_28 ?_
        refine V_icmp_ne (tgt := 100) dL_due_29 (by decide) (fun h29 => ?_) (fun h29 => ?_)
        · refine V_iconst (v := 5) (by decide) dL_due_100 ?_
          refine L_iload_n_1 dL_due_101 ?_
          refine V_imul dL_due_102 ?_
          refine V_eqv (y := nI (5 * v)) (pk_mul 5 v) ?_
          refine V_istore_5 dL_due_103 (Nat.le_of_ble_eq_true rfl) rfl ?_
          refine L_iload_n_0 dL_due_105 ?_
          refine V_bipush (v := 9) (by decide) dL_due_106 ?_
          refine V_icmp_ne (tgt := 142) dL_due_108 (by decide) (fun h108 => ?_) (fun h108 => ?_)
          · refine L_aload_4 dL_due_142 ?_
            refine L_iload_5 dL_due_144 ?_
            refine V_iconst (v := 2) (by decide) dL_due_146 ?_
            refine V_iadd dL_due_147 ?_
            refine U_iald (n := (5 * v + 2)) dL_due_148 rfl (nI_add (5 * v) 2) (by omega) (by decide) ?_
            refine L_iload_n_0 dL_due_149 ?_
            refine V_bipush (v := 6) (by decide) dL_due_150 ?_
            refine V_icmp_ne (tgt := 159) dL_due_152 (by decide) (fun h152 => ?_) (fun h152 => ?_)
            · refine V_iconst (v := 0) (by decide) dL_due_159 ?_
              refine V_icmp_eq (tgt := 166) dL_due_160 (by decide) (fun h160 => ?_) (fun h160 => ?_)
              · refine L_iload_n_0 dL_due_166 ?_
                refine V_iconst (v := 3) (by decide) dL_due_167 ?_
                refine V_icmp_ne (tgt := 180) dL_due_168 (by decide) (fun h168 => ?_) (fun h168 => ?_)
                · exfalso; revert h168; decide
                · refine L_iload_n_1 dL_due_171 ?_
                  refine L_aload_n_2 dL_due_172 ?_
                  refine L_aload_n_3 dL_due_173 ?_
                  refine L_aload_4 dL_due_174 ?_
                  refine Q_v4 (lkR_RL_150 rfl dL_due_176) (k_L_refreshes 0 hv hA) ⟨pn_L_refreshes, rfl, (Nat.le_of_ble_eq_true rfl), (Nat.le_of_ble_eq_true rfl), rfl⟩ (trivial) cfn (by omega) (Nat.le_of_ble_eq_true rfl) ?_
                  exact V_iret dL_due_179 rfl rfl (⟨rfl, rfl⟩)
              · exact absurd hs h160
            · exfalso; revert h152; decide
          · exfalso; revert h108; decide
        · exfalso; revert h29; decide
      · exfalso; revert h14; decide
theorem k_L_due3_x {g : G0} {j : Nat → Nat → Int64} (d : Nat) {i : Nat → Nat → Int32} {v : Nat} (hv : v < 4) (hs : ¬ i 91 (5 * v + 2) = 0)  : C g m_L_due (d + 6) 0 0 false [.int 3, .int (nI v), .ref 89, .ref 90, .ref 91] (mk i j) (rets (some (.int (-103))) (mk i j)) := by
  refine C_of (L := [some (.int 3), some (.int (nI v)), some (.ref 89), some (.ref 90), some (.ref 91), none, none]) rfl ?_
  refine L_iload_n_0 dL_due_0 ?_
  refine V_iconst (v := 3) (by decide) dL_due_1 ?_
  refine V_icmp_lt (tgt := 17) dL_due_2 (by decide) (fun h2 => ?_) (fun h2 => ?_)
  · exfalso; revert h2; decide
  · refine L_iload_n_0 dL_due_5 ?_
    refine V_bipush (v := 7) (by decide) dL_due_6 ?_
    refine V_icmp_eq (tgt := 17) dL_due_8 (by decide) (fun h8 => ?_) (fun h8 => ?_)
    · exfalso; revert h8; decide
    · refine L_iload_n_0 dL_due_11 ?_
      refine V_bipush (v := 8) (by decide) dL_due_12 ?_
      refine V_icmp_ne (tgt := 27) dL_due_14 (by decide) (fun h14 => ?_) (fun h14 => ?_)
      · refine L_iload_n_0 dL_due_27 ?_
        refine V_iconst (v := 4) (by decide) dL_due_28 ?_
        refine V_icmp_ne (tgt := 100) dL_due_29 (by decide) (fun h29 => ?_) (fun h29 => ?_)
        · refine V_iconst (v := 5) (by decide) dL_due_100 ?_
          refine L_iload_n_1 dL_due_101 ?_
          refine V_imul dL_due_102 ?_
          refine V_eqv (y := nI (5 * v)) (pk_mul 5 v) ?_
          refine V_istore_5 dL_due_103 (Nat.le_of_ble_eq_true rfl) rfl ?_
          refine L_iload_n_0 dL_due_105 ?_
          refine V_bipush (v := 9) (by decide) dL_due_106 ?_
          refine V_icmp_ne (tgt := 142) dL_due_108 (by decide) (fun h108 => ?_) (fun h108 => ?_)
          · refine L_aload_4 dL_due_142 ?_
            refine L_iload_5 dL_due_144 ?_
            refine V_iconst (v := 2) (by decide) dL_due_146 ?_
            refine V_iadd dL_due_147 ?_
            refine U_iald (n := (5 * v + 2)) dL_due_148 rfl (nI_add (5 * v) 2) (by omega) (by decide) ?_
            refine L_iload_n_0 dL_due_149 ?_
            refine V_bipush (v := 6) (by decide) dL_due_150 ?_
            refine V_icmp_ne (tgt := 159) dL_due_152 (by decide) (fun h152 => ?_) (fun h152 => ?_)
            · refine V_iconst (v := 0) (by decide) dL_due_159 ?_
              refine V_icmp_eq (tgt := 166) dL_due_160 (by decide) (fun h160 => ?_) (fun h160 => ?_)
              · exact absurd h160 hs
              · refine V_bipush (v := (-103)) (by decide) dL_due_163 ?_
                exact V_iret dL_due_165 rfl rfl (⟨rfl, rfl⟩)
            · exfalso; revert h152; decide
          · exfalso; revert h108; decide
        · exfalso; revert h29; decide
      · exfalso; revert h14; decide
theorem k_L_due5 {g : G0} {j : Nat → Nat → Int64} (d : Nat) {i : Nat → Nat → Int32} {v : Nat} (hv : v < 4) (hs : i 91 (5 * v + 2) = 0)  : C g m_L_due (d + 6) 0 0 false [.int 5, .int (nI v), .ref 89, .ref 90, .ref 91] (mk i j) (rets (some (.int (lsl (up2 i 91 (5 * v + 2) 1 91)))) (mk (up2 i 91 (5 * v + 2) 1) j)) := by
  refine C_of (L := [some (.int 5), some (.int (nI v)), some (.ref 89), some (.ref 90), some (.ref 91), none, none]) rfl ?_
  refine L_iload_n_0 dL_due_0 ?_
  refine V_iconst (v := 3) (by decide) dL_due_1 ?_
  refine V_icmp_lt (tgt := 17) dL_due_2 (by decide) (fun h2 => ?_) (fun h2 => ?_)
  · exfalso; revert h2; decide
  · refine L_iload_n_0 dL_due_5 ?_
    refine V_bipush (v := 7) (by decide) dL_due_6 ?_
    refine V_icmp_eq (tgt := 17) dL_due_8 (by decide) (fun h8 => ?_) (fun h8 => ?_)
    · exfalso; revert h8; decide
    · refine L_iload_n_0 dL_due_11 ?_
      refine V_bipush (v := 8) (by decide) dL_due_12 ?_
      refine V_icmp_ne (tgt := 27) dL_due_14 (by decide) (fun h14 => ?_) (fun h14 => ?_)
      · refine L_iload_n_0 dL_due_27 ?_
        refine V_iconst (v := 4) (by decide) dL_due_28 ?_
        refine V_icmp_ne (tgt := 100) dL_due_29 (by decide) (fun h29 => ?_) (fun h29 => ?_)
        · refine V_iconst (v := 5) (by decide) dL_due_100 ?_
          refine L_iload_n_1 dL_due_101 ?_
          refine V_imul dL_due_102 ?_
          refine V_eqv (y := nI (5 * v)) (pk_mul 5 v) ?_
          refine V_istore_5 dL_due_103 (Nat.le_of_ble_eq_true rfl) rfl ?_
          refine L_iload_n_0 dL_due_105 ?_
          refine V_bipush (v := 9) (by decide) dL_due_106 ?_
          refine V_icmp_ne (tgt := 142) dL_due_108 (by decide) (fun h108 => ?_) (fun h108 => ?_)
          · refine L_aload_4 dL_due_142 ?_
            refine L_iload_5 dL_due_144 ?_
            refine V_iconst (v := 2) (by decide) dL_due_146 ?_
            refine V_iadd dL_due_147 ?_
            refine U_iald (n := (5 * v + 2)) dL_due_148 rfl (nI_add (5 * v) 2) (by omega) (by decide) ?_
            refine L_iload_n_0 dL_due_149 ?_
            refine V_bipush (v := 6) (by decide) dL_due_150 ?_
            refine V_icmp_ne (tgt := 159) dL_due_152 (by decide) (fun h152 => ?_) (fun h152 => ?_)
            · refine V_iconst (v := 0) (by decide) dL_due_159 ?_
              refine V_icmp_eq (tgt := 166) dL_due_160 (by decide) (fun h160 => ?_) (fun h160 => ?_)
              · refine L_iload_n_0 dL_due_166 ?_
                refine V_iconst (v := 3) (by decide) dL_due_167 ?_
                refine V_icmp_ne (tgt := 180) dL_due_168 (by decide) (fun h168 => ?_) (fun h168 => ?_)
                · refine L_aload_4 dL_due_180 ?_
                  refine L_iload_5 dL_due_182 ?_
                  refine V_iconst (v := 2) (by decide) dL_due_184 ?_
                  refine V_iadd dL_due_185 ?_
                  refine L_iload_n_0 dL_due_186 ?_
                  refine V_iconst (v := 5) (by decide) dL_due_187 ?_
                  refine V_icmp_ne (tgt := 195) dL_due_188 (by decide) (fun h188 => ?_) (fun h188 => ?_)
                  · exfalso; revert h188; decide
                  · refine V_iconst (v := 1) (by decide) dL_due_191 ?_
                    refine V_goto (tgt := 196) dL_due_192 (by decide) ?_
                    refine U_iast (n := (5 * v + 2)) dL_due_196 rfl (nI_add (5 * v) 2) (by omega) (by decide) ?_
                    refine L_aload_4 dL_due_197 ?_
                    refine Q_v1 (lkR_RL_153 rfl dL_due_199) (k_L_asleep 0) ⟨pn_L_asleep, rfl, (Nat.le_of_ble_eq_true rfl), (Nat.le_of_ble_eq_true rfl), rfl⟩ (trivial) cfn (by omega) (Nat.le_of_ble_eq_true rfl) ?_
                    exact V_iret dL_due_202 rfl rfl (⟨rfl, rfl⟩)
                · exfalso; revert h168; decide
              · exact absurd hs h160
            · exfalso; revert h152; decide
          · exfalso; revert h108; decide
        · exfalso; revert h29; decide
      · exfalso; revert h14; decide
theorem k_L_due5_x {g : G0} {j : Nat → Nat → Int64} (d : Nat) {i : Nat → Nat → Int32} {v : Nat} (hv : v < 4) (hs : ¬ i 91 (5 * v + 2) = 0)  : C g m_L_due (d + 6) 0 0 false [.int 5, .int (nI v), .ref 89, .ref 90, .ref 91] (mk i j) (rets (some (.int (-103))) (mk i j)) := by
  refine C_of (L := [some (.int 5), some (.int (nI v)), some (.ref 89), some (.ref 90), some (.ref 91), none, none]) rfl ?_
  refine L_iload_n_0 dL_due_0 ?_
  refine V_iconst (v := 3) (by decide) dL_due_1 ?_
  refine V_icmp_lt (tgt := 17) dL_due_2 (by decide) (fun h2 => ?_) (fun h2 => ?_)
  · exfalso; revert h2; decide
  · refine L_iload_n_0 dL_due_5 ?_
    refine V_bipush (v := 7) (by decide) dL_due_6 ?_
    refine V_icmp_eq (tgt := 17) dL_due_8 (by decide) (fun h8 => ?_) (fun h8 => ?_)
    · exfalso; revert h8; decide
    · refine L_iload_n_0 dL_due_11 ?_
      refine V_bipush (v := 8) (by decide) dL_due_12 ?_
      refine V_icmp_ne (tgt := 27) dL_due_14 (by decide) (fun h14 => ?_) (fun h14 => ?_)
      · refine L_iload_n_0 dL_due_27 ?_
        refine V_iconst (v := 4) (by decide) dL_due_28 ?_
        refine V_icmp_ne (tgt := 100) dL_due_29 (by decide) (fun h29 => ?_) (fun h29 => ?_)
        · refine V_iconst (v := 5) (by decide) dL_due_100 ?_
          refine L_iload_n_1 dL_due_101 ?_
          refine V_imul dL_due_102 ?_
          refine V_eqv (y := nI (5 * v)) (pk_mul 5 v) ?_
          refine V_istore_5 dL_due_103 (Nat.le_of_ble_eq_true rfl) rfl ?_
          refine L_iload_n_0 dL_due_105 ?_
          refine V_bipush (v := 9) (by decide) dL_due_106 ?_
          refine V_icmp_ne (tgt := 142) dL_due_108 (by decide) (fun h108 => ?_) (fun h108 => ?_)
          · refine L_aload_4 dL_due_142 ?_
            refine L_iload_5 dL_due_144 ?_
            refine V_iconst (v := 2) (by decide) dL_due_146 ?_
            refine V_iadd dL_due_147 ?_
            refine U_iald (n := (5 * v + 2)) dL_due_148 rfl (nI_add (5 * v) 2) (by omega) (by decide) ?_
            refine L_iload_n_0 dL_due_149 ?_
            refine V_bipush (v := 6) (by decide) dL_due_150 ?_
            refine V_icmp_ne (tgt := 159) dL_due_152 (by decide) (fun h152 => ?_) (fun h152 => ?_)
            · refine V_iconst (v := 0) (by decide) dL_due_159 ?_
              refine V_icmp_eq (tgt := 166) dL_due_160 (by decide) (fun h160 => ?_) (fun h160 => ?_)
              · exact absurd h160 hs
              · refine V_bipush (v := (-103)) (by decide) dL_due_163 ?_
                exact V_iret dL_due_165 rfl rfl (⟨rfl, rfl⟩)
            · exfalso; revert h152; decide
          · exfalso; revert h108; decide
        · exfalso; revert h29; decide
      · exfalso; revert h14; decide
theorem k_L_due6 {g : G0} {j : Nat → Nat → Int64} (d : Nat) {i : Nat → Nat → Int32} {v : Nat} (hv : v < 4) (hs : i 91 (5 * v + 2) = 1)  : C g m_L_due (d + 6) 0 0 false [.int 6, .int (nI v), .ref 89, .ref 90, .ref 91] (mk i j) (rets (some (.int (lsl (up2 i 91 (5 * v + 2) 0 91)))) (mk (up2 i 91 (5 * v + 2) 0) j)) := by
  refine C_of (L := [some (.int 6), some (.int (nI v)), some (.ref 89), some (.ref 90), some (.ref 91), none, none]) rfl ?_
  refine L_iload_n_0 dL_due_0 ?_
  refine V_iconst (v := 3) (by decide) dL_due_1 ?_
  refine V_icmp_lt (tgt := 17) dL_due_2 (by decide) (fun h2 => ?_) (fun h2 => ?_)
  · exfalso; revert h2; decide
  · refine L_iload_n_0 dL_due_5 ?_
    refine V_bipush (v := 7) (by decide) dL_due_6 ?_
    refine V_icmp_eq (tgt := 17) dL_due_8 (by decide) (fun h8 => ?_) (fun h8 => ?_)
    · exfalso; revert h8; decide
    · refine L_iload_n_0 dL_due_11 ?_
      refine V_bipush (v := 8) (by decide) dL_due_12 ?_
      refine V_icmp_ne (tgt := 27) dL_due_14 (by decide) (fun h14 => ?_) (fun h14 => ?_)
      · refine L_iload_n_0 dL_due_27 ?_
        refine V_iconst (v := 4) (by decide) dL_due_28 ?_
        refine V_icmp_ne (tgt := 100) dL_due_29 (by decide) (fun h29 => ?_) (fun h29 => ?_)
        · refine V_iconst (v := 5) (by decide) dL_due_100 ?_
          refine L_iload_n_1 dL_due_101 ?_
          refine V_imul dL_due_102 ?_
          refine V_eqv (y := nI (5 * v)) (pk_mul 5 v) ?_
          refine V_istore_5 dL_due_103 (Nat.le_of_ble_eq_true rfl) rfl ?_
          refine L_iload_n_0 dL_due_105 ?_
          refine V_bipush (v := 9) (by decide) dL_due_106 ?_
          refine V_icmp_ne (tgt := 142) dL_due_108 (by decide) (fun h108 => ?_) (fun h108 => ?_)
          · refine L_aload_4 dL_due_142 ?_
            refine L_iload_5 dL_due_144 ?_
            refine V_iconst (v := 2) (by decide) dL_due_146 ?_
            refine V_iadd dL_due_147 ?_
            refine U_iald (n := (5 * v + 2)) dL_due_148 rfl (nI_add (5 * v) 2) (by omega) (by decide) ?_
            refine L_iload_n_0 dL_due_149 ?_
            refine V_bipush (v := 6) (by decide) dL_due_150 ?_
            refine V_icmp_ne (tgt := 159) dL_due_152 (by decide) (fun h152 => ?_) (fun h152 => ?_)
            · exfalso; revert h152; decide
            · refine V_iconst (v := 1) (by decide) dL_due_155 ?_
              refine V_goto (tgt := 160) dL_due_156 (by decide) ?_
              refine V_icmp_eq (tgt := 166) dL_due_160 (by decide) (fun h160 => ?_) (fun h160 => ?_)
              · refine L_iload_n_0 dL_due_166 ?_
                refine V_iconst (v := 3) (by decide) dL_due_167 ?_
                refine V_icmp_ne (tgt := 180) dL_due_168 (by decide) (fun h168 => ?_) (fun h168 => ?_)
                · refine L_aload_4 dL_due_180 ?_
                  refine L_iload_5 dL_due_182 ?_
                  refine V_iconst (v := 2) (by decide) dL_due_184 ?_
                  refine V_iadd dL_due_185 ?_
                  refine L_iload_n_0 dL_due_186 ?_
                  refine V_iconst (v := 5) (by decide) dL_due_187 ?_
                  refine V_icmp_ne (tgt := 195) dL_due_188 (by decide) (fun h188 => ?_) (fun h188 => ?_)
                  · refine V_iconst (v := 0) (by decide) dL_due_195 ?_
                    refine U_iast (n := (5 * v + 2)) dL_due_196 rfl (nI_add (5 * v) 2) (by omega) (by decide) ?_
                    refine L_aload_4 dL_due_197 ?_
                    refine Q_v1 (lkR_RL_153 rfl dL_due_199) (k_L_asleep 0) ⟨pn_L_asleep, rfl, (Nat.le_of_ble_eq_true rfl), (Nat.le_of_ble_eq_true rfl), rfl⟩ (trivial) cfn (by omega) (Nat.le_of_ble_eq_true rfl) ?_
                    exact V_iret dL_due_202 rfl rfl (⟨rfl, rfl⟩)
                  · exfalso; revert h188; decide
                · exfalso; revert h168; decide
              · exact absurd hs h160
          · exfalso; revert h108; decide
        · exfalso; revert h29; decide
      · exfalso; revert h14; decide
theorem k_L_due6_x {g : G0} {j : Nat → Nat → Int64} (d : Nat) {i : Nat → Nat → Int32} {v : Nat} (hv : v < 4) (hs : ¬ i 91 (5 * v + 2) = 1)  : C g m_L_due (d + 6) 0 0 false [.int 6, .int (nI v), .ref 89, .ref 90, .ref 91] (mk i j) (rets (some (.int (-103))) (mk i j)) := by
  refine C_of (L := [some (.int 6), some (.int (nI v)), some (.ref 89), some (.ref 90), some (.ref 91), none, none]) rfl ?_
  refine L_iload_n_0 dL_due_0 ?_
  refine V_iconst (v := 3) (by decide) dL_due_1 ?_
  refine V_icmp_lt (tgt := 17) dL_due_2 (by decide) (fun h2 => ?_) (fun h2 => ?_)
  · exfalso; revert h2; decide
  · refine L_iload_n_0 dL_due_5 ?_
    refine V_bipush (v := 7) (by decide) dL_due_6 ?_
    refine V_icmp_eq (tgt := 17) dL_due_8 (by decide) (fun h8 => ?_) (fun h8 => ?_)
    · exfalso; revert h8; decide
    · refine L_iload_n_0 dL_due_11 ?_
      refine V_bipush (v := 8) (by decide) dL_due_12 ?_
      refine V_icmp_ne (tgt := 27) dL_due_14 (by decide) (fun h14 => ?_) (fun h14 => ?_)
      · refine L_iload_n_0 dL_due_27 ?_
        refine V_iconst (v := 4) (by decide) dL_due_28 ?_
        refine V_icmp_ne (tgt := 100) dL_due_29 (by decide) (fun h29 => ?_) (fun h29 => ?_)
        · refine V_iconst (v := 5) (by decide) dL_due_100 ?_
          refine L_iload_n_1 dL_due_101 ?_
          refine V_imul dL_due_102 ?_
          refine V_eqv (y := nI (5 * v)) (pk_mul 5 v) ?_
          refine V_istore_5 dL_due_103 (Nat.le_of_ble_eq_true rfl) rfl ?_
          refine L_iload_n_0 dL_due_105 ?_
          refine V_bipush (v := 9) (by decide) dL_due_106 ?_
          refine V_icmp_ne (tgt := 142) dL_due_108 (by decide) (fun h108 => ?_) (fun h108 => ?_)
          · refine L_aload_4 dL_due_142 ?_
            refine L_iload_5 dL_due_144 ?_
            refine V_iconst (v := 2) (by decide) dL_due_146 ?_
            refine V_iadd dL_due_147 ?_
            refine U_iald (n := (5 * v + 2)) dL_due_148 rfl (nI_add (5 * v) 2) (by omega) (by decide) ?_
            refine L_iload_n_0 dL_due_149 ?_
            refine V_bipush (v := 6) (by decide) dL_due_150 ?_
            refine V_icmp_ne (tgt := 159) dL_due_152 (by decide) (fun h152 => ?_) (fun h152 => ?_)
            · exfalso; revert h152; decide
            · refine V_iconst (v := 1) (by decide) dL_due_155 ?_
              refine V_goto (tgt := 160) dL_due_156 (by decide) ?_
              refine V_icmp_eq (tgt := 166) dL_due_160 (by decide) (fun h160 => ?_) (fun h160 => ?_)
              · exact absurd h160 hs
              · refine V_bipush (v := (-103)) (by decide) dL_due_163 ?_
                exact V_iret dL_due_165 rfl rfl (⟨rfl, rfl⟩)
          · exfalso; revert h108; decide
        · exfalso; revert h29; decide
      · exfalso; revert h14; decide
theorem k_L_call0 {g : G0} {j : Nat → Nat → Int64} (d : Nat) {i i' : Nat → Nat → Int32} {v x : Int32} (hC : C g m_L_add d 1 6 false [.ref 0, .int x] (mk i j) (rets (some (.int v)) (mk i' j)))  : C g m_L_call (d + 1) 1 6 false [.ref 0, .int 0, .int x] (mk i j) (rets (some (.int v)) (mk i' j)) := by
  refine C_of (L := [some (.ref 0), some (.int 0), some (.int x)]) rfl ?_
  refine L_iload_n_1 dL_call_0 ?_
  refine V_tabIn (off := 51) (tgt := 52) dL_call_1 (by decide) (by decide) rfl (by decide) ?_
  refine L_aload_n_0 dL_call_52 ?_
  refine L_iload_n_2 dL_call_53 ?_
  refine Q_w2 (kc := 0) (ks := 0) (lkW_RL_115 rfl dL_call_54) (hC) pn_L_add (Nat.le_of_ble_eq_true rfl) (Nat.le_of_ble_eq_true rfl) rfl (by omega) (Nat.le_of_ble_eq_true rfl) ?_
  exact V_iret dL_call_57 rfl rfl (⟨rfl, rfl⟩)
theorem k_L_call1 {g : G0} {j : Nat → Nat → Int64} (d : Nat) {i i' : Nat → Nat → Int32} {v x : Int32} (hC : C g m_L_crossOut d 1 6 false [.ref 0, .int x] (mk i j) (rets (some (.int v)) (mk i' j)))  : C g m_L_call (d + 1) 1 6 false [.ref 0, .int 1, .int x] (mk i j) (rets (some (.int v)) (mk i' j)) := by
  refine C_of (L := [some (.ref 0), some (.int 1), some (.int x)]) rfl ?_
  refine L_iload_n_1 dL_call_0 ?_
  refine V_tabIn (off := 57) (tgt := 58) dL_call_1 (by decide) (by decide) rfl (by decide) ?_
  refine L_aload_n_0 dL_call_58 ?_
  refine L_iload_n_2 dL_call_59 ?_
  refine Q_w2 (kc := 0) (ks := 0) (lkW_RL_118 rfl dL_call_60) (hC) pn_L_crossOut (Nat.le_of_ble_eq_true rfl) (Nat.le_of_ble_eq_true rfl) rfl (by omega) (Nat.le_of_ble_eq_true rfl) ?_
  exact V_iret dL_call_63 rfl rfl (⟨rfl, rfl⟩)
theorem k_L_call2 {g : G0} {j : Nat → Nat → Int64} (d : Nat) {i i' : Nat → Nat → Int32} {v x : Int32} (hC : C g m_L_publish d 1 6 false [.ref 0] (mk i j) (rets (some (.int v)) (mk i' j)))  : C g m_L_call (d + 1) 1 6 false [.ref 0, .int 2, .int x] (mk i j) (rets (some (.int v)) (mk i' j)) := by
  refine C_of (L := [some (.ref 0), some (.int 2), some (.int x)]) rfl ?_
  refine L_iload_n_1 dL_call_0 ?_
  refine V_tabIn (off := 63) (tgt := 64) dL_call_1 (by decide) (by decide) rfl (by decide) ?_
  refine L_aload_n_0 dL_call_64 ?_
  refine Q_w1 (kc := 0) (ks := 0) (lkW_RL_120 rfl dL_call_65) (hC) pn_L_publish (Nat.le_of_ble_eq_true rfl) (Nat.le_of_ble_eq_true rfl) rfl (by omega) (Nat.le_of_ble_eq_true rfl) ?_
  exact V_iret dL_call_68 rfl rfl (⟨rfl, rfl⟩)
theorem k_L_call3 {g : G0} {j : Nat → Nat → Int64} (d : Nat) {i i' : Nat → Nat → Int32} {v x : Int32} (hC : C g m_L_refresh d 1 6 false [.ref 0, .int x] (mk i j) (rets (some (.int v)) (mk i' j)))  : C g m_L_call (d + 1) 1 6 false [.ref 0, .int 3, .int x] (mk i j) (rets (some (.int v)) (mk i' j)) := by
  refine C_of (L := [some (.ref 0), some (.int 3), some (.int x)]) rfl ?_
  refine L_iload_n_1 dL_call_0 ?_
  refine V_tabIn (off := 68) (tgt := 69) dL_call_1 (by decide) (by decide) rfl (by decide) ?_
  refine L_aload_n_0 dL_call_69 ?_
  refine L_iload_n_2 dL_call_70 ?_
  refine Q_w2 (kc := 0) (ks := 0) (lkW_RL_123 rfl dL_call_71) (hC) pn_L_refresh (Nat.le_of_ble_eq_true rfl) (Nat.le_of_ble_eq_true rfl) rfl (by omega) (Nat.le_of_ble_eq_true rfl) ?_
  exact V_iret dL_call_74 rfl rfl (⟨rfl, rfl⟩)
theorem k_L_call4 {g : G0} {j : Nat → Nat → Int64} (d : Nat) {i i' : Nat → Nat → Int32} {v x : Int32} (hC : C g m_X6_refreshAll d 1 6 false [.ref 0] (mk i j) (rets (some (.int v)) (mk i' j)))  : C g m_L_call (d + 1) 1 6 false [.ref 0, .int 4, .int x] (mk i j) (rets (some (.int v)) (mk i' j)) := by
  refine C_of (L := [some (.ref 0), some (.int 4), some (.int x)]) rfl ?_
  refine L_iload_n_1 dL_call_0 ?_
  refine V_tabIn (off := 74) (tgt := 75) dL_call_1 (by decide) (by decide) rfl (by decide) ?_
  refine L_aload_n_0 dL_call_75 ?_
  refine Q_k1 (kc := 0) (ks := 0) (lkR_RL_125 rfl dL_call_76) (hC) ⟨pn_X6_refreshAll, rfl, (Nat.le_of_ble_eq_true rfl), (Nat.le_of_ble_eq_true rfl), rfl⟩ (⟨_, _, rfl, rfl, rfl⟩) (cfS cf6) (by omega) (Nat.le_of_ble_eq_true rfl) ?_
  exact V_iret dL_call_79 rfl rfl (⟨rfl, rfl⟩)
theorem k_L_call5 {g : G0} {j : Nat → Nat → Int64} (d : Nat) {i i' : Nat → Nat → Int32} {v x : Int32} (hC : C g m_L_sleep d 1 6 false [.ref 0, .int x] (mk i j) (rets (some (.int v)) (mk i' j)))  : C g m_L_call (d + 1) 1 6 false [.ref 0, .int 5, .int x] (mk i j) (rets (some (.int v)) (mk i' j)) := by
  refine C_of (L := [some (.ref 0), some (.int 5), some (.int x)]) rfl ?_
  refine L_iload_n_1 dL_call_0 ?_
  refine V_tabIn (off := 79) (tgt := 80) dL_call_1 (by decide) (by decide) rfl (by decide) ?_
  refine L_aload_n_0 dL_call_80 ?_
  refine L_iload_n_2 dL_call_81 ?_
  refine Q_w2 (kc := 0) (ks := 0) (lkW_RL_128 rfl dL_call_82) (hC) pn_L_sleep (Nat.le_of_ble_eq_true rfl) (Nat.le_of_ble_eq_true rfl) rfl (by omega) (Nat.le_of_ble_eq_true rfl) ?_
  exact V_iret dL_call_85 rfl rfl (⟨rfl, rfl⟩)
theorem k_L_call6 {g : G0} {j : Nat → Nat → Int64} (d : Nat) {i i' : Nat → Nat → Int32} {v x : Int32} (hC : C g m_L_wake d 1 6 false [.ref 0, .int x] (mk i j) (rets (some (.int v)) (mk i' j)))  : C g m_L_call (d + 1) 1 6 false [.ref 0, .int 6, .int x] (mk i j) (rets (some (.int v)) (mk i' j)) := by
  refine C_of (L := [some (.ref 0), some (.int 6), some (.int x)]) rfl ?_
  refine L_iload_n_1 dL_call_0 ?_
  refine V_tabIn (off := 85) (tgt := 86) dL_call_1 (by decide) (by decide) rfl (by decide) ?_
  refine L_aload_n_0 dL_call_86 ?_
  refine L_iload_n_2 dL_call_87 ?_
  refine Q_w2 (kc := 0) (ks := 0) (lkW_RL_130 rfl dL_call_88) (hC) pn_L_wake (Nat.le_of_ble_eq_true rfl) (Nat.le_of_ble_eq_true rfl) rfl (by omega) (Nat.le_of_ble_eq_true rfl) ?_
  exact V_iret dL_call_91 rfl rfl (⟨rfl, rfl⟩)
theorem k_L_call7 {g : G0} {j : Nat → Nat → Int64} (d : Nat) {i i' : Nat → Nat → Int32} {v x : Int32} (hC : C g m_L_renumber d 1 6 false [.ref 0, .int x] (mk i j) (rets (some (.int v)) (mk i' j)))  : C g m_L_call (d + 1) 1 6 false [.ref 0, .int 7, .int x] (mk i j) (rets (some (.int v)) (mk i' j)) := by
  refine C_of (L := [some (.ref 0), some (.int 7), some (.int x)]) rfl ?_
  refine L_iload_n_1 dL_call_0 ?_
  refine V_tabIn (off := 91) (tgt := 92) dL_call_1 (by decide) (by decide) rfl (by decide) ?_
  refine L_aload_n_0 dL_call_92 ?_
  refine L_iload_n_2 dL_call_93 ?_
  refine Q_w2 (kc := 0) (ks := 0) (lkW_RL_132 rfl dL_call_94) (hC) pn_L_renumber (Nat.le_of_ble_eq_true rfl) (Nat.le_of_ble_eq_true rfl) rfl (by omega) (Nat.le_of_ble_eq_true rfl) ?_
  exact V_iret dL_call_97 rfl rfl (⟨rfl, rfl⟩)
theorem k_L_call8 {g : G0} {j : Nat → Nat → Int64} (d : Nat) {i i' : Nat → Nat → Int32} {v x : Int32} (hC : C g m_L_setKeep d 1 6 false [.ref 0, .int x] (mk i j) (rets (some (.int v)) (mk i' j)))  : C g m_L_call (d + 1) 1 6 false [.ref 0, .int 8, .int x] (mk i j) (rets (some (.int v)) (mk i' j)) := by
  refine C_of (L := [some (.ref 0), some (.int 8), some (.int x)]) rfl ?_
  refine L_iload_n_1 dL_call_0 ?_
  refine V_tabIn (off := 97) (tgt := 98) dL_call_1 (by decide) (by decide) rfl (by decide) ?_
  refine L_aload_n_0 dL_call_98 ?_
  refine L_iload_n_2 dL_call_99 ?_
  refine Q_w2 (kc := 0) (ks := 0) (lkW_RL_134 rfl dL_call_100) (hC) pn_L_setKeep (Nat.le_of_ble_eq_true rfl) (Nat.le_of_ble_eq_true rfl) rfl (by omega) (Nat.le_of_ble_eq_true rfl) ?_
  exact V_iret dL_call_103 rfl rfl (⟨rfl, rfl⟩)
theorem k_L_call9 {g : G0} {j : Nat → Nat → Int64} (d : Nat) {i i' : Nat → Nat → Int32} {v x : Int32} (hC : C g m_L_throwAway d 1 6 false [.ref 0, .int x] (mk i j) (rets (some (.int v)) (mk i' j)))  : C g m_L_call (d + 1) 1 6 false [.ref 0, .int 9, .int x] (mk i j) (rets (some (.int v)) (mk i' j)) := by
  refine C_of (L := [some (.ref 0), some (.int 9), some (.int x)]) rfl ?_
  refine L_iload_n_1 dL_call_0 ?_
  refine V_tabOut (tgt := 104) dL_call_1 (Or.inr (by decide)) (by decide) ?_
  refine L_aload_n_0 dL_call_104 ?_
  refine L_iload_n_2 dL_call_105 ?_
  refine Q_w2 (kc := 0) (ks := 0) (lkW_RL_136 rfl dL_call_106) (hC) pn_L_throwAway (Nat.le_of_ble_eq_true rfl) (Nat.le_of_ble_eq_true rfl) rfl (by omega) (Nat.le_of_ble_eq_true rfl) ?_
  exact V_iret dL_call_109 rfl rfl (⟨rfl, rfl⟩)
