/-- a list brought up to date -/
def lap (e : Nat → Int32) (x : Int32) : Nat → Nat → Int32 → Bool → Int32
  | 0, _, ch, _ => ch
  | n + 1, m, ch, r => if r = true ∨ e (3 * m) = x then lap e x n (m + 1) ((ch &&& (e (3 * m + 1) ^^^ (-1))) ||| e (3 * m + 2)) true else lap e x n (m + 1) ch false
def rfT (M : Nat → Nat → Int32) (k : Nat) (co : Int32) : Nat → Nat → Int32 := up2 (up2 (up2 M 91 (5 * k + 1) (M 89 2)) 91 (5 * k + 4) (M 91 (5 * k + 4) + co)) 89 5 (M 89 5 + (1 + bcI (M 89 1)))
def rfL (i : Nat → Nat → Int32) (k c : Nat) : Nat → Nat → Int32 :=
  if lan (i 89) (i 90) (i 91) k c = 1 then rfT (up2 (up2 i 91 (5 * k + 3) 0) 91 (5 * k) (lap (i 90) (i 91 (5 * k + 1)) c 0 (i 91 (5 * k)) false)) k (lcn (i 89) (i 90) (i 91) k c)
  else if lan (i 89) (i 90) (i 91) k c = 2 then rfT (up2 (up2 i 91 (5 * k + 3) 0) 91 (5 * k) (i 89 1)) k (lcn (i 89) (i 90) (i 91) k c)
  else up2 i 91 (5 * k + 3) 0
theorem rfL_1 {i : Nat → Nat → Int32} {k c : Nat} (h : lan (i 89) (i 90) (i 91) k c = 1) : rfL i k c = rfT (up2 (up2 i 91 (5 * k + 3) 0) 91 (5 * k) (lap (i 90) (i 91 (5 * k + 1)) c 0 (i 91 (5 * k)) false)) k (lcn (i 89) (i 90) (i 91) k c) := if_pos h
theorem rfL_2 {i : Nat → Nat → Int32} {k c : Nat} (h : lan (i 89) (i 90) (i 91) k c = 2) : rfL i k c = rfT (up2 (up2 i 91 (5 * k + 3) 0) 91 (5 * k) (i 89 1)) k (lcn (i 89) (i 90) (i 91) k c) := by
  unfold rfL
  rw [if_neg (by rw [h]; decide), if_pos h]
theorem rfL_0 {i : Nat → Nat → Int32} {k c : Nat} (h1 : ¬ lan (i 89) (i 90) (i 91) k c = 1) (h2 : ¬ lan (i 89) (i 90) (i 91) k c = 2) : rfL i k c = up2 i 91 (5 * k + 3) 0 := by
  unfold rfL
  rw [if_neg h1, if_neg h2]
theorem k_L_refreshes {g : G0} {j : Nat → Nat → Int64} (d : Nat) {i : Nat → Nat → Int32} {k c n : Nat} (hk : k < 4) (hA : AW i c n)  : C g m_L_refreshes (d + 5) 0 0 false [.int (nI k), .ref 89, .ref 90, .ref 91] (mk i j) (rets (some (.int (lan (i 89) (i 90) (i 91) k c))) (mk (rfL i k c) j)) := by
  refine C_of (L := [some (.int (nI k)), some (.ref 89), some (.ref 90), some (.ref 91), none, none, none, none]) rfl ?_
  obtain ⟨hc, h6, hn, hn16, hL1, hL, hE⟩ := id hA
  have tail : ∀ (M : Nat → Nat → Int32) (l6 l7 : Option Value), L30 (M 89 1) → (lan (i 89) (i 90) (i 91) k c = 1 ∨ lan (i 89) (i 90) (i 91) k c = 2) → rfL i k c = rfT M k (lcn (i 89) (i 90) (i 91) k c) → V g m_L_refreshes (d + 5) 0 0 false (Kp g false (rets (some (.int (lan (i 89) (i 90) (i 91) k c))) (mk (rfL i k c) j))) 152 [some (.int (nI k)), some (.ref 89), some (.ref 90), some (.ref 91), some (.int (lan (i 89) (i 90) (i 91) k c)), some (.int (lcn (i 89) (i 90) (i 91) k c)), l6, l7] [] (mk M j) := by
    intro M l6 l7 hM ho he
    rw [he]
    refine L_aload_n_3 dL_refreshes_152 ?_
    refine V_iconst (v := 5) (by decide) dL_refreshes_153 ?_
    refine L_iload_n_0 dL_refreshes_154 ?_
    refine V_imul dL_refreshes_155 ?_
    refine V_iconst (v := 1) (by decide) dL_refreshes_156 ?_
    refine V_iadd dL_refreshes_157 ?_
    refine L_aload_n_1 dL_refreshes_158 ?_
    refine V_iconst (v := 2) (by decide) dL_refreshes_159 ?_
    refine U_iald (n := 2) dL_refreshes_160 rfl (rfl) (by decide) (by decide) ?_
    refine U_iast (n := (5 * k + 1)) dL_refreshes_161 rfl (mdx5 rfl rfl) (by omega) (by decide) ?_
    refine L_aload_n_3 dL_refreshes_162 ?_
    refine V_iconst (v := 5) (by decide) dL_refreshes_163 ?_
    refine L_iload_n_0 dL_refreshes_164 ?_
    refine V_imul dL_refreshes_165 ?_
    refine V_iconst (v := 4) (by decide) dL_refreshes_166 ?_
    refine V_iadd dL_refreshes_167 ?_
    refine V_dup2 rfl rfl dL_refreshes_168 ?_
    refine U_iald (n := (5 * k + 4)) dL_refreshes_169 rfl (mdx5 rfl rfl) (by omega) (by decide) ?_
    refine V_eqv (y := (M 91 (5 * k + 4))) (up2_nf (by omega)) ?_
    refine L_iload_5 dL_refreshes_170 ?_
    refine V_iadd dL_refreshes_172 ?_
    refine U_iast (n := (5 * k + 4)) dL_refreshes_173 rfl (mdx5 rfl rfl) (by omega) (by decide) ?_
    refine L_aload_n_1 dL_refreshes_174 ?_
    refine V_iconst (v := 5) (by decide) dL_refreshes_175 ?_
    refine V_dup2 rfl rfl dL_refreshes_176 ?_
    refine U_iald (n := 5) dL_refreshes_177 rfl (rfl) (by decide) (by decide) ?_
    refine V_iconst (v := 1) (by decide) dL_refreshes_178 ?_
    refine L_aload_n_1 dL_refreshes_179 ?_
    refine V_iconst (v := 1) (by decide) dL_refreshes_180 ?_
    refine U_iald (n := 1) dL_refreshes_181 rfl (rfl) (by decide) (by decide) ?_
    refine Q_v1 (lkR_RL_92 rfl dL_refreshes_182) (k_L_ones 0 (x := M 89 1) hM) ⟨pn_L_ones, rfl, (Nat.le_of_ble_eq_true rfl), (Nat.le_of_ble_eq_true rfl), rfl⟩ (trivial) cfn (by omega) (Nat.le_of_ble_eq_true rfl) ?_
    refine V_iadd dL_refreshes_185 ?_
    refine V_iadd dL_refreshes_186 ?_
    refine U_iast (n := 5) dL_refreshes_187 rfl (rfl) (by decide) (by decide) ?_
    refine L_iload_4 dL_refreshes_188 ?_
    exact V_iret dL_refreshes_190 rfl rfl (⟨rfl, rfl⟩)
  have loop : ∀ (n m : Nat) (ch : Int32) (r : Bool), m + n = c → lan (i 89) (i 90) (i 91) k c = 1 → rfL i k c = rfT (up2 (up2 i 91 (5 * k + 3) 0) 91 (5 * k) (lap (i 90) (i 91 (5 * k + 1)) n m ch r)) k (lcn (i 89) (i 90) (i 91) k c) → V g m_L_refreshes (d + 5) 0 0 false (Kp g false (rets (some (.int (lan (i 89) (i 90) (i 91) k c))) (mk (rfL i k c) j))) 38 [some (.int (nI k)), some (.ref 89), some (.ref 90), some (.ref 91), some (.int (lan (i 89) (i 90) (i 91) k c)), some (.int (lcn (i 89) (i 90) (i 91) k c)), some (.int (b2i (r = true))), some (.int (nI m))] [] (mk (up2 (up2 i 91 (5 * k + 3) 0) 91 (5 * k) ch) j) := by
    intro n
    induction n with
    | zero =>
      intro m ch r hm h1 he
      have hm0 : m = c := by omega
      subst hm0
      refine L_iload_7 dL_refreshes_38 ?_
      refine L_aload_n_1 dL_refreshes_40 ?_
      refine V_iconst (v := 4) (by decide) dL_refreshes_41 ?_
      refine U_iald (n := 4) dL_refreshes_42 rfl (rfl) (by decide) (by decide) ?_
      refine V_eqv (y := nI m) hc ?_
      refine V_icmp_ge (tgt := 123) dL_refreshes_43 (by decide) (fun h43 => ?_) (fun h43 => ?_)
      · refine V_goto (tgt := 140) dL_refreshes_123 (by decide) ?_
        refine L_iload_4 dL_refreshes_140 ?_
        refine V_iconst (v := 1) (by decide) dL_refreshes_142 ?_
        refine V_icmp_eq (tgt := 152) dL_refreshes_143 (by decide) (fun h143 => ?_) (fun h143 => ?_)
        · exact tail _ _ _ hL1 (Or.inl h1) he
        · exact absurd h1 h143
      · exact absurd (Int32.le_refl _) h43
    | succ n ih =>
      intro m ch r hm h1 he
      refine L_iload_7 dL_refreshes_38 ?_
      refine L_aload_n_1 dL_refreshes_40 ?_
      refine V_iconst (v := 4) (by decide) dL_refreshes_41 ?_
      refine U_iald (n := 4) dL_refreshes_42 rfl (rfl) (by decide) (by decide) ?_
      refine V_eqv (y := nI c) hc ?_
      refine V_icmp_ge (tgt := 123) dL_refreshes_43 (by decide) (fun h43 => ?_) (fun h43 => ?_)
      · exact absurd ((nI_leI (a := c) (b := m) (by omega) (by omega)).mp h43) (by omega)
      · refine L_iload_6 dL_refreshes_46 ?_
        refine V_ifx_ne (tgt := 67) dL_refreshes_48 (by decide) (fun h48 => ?_) (fun h48 => ?_)
        · refine V_iconst (v := 1) (by decide) dL_refreshes_67 ?_
          refine V_goto (tgt := 72) dL_refreshes_68 (by decide) ?_
          refine V_istore_6 dL_refreshes_72 (Nat.le_of_ble_eq_true rfl) rfl ?_
          refine L_aload_n_3 dL_refreshes_74 ?_
          refine V_iconst (v := 5) (by decide) dL_refreshes_75 ?_
          refine L_iload_n_0 dL_refreshes_76 ?_
          refine V_imul dL_refreshes_77 ?_
          refine L_iload_6 dL_refreshes_78 ?_
          refine V_ifx_eq (tgt := 111) dL_refreshes_80 (by decide) (fun h80 => ?_) (fun h80 => ?_)
          · exfalso; revert h80; decide
          · refine L_aload_n_3 dL_refreshes_83 ?_
            refine V_iconst (v := 5) (by decide) dL_refreshes_84 ?_
            refine L_iload_n_0 dL_refreshes_85 ?_
            refine V_imul dL_refreshes_86 ?_
            refine U_iald (n := (5 * k)) dL_refreshes_87 rfl (pk_mul 5 k) (by omega) (by decide) ?_
            refine V_eqv (y := ch) up2_eq ?_
            refine L_aload_n_2 dL_refreshes_88 ?_
            refine V_iconst (v := 3) (by decide) dL_refreshes_89 ?_
            refine L_iload_7 dL_refreshes_90 ?_
            refine V_imul dL_refreshes_92 ?_
            refine V_iconst (v := 1) (by decide) dL_refreshes_93 ?_
            refine V_iadd dL_refreshes_94 ?_
            refine U_iald (n := (3 * m + 1)) dL_refreshes_95 rfl (md3 rfl rfl) (by omega) (by decide) ?_
            refine V_eqv (y := i 90 (3 * m + 1)) rfl ?_
            refine V_iconst (v := (-1)) (by decide) dL_refreshes_96 ?_
            refine V_ixor dL_refreshes_97 ?_
            refine V_iand dL_refreshes_98 ?_
            refine L_aload_n_2 dL_refreshes_99 ?_
            refine V_iconst (v := 3) (by decide) dL_refreshes_100 ?_
            refine L_iload_7 dL_refreshes_101 ?_
            refine V_imul dL_refreshes_103 ?_
            refine V_iconst (v := 2) (by decide) dL_refreshes_104 ?_
            refine V_iadd dL_refreshes_105 ?_
            refine U_iald (n := (3 * m + 2)) dL_refreshes_106 rfl (md3 rfl rfl) (by omega) (by decide) ?_
            refine V_eqv (y := i 90 (3 * m + 2)) rfl ?_
            refine V_ior dL_refreshes_107 ?_
            refine V_goto (tgt := 116) dL_refreshes_108 (by decide) ?_
            refine U_iast (n := (5 * k)) dL_refreshes_116 rfl (pk_mul 5 k) (by omega) (by decide) ?_
            refine V_iinc_7 (v := nI (m + 1)) dL_refreshes_117 (Nat.le_of_ble_eq_true rfl) rfl (nI_1 _) ?_
            refine V_goto (tgt := 38) dL_refreshes_120 (by decide) ?_
            refine V_eqI up2_up2 ?_
            rw [show lap (i 90) (i 91 (5 * k + 1)) (n + 1) m ch r = lap (i 90) (i 91 (5 * k + 1)) n (m + 1) ((ch &&& (i 90 (3 * m + 1) ^^^ (-1))) ||| i 90 (3 * m + 2)) true from if_pos (Or.inl (b2p h48))] at he
            exact ih (m + 1) _ true (by omega) h1 he
        · refine L_aload_n_2 dL_refreshes_51 ?_
          refine V_iconst (v := 3) (by decide) dL_refreshes_52 ?_
          refine L_iload_7 dL_refreshes_53 ?_
          refine V_imul dL_refreshes_55 ?_
          refine U_iald (n := (3 * m)) dL_refreshes_56 rfl (pk_mul 3 m) (by omega) (by decide) ?_
          refine V_eqv (y := i 90 (3 * m)) rfl ?_
          refine L_aload_n_3 dL_refreshes_57 ?_
          refine V_iconst (v := 5) (by decide) dL_refreshes_58 ?_
          refine L_iload_n_0 dL_refreshes_59 ?_
          refine V_imul dL_refreshes_60 ?_
          refine V_iconst (v := 1) (by decide) dL_refreshes_61 ?_
          refine V_iadd dL_refreshes_62 ?_
          refine U_iald (n := (5 * k + 1)) dL_refreshes_63 rfl (mdx5 rfl rfl) (by omega) (by decide) ?_
          refine V_eqv (y := i 91 (5 * k + 1)) ((up2_nf (by omega)).trans (up2_nf (by omega))) ?_
          refine V_icmp_ne (tgt := 71) dL_refreshes_64 (by decide) (fun h64 => ?_) (fun h64 => ?_)
          · refine V_iconst (v := 0) (by decide) dL_refreshes_71 ?_
            refine V_istore_6 dL_refreshes_72 (Nat.le_of_ble_eq_true rfl) rfl ?_
            refine L_aload_n_3 dL_refreshes_74 ?_
            refine V_iconst (v := 5) (by decide) dL_refreshes_75 ?_
            refine L_iload_n_0 dL_refreshes_76 ?_
            refine V_imul dL_refreshes_77 ?_
            refine L_iload_6 dL_refreshes_78 ?_
            refine V_ifx_eq (tgt := 111) dL_refreshes_80 (by decide) (fun h80 => ?_) (fun h80 => ?_)
            · refine L_aload_n_3 dL_refreshes_111 ?_
              refine V_iconst (v := 5) (by decide) dL_refreshes_112 ?_
              refine L_iload_n_0 dL_refreshes_113 ?_
              refine V_imul dL_refreshes_114 ?_
              refine U_iald (n := (5 * k)) dL_refreshes_115 rfl (pk_mul 5 k) (by omega) (by decide) ?_
              refine V_eqv (y := ch) up2_eq ?_
              refine U_iast (n := (5 * k)) dL_refreshes_116 rfl (pk_mul 5 k) (by omega) (by decide) ?_
              refine V_iinc_7 (v := nI (m + 1)) dL_refreshes_117 (Nat.le_of_ble_eq_true rfl) rfl (nI_1 _) ?_
              refine V_goto (tgt := 38) dL_refreshes_120 (by decide) ?_
              refine V_eqI up2_up2 ?_
              rw [show lap (i 90) (i 91 (5 * k + 1)) (n + 1) m ch r = lap (i 90) (i 91 (5 * k + 1)) n (m + 1) ch false from if_neg (fun z => z.elim (b2z.mp h48) h64)] at he
              exact ih (m + 1) _ false (by omega) h1 he
            · exfalso; revert h80; decide
          · refine V_iconst (v := 1) (by decide) dL_refreshes_67 ?_
            refine V_goto (tgt := 72) dL_refreshes_68 (by decide) ?_
            refine V_istore_6 dL_refreshes_72 (Nat.le_of_ble_eq_true rfl) rfl ?_
            refine L_aload_n_3 dL_refreshes_74 ?_
            refine V_iconst (v := 5) (by decide) dL_refreshes_75 ?_
            refine L_iload_n_0 dL_refreshes_76 ?_
            refine V_imul dL_refreshes_77 ?_
            refine L_iload_6 dL_refreshes_78 ?_
            refine V_ifx_eq (tgt := 111) dL_refreshes_80 (by decide) (fun h80 => ?_) (fun h80 => ?_)
            · exfalso; revert h80; decide
            · refine L_aload_n_3 dL_refreshes_83 ?_
              refine V_iconst (v := 5) (by decide) dL_refreshes_84 ?_
              refine L_iload_n_0 dL_refreshes_85 ?_
              refine V_imul dL_refreshes_86 ?_
              refine U_iald (n := (5 * k)) dL_refreshes_87 rfl (pk_mul 5 k) (by omega) (by decide) ?_
              refine V_eqv (y := ch) up2_eq ?_
              refine L_aload_n_2 dL_refreshes_88 ?_
              refine V_iconst (v := 3) (by decide) dL_refreshes_89 ?_
              refine L_iload_7 dL_refreshes_90 ?_
              refine V_imul dL_refreshes_92 ?_
              refine V_iconst (v := 1) (by decide) dL_refreshes_93 ?_
              refine V_iadd dL_refreshes_94 ?_
              refine U_iald (n := (3 * m + 1)) dL_refreshes_95 rfl (md3 rfl rfl) (by omega) (by decide) ?_
              refine V_eqv (y := i 90 (3 * m + 1)) rfl ?_
              refine V_iconst (v := (-1)) (by decide) dL_refreshes_96 ?_
              refine V_ixor dL_refreshes_97 ?_
              refine V_iand dL_refreshes_98 ?_
              refine L_aload_n_2 dL_refreshes_99 ?_
              refine V_iconst (v := 3) (by decide) dL_refreshes_100 ?_
              refine L_iload_7 dL_refreshes_101 ?_
              refine V_imul dL_refreshes_103 ?_
              refine V_iconst (v := 2) (by decide) dL_refreshes_104 ?_
              refine V_iadd dL_refreshes_105 ?_
              refine U_iald (n := (3 * m + 2)) dL_refreshes_106 rfl (md3 rfl rfl) (by omega) (by decide) ?_
              refine V_eqv (y := i 90 (3 * m + 2)) rfl ?_
              refine V_ior dL_refreshes_107 ?_
              refine V_goto (tgt := 116) dL_refreshes_108 (by decide) ?_
              refine U_iast (n := (5 * k)) dL_refreshes_116 rfl (pk_mul 5 k) (by omega) (by decide) ?_
              refine V_iinc_7 (v := nI (m + 1)) dL_refreshes_117 (Nat.le_of_ble_eq_true rfl) rfl (nI_1 _) ?_
              refine V_goto (tgt := 38) dL_refreshes_120 (by decide) ?_
              refine V_eqI up2_up2 ?_
              rw [show lap (i 90) (i 91 (5 * k + 1)) (n + 1) m ch r = lap (i 90) (i 91 (5 * k + 1)) n (m + 1) ((ch &&& (i 90 (3 * m + 1) ^^^ (-1))) ||| i 90 (3 * m + 2)) true from if_pos (Or.inr h64)] at he
              exact ih (m + 1) _ true (by omega) h1 he
  refine L_iload_n_0 dL_refreshes_0 ?_
  refine L_aload_n_1 dL_refreshes_1 ?_
  refine L_aload_n_2 dL_refreshes_2 ?_
  refine L_aload_n_3 dL_refreshes_3 ?_
  refine Q_v4 (lkR_RL_108 rfl dL_refreshes_4) (k_L_answers 0 hk hA) ⟨pn_L_answers, rfl, (Nat.le_of_ble_eq_true rfl), (Nat.le_of_ble_eq_true rfl), rfl⟩ (trivial) cfn (by omega) (Nat.le_of_ble_eq_true rfl) ?_
  refine V_istore_4 dL_refreshes_7 (Nat.le_of_ble_eq_true rfl) rfl ?_
  refine L_iload_n_0 dL_refreshes_9 ?_
  refine L_aload_n_1 dL_refreshes_10 ?_
  refine L_aload_n_2 dL_refreshes_11 ?_
  refine L_aload_n_3 dL_refreshes_12 ?_
  refine Q_v4 (lkR_RL_112 rfl dL_refreshes_13) (k_L_costNow 0 hk hA) ⟨pn_L_costNow, rfl, (Nat.le_of_ble_eq_true rfl), (Nat.le_of_ble_eq_true rfl), rfl⟩ (trivial) cfn (by omega) (Nat.le_of_ble_eq_true rfl) ?_
  refine V_istore_5 dL_refreshes_16 (Nat.le_of_ble_eq_true rfl) rfl ?_
  refine L_aload_n_3 dL_refreshes_18 ?_
  refine V_iconst (v := 5) (by decide) dL_refreshes_19 ?_
  refine L_iload_n_0 dL_refreshes_20 ?_
  refine V_imul dL_refreshes_21 ?_
  refine V_iconst (v := 3) (by decide) dL_refreshes_22 ?_
  refine V_iadd dL_refreshes_23 ?_
  refine V_iconst (v := 0) (by decide) dL_refreshes_24 ?_
  refine U_iast (n := (5 * k + 3)) dL_refreshes_25 rfl (mdx5 rfl rfl) (by omega) (by decide) ?_
  refine L_iload_4 dL_refreshes_26 ?_
  refine V_iconst (v := 1) (by decide) dL_refreshes_28 ?_
  refine V_icmp_ne (tgt := 126) dL_refreshes_29 (by decide) (fun h29 => ?_) (fun h29 => ?_)
  · refine L_iload_4 dL_refreshes_126 ?_
    refine V_iconst (v := 2) (by decide) dL_refreshes_128 ?_
    refine V_icmp_ne (tgt := 140) dL_refreshes_129 (by decide) (fun h129 => ?_) (fun h129 => ?_)
    · rw [rfL_0 h29 h129]
      refine L_iload_4 dL_refreshes_140 ?_
      refine V_iconst (v := 1) (by decide) dL_refreshes_142 ?_
      refine V_icmp_eq (tgt := 152) dL_refreshes_143 (by decide) (fun h143 => absurd h143 h29) (fun h143 => ?_)
      refine L_iload_4 dL_refreshes_146 ?_
      refine V_iconst (v := 2) (by decide) dL_refreshes_148 ?_
      refine V_icmp_ne (tgt := 188) dL_refreshes_149 (by decide) (fun h149 => ?_) (fun h149 => absurd h149 h129)
      refine L_iload_4 dL_refreshes_188 ?_
      exact V_iret dL_refreshes_190 rfl rfl (⟨rfl, rfl⟩)
    · refine L_aload_n_3 dL_refreshes_132 ?_
      refine V_iconst (v := 5) (by decide) dL_refreshes_133 ?_
      refine L_iload_n_0 dL_refreshes_134 ?_
      refine V_imul dL_refreshes_135 ?_
      refine L_aload_n_1 dL_refreshes_136 ?_
      refine V_iconst (v := 1) (by decide) dL_refreshes_137 ?_
      refine U_iald (n := 1) dL_refreshes_138 rfl (rfl) (by decide) (by decide) ?_
      refine U_iast (n := (5 * k)) dL_refreshes_139 rfl (pk_mul 5 k) (by omega) (by decide) ?_
      refine L_iload_4 dL_refreshes_140 ?_
      refine V_iconst (v := 1) (by decide) dL_refreshes_142 ?_
      refine V_icmp_eq (tgt := 152) dL_refreshes_143 (by decide) (fun h143 => absurd h143 h29) (fun h143 => ?_)
      refine L_iload_4 dL_refreshes_146 ?_
      refine V_iconst (v := 2) (by decide) dL_refreshes_148 ?_
      refine V_icmp_ne (tgt := 188) dL_refreshes_149 (by decide) (fun h149 => absurd h129 h149) (fun h149 => ?_)
      exact tail _ _ _ hL1 (Or.inr h129) (rfL_2 h129)
  · refine V_iconst (v := 0) (by decide) dL_refreshes_32 ?_
    refine V_istore_6 dL_refreshes_33 (Nat.le_of_ble_eq_true rfl) rfl ?_
    refine V_iconst (v := 0) (by decide) dL_refreshes_35 ?_
    refine V_istore_7 dL_refreshes_36 (Nat.le_of_ble_eq_true rfl) rfl ?_
    refine V_eqI (i' := up2 (up2 i 91 (5 * k + 3) 0) 91 (5 * k) (i 91 (5 * k))) (by rw [← up2_nf (i := i) (k := 91) (f := 5 * k + 3) (v := 0) (a := 91) (b := 5 * k) (by omega)]; exact up2_same.symm) ?_
    exact loop c 0 _ false (by omega) h29 (rfL_1 h29)
theorem k_L_op0 {g : G0} {j : Nat → Nat → Int64} (d : Nat) {i : Nat → Nat → Int32} {v : Nat} (hv : v < 30) (hL : L30 (i 89 0)) (hb : mbt (i 89 0) (nI v) = 0)  : C g m_L_ofPrinter (d + 1) 0 0 false [.int 0, .int (nI v), .ref 89, .ref 90, .ref 91] (mk i j) (rets (some (.int (bcI (i 89 0 ^^^ ((1 : Int32) <<< (nI v &&& 31)))))) (mk (up2 i 89 0 (i 89 0 ^^^ ((1 : Int32) <<< (nI v &&& 31)))) j)) := by
  refine C_of (L := [some (.int 0), some (.int (nI v)), some (.ref 89), some (.ref 90), some (.ref 91), none]) rfl ?_
  refine L_iload_n_0 dL_ofPrinter_0 ?_
  refine V_iconst (v := 2) (by decide) dL_ofPrinter_1 ?_
  refine V_icmp_ge (tgt := 35) dL_ofPrinter_2 (by decide) (fun h2 => ?_) (fun h2 => ?_)
  · exfalso; revert h2; decide
  · refine L_aload_n_2 dL_ofPrinter_5 ?_
    refine V_iconst (v := 0) (by decide) dL_ofPrinter_6 ?_
    refine U_iald (n := 0) dL_ofPrinter_7 rfl (rfl) (by decide) (by decide) ?_
    refine L_iload_n_1 dL_ofPrinter_8 ?_
    refine V_ishr dL_ofPrinter_9 ?_
    refine V_iconst (v := 1) (by decide) dL_ofPrinter_10 ?_
    refine V_iand dL_ofPrinter_11 ?_
    refine L_iload_n_0 dL_ofPrinter_12 ?_
    refine V_icmp_eq (tgt := 19) dL_ofPrinter_13 (by decide) (fun h13 => ?_) (fun h13 => ?_)
    · refine L_aload_n_2 dL_ofPrinter_19 ?_
      refine V_iconst (v := 0) (by decide) dL_ofPrinter_20 ?_
      refine V_dup2 rfl rfl dL_ofPrinter_21 ?_
      refine U_iald (n := 0) dL_ofPrinter_22 rfl (rfl) (by decide) (by decide) ?_
      refine V_iconst (v := 1) (by decide) dL_ofPrinter_23 ?_
      refine L_iload_n_1 dL_ofPrinter_24 ?_
      refine V_ishl dL_ofPrinter_25 ?_
      refine V_ixor dL_ofPrinter_26 ?_
      refine U_iast (n := 0) dL_ofPrinter_27 rfl (rfl) (by decide) (by decide) ?_
      refine L_aload_n_2 dL_ofPrinter_28 ?_
      refine V_iconst (v := 0) (by decide) dL_ofPrinter_29 ?_
      refine U_iald (n := 0) dL_ofPrinter_30 rfl (rfl) (by decide) (by decide) ?_
      refine V_eqv (y := i 89 0 ^^^ ((1 : Int32) <<< (nI v &&& 31))) up2_eq ?_
      refine Q_v1 (lkR_RL_92 rfl dL_ofPrinter_31) (k_L_ones 0 (L30_xor hL (L30_shl hv))) ⟨pn_L_ones, rfl, (Nat.le_of_ble_eq_true rfl), (Nat.le_of_ble_eq_true rfl), rfl⟩ (trivial) cfn (by omega) (Nat.le_of_ble_eq_true rfl) ?_
      exact V_iret dL_ofPrinter_34 rfl rfl (⟨rfl, rfl⟩)
    · exact absurd hb h13
theorem k_L_op0_x {g : G0} {j : Nat → Nat → Int64} (d : Nat) {i : Nat → Nat → Int32} {v : Nat} (hb : ¬ mbt (i 89 0) (nI v) = 0)  : C g m_L_ofPrinter (d + 1) 0 0 false [.int 0, .int (nI v), .ref 89, .ref 90, .ref 91] (mk i j) (rets (some (.int (-103))) (mk i j)) := by
  refine C_of (L := [some (.int 0), some (.int (nI v)), some (.ref 89), some (.ref 90), some (.ref 91), none]) rfl ?_
  refine L_iload_n_0 dL_ofPrinter_0 ?_
  refine V_iconst (v := 2) (by decide) dL_ofPrinter_1 ?_
  refine V_icmp_ge (tgt := 35) dL_ofPrinter_2 (by decide) (fun h2 => ?_) (fun h2 => ?_)
  · exfalso; revert h2; decide
  · refine L_aload_n_2 dL_ofPrinter_5 ?_
    refine V_iconst (v := 0) (by decide) dL_ofPrinter_6 ?_
    refine U_iald (n := 0) dL_ofPrinter_7 rfl (rfl) (by decide) (by decide) ?_
    refine L_iload_n_1 dL_ofPrinter_8 ?_
    refine V_ishr dL_ofPrinter_9 ?_
    refine V_iconst (v := 1) (by decide) dL_ofPrinter_10 ?_
    refine V_iand dL_ofPrinter_11 ?_
    refine L_iload_n_0 dL_ofPrinter_12 ?_
    refine V_icmp_eq (tgt := 19) dL_ofPrinter_13 (by decide) (fun h13 => ?_) (fun h13 => ?_)
    · exact absurd h13 hb
    · refine V_bipush (v := (-103)) (by decide) dL_ofPrinter_16 ?_
      exact V_iret dL_ofPrinter_18 rfl rfl (⟨rfl, rfl⟩)
theorem k_L_op1 {g : G0} {j : Nat → Nat → Int64} (d : Nat) {i : Nat → Nat → Int32} {v : Nat} (hv : v < 30) (hL : L30 (i 89 0)) (hb : mbt (i 89 0) (nI v) = 1)  : C g m_L_ofPrinter (d + 1) 0 0 false [.int 1, .int (nI v), .ref 89, .ref 90, .ref 91] (mk i j) (rets (some (.int (bcI (i 89 0 ^^^ ((1 : Int32) <<< (nI v &&& 31)))))) (mk (up2 i 89 0 (i 89 0 ^^^ ((1 : Int32) <<< (nI v &&& 31)))) j)) := by
  refine C_of (L := [some (.int 1), some (.int (nI v)), some (.ref 89), some (.ref 90), some (.ref 91), none]) rfl ?_
  refine L_iload_n_0 dL_ofPrinter_0 ?_
  refine V_iconst (v := 2) (by decide) dL_ofPrinter_1 ?_
  refine V_icmp_ge (tgt := 35) dL_ofPrinter_2 (by decide) (fun h2 => ?_) (fun h2 => ?_)
  · exfalso; revert h2; decide
  · refine L_aload_n_2 dL_ofPrinter_5 ?_
    refine V_iconst (v := 0) (by decide) dL_ofPrinter_6 ?_
    refine U_iald (n := 0) dL_ofPrinter_7 rfl (rfl) (by decide) (by decide) ?_
    refine L_iload_n_1 dL_ofPrinter_8 ?_
    refine V_ishr dL_ofPrinter_9 ?_
    refine V_iconst (v := 1) (by decide) dL_ofPrinter_10 ?_
    refine V_iand dL_ofPrinter_11 ?_
    refine L_iload_n_0 dL_ofPrinter_12 ?_
    refine V_icmp_eq (tgt := 19) dL_ofPrinter_13 (by decide) (fun h13 => ?_) (fun h13 => ?_)
    · refine L_aload_n_2 dL_ofPrinter_19 ?_
      refine V_iconst (v := 0) (by decide) dL_ofPrinter_20 ?_
      refine V_dup2 rfl rfl dL_ofPrinter_21 ?_
      refine U_iald (n := 0) dL_ofPrinter_22 rfl (rfl) (by decide) (by decide) ?_
      refine V_iconst (v := 1) (by decide) dL_ofPrinter_23 ?_
      refine L_iload_n_1 dL_ofPrinter_24 ?_
      refine V_ishl dL_ofPrinter_25 ?_
      refine V_ixor dL_ofPrinter_26 ?_
      refine U_iast (n := 0) dL_ofPrinter_27 rfl (rfl) (by decide) (by decide) ?_
      refine L_aload_n_2 dL_ofPrinter_28 ?_
      refine V_iconst (v := 0) (by decide) dL_ofPrinter_29 ?_
      refine U_iald (n := 0) dL_ofPrinter_30 rfl (rfl) (by decide) (by decide) ?_
      refine V_eqv (y := i 89 0 ^^^ ((1 : Int32) <<< (nI v &&& 31))) up2_eq ?_
      refine Q_v1 (lkR_RL_92 rfl dL_ofPrinter_31) (k_L_ones 0 (L30_xor hL (L30_shl hv))) ⟨pn_L_ones, rfl, (Nat.le_of_ble_eq_true rfl), (Nat.le_of_ble_eq_true rfl), rfl⟩ (trivial) cfn (by omega) (Nat.le_of_ble_eq_true rfl) ?_
      exact V_iret dL_ofPrinter_34 rfl rfl (⟨rfl, rfl⟩)
    · exact absurd hb h13
theorem k_L_op1_x {g : G0} {j : Nat → Nat → Int64} (d : Nat) {i : Nat → Nat → Int32} {v : Nat} (hb : ¬ mbt (i 89 0) (nI v) = 1)  : C g m_L_ofPrinter (d + 1) 0 0 false [.int 1, .int (nI v), .ref 89, .ref 90, .ref 91] (mk i j) (rets (some (.int (-103))) (mk i j)) := by
  refine C_of (L := [some (.int 1), some (.int (nI v)), some (.ref 89), some (.ref 90), some (.ref 91), none]) rfl ?_
  refine L_iload_n_0 dL_ofPrinter_0 ?_
  refine V_iconst (v := 2) (by decide) dL_ofPrinter_1 ?_
  refine V_icmp_ge (tgt := 35) dL_ofPrinter_2 (by decide) (fun h2 => ?_) (fun h2 => ?_)
  · exfalso; revert h2; decide
  · refine L_aload_n_2 dL_ofPrinter_5 ?_
    refine V_iconst (v := 0) (by decide) dL_ofPrinter_6 ?_
    refine U_iald (n := 0) dL_ofPrinter_7 rfl (rfl) (by decide) (by decide) ?_
    refine L_iload_n_1 dL_ofPrinter_8 ?_
    refine V_ishr dL_ofPrinter_9 ?_
    refine V_iconst (v := 1) (by decide) dL_ofPrinter_10 ?_
    refine V_iand dL_ofPrinter_11 ?_
    refine L_iload_n_0 dL_ofPrinter_12 ?_
    refine V_icmp_eq (tgt := 19) dL_ofPrinter_13 (by decide) (fun h13 => ?_) (fun h13 => ?_)
    · exact absurd h13 hb
    · refine V_bipush (v := (-103)) (by decide) dL_ofPrinter_16 ?_
      exact V_iret dL_ofPrinter_18 rfl rfl (⟨rfl, rfl⟩)
def puL (i : Nat → Nat → Int32) (c n : Nat) : Nat → Nat → Int32 := up2 (up2 (up2 (up2 (up2 (up2 i 90 (3 * c) (i 89 2)) 90 (3 * c + 1) (i 89 1 &&& (i 89 0 ^^^ (-1)))) 90 (3 * c + 2) (i 89 0 &&& (i 89 1 ^^^ (-1)))) 89 4 (nI (c + 1))) 89 1 (i 89 0)) 89 2 (nI ((n + 1) % 16))
theorem dpR_4 {m : Nat} : ∀ (c : Nat) (i : Nat → Nat → Int32), i 89 4 = nI c → dpR m c i 89 4 = nI (if m < c then m else c)
  | 0, i, h => by rw [if_neg (by omega)]; exact h
  | c + 1, i, h => by
    unfold dpR
    by_cases h1 : m < c + 1
    · rw [if_pos h1, if_pos h1, dpR_4 c _ (if_pos ⟨rfl, rfl⟩)]
      congr 1
      split <;> omega
    · rw [if_neg h1, if_neg h1]; exact h
theorem dpR_oth {m : Nat} : ∀ (c : Nat) (i : Nat → Nat → Int32) {a f : Nat}, (a ≠ 89 ∨ f ≠ 4) → (a ≠ 90 ∨ 3 * c ≤ f + 3) → dpR m c i a f = i a f
  | 0, i, a, f, _, _ => rfl
  | c + 1, i, a, f, h1, h2 => by
    unfold dpR
    split
    · rw [dpR_oth c _ h1 (by omega)]
      unfold dpk
      rw [if_neg (by omega), if_neg (by omega)]
    · rfl
theorem dpR_in {q : Nat} : ∀ (c : Nat) (i : Nat → Nat → Int32) {f : Nat}, q ≤ c → f < 3 * q → dpR q c i 90 f = i 90 (f + 3 * (c - q))
  | 0, i, f, h1, h2 => by omega
  | c + 1, i, f, h1, h2 => by
    unfold dpR
    by_cases h : q < c + 1
    · rw [if_pos h, dpR_in c _ (by omega) h2]
      unfold dpk
      rw [if_neg (by omega), if_pos (by omega)]
      exact ieq rfl (by omega)
    · rw [if_neg h]
      exact ieq rfl (by omega)
theorem k_L_op2 {g : G0} {j : Nat → Nat → Int64} (d : Nat) {i : Nat → Nat → Int32} {c K n c1 : Nat} (hc : i 89 4 = nI c) (h6 : c ≤ 6) (hK : i 89 3 = nI K) (hK1 : 1 ≤ K) (hK6 : K ≤ 6) (hn : i 89 2 = nI n) (hn16 : n < 16) (hp : ¬ i 89 0 = i 89 1) (hc1 : dpR (K - 1) c i 89 4 = nI c1) (hc16 : c1 < 6) {v : Int32}  : C g m_L_ofPrinter (d + 1) 0 0 false [.int 2, .int v, .ref 89, .ref 90, .ref 91] (mk i j) (rets (some (.int (nI ((n + 1) % 16)))) (mk (ntF (puL (dpR (K - 1) c i) c1 n) 4) j)) := by
  refine C_of (L := [some (.int 2), some (.int v), some (.ref 89), some (.ref 90), some (.ref 91), none]) rfl ?_
  have ho : ∀ f, f ≠ 4 → dpR (K - 1) c i 89 f = i 89 f := fun f h => dpR_oth c i (Or.inr h) (Or.inl (by omega))
  refine L_iload_n_0 dL_ofPrinter_0 ?_
  refine V_iconst (v := 2) (by decide) dL_ofPrinter_1 ?_
  refine V_icmp_ge (tgt := 35) dL_ofPrinter_2 (by decide) (fun h2 => ?_) (fun h2 => ?_)
  · refine L_iload_n_0 dL_ofPrinter_35 ?_
    refine V_iconst (v := 2) (by decide) dL_ofPrinter_36 ?_
    refine V_icmp_ne (tgt := 150) dL_ofPrinter_37 (by decide) (fun h37 => ?_) (fun h37 => ?_)
    · exfalso; revert h37; decide
    · refine L_aload_n_2 dL_ofPrinter_40 ?_
      refine V_iconst (v := 0) (by decide) dL_ofPrinter_41 ?_
      refine U_iald (n := 0) dL_ofPrinter_42 rfl (rfl) (by decide) (by decide) ?_
      refine L_aload_n_2 dL_ofPrinter_43 ?_
      refine V_iconst (v := 1) (by decide) dL_ofPrinter_44 ?_
      refine U_iald (n := 1) dL_ofPrinter_45 rfl (rfl) (by decide) (by decide) ?_
      refine V_icmp_ne (tgt := 52) dL_ofPrinter_46 (by decide) (fun h46 => ?_) (fun h46 => ?_)
      · refine L_aload_n_2 dL_ofPrinter_52 ?_
        refine V_iconst (v := 3) (by decide) dL_ofPrinter_53 ?_
        refine U_iald (n := 3) dL_ofPrinter_54 rfl (rfl) (by decide) (by decide) ?_
        refine V_iconst (v := 1) (by decide) dL_ofPrinter_55 ?_
        refine V_isub dL_ofPrinter_56 ?_
        refine V_eqv (y := nI (K - 1)) (by rw [hK, show (1 : Int32) = nI 1 from rfl, pk_sub (by omega)]) ?_
        refine L_aload_n_2 dL_ofPrinter_57 ?_
        refine L_aload_n_3 dL_ofPrinter_58 ?_
        refine Q_V3 (lkR_RL_138 rfl dL_ofPrinter_59) (k_L_drops 0 hc h6 (by omega)) ⟨pn_L_drops, rfl, (Nat.le_of_ble_eq_true rfl), (Nat.le_of_ble_eq_true rfl), rfl⟩ (trivial) cfn (by omega) (Nat.le_of_ble_eq_true rfl) ?_
        refine L_aload_n_3 dL_ofPrinter_62 ?_
        refine V_iconst (v := 3) (by decide) dL_ofPrinter_63 ?_
        refine L_aload_n_2 dL_ofPrinter_64 ?_
        refine V_iconst (v := 4) (by decide) dL_ofPrinter_65 ?_
        refine U_iald (n := 4) dL_ofPrinter_66 rfl (rfl) (by decide) (by decide) ?_
        refine V_eqv (y := nI c1) hc1 ?_
        refine V_imul dL_ofPrinter_67 ?_
        refine L_aload_n_2 dL_ofPrinter_68 ?_
        refine V_iconst (v := 2) (by decide) dL_ofPrinter_69 ?_
        refine U_iald (n := 2) dL_ofPrinter_70 rfl (rfl) (by decide) (by decide) ?_
        refine U_iast (n := (3 * c1)) dL_ofPrinter_71 rfl (pk_mul 3 c1) (by omega) (by decide) ?_
        refine L_aload_n_3 dL_ofPrinter_72 ?_
        refine V_iconst (v := 3) (by decide) dL_ofPrinter_73 ?_
        refine L_aload_n_2 dL_ofPrinter_74 ?_
        refine V_iconst (v := 4) (by decide) dL_ofPrinter_75 ?_
        refine U_iald (n := 4) dL_ofPrinter_76 rfl (rfl) (by decide) (by decide) ?_
        refine V_eqv (y := nI c1) hc1 ?_
        refine V_imul dL_ofPrinter_77 ?_
        refine V_iconst (v := 1) (by decide) dL_ofPrinter_78 ?_
        refine V_iadd dL_ofPrinter_79 ?_
        refine L_aload_n_2 dL_ofPrinter_80 ?_
        refine V_iconst (v := 1) (by decide) dL_ofPrinter_81 ?_
        refine U_iald (n := 1) dL_ofPrinter_82 rfl (rfl) (by decide) (by decide) ?_
        refine L_aload_n_2 dL_ofPrinter_83 ?_
        refine V_iconst (v := 0) (by decide) dL_ofPrinter_84 ?_
        refine U_iald (n := 0) dL_ofPrinter_85 rfl (rfl) (by decide) (by decide) ?_
        refine V_iconst (v := (-1)) (by decide) dL_ofPrinter_86 ?_
        refine V_ixor dL_ofPrinter_87 ?_
        refine V_iand dL_ofPrinter_88 ?_
        refine U_iast (n := (3 * c1 + 1)) dL_ofPrinter_89 rfl (md3 rfl rfl) (by omega) (by decide) ?_
        refine L_aload_n_3 dL_ofPrinter_90 ?_
        refine V_iconst (v := 3) (by decide) dL_ofPrinter_91 ?_
        refine L_aload_n_2 dL_ofPrinter_92 ?_
        refine V_iconst (v := 4) (by decide) dL_ofPrinter_93 ?_
        refine U_iald (n := 4) dL_ofPrinter_94 rfl (rfl) (by decide) (by decide) ?_
        refine V_eqv (y := nI c1) hc1 ?_
        refine V_imul dL_ofPrinter_95 ?_
        refine V_iconst (v := 2) (by decide) dL_ofPrinter_96 ?_
        refine V_iadd dL_ofPrinter_97 ?_
        refine L_aload_n_2 dL_ofPrinter_98 ?_
        refine V_iconst (v := 0) (by decide) dL_ofPrinter_99 ?_
        refine U_iald (n := 0) dL_ofPrinter_100 rfl (rfl) (by decide) (by decide) ?_
        refine L_aload_n_2 dL_ofPrinter_101 ?_
        refine V_iconst (v := 1) (by decide) dL_ofPrinter_102 ?_
        refine U_iald (n := 1) dL_ofPrinter_103 rfl (rfl) (by decide) (by decide) ?_
        refine V_iconst (v := (-1)) (by decide) dL_ofPrinter_104 ?_
        refine V_ixor dL_ofPrinter_105 ?_
        refine V_iand dL_ofPrinter_106 ?_
        refine U_iast (n := (3 * c1 + 2)) dL_ofPrinter_107 rfl (md3 rfl rfl) (by omega) (by decide) ?_
        refine L_aload_n_2 dL_ofPrinter_108 ?_
        refine V_iconst (v := 4) (by decide) dL_ofPrinter_109 ?_
        refine V_dup2 rfl rfl dL_ofPrinter_110 ?_
        refine U_iald (n := 4) dL_ofPrinter_111 rfl (rfl) (by decide) (by decide) ?_
        refine V_eqv (y := nI c1) hc1 ?_
        refine V_iconst (v := 1) (by decide) dL_ofPrinter_112 ?_
        refine V_iadd dL_ofPrinter_113 ?_
        refine V_eqv (y := nI (c1 + 1)) (nI_1 c1) ?_
        refine U_iast (n := 4) dL_ofPrinter_114 rfl (rfl) (by decide) (by decide) ?_
        refine L_aload_n_2 dL_ofPrinter_115 ?_
        refine V_iconst (v := 1) (by decide) dL_ofPrinter_116 ?_
        refine L_aload_n_2 dL_ofPrinter_117 ?_
        refine V_iconst (v := 0) (by decide) dL_ofPrinter_118 ?_
        refine U_iald (n := 0) dL_ofPrinter_119 rfl (rfl) (by decide) (by decide) ?_
        refine U_iast (n := 1) dL_ofPrinter_120 rfl (rfl) (by decide) (by decide) ?_
        refine L_aload_n_2 dL_ofPrinter_121 ?_
        refine V_iconst (v := 2) (by decide) dL_ofPrinter_122 ?_
        refine L_aload_n_2 dL_ofPrinter_123 ?_
        refine V_iconst (v := 2) (by decide) dL_ofPrinter_124 ?_
        refine U_iald (n := 2) dL_ofPrinter_125 rfl (rfl) (by decide) (by decide) ?_
        refine V_eqv (y := nI n) ((ho 2 (by omega)).trans hn) ?_
        refine V_bipush (v := 15) (by decide) dL_ofPrinter_126 ?_
        refine V_icmp_ne (tgt := 135) dL_ofPrinter_128 (by decide) (fun h128 => ?_) (fun h128 => ?_)
        · refine L_aload_n_2 dL_ofPrinter_135 ?_
          refine V_iconst (v := 2) (by decide) dL_ofPrinter_136 ?_
          refine U_iald (n := 2) dL_ofPrinter_137 rfl (rfl) (by decide) (by decide) ?_
          refine V_eqv (y := nI n) ((ho 2 (by omega)).trans hn) ?_
          refine V_iconst (v := 1) (by decide) dL_ofPrinter_138 ?_
          refine V_iadd dL_ofPrinter_139 ?_
          have hn15 : ¬ n = 15 := fun z => h128 (by rw [z]; rfl)
          refine V_eqv (y := nI ((n + 1) % 16)) (by rw [show (1 : Int32) = nI 1 from rfl, nI_add]; congr 1; omega) ?_
          refine U_iast (n := 2) dL_ofPrinter_140 rfl (rfl) (by decide) (by decide) ?_
          refine V_eqI (i' := puL (dpR (K - 1) c i) c1 n) rfl ?_
          refine L_aload_4 dL_ofPrinter_141 ?_
          refine Q_V1 (lkR_RL_142 rfl dL_ofPrinter_143) (k_L_notices 0) ⟨pn_L_notices, rfl, (Nat.le_of_ble_eq_true rfl), (Nat.le_of_ble_eq_true rfl), rfl⟩ (trivial) cfn (by omega) (Nat.le_of_ble_eq_true rfl) ?_
          refine L_aload_n_2 dL_ofPrinter_146 ?_
          refine V_iconst (v := 2) (by decide) dL_ofPrinter_147 ?_
          refine U_iald (n := 2) dL_ofPrinter_148 rfl (rfl) (by decide) (by decide) ?_
          refine V_eqv (y := nI ((n + 1) % 16)) (by unfold ntF puL; rw [if_neg (by omega)]; exact up2_eq) ?_
          exact V_iret dL_ofPrinter_149 rfl rfl (⟨rfl, rfl⟩)
        · refine V_iconst (v := 0) (by decide) dL_ofPrinter_131 ?_
          have hn15 : n = 15 := (nI_eq (a := n) (b := 15) (by omega) (by omega)).mp h128
          refine V_goto (tgt := 140) dL_ofPrinter_132 (by decide) ?_
          refine V_eqv (y := nI ((n + 1) % 16)) (by rw [hn15]; rfl) ?_
          refine U_iast (n := 2) dL_ofPrinter_140 rfl (rfl) (by decide) (by decide) ?_
          refine V_eqI (i' := puL (dpR (K - 1) c i) c1 n) rfl ?_
          refine L_aload_4 dL_ofPrinter_141 ?_
          refine Q_V1 (lkR_RL_142 rfl dL_ofPrinter_143) (k_L_notices 0) ⟨pn_L_notices, rfl, (Nat.le_of_ble_eq_true rfl), (Nat.le_of_ble_eq_true rfl), rfl⟩ (trivial) cfn (by omega) (Nat.le_of_ble_eq_true rfl) ?_
          refine L_aload_n_2 dL_ofPrinter_146 ?_
          refine V_iconst (v := 2) (by decide) dL_ofPrinter_147 ?_
          refine U_iald (n := 2) dL_ofPrinter_148 rfl (rfl) (by decide) (by decide) ?_
          refine V_eqv (y := nI ((n + 1) % 16)) (by unfold ntF puL; rw [if_neg (by omega)]; exact up2_eq) ?_
          exact V_iret dL_ofPrinter_149 rfl rfl (⟨rfl, rfl⟩)
      · exact absurd h46 hp
  · exfalso; revert h2; decide
theorem k_L_op2_x {g : G0} {j : Nat → Nat → Int64} (d : Nat) {i : Nat → Nat → Int32} {v : Int32} (hp : i 89 0 = i 89 1)  : C g m_L_ofPrinter (d + 1) 0 0 false [.int 2, .int v, .ref 89, .ref 90, .ref 91] (mk i j) (rets (some (.int (-103))) (mk i j)) := by
  refine C_of (L := [some (.int 2), some (.int v), some (.ref 89), some (.ref 90), some (.ref 91), none]) rfl ?_
  refine L_iload_n_0 dL_ofPrinter_0 ?_
  refine V_iconst (v := 2) (by decide) dL_ofPrinter_1 ?_
  refine V_icmp_ge (tgt := 35) dL_ofPrinter_2 (by decide) (fun h2 => ?_) (fun h2 => ?_)
  · refine L_iload_n_0 dL_ofPrinter_35 ?_
    refine V_iconst (v := 2) (by decide) dL_ofPrinter_36 ?_
    refine V_icmp_ne (tgt := 150) dL_ofPrinter_37 (by decide) (fun h37 => ?_) (fun h37 => ?_)
    · exfalso; revert h37; decide
    · refine L_aload_n_2 dL_ofPrinter_40 ?_
      refine V_iconst (v := 0) (by decide) dL_ofPrinter_41 ?_
      refine U_iald (n := 0) dL_ofPrinter_42 rfl (rfl) (by decide) (by decide) ?_
      refine L_aload_n_2 dL_ofPrinter_43 ?_
      refine V_iconst (v := 1) (by decide) dL_ofPrinter_44 ?_
      refine U_iald (n := 1) dL_ofPrinter_45 rfl (rfl) (by decide) (by decide) ?_
      refine V_icmp_ne (tgt := 52) dL_ofPrinter_46 (by decide) (fun h46 => ?_) (fun h46 => ?_)
      · exact absurd hp h46
      · refine V_bipush (v := (-103)) (by decide) dL_ofPrinter_49 ?_
        exact V_iret dL_ofPrinter_51 rfl rfl (⟨rfl, rfl⟩)
  · exfalso; revert h2; decide
theorem k_L_op8 {g : G0} {j : Nat → Nat → Int64} (d : Nat) {i : Nat → Nat → Int32} {c q : Nat} (hc : i 89 4 = nI c) (h6 : c ≤ 6) (hq : q ≤ 6)  : C g m_L_ofPrinter (d + 1) 0 0 false [.int 8, .int (nI q), .ref 89, .ref 90, .ref 91] (mk i j) (rets (some (.int (dpR q c (up2 i 89 3 (nI q)) 89 4))) (mk (dpR q c (up2 i 89 3 (nI q))) j)) := by
  refine C_of (L := [some (.int 8), some (.int (nI q)), some (.ref 89), some (.ref 90), some (.ref 91), none]) rfl ?_
  refine L_iload_n_0 dL_ofPrinter_0 ?_
  refine V_iconst (v := 2) (by decide) dL_ofPrinter_1 ?_
  refine V_icmp_ge (tgt := 35) dL_ofPrinter_2 (by decide) (fun h2 => ?_) (fun h2 => ?_)
  · refine L_iload_n_0 dL_ofPrinter_35 ?_
    refine V_iconst (v := 2) (by decide) dL_ofPrinter_36 ?_
    refine V_icmp_ne (tgt := 150) dL_ofPrinter_37 (by decide) (fun h37 => ?_) (fun h37 => ?_)
    · refine L_iload_n_0 dL_ofPrinter_150 ?_
      refine V_bipush (v := 8) (by decide) dL_ofPrinter_151 ?_
      refine V_icmp_ne (tgt := 170) dL_ofPrinter_153 (by decide) (fun h153 => ?_) (fun h153 => ?_)
      · exfalso; revert h153; decide
      · refine L_aload_n_2 dL_ofPrinter_156 ?_
        refine V_iconst (v := 3) (by decide) dL_ofPrinter_157 ?_
        refine L_iload_n_1 dL_ofPrinter_158 ?_
        refine U_iast (n := 3) dL_ofPrinter_159 rfl (rfl) (by decide) (by decide) ?_
        refine L_iload_n_1 dL_ofPrinter_160 ?_
        refine L_aload_n_2 dL_ofPrinter_161 ?_
        refine L_aload_n_3 dL_ofPrinter_162 ?_
        refine Q_V3 (lkR_RL_138 rfl dL_ofPrinter_163) (k_L_drops 0 hc h6 hq) ⟨pn_L_drops, rfl, (Nat.le_of_ble_eq_true rfl), (Nat.le_of_ble_eq_true rfl), rfl⟩ (trivial) cfn (by omega) (Nat.le_of_ble_eq_true rfl) ?_
        refine L_aload_n_2 dL_ofPrinter_166 ?_
        refine V_iconst (v := 4) (by decide) dL_ofPrinter_167 ?_
        refine U_iald (n := 4) dL_ofPrinter_168 rfl (rfl) (by decide) (by decide) ?_
        exact V_iret dL_ofPrinter_169 rfl rfl (⟨rfl, rfl⟩)
    · exfalso; revert h37; decide
  · exfalso; revert h2; decide
theorem k_L_op7 {g : G0} {j : Nat → Nat → Int64} (d : Nat) {i : Nat → Nat → Int32} {v : Int32} (hv : ¬ i 89 2 = v)  : C g m_L_ofPrinter (d + 1) 0 0 false [.int 7, .int v, .ref 89, .ref 90, .ref 91] (mk i j) (rets (some (.int (i 89 2))) (mk (ntF (up2 (up2 i 89 2 v) 89 4 0) 4) j)) := by
  refine C_of (L := [some (.int 7), some (.int v), some (.ref 89), some (.ref 90), some (.ref 91), none]) rfl ?_
  refine L_iload_n_0 dL_ofPrinter_0 ?_
  refine V_iconst (v := 2) (by decide) dL_ofPrinter_1 ?_
  refine V_icmp_ge (tgt := 35) dL_ofPrinter_2 (by decide) (fun h2 => ?_) (fun h2 => ?_)
  · refine L_iload_n_0 dL_ofPrinter_35 ?_
    refine V_iconst (v := 2) (by decide) dL_ofPrinter_36 ?_
    refine V_icmp_ne (tgt := 150) dL_ofPrinter_37 (by decide) (fun h37 => ?_) (fun h37 => ?_)
    · refine L_iload_n_0 dL_ofPrinter_150 ?_
      refine V_bipush (v := 8) (by decide) dL_ofPrinter_151 ?_
      refine V_icmp_ne (tgt := 170) dL_ofPrinter_153 (by decide) (fun h153 => ?_) (fun h153 => ?_)
      · refine L_aload_n_2 dL_ofPrinter_170 ?_
        refine V_iconst (v := 2) (by decide) dL_ofPrinter_171 ?_
        refine U_iald (n := 2) dL_ofPrinter_172 rfl (rfl) (by decide) (by decide) ?_
        refine V_istore_5 dL_ofPrinter_173 (Nat.le_of_ble_eq_true rfl) rfl ?_
        refine L_iload_5 dL_ofPrinter_175 ?_
        refine L_iload_n_1 dL_ofPrinter_177 ?_
        refine V_icmp_ne (tgt := 184) dL_ofPrinter_178 (by decide) (fun h178 => ?_) (fun h178 => ?_)
        · refine L_aload_n_2 dL_ofPrinter_184 ?_
          refine V_iconst (v := 2) (by decide) dL_ofPrinter_185 ?_
          refine L_iload_n_1 dL_ofPrinter_186 ?_
          refine U_iast (n := 2) dL_ofPrinter_187 rfl (rfl) (by decide) (by decide) ?_
          refine L_aload_n_2 dL_ofPrinter_188 ?_
          refine V_iconst (v := 4) (by decide) dL_ofPrinter_189 ?_
          refine V_iconst (v := 0) (by decide) dL_ofPrinter_190 ?_
          refine U_iast (n := 4) dL_ofPrinter_191 rfl (rfl) (by decide) (by decide) ?_
          refine L_aload_4 dL_ofPrinter_192 ?_
          refine Q_V1 (lkR_RL_142 rfl dL_ofPrinter_194) (k_L_notices 0) ⟨pn_L_notices, rfl, (Nat.le_of_ble_eq_true rfl), (Nat.le_of_ble_eq_true rfl), rfl⟩ (trivial) cfn (by omega) (Nat.le_of_ble_eq_true rfl) ?_
          refine L_iload_5 dL_ofPrinter_197 ?_
          exact V_iret dL_ofPrinter_199 rfl rfl (⟨rfl, rfl⟩)
        · exact absurd h178 hv
      · exfalso; revert h153; decide
    · exfalso; revert h37; decide
  · exfalso; revert h2; decide
theorem k_L_op7_x {g : G0} {j : Nat → Nat → Int64} (d : Nat) {i : Nat → Nat → Int32} {v : Int32} (hv : i 89 2 = v)  : C g m_L_ofPrinter (d + 1) 0 0 false [.int 7, .int v, .ref 89, .ref 90, .ref 91] (mk i j) (rets (some (.int (-102))) (mk i j)) := by
  refine C_of (L := [some (.int 7), some (.int v), some (.ref 89), some (.ref 90), some (.ref 91), none]) rfl ?_
  refine L_iload_n_0 dL_ofPrinter_0 ?_
  refine V_iconst (v := 2) (by decide) dL_ofPrinter_1 ?_
  refine V_icmp_ge (tgt := 35) dL_ofPrinter_2 (by decide) (fun h2 => ?_) (fun h2 => ?_)
  · refine L_iload_n_0 dL_ofPrinter_35 ?_
    refine V_iconst (v := 2) (by decide) dL_ofPrinter_36 ?_
    refine V_icmp_ne (tgt := 150) dL_ofPrinter_37 (by decide) (fun h37 => ?_) (fun h37 => ?_)
    · refine L_iload_n_0 dL_ofPrinter_150 ?_
      refine V_bipush (v := 8) (by decide) dL_ofPrinter_151 ?_
      refine V_icmp_ne (tgt := 170) dL_ofPrinter_153 (by decide) (fun h153 => ?_) (fun h153 => ?_)
      · refine L_aload_n_2 dL_ofPrinter_170 ?_
        refine V_iconst (v := 2) (by decide) dL_ofPrinter_171 ?_
        refine U_iald (n := 2) dL_ofPrinter_172 rfl (rfl) (by decide) (by decide) ?_
        refine V_istore_5 dL_ofPrinter_173 (Nat.le_of_ble_eq_true rfl) rfl ?_
        refine L_iload_5 dL_ofPrinter_175 ?_
        refine L_iload_n_1 dL_ofPrinter_177 ?_
        refine V_icmp_ne (tgt := 184) dL_ofPrinter_178 (by decide) (fun h178 => ?_) (fun h178 => ?_)
        · exact absurd hv h178
        · refine V_bipush (v := (-102)) (by decide) dL_ofPrinter_181 ?_
          exact V_iret dL_ofPrinter_183 rfl rfl (⟨rfl, rfl⟩)
      · exfalso; revert h153; decide
    · exfalso; revert h37; decide
  · exfalso; revert h2; decide
