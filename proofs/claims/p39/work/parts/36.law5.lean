theorem Q_u2 {g : G0} {M M' : M0} {d d' kc ks : Nat} {K : K0} {pc n : Nat} {L : List (Option Value)} {S : List Value} {w w' : Wd} {a0 a1 : Value} {v : Value} (hL : LkW g M pc M' n) (hC : C g M' d' 0 0 false [a0, a1] w (rets (some v) w')) (hn : plainName M'.nm.cls = true) (hml : M'.ml ≤ 17) (hl : (ini [a0, a1]).length ≤ M'.ml) (hlen : [a0, a1].length = n) (hd : d' + 1 ≤ d) (hr : (S.map fun v => v.category).sum ≤ 8) (kk : V g M d kc ks false K (pc + 3) L (v :: S) w') : V g M d kc ks false K pc L (a1 :: a0 :: S) w := V_callW (As := [a0, a1]) hL hC hn hml hl hlen hd (by omega) (by omega) hr kk
theorem Q_u3 {g : G0} {M M' : M0} {d d' kc ks : Nat} {K : K0} {pc n : Nat} {L : List (Option Value)} {S : List Value} {w w' : Wd} {a0 a1 a2 : Value} {v : Value} (hL : LkW g M pc M' n) (hC : C g M' d' 0 0 false [a0, a1, a2] w (rets (some v) w')) (hn : plainName M'.nm.cls = true) (hml : M'.ml ≤ 17) (hl : (ini [a0, a1, a2]).length ≤ M'.ml) (hlen : [a0, a1, a2].length = n) (hd : d' + 1 ≤ d) (hr : (S.map fun v => v.category).sum ≤ 8) (kk : V g M d kc ks false K (pc + 3) L (v :: S) w') : V g M d kc ks false K pc L (a2 :: a1 :: a0 :: S) w := V_callW (As := [a0, a1, a2]) hL hC hn hml hl hlen hd (by omega) (by omega) hr kk
theorem dcs {r : UInt64} (h : FP.Core.dIsNaN r = false) : Op.cmpValue (FP.dcmp r r) .l = 0 := by
  rw [show FP.dcmp r r = some .eq from FP.Core.dcmp_self (mt (FP.Core.dIsNaN_iff r).mpr (by rw [h]; decide))]
  rfl
def csL (f : Nat → Int32) : Int32 := f 4 + f 9 + f 14 + f 19
def sha (i : Nat → Nat → Int32) : UInt64 := if csL (i 91) = 0 then 0 else FP.dsub 4607182418800017408 (FP.ddiv (FP.i2d (csL (i 91))) (FP.i2d (i 89 5)))
theorem k_L_fol1 {g : G0} {j : Nat → Nat → Int64} (d : Nat) {i : Nat → Nat → Int32} {k s c n : Nat} (hk : k < 4) (hA : AW i c n) (h0 : ¬ i 91 (5 * k) < 0) (hL : L30 (i 91 (5 * k))) (hL1 : L30 (i 89 1)) (e1 : C g m_L_editionOf 10 0 0 false [.ref 0, .int (nI k)] (mk i j) (rets (some (.int (i 91 (5 * k + 1)))) (mk i j))) (e2 : C g m_L_streets 10 0 0 false [.ref 0, .int (nI k)] (mk i j) (rets (some (.int (bcI (i 91 (5 * k))))) (mk i j))) (e3 : C g m_L_has 10 0 0 false [.ref 0, .int (nI k), .int (nI s)] (mk i j) (rets (some (.int (mbt (i 91 (5 * k)) (nI s)))) (mk i j))) (e4 : C g m_L_isRight 10 0 0 false [.ref 0, .int (nI k)] (mk i j) (rets (some (.int (b2i (i 91 (5 * k) = i 89 1)))) (mk i j))) (e5 : C g m_L_attention 10 0 0 false [.ref 0, .int (nI k)] (mk i j) (rets (some (.int (2 * i 91 (5 * k + 2) + i 91 (5 * k + 3)))) (mk i j))) (e6 : C g m_L_costs 10 0 0 false [.ref 0, .int (nI k)] (mk i j) (rets (some (.int (i 91 (5 * k + 4)))) (mk i j))) (e7 : C g m_L_answer 10 0 0 false [.ref 0, .int (nI k)] (mk i j) (rets (some (.int (lan (i 89) (i 90) (i 91) k c))) (mk i j))) (e8 : C g m_L_costToCome 10 0 0 false [.ref 0, .int (nI k)] (mk i j) (rets (some (.int (lcn (i 89) (i 90) (i 91) k c))) (mk i j))) (e9 : C g m_L_wrong 10 0 0 false [.ref 0, .int (nI k)] (mk i j) (rets (some (.int (bcI (i 91 (5 * k) ^^^ i 89 1)))) (mk i j)))  : C g m_L_isFollower (d + 11) 0 0 false [.ref 0, .int (nI k), .int (nI s), .ref 89, .ref 90, .ref 91] (mk i j) (rets (some (.int 1)) (mk i j)) := by
  refine C_of (L := [some (.ref 0), some (.int (nI k)), some (.int (nI s)), some (.ref 89), some (.ref 90), some (.ref 91), none, none, none]) rfl ?_
  refine V_iconst (v := 5) (by decide) dL_isFollower_0 ?_
  refine L_iload_n_1 dL_isFollower_1 ?_
  refine V_imul dL_isFollower_2 ?_
  refine V_eqv (y := nI (5 * k)) (pk_mul 5 k) ?_
  refine V_istore_6 dL_isFollower_3 (Nat.le_of_ble_eq_true rfl) rfl ?_
  refine L_aload_5 dL_isFollower_5 ?_
  refine L_iload_6 dL_isFollower_7 ?_
  refine U_iald (n := 5 * k) dL_isFollower_9 rfl (rfl) (by omega) (by decide) ?_
  refine V_ifx_lt (tgt := 17) dL_isFollower_10 (by decide) (fun h10 => ?_) (fun h10 => ?_)
  · exact absurd h10 h0
  · refine V_iconst (v := 1) (by decide) dL_isFollower_13 ?_
    refine V_goto (tgt := 18) dL_isFollower_14 (by decide) ?_
    refine V_istore_7 dL_isFollower_18 (Nat.le_of_ble_eq_true rfl) rfl ?_
    refine L_aload_n_0 dL_isFollower_20 ?_
    refine L_iload_n_1 dL_isFollower_21 ?_
    refine Q_u2 (lkW_RL_157 rfl dL_isFollower_22) (e1) pn_L_editionOf (Nat.le_of_ble_eq_true rfl) (Nat.le_of_ble_eq_true rfl) rfl (by omega) (Nat.le_of_ble_eq_true rfl) ?_
    refine L_iload_7 dL_isFollower_25 ?_
    refine V_ifx_eq (tgt := 40) dL_isFollower_27 (by decide) (fun h27 => ?_) (fun h27 => ?_)
    · exfalso; revert h27; decide
    · refine L_aload_5 dL_isFollower_30 ?_
      refine L_iload_6 dL_isFollower_32 ?_
      refine V_iconst (v := 1) (by decide) dL_isFollower_34 ?_
      refine V_iadd dL_isFollower_35 ?_
      refine U_iald (n := (5 * k + 1)) dL_isFollower_36 rfl (nI_add (5 * k) 1) (by omega) (by decide) ?_
      refine V_goto (tgt := 41) dL_isFollower_37 (by decide) ?_
      refine V_icmp_ne (tgt := 169) dL_isFollower_41 (by decide) (fun h41 => ?_) (fun h41 => ?_)
      · exact absurd rfl h41
      · refine L_aload_n_0 dL_isFollower_44 ?_
        refine L_iload_n_1 dL_isFollower_45 ?_
        refine Q_u2 (lkW_RL_159 rfl dL_isFollower_46) (e2) pn_L_streets (Nat.le_of_ble_eq_true rfl) (Nat.le_of_ble_eq_true rfl) rfl (by omega) (Nat.le_of_ble_eq_true rfl) ?_
        refine L_iload_7 dL_isFollower_49 ?_
        refine V_ifx_eq (tgt := 65) dL_isFollower_51 (by decide) (fun h51 => ?_) (fun h51 => ?_)
        · exfalso; revert h51; decide
        · refine L_aload_5 dL_isFollower_54 ?_
          refine L_iload_6 dL_isFollower_56 ?_
          refine U_iald (n := 5 * k) dL_isFollower_58 rfl (rfl) (by omega) (by decide) ?_
          refine Q_v1 (lkR_RL_92 rfl dL_isFollower_59) (k_L_ones 0 hL) ⟨pn_L_ones, rfl, (Nat.le_of_ble_eq_true rfl), (Nat.le_of_ble_eq_true rfl), rfl⟩ (trivial) cfn (by omega) (Nat.le_of_ble_eq_true rfl) ?_
          refine V_goto (tgt := 66) dL_isFollower_62 (by decide) ?_
          refine V_icmp_ne (tgt := 169) dL_isFollower_66 (by decide) (fun h66 => ?_) (fun h66 => ?_)
          · exact absurd rfl h66
          · refine L_aload_n_0 dL_isFollower_69 ?_
            refine L_iload_n_1 dL_isFollower_70 ?_
            refine L_iload_n_2 dL_isFollower_71 ?_
            refine Q_u3 (lkW_RL_161 rfl dL_isFollower_72) (e3) pn_L_has (Nat.le_of_ble_eq_true rfl) (Nat.le_of_ble_eq_true rfl) rfl (by omega) (Nat.le_of_ble_eq_true rfl) ?_
            refine L_iload_7 dL_isFollower_75 ?_
            refine V_ifx_eq (tgt := 92) dL_isFollower_77 (by decide) (fun h77 => ?_) (fun h77 => ?_)
            · exfalso; revert h77; decide
            · refine L_aload_5 dL_isFollower_80 ?_
              refine L_iload_6 dL_isFollower_82 ?_
              refine U_iald (n := 5 * k) dL_isFollower_84 rfl (rfl) (by omega) (by decide) ?_
              refine L_iload_n_2 dL_isFollower_85 ?_
              refine V_ishr dL_isFollower_86 ?_
              refine V_iconst (v := 1) (by decide) dL_isFollower_87 ?_
              refine V_iand dL_isFollower_88 ?_
              refine V_goto (tgt := 93) dL_isFollower_89 (by decide) ?_
              refine V_icmp_ne (tgt := 169) dL_isFollower_93 (by decide) (fun h93 => ?_) (fun h93 => ?_)
              · exact absurd rfl h93
              · refine L_aload_n_0 dL_isFollower_96 ?_
                refine L_iload_n_1 dL_isFollower_97 ?_
                refine Q_u2 (lkW_RL_164 rfl dL_isFollower_98) (e4) pn_L_isRight (Nat.le_of_ble_eq_true rfl) (Nat.le_of_ble_eq_true rfl) rfl (by omega) (Nat.le_of_ble_eq_true rfl) ?_
                refine L_iload_7 dL_isFollower_101 ?_
                refine V_ifx_eq (tgt := 121) dL_isFollower_103 (by decide) (fun h103 => ?_) (fun h103 => ?_)
                · exfalso; revert h103; decide
                · refine L_aload_5 dL_isFollower_106 ?_
                  refine L_iload_6 dL_isFollower_108 ?_
                  refine U_iald (n := 5 * k) dL_isFollower_110 rfl (rfl) (by omega) (by decide) ?_
                  refine L_aload_n_3 dL_isFollower_111 ?_
                  refine V_iconst (v := 1) (by decide) dL_isFollower_112 ?_
                  refine U_iald (n := 1) dL_isFollower_113 rfl (rfl) (by decide) (by decide) ?_
                  refine V_icmp_ne (tgt := 121) dL_isFollower_114 (by decide) (fun h114 => ?_) (fun h114 => ?_)
                  · refine V_iconst (v := 0) (by decide) dL_isFollower_121 ?_
                    refine V_icmp_ne (tgt := 169) dL_isFollower_122 (by decide) (fun h122 => ?_) (fun h122 => ?_)
                    · exact absurd (b2f h114) h122
                    · refine L_aload_n_0 dL_isFollower_125 ?_
                      refine L_iload_n_1 dL_isFollower_126 ?_
                      refine Q_u2 (lkW_RL_166 rfl dL_isFollower_127) (e5) pn_L_attention (Nat.le_of_ble_eq_true rfl) (Nat.le_of_ble_eq_true rfl) rfl (by omega) (Nat.le_of_ble_eq_true rfl) ?_
                      refine V_iconst (v := 2) (by decide) dL_isFollower_130 ?_
                      refine L_aload_5 dL_isFollower_131 ?_
                      refine L_iload_6 dL_isFollower_133 ?_
                      refine V_iconst (v := 2) (by decide) dL_isFollower_135 ?_
                      refine V_iadd dL_isFollower_136 ?_
                      refine U_iald (n := (5 * k + 2)) dL_isFollower_137 rfl (nI_add (5 * k) 2) (by omega) (by decide) ?_
                      refine V_imul dL_isFollower_138 ?_
                      refine L_aload_5 dL_isFollower_139 ?_
                      refine L_iload_6 dL_isFollower_141 ?_
                      refine V_iconst (v := 3) (by decide) dL_isFollower_143 ?_
                      refine V_iadd dL_isFollower_144 ?_
                      refine U_iald (n := (5 * k + 3)) dL_isFollower_145 rfl (nI_add (5 * k) 3) (by omega) (by decide) ?_
                      refine V_iadd dL_isFollower_146 ?_
                      refine V_icmp_ne (tgt := 169) dL_isFollower_147 (by decide) (fun h147 => ?_) (fun h147 => ?_)
                      · exact absurd rfl h147
                      · refine L_aload_n_0 dL_isFollower_150 ?_
                        refine L_iload_n_1 dL_isFollower_151 ?_
                        refine Q_u2 (lkW_RL_168 rfl dL_isFollower_152) (e6) pn_L_costs (Nat.le_of_ble_eq_true rfl) (Nat.le_of_ble_eq_true rfl) rfl (by omega) (Nat.le_of_ble_eq_true rfl) ?_
                        refine L_aload_5 dL_isFollower_155 ?_
                        refine L_iload_6 dL_isFollower_157 ?_
                        refine V_iconst (v := 4) (by decide) dL_isFollower_159 ?_
                        refine V_iadd dL_isFollower_160 ?_
                        refine U_iald (n := (5 * k + 4)) dL_isFollower_161 rfl (nI_add (5 * k) 4) (by omega) (by decide) ?_
                        refine V_icmp_ne (tgt := 169) dL_isFollower_162 (by decide) (fun h162 => ?_) (fun h162 => ?_)
                        · exact absurd rfl h162
                        · refine V_iconst (v := 1) (by decide) dL_isFollower_165 ?_
                          refine V_goto (tgt := 170) dL_isFollower_166 (by decide) ?_
                          refine V_istore_8 dL_isFollower_170 (Nat.le_of_ble_eq_true rfl) rfl ?_
                          refine L_iload_8 dL_isFollower_172 ?_
                          refine V_ifx_eq (tgt := 244) dL_isFollower_174 (by decide) (fun h174 => ?_) (fun h174 => ?_)
                          · exfalso; revert h174; decide
                          · refine L_aload_n_0 dL_isFollower_177 ?_
                            refine L_iload_n_1 dL_isFollower_178 ?_
                            refine Q_u2 (lkW_RL_170 rfl dL_isFollower_179) (e7) pn_L_answer (Nat.le_of_ble_eq_true rfl) (Nat.le_of_ble_eq_true rfl) rfl (by omega) (Nat.le_of_ble_eq_true rfl) ?_
                            refine L_iload_n_1 dL_isFollower_182 ?_
                            refine L_aload_n_3 dL_isFollower_183 ?_
                            refine L_aload_4 dL_isFollower_184 ?_
                            refine L_aload_5 dL_isFollower_186 ?_
                            refine Q_v4 (lkR_RL_108 rfl dL_isFollower_188) (k_L_answers 0 hk hA) ⟨pn_L_answers, rfl, (Nat.le_of_ble_eq_true rfl), (Nat.le_of_ble_eq_true rfl), rfl⟩ (trivial) cfn (by omega) (Nat.le_of_ble_eq_true rfl) ?_
                            refine V_icmp_ne (tgt := 244) dL_isFollower_191 (by decide) (fun h191 => ?_) (fun h191 => ?_)
                            · exact absurd rfl h191
                            · refine L_aload_n_0 dL_isFollower_194 ?_
                              refine L_iload_n_1 dL_isFollower_195 ?_
                              refine Q_u2 (lkW_RL_172 rfl dL_isFollower_196) (e8) pn_L_costToCome (Nat.le_of_ble_eq_true rfl) (Nat.le_of_ble_eq_true rfl) rfl (by omega) (Nat.le_of_ble_eq_true rfl) ?_
                              refine L_iload_n_1 dL_isFollower_199 ?_
                              refine L_aload_n_3 dL_isFollower_200 ?_
                              refine L_aload_4 dL_isFollower_201 ?_
                              refine L_aload_5 dL_isFollower_203 ?_
                              refine Q_v4 (lkR_RL_112 rfl dL_isFollower_205) (k_L_costNow 0 hk hA) ⟨pn_L_costNow, rfl, (Nat.le_of_ble_eq_true rfl), (Nat.le_of_ble_eq_true rfl), rfl⟩ (trivial) cfn (by omega) (Nat.le_of_ble_eq_true rfl) ?_
                              refine V_icmp_ne (tgt := 244) dL_isFollower_208 (by decide) (fun h208 => ?_) (fun h208 => ?_)
                              · exact absurd rfl h208
                              · refine L_aload_n_0 dL_isFollower_211 ?_
                                refine L_iload_n_1 dL_isFollower_212 ?_
                                refine Q_u2 (lkW_RL_174 rfl dL_isFollower_213) (e9) pn_L_wrong (Nat.le_of_ble_eq_true rfl) (Nat.le_of_ble_eq_true rfl) rfl (by omega) (Nat.le_of_ble_eq_true rfl) ?_
                                refine L_iload_7 dL_isFollower_216 ?_
                                refine V_ifx_eq (tgt := 236) dL_isFollower_218 (by decide) (fun h218 => ?_) (fun h218 => ?_)
                                · exfalso; revert h218; decide
                                · refine L_aload_5 dL_isFollower_221 ?_
                                  refine L_iload_6 dL_isFollower_223 ?_
                                  refine U_iald (n := 5 * k) dL_isFollower_225 rfl (rfl) (by omega) (by decide) ?_
                                  refine L_aload_n_3 dL_isFollower_226 ?_
                                  refine V_iconst (v := 1) (by decide) dL_isFollower_227 ?_
                                  refine U_iald (n := 1) dL_isFollower_228 rfl (rfl) (by decide) (by decide) ?_
                                  refine V_ixor dL_isFollower_229 ?_
                                  refine Q_v1 (lkR_RL_92 rfl dL_isFollower_230) (k_L_ones 0 (L30_xor hL hL1)) ⟨pn_L_ones, rfl, (Nat.le_of_ble_eq_true rfl), (Nat.le_of_ble_eq_true rfl), rfl⟩ (trivial) cfn (by omega) (Nat.le_of_ble_eq_true rfl) ?_
                                  refine V_goto (tgt := 237) dL_isFollower_233 (by decide) ?_
                                  refine V_icmp_ne (tgt := 244) dL_isFollower_237 (by decide) (fun h237 => ?_) (fun h237 => ?_)
                                  · exact absurd rfl h237
                                  · refine V_iconst (v := 1) (by decide) dL_isFollower_240 ?_
                                    refine V_goto (tgt := 245) dL_isFollower_241 (by decide) ?_
                                    exact V_iret dL_isFollower_245 rfl rfl (⟨rfl, rfl⟩)
                  · refine V_iconst (v := 1) (by decide) dL_isFollower_117 ?_
                    refine V_goto (tgt := 122) dL_isFollower_118 (by decide) ?_
                    refine V_icmp_ne (tgt := 169) dL_isFollower_122 (by decide) (fun h122 => ?_) (fun h122 => ?_)
                    · exact absurd (b2t h114) h122
                    · refine L_aload_n_0 dL_isFollower_125 ?_
                      refine L_iload_n_1 dL_isFollower_126 ?_
                      refine Q_u2 (lkW_RL_166 rfl dL_isFollower_127) (e5) pn_L_attention (Nat.le_of_ble_eq_true rfl) (Nat.le_of_ble_eq_true rfl) rfl (by omega) (Nat.le_of_ble_eq_true rfl) ?_
                      refine V_iconst (v := 2) (by decide) dL_isFollower_130 ?_
                      refine L_aload_5 dL_isFollower_131 ?_
                      refine L_iload_6 dL_isFollower_133 ?_
                      refine V_iconst (v := 2) (by decide) dL_isFollower_135 ?_
                      refine V_iadd dL_isFollower_136 ?_
                      refine U_iald (n := (5 * k + 2)) dL_isFollower_137 rfl (nI_add (5 * k) 2) (by omega) (by decide) ?_
                      refine V_imul dL_isFollower_138 ?_
                      refine L_aload_5 dL_isFollower_139 ?_
                      refine L_iload_6 dL_isFollower_141 ?_
                      refine V_iconst (v := 3) (by decide) dL_isFollower_143 ?_
                      refine V_iadd dL_isFollower_144 ?_
                      refine U_iald (n := (5 * k + 3)) dL_isFollower_145 rfl (nI_add (5 * k) 3) (by omega) (by decide) ?_
                      refine V_iadd dL_isFollower_146 ?_
                      refine V_icmp_ne (tgt := 169) dL_isFollower_147 (by decide) (fun h147 => ?_) (fun h147 => ?_)
                      · exact absurd rfl h147
                      · refine L_aload_n_0 dL_isFollower_150 ?_
                        refine L_iload_n_1 dL_isFollower_151 ?_
                        refine Q_u2 (lkW_RL_168 rfl dL_isFollower_152) (e6) pn_L_costs (Nat.le_of_ble_eq_true rfl) (Nat.le_of_ble_eq_true rfl) rfl (by omega) (Nat.le_of_ble_eq_true rfl) ?_
                        refine L_aload_5 dL_isFollower_155 ?_
                        refine L_iload_6 dL_isFollower_157 ?_
                        refine V_iconst (v := 4) (by decide) dL_isFollower_159 ?_
                        refine V_iadd dL_isFollower_160 ?_
                        refine U_iald (n := (5 * k + 4)) dL_isFollower_161 rfl (nI_add (5 * k) 4) (by omega) (by decide) ?_
                        refine V_icmp_ne (tgt := 169) dL_isFollower_162 (by decide) (fun h162 => ?_) (fun h162 => ?_)
                        · exact absurd rfl h162
                        · refine V_iconst (v := 1) (by decide) dL_isFollower_165 ?_
                          refine V_goto (tgt := 170) dL_isFollower_166 (by decide) ?_
                          refine V_istore_8 dL_isFollower_170 (Nat.le_of_ble_eq_true rfl) rfl ?_
                          refine L_iload_8 dL_isFollower_172 ?_
                          refine V_ifx_eq (tgt := 244) dL_isFollower_174 (by decide) (fun h174 => ?_) (fun h174 => ?_)
                          · exfalso; revert h174; decide
                          · refine L_aload_n_0 dL_isFollower_177 ?_
                            refine L_iload_n_1 dL_isFollower_178 ?_
                            refine Q_u2 (lkW_RL_170 rfl dL_isFollower_179) (e7) pn_L_answer (Nat.le_of_ble_eq_true rfl) (Nat.le_of_ble_eq_true rfl) rfl (by omega) (Nat.le_of_ble_eq_true rfl) ?_
                            refine L_iload_n_1 dL_isFollower_182 ?_
                            refine L_aload_n_3 dL_isFollower_183 ?_
                            refine L_aload_4 dL_isFollower_184 ?_
                            refine L_aload_5 dL_isFollower_186 ?_
                            refine Q_v4 (lkR_RL_108 rfl dL_isFollower_188) (k_L_answers 0 hk hA) ⟨pn_L_answers, rfl, (Nat.le_of_ble_eq_true rfl), (Nat.le_of_ble_eq_true rfl), rfl⟩ (trivial) cfn (by omega) (Nat.le_of_ble_eq_true rfl) ?_
                            refine V_icmp_ne (tgt := 244) dL_isFollower_191 (by decide) (fun h191 => ?_) (fun h191 => ?_)
                            · exact absurd rfl h191
                            · refine L_aload_n_0 dL_isFollower_194 ?_
                              refine L_iload_n_1 dL_isFollower_195 ?_
                              refine Q_u2 (lkW_RL_172 rfl dL_isFollower_196) (e8) pn_L_costToCome (Nat.le_of_ble_eq_true rfl) (Nat.le_of_ble_eq_true rfl) rfl (by omega) (Nat.le_of_ble_eq_true rfl) ?_
                              refine L_iload_n_1 dL_isFollower_199 ?_
                              refine L_aload_n_3 dL_isFollower_200 ?_
                              refine L_aload_4 dL_isFollower_201 ?_
                              refine L_aload_5 dL_isFollower_203 ?_
                              refine Q_v4 (lkR_RL_112 rfl dL_isFollower_205) (k_L_costNow 0 hk hA) ⟨pn_L_costNow, rfl, (Nat.le_of_ble_eq_true rfl), (Nat.le_of_ble_eq_true rfl), rfl⟩ (trivial) cfn (by omega) (Nat.le_of_ble_eq_true rfl) ?_
                              refine V_icmp_ne (tgt := 244) dL_isFollower_208 (by decide) (fun h208 => ?_) (fun h208 => ?_)
                              · exact absurd rfl h208
                              · refine L_aload_n_0 dL_isFollower_211 ?_
                                refine L_iload_n_1 dL_isFollower_212 ?_
                                refine Q_u2 (lkW_RL_174 rfl dL_isFollower_213) (e9) pn_L_wrong (Nat.le_of_ble_eq_true rfl) (Nat.le_of_ble_eq_true rfl) rfl (by omega) (Nat.le_of_ble_eq_true rfl) ?_
                                refine L_iload_7 dL_isFollower_216 ?_
                                refine V_ifx_eq (tgt := 236) dL_isFollower_218 (by decide) (fun h218 => ?_) (fun h218 => ?_)
                                · exfalso; revert h218; decide
                                · refine L_aload_5 dL_isFollower_221 ?_
                                  refine L_iload_6 dL_isFollower_223 ?_
                                  refine U_iald (n := 5 * k) dL_isFollower_225 rfl (rfl) (by omega) (by decide) ?_
                                  refine L_aload_n_3 dL_isFollower_226 ?_
                                  refine V_iconst (v := 1) (by decide) dL_isFollower_227 ?_
                                  refine U_iald (n := 1) dL_isFollower_228 rfl (rfl) (by decide) (by decide) ?_
                                  refine V_ixor dL_isFollower_229 ?_
                                  refine Q_v1 (lkR_RL_92 rfl dL_isFollower_230) (k_L_ones 0 (L30_xor hL hL1)) ⟨pn_L_ones, rfl, (Nat.le_of_ble_eq_true rfl), (Nat.le_of_ble_eq_true rfl), rfl⟩ (trivial) cfn (by omega) (Nat.le_of_ble_eq_true rfl) ?_
                                  refine V_goto (tgt := 237) dL_isFollower_233 (by decide) ?_
                                  refine V_icmp_ne (tgt := 244) dL_isFollower_237 (by decide) (fun h237 => ?_) (fun h237 => ?_)
                                  · exact absurd rfl h237
                                  · refine V_iconst (v := 1) (by decide) dL_isFollower_240 ?_
                                    refine V_goto (tgt := 245) dL_isFollower_241 (by decide) ?_
                                    exact V_iret dL_isFollower_245 rfl rfl (⟨rfl, rfl⟩)
theorem k_L_fol0 {g : G0} {j : Nat → Nat → Int64} (d : Nat) {i : Nat → Nat → Int32} {k s c n : Nat} (hk : k < 4) (hA : AW i c n) (h0 : i 91 (5 * k) < 0) (e1 : C g m_L_editionOf 10 0 0 false [.ref 0, .int (nI k)] (mk i j) (rets (some (.int (-1))) (mk i j))) (e2 : C g m_L_streets 10 0 0 false [.ref 0, .int (nI k)] (mk i j) (rets (some (.int (-1))) (mk i j))) (e3 : C g m_L_has 10 0 0 false [.ref 0, .int (nI k), .int (nI s)] (mk i j) (rets (some (.int (0))) (mk i j))) (e4 : C g m_L_isRight 10 0 0 false [.ref 0, .int (nI k)] (mk i j) (rets (some (.int (0))) (mk i j))) (e5 : C g m_L_attention 10 0 0 false [.ref 0, .int (nI k)] (mk i j) (rets (some (.int (2 * i 91 (5 * k + 2) + i 91 (5 * k + 3)))) (mk i j))) (e6 : C g m_L_costs 10 0 0 false [.ref 0, .int (nI k)] (mk i j) (rets (some (.int (i 91 (5 * k + 4)))) (mk i j))) (e7 : C g m_L_answer 10 0 0 false [.ref 0, .int (nI k)] (mk i j) (rets (some (.int (lan (i 89) (i 90) (i 91) k c))) (mk i j))) (e8 : C g m_L_costToCome 10 0 0 false [.ref 0, .int (nI k)] (mk i j) (rets (some (.int (lcn (i 89) (i 90) (i 91) k c))) (mk i j))) (e9 : C g m_L_wrong 10 0 0 false [.ref 0, .int (nI k)] (mk i j) (rets (some (.int (-1))) (mk i j)))  : C g m_L_isFollower (d + 11) 0 0 false [.ref 0, .int (nI k), .int (nI s), .ref 89, .ref 90, .ref 91] (mk i j) (rets (some (.int 1)) (mk i j)) := by
  refine C_of (L := [some (.ref 0), some (.int (nI k)), some (.int (nI s)), some (.ref 89), some (.ref 90), some (.ref 91), none, none, none]) rfl ?_
  refine V_iconst (v := 5) (by decide) dL_isFollower_0 ?_
  refine L_iload_n_1 dL_isFollower_1 ?_
  refine V_imul dL_isFollower_2 ?_
  refine V_eqv (y := nI (5 * k)) (pk_mul 5 k) ?_
  refine V_istore_6 dL_isFollower_3 (Nat.le_of_ble_eq_true rfl) rfl ?_
  refine L_aload_5 dL_isFollower_5 ?_
  refine L_iload_6 dL_isFollower_7 ?_
  refine U_iald (n := 5 * k) dL_isFollower_9 rfl (rfl) (by omega) (by decide) ?_
  refine V_ifx_lt (tgt := 17) dL_isFollower_10 (by decide) (fun h10 => ?_) (fun h10 => ?_)
  · refine V_iconst (v := 0) (by decide) dL_isFollower_17 ?_
    refine V_istore_7 dL_isFollower_18 (Nat.le_of_ble_eq_true rfl) rfl ?_
    refine L_aload_n_0 dL_isFollower_20 ?_
    refine L_iload_n_1 dL_isFollower_21 ?_
    refine Q_u2 (lkW_RL_157 rfl dL_isFollower_22) (e1) pn_L_editionOf (Nat.le_of_ble_eq_true rfl) (Nat.le_of_ble_eq_true rfl) rfl (by omega) (Nat.le_of_ble_eq_true rfl) ?_
    refine L_iload_7 dL_isFollower_25 ?_
    refine V_ifx_eq (tgt := 40) dL_isFollower_27 (by decide) (fun h27 => ?_) (fun h27 => ?_)
    · refine V_iconst (v := (-1)) (by decide) dL_isFollower_40 ?_
      refine V_icmp_ne (tgt := 169) dL_isFollower_41 (by decide) (fun h41 => ?_) (fun h41 => ?_)
      · exact absurd rfl h41
      · refine L_aload_n_0 dL_isFollower_44 ?_
        refine L_iload_n_1 dL_isFollower_45 ?_
        refine Q_u2 (lkW_RL_159 rfl dL_isFollower_46) (e2) pn_L_streets (Nat.le_of_ble_eq_true rfl) (Nat.le_of_ble_eq_true rfl) rfl (by omega) (Nat.le_of_ble_eq_true rfl) ?_
        refine L_iload_7 dL_isFollower_49 ?_
        refine V_ifx_eq (tgt := 65) dL_isFollower_51 (by decide) (fun h51 => ?_) (fun h51 => ?_)
        · refine V_iconst (v := (-1)) (by decide) dL_isFollower_65 ?_
          refine V_icmp_ne (tgt := 169) dL_isFollower_66 (by decide) (fun h66 => ?_) (fun h66 => ?_)
          · exact absurd rfl h66
          · refine L_aload_n_0 dL_isFollower_69 ?_
            refine L_iload_n_1 dL_isFollower_70 ?_
            refine L_iload_n_2 dL_isFollower_71 ?_
            refine Q_u3 (lkW_RL_161 rfl dL_isFollower_72) (e3) pn_L_has (Nat.le_of_ble_eq_true rfl) (Nat.le_of_ble_eq_true rfl) rfl (by omega) (Nat.le_of_ble_eq_true rfl) ?_
            refine L_iload_7 dL_isFollower_75 ?_
            refine V_ifx_eq (tgt := 92) dL_isFollower_77 (by decide) (fun h77 => ?_) (fun h77 => ?_)
            · refine V_iconst (v := 0) (by decide) dL_isFollower_92 ?_
              refine V_icmp_ne (tgt := 169) dL_isFollower_93 (by decide) (fun h93 => ?_) (fun h93 => ?_)
              · exact absurd rfl h93
              · refine L_aload_n_0 dL_isFollower_96 ?_
                refine L_iload_n_1 dL_isFollower_97 ?_
                refine Q_u2 (lkW_RL_164 rfl dL_isFollower_98) (e4) pn_L_isRight (Nat.le_of_ble_eq_true rfl) (Nat.le_of_ble_eq_true rfl) rfl (by omega) (Nat.le_of_ble_eq_true rfl) ?_
                refine L_iload_7 dL_isFollower_101 ?_
                refine V_ifx_eq (tgt := 121) dL_isFollower_103 (by decide) (fun h103 => ?_) (fun h103 => ?_)
                · refine V_iconst (v := 0) (by decide) dL_isFollower_121 ?_
                  refine V_icmp_ne (tgt := 169) dL_isFollower_122 (by decide) (fun h122 => ?_) (fun h122 => ?_)
                  · exact absurd rfl h122
                  · refine L_aload_n_0 dL_isFollower_125 ?_
                    refine L_iload_n_1 dL_isFollower_126 ?_
                    refine Q_u2 (lkW_RL_166 rfl dL_isFollower_127) (e5) pn_L_attention (Nat.le_of_ble_eq_true rfl) (Nat.le_of_ble_eq_true rfl) rfl (by omega) (Nat.le_of_ble_eq_true rfl) ?_
                    refine V_iconst (v := 2) (by decide) dL_isFollower_130 ?_
                    refine L_aload_5 dL_isFollower_131 ?_
                    refine L_iload_6 dL_isFollower_133 ?_
                    refine V_iconst (v := 2) (by decide) dL_isFollower_135 ?_
                    refine V_iadd dL_isFollower_136 ?_
                    refine U_iald (n := (5 * k + 2)) dL_isFollower_137 rfl (nI_add (5 * k) 2) (by omega) (by decide) ?_
                    refine V_imul dL_isFollower_138 ?_
                    refine L_aload_5 dL_isFollower_139 ?_
                    refine L_iload_6 dL_isFollower_141 ?_
                    refine V_iconst (v := 3) (by decide) dL_isFollower_143 ?_
                    refine V_iadd dL_isFollower_144 ?_
                    refine U_iald (n := (5 * k + 3)) dL_isFollower_145 rfl (nI_add (5 * k) 3) (by omega) (by decide) ?_
                    refine V_iadd dL_isFollower_146 ?_
                    refine V_icmp_ne (tgt := 169) dL_isFollower_147 (by decide) (fun h147 => ?_) (fun h147 => ?_)
                    · exact absurd rfl h147
                    · refine L_aload_n_0 dL_isFollower_150 ?_
                      refine L_iload_n_1 dL_isFollower_151 ?_
                      refine Q_u2 (lkW_RL_168 rfl dL_isFollower_152) (e6) pn_L_costs (Nat.le_of_ble_eq_true rfl) (Nat.le_of_ble_eq_true rfl) rfl (by omega) (Nat.le_of_ble_eq_true rfl) ?_
                      refine L_aload_5 dL_isFollower_155 ?_
                      refine L_iload_6 dL_isFollower_157 ?_
                      refine V_iconst (v := 4) (by decide) dL_isFollower_159 ?_
                      refine V_iadd dL_isFollower_160 ?_
                      refine U_iald (n := (5 * k + 4)) dL_isFollower_161 rfl (nI_add (5 * k) 4) (by omega) (by decide) ?_
                      refine V_icmp_ne (tgt := 169) dL_isFollower_162 (by decide) (fun h162 => ?_) (fun h162 => ?_)
                      · exact absurd rfl h162
                      · refine V_iconst (v := 1) (by decide) dL_isFollower_165 ?_
                        refine V_goto (tgt := 170) dL_isFollower_166 (by decide) ?_
                        refine V_istore_8 dL_isFollower_170 (Nat.le_of_ble_eq_true rfl) rfl ?_
                        refine L_iload_8 dL_isFollower_172 ?_
                        refine V_ifx_eq (tgt := 244) dL_isFollower_174 (by decide) (fun h174 => ?_) (fun h174 => ?_)
                        · exfalso; revert h174; decide
                        · refine L_aload_n_0 dL_isFollower_177 ?_
                          refine L_iload_n_1 dL_isFollower_178 ?_
                          refine Q_u2 (lkW_RL_170 rfl dL_isFollower_179) (e7) pn_L_answer (Nat.le_of_ble_eq_true rfl) (Nat.le_of_ble_eq_true rfl) rfl (by omega) (Nat.le_of_ble_eq_true rfl) ?_
                          refine L_iload_n_1 dL_isFollower_182 ?_
                          refine L_aload_n_3 dL_isFollower_183 ?_
                          refine L_aload_4 dL_isFollower_184 ?_
                          refine L_aload_5 dL_isFollower_186 ?_
                          refine Q_v4 (lkR_RL_108 rfl dL_isFollower_188) (k_L_answers 0 hk hA) ⟨pn_L_answers, rfl, (Nat.le_of_ble_eq_true rfl), (Nat.le_of_ble_eq_true rfl), rfl⟩ (trivial) cfn (by omega) (Nat.le_of_ble_eq_true rfl) ?_
                          refine V_icmp_ne (tgt := 244) dL_isFollower_191 (by decide) (fun h191 => ?_) (fun h191 => ?_)
                          · exact absurd rfl h191
                          · refine L_aload_n_0 dL_isFollower_194 ?_
                            refine L_iload_n_1 dL_isFollower_195 ?_
                            refine Q_u2 (lkW_RL_172 rfl dL_isFollower_196) (e8) pn_L_costToCome (Nat.le_of_ble_eq_true rfl) (Nat.le_of_ble_eq_true rfl) rfl (by omega) (Nat.le_of_ble_eq_true rfl) ?_
                            refine L_iload_n_1 dL_isFollower_199 ?_
                            refine L_aload_n_3 dL_isFollower_200 ?_
                            refine L_aload_4 dL_isFollower_201 ?_
                            refine L_aload_5 dL_isFollower_203 ?_
                            refine Q_v4 (lkR_RL_112 rfl dL_isFollower_205) (k_L_costNow 0 hk hA) ⟨pn_L_costNow, rfl, (Nat.le_of_ble_eq_true rfl), (Nat.le_of_ble_eq_true rfl), rfl⟩ (trivial) cfn (by omega) (Nat.le_of_ble_eq_true rfl) ?_
                            refine V_icmp_ne (tgt := 244) dL_isFollower_208 (by decide) (fun h208 => ?_) (fun h208 => ?_)
                            · exact absurd rfl h208
                            · refine L_aload_n_0 dL_isFollower_211 ?_
                              refine L_iload_n_1 dL_isFollower_212 ?_
                              refine Q_u2 (lkW_RL_174 rfl dL_isFollower_213) (e9) pn_L_wrong (Nat.le_of_ble_eq_true rfl) (Nat.le_of_ble_eq_true rfl) rfl (by omega) (Nat.le_of_ble_eq_true rfl) ?_
                              refine L_iload_7 dL_isFollower_216 ?_
                              refine V_ifx_eq (tgt := 236) dL_isFollower_218 (by decide) (fun h218 => ?_) (fun h218 => ?_)
                              · refine V_iconst (v := (-1)) (by decide) dL_isFollower_236 ?_
                                refine V_icmp_ne (tgt := 244) dL_isFollower_237 (by decide) (fun h237 => ?_) (fun h237 => ?_)
                                · exact absurd rfl h237
                                · refine V_iconst (v := 1) (by decide) dL_isFollower_240 ?_
                                  refine V_goto (tgt := 245) dL_isFollower_241 (by decide) ?_
                                  exact V_iret dL_isFollower_245 rfl rfl (⟨rfl, rfl⟩)
                              · exfalso; revert h218; decide
                · exfalso; revert h103; decide
            · exfalso; revert h77; decide
        · exfalso; revert h51; decide
    · exfalso; revert h27; decide
  · exact absurd h0 h10
theorem k_L_isSo {g : G0} {j : Nat → Nat → Int64} (d : Nat) {i : Nat → Nat → Int32} {x : Int32} {c n : Nat} (hA : AW i c n) (hL0 : L30 (i 89 0)) (s1 : C g m_X6_edition 9 0 0 false [.ref 0] (mk i j) (rets (some (.int (i 89 2))) (mk i j))) (s2 : C g m_X6_draft 9 0 0 false [.ref 0] (mk i j) (rets (some (.int (bcI (i 89 0)))) (mk i j))) (s3 : C g m_X6_published 9 0 0 false [.ref 0] (mk i j) (rets (some (.int (bcI (i 89 1)))) (mk i j))) (s4 : C g m_X6_pending 9 0 0 false [.ref 0] (mk i j) (rets (some (.int (bcI (i 89 0 ^^^ i 89 1)))) (mk i j))) (s5 : C g m_X6_kept 9 0 0 false [.ref 0] (mk i j) (rets (some (.int (i 89 4))) (mk i j))) (s6 : ∀ s, s < 30 → C g m_L_where 10 0 0 false [.ref 0, .int (nI s)] (mk i j) (rets (some (.int (mbt (i 89 0) (nI s) + 2 * mbt (i 89 1) (nI s)))) (mk i j))) (s7 : C g m_X6_savedShare 9 0 0 false [.ref 0] (mk i j) (rets (some (.double (sha i))) (mk i j))) (s7z : ¬ csL (i 91) = 0 → ¬ i 89 5 = 0) (s8 : ∀ k, k < 7 → C g m_L_from 10 1 6 false [.ref 0, .int (nI k)] (mk i j) (rets (some (.int (if k < c then i 90 (3 * k) else -101))) (mk i j))) (s9 : ∀ k, k < 7 → C g m_L_cost 10 1 6 false [.ref 0, .int (nI k)] (mk i j) (rets (some (.int (if k < c then lco (i 90) k else -101))) (mk i j))) (s10 : ∀ a b, a < 16 → b < 16 → C g m_L_compare 10 0 0 false [.ref 0, .int (nI a), .int (nI b)] (mk i j) (rets (some (.int (nwI (nI a) (nI b)))) (mk i j))) (s11 : ∀ k s, k < 4 → s < 30 → C g m_L_isFollower 11 0 0 false [.ref 0, .int (nI k), .int (nI s), .ref 89, .ref 90, .ref 91] (mk i j) (rets (some (.int (1))) (mk i j)))  : C g m_L_isSo (d + 12) 14 84 false [.ref 0, .int x, .ref 89, .ref 90, .ref 91] (mk i j) (rets (some (.int 1)) (mk i j)) := by
  refine C_of (L := [some (.ref 0), some (.int x), some (.ref 89), some (.ref 90), some (.ref 91), none, none, none, none, none, none]) rfl ?_
  obtain ⟨hc, h6, hn, hn16, hLL1, hL, hE⟩ := id hA
  obtain ⟨s, hs, hl1⟩ := low_of (g := g) (i := i) (j := j) x (n := 30) (by omega) (by omega)
  obtain ⟨a, ha, hl2⟩ := low_of (g := g) (i := i) (j := j) (x >>> (5 &&& 31)) (n := 16) (by omega) (by omega)
  obtain ⟨b, hb, hl3⟩ := low_of (g := g) (i := i) (j := j) (x >>> (9 &&& 31)) (n := 16) (by omega) (by omega)
  have loop : ∀ (n m : Nat), m + n = 7 → V g m_L_isSo (d + 12) (2 * n) (12 * n) false (Kp g false (rets (some (.int 1)) (mk i j))) 160 [some (.ref 0), some (.int x), some (.ref 89), some (.ref 90), some (.ref 91), some (.int (nI s)), some (.int (csL (i 91))), some (.int 1), some (.int (nI m)), none, none] [] (mk i j) := by
    intro n
    induction n with
    | zero =>
      intro m hm
      have hm0 : m = 7 := by omega
      subst hm0
      refine L_iload_8 dL_isSo_160 ?_
      refine V_bipush (v := 7) (by decide) dL_isSo_162 ?_
      refine V_icmp_ge (tgt := 241) dL_isSo_164 (by decide) (fun h164 => ?_) (fun h164 => ?_)
      · refine L_iload_n_1 dL_isSo_241 ?_
        refine V_iconst (v := 5) (by decide) dL_isSo_242 ?_
        refine V_ishr dL_isSo_243 ?_
        refine V_bipush (v := 16) (by decide) dL_isSo_244 ?_
        refine Q_v2 (lkR_RL_176 rfl dL_isSo_246) (hl2) ⟨pn_L_low, rfl, (Nat.le_of_ble_eq_true rfl), (Nat.le_of_ble_eq_true rfl), rfl⟩ (trivial) cfn (by omega) (Nat.le_of_ble_eq_true rfl) ?_
        refine V_istore_8 dL_isSo_249 (Nat.le_of_ble_eq_true rfl) rfl ?_
        refine L_iload_n_1 dL_isSo_251 ?_
        refine V_bipush (v := 9) (by decide) dL_isSo_252 ?_
        refine V_ishr dL_isSo_254 ?_
        refine V_bipush (v := 16) (by decide) dL_isSo_255 ?_
        refine Q_v2 (lkR_RL_176 rfl dL_isSo_257) (hl3) ⟨pn_L_low, rfl, (Nat.le_of_ble_eq_true rfl), (Nat.le_of_ble_eq_true rfl), rfl⟩ (trivial) cfn (by omega) (Nat.le_of_ble_eq_true rfl) ?_
        refine V_istore_9 dL_isSo_260 (Nat.le_of_ble_eq_true rfl) rfl ?_
        refine L_iload_7 dL_isSo_262 ?_
        refine V_ifx_eq (tgt := 289) dL_isSo_264 (by decide) (fun h264 => ?_) (fun h264 => ?_)
        · exfalso; revert h264; decide
        · refine L_aload_n_0 dL_isSo_267 ?_
          refine L_iload_8 dL_isSo_268 ?_
          refine L_iload_9 dL_isSo_270 ?_
          refine Q_u3 (lkW_RL_204 rfl dL_isSo_272) (s10 a b ha hb) pn_L_compare (Nat.le_of_ble_eq_true rfl) (Nat.le_of_ble_eq_true rfl) rfl (by omega) (Nat.le_of_ble_eq_true rfl) ?_
          refine L_iload_8 dL_isSo_275 ?_
          refine L_iload_9 dL_isSo_277 ?_
          refine Q_v2 (lkR_RL_101 rfl dL_isSo_279) (k_L_newer 0 ha hb) ⟨pn_L_newer, rfl, (Nat.le_of_ble_eq_true rfl), (Nat.le_of_ble_eq_true rfl), rfl⟩ (trivial) cfn (by omega) (Nat.le_of_ble_eq_true rfl) ?_
          refine V_icmp_ne (tgt := 289) dL_isSo_282 (by decide) (fun h282 => ?_) (fun h282 => ?_)
          · exact absurd rfl h282
          · refine V_iconst (v := 1) (by decide) dL_isSo_285 ?_
            refine V_goto (tgt := 290) dL_isSo_286 (by decide) ?_
            refine V_istore_7 dL_isSo_290 (Nat.le_of_ble_eq_true rfl) rfl ?_
            refine V_iconst (v := 0) (by decide) dL_isSo_292 ?_
            refine V_istore_10 dL_isSo_293 (Nat.le_of_ble_eq_true rfl) rfl ?_
            refine V_less (kc' := 0) (ks' := 0) (by omega) (by omega) ?_
            have loop2 : ∀ (n m : Nat), m + n = 4 → V g m_L_isSo (d + 12) 0 0 false (Kp g false (rets (some (.int 1)) (mk i j))) 295 [some (.ref 0), some (.int x), some (.ref 89), some (.ref 90), some (.ref 91), some (.int (nI s)), some (.int (csL (i 91))), some (.int 1), some (.int (nI a)), some (.int (nI b)), some (.int (nI m))] [] (mk i j) := by
              intro n
              induction n with
              | zero =>
                intro m hm
                have hm0 : m = 4 := by omega
                subst hm0
                refine L_iload_10 dL_isSo_295 ?_
                refine V_iconst (v := 4) (by decide) dL_isSo_297 ?_
                refine V_icmp_ge (tgt := 334) dL_isSo_298 (by decide) (fun h298 => ?_) (fun h298 => ?_)
                · refine L_iload_7 dL_isSo_334 ?_
                  exact V_iret dL_isSo_336 rfl rfl (⟨rfl, rfl⟩)
                · exact absurd (by decide) h298
              | succ n ih =>
                intro m hm
                have hlt : m < 4 := by omega
                refine L_iload_10 dL_isSo_295 ?_
                refine V_iconst (v := 4) (by decide) dL_isSo_297 ?_
                refine V_icmp_ge (tgt := 334) dL_isSo_298 (by decide) (fun h298 => ?_) (fun h298 => ?_)
                · exact absurd ((nI_leI (a := 4) (b := m) (by omega) (by omega)).mp h298) (by omega)
                · refine L_iload_7 dL_isSo_301 ?_
                  refine V_ifx_eq (tgt := 325) dL_isSo_303 (by decide) (fun h303 => ?_) (fun h303 => ?_)
                  · exfalso; revert h303; decide
                  · refine L_aload_n_0 dL_isSo_306 ?_
                    refine L_iload_10 dL_isSo_307 ?_
                    refine L_iload_5 dL_isSo_309 ?_
                    refine L_aload_n_2 dL_isSo_311 ?_
                    refine L_aload_n_3 dL_isSo_312 ?_
                    refine L_aload_4 dL_isSo_313 ?_
                    refine Q_v6 (lkR_RL_206 rfl dL_isSo_315) (s11 m s (by omega) hs) ⟨pn_L_isFollower, rfl, (Nat.le_of_ble_eq_true rfl), (Nat.le_of_ble_eq_true rfl), rfl⟩ (trivial) cfn (by omega) (Nat.le_of_ble_eq_true rfl) ?_
                    refine V_ifx_eq (tgt := 325) dL_isSo_318 (by decide) (fun h318 => ?_) (fun h318 => ?_)
                    · exfalso; revert h318; decide
                    · refine V_iconst (v := 1) (by decide) dL_isSo_321 ?_
                      refine V_goto (tgt := 326) dL_isSo_322 (by decide) ?_
                      refine V_istore_7 dL_isSo_326 (Nat.le_of_ble_eq_true rfl) rfl ?_
                      refine V_iinc_10 (v := nI (m + 1)) dL_isSo_328 (Nat.le_of_ble_eq_true rfl) rfl (nI_1 _) ?_
                      refine V_goto (tgt := 295) dL_isSo_331 (by decide) ?_
                      exact ih (m + 1) (by omega)
            exact loop2 4 0 (by omega)
      · exact absurd (by decide) h164
    | succ n ih =>
      intro m hm
      have hlt : m < 7 := by omega
      rw [show 2 * (n + 1) = 2 * n + 1 + 1 by omega, show 12 * (n + 1) = 12 * n + 6 + 6 by omega]
      refine L_iload_8 dL_isSo_160 ?_
      refine V_bipush (v := 7) (by decide) dL_isSo_162 ?_
      refine V_icmp_ge (tgt := 241) dL_isSo_164 (by decide) (fun h164 => ?_) (fun h164 => ?_)
      · exact absurd ((nI_leI (a := 7) (b := m) (by omega) (by omega)).mp h164) (by omega)
      · refine L_iload_7 dL_isSo_167 ?_
        refine V_ifx_eq (tgt := 232) dL_isSo_169 (by decide) (fun h169 => ?_) (fun h169 => ?_)
        · exfalso; revert h169; decide
        · refine L_aload_n_0 dL_isSo_172 ?_
          refine L_iload_8 dL_isSo_173 ?_
          refine Q_w2 (kc := 2 * n + 1) (ks := 12 * n + 6) (lkW_RL_200 rfl dL_isSo_175) (s8 m hlt) pn_L_from (Nat.le_of_ble_eq_true rfl) (Nat.le_of_ble_eq_true rfl) rfl (by omega) (Nat.le_of_ble_eq_true rfl) ?_
          refine L_iload_8 dL_isSo_178 ?_
          refine L_aload_n_2 dL_isSo_180 ?_
          refine V_iconst (v := 4) (by decide) dL_isSo_181 ?_
          refine U_iald (n := 4) dL_isSo_182 rfl (rfl) (by decide) (by decide) ?_
          refine V_eqv (y := nI c) hc ?_
          refine V_icmp_ge (tgt := 195) dL_isSo_183 (by decide) (fun h183 => ?_) (fun h183 => ?_)
          · refine V_bipush (v := (-101)) (by decide) dL_isSo_195 ?_
            refine V_icmp_ne (tgt := 232) dL_isSo_197 (by decide) (fun h197 => ?_) (fun h197 => ?_)
            · exact absurd (if_neg (by have := (nI_leI (a := c) (b := m) (by omega) (by omega)).mp h183; omega)) h197
            · refine L_aload_n_0 dL_isSo_200 ?_
              refine L_iload_8 dL_isSo_201 ?_
              refine Q_w2 (kc := 2 * n) (ks := 12 * n) (lkW_RL_202 rfl dL_isSo_203) (s9 m hlt) pn_L_cost (Nat.le_of_ble_eq_true rfl) (Nat.le_of_ble_eq_true rfl) rfl (by omega) (Nat.le_of_ble_eq_true rfl) ?_
              refine L_iload_8 dL_isSo_206 ?_
              refine L_aload_n_2 dL_isSo_208 ?_
              refine V_iconst (v := 4) (by decide) dL_isSo_209 ?_
              refine U_iald (n := 4) dL_isSo_210 rfl (rfl) (by decide) (by decide) ?_
              refine V_eqv (y := nI c) hc ?_
              refine V_icmp_ge (tgt := 223) dL_isSo_211 (by decide) (fun h211 => ?_) (fun h211 => ?_)
              · refine V_bipush (v := (-101)) (by decide) dL_isSo_223 ?_
                refine V_icmp_ne (tgt := 232) dL_isSo_225 (by decide) (fun h225 => ?_) (fun h225 => ?_)
                · exact absurd (if_neg (by have := (nI_leI (a := c) (b := m) (by omega) (by omega)).mp h211; omega)) h225
                · refine V_iconst (v := 1) (by decide) dL_isSo_228 ?_
                  refine V_goto (tgt := 233) dL_isSo_229 (by decide) ?_
                  refine V_istore_7 dL_isSo_233 (Nat.le_of_ble_eq_true rfl) rfl ?_
                  refine V_iinc_8 (v := nI (m + 1)) dL_isSo_235 (Nat.le_of_ble_eq_true rfl) rfl (nI_1 _) ?_
                  refine V_goto (tgt := 160) dL_isSo_238 (by decide) ?_
                  exact ih (m + 1) (by omega)
              · refine L_iload_8 dL_isSo_214 ?_
                refine L_aload_n_3 dL_isSo_216 ?_
                have hmc : m < c := by have := mt (nI_leI (a := c) (b := m) (by omega) (by omega)).mpr h211; omega
                refine Q_v2 (lkR_RL_97 rfl dL_isSo_217) (k_L_costOf 0 (k := m) (by omega) (hL m hmc).1 (hL m hmc).2) ⟨pn_L_costOf, rfl, (Nat.le_of_ble_eq_true rfl), (Nat.le_of_ble_eq_true rfl), rfl⟩ (trivial) cfn (by omega) (Nat.le_of_ble_eq_true rfl) ?_
                refine V_goto (tgt := 225) dL_isSo_220 (by decide) ?_
                refine V_icmp_ne (tgt := 232) dL_isSo_225 (by decide) (fun h225 => ?_) (fun h225 => ?_)
                · exact absurd (if_pos (by have := mt (nI_leI (a := c) (b := m) (by omega) (by omega)).mpr h211; omega)) h225
                · refine V_iconst (v := 1) (by decide) dL_isSo_228 ?_
                  refine V_goto (tgt := 233) dL_isSo_229 (by decide) ?_
                  refine V_istore_7 dL_isSo_233 (Nat.le_of_ble_eq_true rfl) rfl ?_
                  refine V_iinc_8 (v := nI (m + 1)) dL_isSo_235 (Nat.le_of_ble_eq_true rfl) rfl (nI_1 _) ?_
                  refine V_goto (tgt := 160) dL_isSo_238 (by decide) ?_
                  exact ih (m + 1) (by omega)
          · refine L_aload_n_3 dL_isSo_186 ?_
            refine V_iconst (v := 3) (by decide) dL_isSo_187 ?_
            refine L_iload_8 dL_isSo_188 ?_
            refine V_imul dL_isSo_190 ?_
            have hmc : m < c := by have := mt (nI_leI (a := c) (b := m) (by omega) (by omega)).mpr h183; omega
            refine U_iald (n := (3 * m)) dL_isSo_191 rfl (pk_mul 3 m) (by omega) (by decide) ?_
            refine V_goto (tgt := 197) dL_isSo_192 (by decide) ?_
            refine V_icmp_ne (tgt := 232) dL_isSo_197 (by decide) (fun h197 => ?_) (fun h197 => ?_)
            · exact absurd (if_pos (by have := mt (nI_leI (a := c) (b := m) (by omega) (by omega)).mpr h183; omega)) h197
            · refine L_aload_n_0 dL_isSo_200 ?_
              refine L_iload_8 dL_isSo_201 ?_
              refine Q_w2 (kc := 2 * n) (ks := 12 * n) (lkW_RL_202 rfl dL_isSo_203) (s9 m hlt) pn_L_cost (Nat.le_of_ble_eq_true rfl) (Nat.le_of_ble_eq_true rfl) rfl (by omega) (Nat.le_of_ble_eq_true rfl) ?_
              refine L_iload_8 dL_isSo_206 ?_
              refine L_aload_n_2 dL_isSo_208 ?_
              refine V_iconst (v := 4) (by decide) dL_isSo_209 ?_
              refine U_iald (n := 4) dL_isSo_210 rfl (rfl) (by decide) (by decide) ?_
              refine V_eqv (y := nI c) hc ?_
              refine V_icmp_ge (tgt := 223) dL_isSo_211 (by decide) (fun h211 => ?_) (fun h211 => ?_)
              · refine V_bipush (v := (-101)) (by decide) dL_isSo_223 ?_
                refine V_icmp_ne (tgt := 232) dL_isSo_225 (by decide) (fun h225 => ?_) (fun h225 => ?_)
                · exact absurd (if_neg (by have := (nI_leI (a := c) (b := m) (by omega) (by omega)).mp h211; omega)) h225
                · refine V_iconst (v := 1) (by decide) dL_isSo_228 ?_
                  refine V_goto (tgt := 233) dL_isSo_229 (by decide) ?_
                  refine V_istore_7 dL_isSo_233 (Nat.le_of_ble_eq_true rfl) rfl ?_
                  refine V_iinc_8 (v := nI (m + 1)) dL_isSo_235 (Nat.le_of_ble_eq_true rfl) rfl (nI_1 _) ?_
                  refine V_goto (tgt := 160) dL_isSo_238 (by decide) ?_
                  exact ih (m + 1) (by omega)
              · refine L_iload_8 dL_isSo_214 ?_
                refine L_aload_n_3 dL_isSo_216 ?_
                have hmc : m < c := by have := mt (nI_leI (a := c) (b := m) (by omega) (by omega)).mpr h211; omega
                refine Q_v2 (lkR_RL_97 rfl dL_isSo_217) (k_L_costOf 0 (k := m) (by omega) (hL m hmc).1 (hL m hmc).2) ⟨pn_L_costOf, rfl, (Nat.le_of_ble_eq_true rfl), (Nat.le_of_ble_eq_true rfl), rfl⟩ (trivial) cfn (by omega) (Nat.le_of_ble_eq_true rfl) ?_
                refine V_goto (tgt := 225) dL_isSo_220 (by decide) ?_
                refine V_icmp_ne (tgt := 232) dL_isSo_225 (by decide) (fun h225 => ?_) (fun h225 => ?_)
                · exact absurd (if_pos (by have := mt (nI_leI (a := c) (b := m) (by omega) (by omega)).mpr h211; omega)) h225
                · refine V_iconst (v := 1) (by decide) dL_isSo_228 ?_
                  refine V_goto (tgt := 233) dL_isSo_229 (by decide) ?_
                  refine V_istore_7 dL_isSo_233 (Nat.le_of_ble_eq_true rfl) rfl ?_
                  refine V_iinc_8 (v := nI (m + 1)) dL_isSo_235 (Nat.le_of_ble_eq_true rfl) rfl (nI_1 _) ?_
                  refine V_goto (tgt := 160) dL_isSo_238 (by decide) ?_
                  exact ih (m + 1) (by omega)
  refine L_iload_n_1 dL_isSo_0 ?_
  refine V_bipush (v := 30) (by decide) dL_isSo_1 ?_
  refine Q_v2 (lkR_RL_176 rfl dL_isSo_3) (hl1) ⟨pn_L_low, rfl, (Nat.le_of_ble_eq_true rfl), (Nat.le_of_ble_eq_true rfl), rfl⟩ (trivial) cfn (by omega) (Nat.le_of_ble_eq_true rfl) ?_
  refine V_istore_5 dL_isSo_6 (Nat.le_of_ble_eq_true rfl) rfl ?_
  refine L_aload_4 dL_isSo_8 ?_
  refine V_iconst (v := 4) (by decide) dL_isSo_10 ?_
  refine U_iald (n := 4) dL_isSo_11 rfl (rfl) (by decide) (by decide) ?_
  refine L_aload_4 dL_isSo_12 ?_
  refine V_bipush (v := 9) (by decide) dL_isSo_14 ?_
  refine U_iald (n := 9) dL_isSo_16 rfl (rfl) (by decide) (by decide) ?_
  refine V_iadd dL_isSo_17 ?_
  refine L_aload_4 dL_isSo_18 ?_
  refine V_bipush (v := 14) (by decide) dL_isSo_20 ?_
  refine U_iald (n := 14) dL_isSo_22 rfl (rfl) (by decide) (by decide) ?_
  refine V_iadd dL_isSo_23 ?_
  refine L_aload_4 dL_isSo_24 ?_
  refine V_bipush (v := 19) (by decide) dL_isSo_26 ?_
  refine U_iald (n := 19) dL_isSo_28 rfl (rfl) (by decide) (by decide) ?_
  refine V_iadd dL_isSo_29 ?_
  refine V_eqv (y := csL (i 91)) rfl ?_
  refine V_istore_6 dL_isSo_30 (Nat.le_of_ble_eq_true rfl) rfl ?_
  refine L_aload_n_0 dL_isSo_32 ?_
  refine Q_v1 (lkR_RL_179 rfl dL_isSo_33) (s1) ⟨pn_X6_edition, rfl, (Nat.le_of_ble_eq_true rfl), (Nat.le_of_ble_eq_true rfl), rfl⟩ (⟨_, _, rfl, rfl, rfl⟩) (cfS cf6) (by omega) (Nat.le_of_ble_eq_true rfl) ?_
  refine L_aload_n_2 dL_isSo_36 ?_
  refine V_iconst (v := 2) (by decide) dL_isSo_37 ?_
  refine U_iald (n := 2) dL_isSo_38 rfl (rfl) (by decide) (by decide) ?_
  refine V_icmp_ne (tgt := 154) dL_isSo_39 (by decide) (fun h39 => ?_) (fun h39 => ?_)
  · exact absurd rfl h39
  · refine L_aload_n_0 dL_isSo_42 ?_
    refine Q_v1 (lkR_RL_182 rfl dL_isSo_43) (s2) ⟨pn_X6_draft, rfl, (Nat.le_of_ble_eq_true rfl), (Nat.le_of_ble_eq_true rfl), rfl⟩ (⟨_, _, rfl, rfl, rfl⟩) (cfS cf6) (by omega) (Nat.le_of_ble_eq_true rfl) ?_
    refine L_aload_n_2 dL_isSo_46 ?_
    refine V_iconst (v := 0) (by decide) dL_isSo_47 ?_
    refine U_iald (n := 0) dL_isSo_48 rfl (rfl) (by decide) (by decide) ?_
    refine Q_v1 (lkR_RL_92 rfl dL_isSo_49) (k_L_ones 0 hL0) ⟨pn_L_ones, rfl, (Nat.le_of_ble_eq_true rfl), (Nat.le_of_ble_eq_true rfl), rfl⟩ (trivial) cfn (by omega) (Nat.le_of_ble_eq_true rfl) ?_
    refine V_icmp_ne (tgt := 154) dL_isSo_52 (by decide) (fun h52 => ?_) (fun h52 => ?_)
    · exact absurd rfl h52
    · refine L_aload_n_0 dL_isSo_55 ?_
      refine Q_v1 (lkR_RL_185 rfl dL_isSo_56) (s3) ⟨pn_X6_published, rfl, (Nat.le_of_ble_eq_true rfl), (Nat.le_of_ble_eq_true rfl), rfl⟩ (⟨_, _, rfl, rfl, rfl⟩) (cfS cf6) (by omega) (Nat.le_of_ble_eq_true rfl) ?_
      refine L_aload_n_2 dL_isSo_59 ?_
      refine V_iconst (v := 1) (by decide) dL_isSo_60 ?_
      refine U_iald (n := 1) dL_isSo_61 rfl (rfl) (by decide) (by decide) ?_
      refine Q_v1 (lkR_RL_92 rfl dL_isSo_62) (k_L_ones 0 hLL1) ⟨pn_L_ones, rfl, (Nat.le_of_ble_eq_true rfl), (Nat.le_of_ble_eq_true rfl), rfl⟩ (trivial) cfn (by omega) (Nat.le_of_ble_eq_true rfl) ?_
      refine V_icmp_ne (tgt := 154) dL_isSo_65 (by decide) (fun h65 => ?_) (fun h65 => ?_)
      · exact absurd rfl h65
      · refine L_aload_n_0 dL_isSo_68 ?_
        refine Q_v1 (lkR_RL_188 rfl dL_isSo_69) (s4) ⟨pn_X6_pending, rfl, (Nat.le_of_ble_eq_true rfl), (Nat.le_of_ble_eq_true rfl), rfl⟩ (⟨_, _, rfl, rfl, rfl⟩) (cfS cf6) (by omega) (Nat.le_of_ble_eq_true rfl) ?_
        refine L_aload_n_2 dL_isSo_72 ?_
        refine V_iconst (v := 0) (by decide) dL_isSo_73 ?_
        refine U_iald (n := 0) dL_isSo_74 rfl (rfl) (by decide) (by decide) ?_
        refine L_aload_n_2 dL_isSo_75 ?_
        refine V_iconst (v := 1) (by decide) dL_isSo_76 ?_
        refine U_iald (n := 1) dL_isSo_77 rfl (rfl) (by decide) (by decide) ?_
        refine V_ixor dL_isSo_78 ?_
        refine Q_v1 (lkR_RL_92 rfl dL_isSo_79) (k_L_ones 0 (L30_xor hL0 hLL1)) ⟨pn_L_ones, rfl, (Nat.le_of_ble_eq_true rfl), (Nat.le_of_ble_eq_true rfl), rfl⟩ (trivial) cfn (by omega) (Nat.le_of_ble_eq_true rfl) ?_
        refine V_icmp_ne (tgt := 154) dL_isSo_82 (by decide) (fun h82 => ?_) (fun h82 => ?_)
        · exact absurd rfl h82
        · refine L_aload_n_0 dL_isSo_85 ?_
          refine Q_v1 (lkR_RL_191 rfl dL_isSo_86) (s5) ⟨pn_X6_kept, rfl, (Nat.le_of_ble_eq_true rfl), (Nat.le_of_ble_eq_true rfl), rfl⟩ (⟨_, _, rfl, rfl, rfl⟩) (cfS cf6) (by omega) (Nat.le_of_ble_eq_true rfl) ?_
          refine L_aload_n_2 dL_isSo_89 ?_
          refine V_iconst (v := 4) (by decide) dL_isSo_90 ?_
          refine U_iald (n := 4) dL_isSo_91 rfl (rfl) (by decide) (by decide) ?_
          refine V_icmp_ne (tgt := 154) dL_isSo_92 (by decide) (fun h92 => ?_) (fun h92 => ?_)
          · exact absurd rfl h92
          · refine L_aload_n_0 dL_isSo_95 ?_
            refine L_iload_5 dL_isSo_96 ?_
            refine Q_u2 (lkW_RL_194 rfl dL_isSo_98) (s6 s hs) pn_L_where (Nat.le_of_ble_eq_true rfl) (Nat.le_of_ble_eq_true rfl) rfl (by omega) (Nat.le_of_ble_eq_true rfl) ?_
            refine L_aload_n_2 dL_isSo_101 ?_
            refine V_iconst (v := 0) (by decide) dL_isSo_102 ?_
            refine U_iald (n := 0) dL_isSo_103 rfl (rfl) (by decide) (by decide) ?_
            refine L_iload_5 dL_isSo_104 ?_
            refine V_ishr dL_isSo_106 ?_
            refine V_iconst (v := 1) (by decide) dL_isSo_107 ?_
            refine V_iand dL_isSo_108 ?_
            refine V_iconst (v := 2) (by decide) dL_isSo_109 ?_
            refine L_aload_n_2 dL_isSo_110 ?_
            refine V_iconst (v := 1) (by decide) dL_isSo_111 ?_
            refine U_iald (n := 1) dL_isSo_112 rfl (rfl) (by decide) (by decide) ?_
            refine L_iload_5 dL_isSo_113 ?_
            refine V_ishr dL_isSo_115 ?_
            refine V_iconst (v := 1) (by decide) dL_isSo_116 ?_
            refine V_iand dL_isSo_117 ?_
            refine V_imul dL_isSo_118 ?_
            refine V_iadd dL_isSo_119 ?_
            refine V_icmp_ne (tgt := 154) dL_isSo_120 (by decide) (fun h120 => ?_) (fun h120 => ?_)
            · exact absurd rfl h120
            · refine L_aload_n_0 dL_isSo_123 ?_
              refine Q_v1 (lkR_RL_196 rfl dL_isSo_124) (s7) ⟨pn_X6_savedShare, rfl, (Nat.le_of_ble_eq_true rfl), (Nat.le_of_ble_eq_true rfl), rfl⟩ (⟨_, _, rfl, rfl, rfl⟩) (cfS cf6) (by omega) (Nat.le_of_ble_eq_true rfl) ?_
              refine L_iload_6 dL_isSo_127 ?_
              refine V_ifx_ne (tgt := 136) dL_isSo_129 (by decide) (fun h129 => ?_) (fun h129 => ?_)
              · refine V_dconst1 dL_isSo_136 ?_
                refine L_iload_6 dL_isSo_137 ?_
                refine V_i2d dL_isSo_139 ?_
                refine L_aload_n_2 dL_isSo_140 ?_
                refine V_iconst (v := 5) (by decide) dL_isSo_141 ?_
                refine U_iald (n := 5) dL_isSo_142 rfl (rfl) (by decide) (by decide) ?_
                refine V_i2d dL_isSo_143 ?_
                refine V_ddiv (vf_of (fp_div (s7z h129))) dL_isSo_144 ?_
                refine V_dsub (vf_of (fp_sub (s7z h129))) dL_isSo_145 ?_
                refine V_dcmp dL_isSo_146 ?_
                refine V_eqv (y := 0) (by rw [show sha i = _ from if_neg h129]; exact dcs (fp_sub (s7z h129))) ?_
                refine V_ifx_ne (tgt := 154) dL_isSo_147 (by decide) (fun h147 => ?_) (fun h147 => ?_)
                · exfalso; revert h147; decide
                · refine V_iconst (v := 1) (by decide) dL_isSo_150 ?_
                  refine V_goto (tgt := 155) dL_isSo_151 (by decide) ?_
                  refine V_istore_7 dL_isSo_155 (Nat.le_of_ble_eq_true rfl) rfl ?_
                  refine V_iconst (v := 0) (by decide) dL_isSo_157 ?_
                  refine V_istore_8 dL_isSo_158 (Nat.le_of_ble_eq_true rfl) rfl ?_
                  exact loop 7 0 (by omega)
              · refine V_dconst0 dL_isSo_132 ?_
                refine V_goto (tgt := 146) dL_isSo_133 (by decide) ?_
                refine V_dcmp dL_isSo_146 ?_
                refine V_eqv (y := 0) (by rw [show sha i = _ from if_pos h129]; exact dcs (by decide +kernel)) ?_
                refine V_ifx_ne (tgt := 154) dL_isSo_147 (by decide) (fun h147 => ?_) (fun h147 => ?_)
                · exfalso; revert h147; decide
                · refine V_iconst (v := 1) (by decide) dL_isSo_150 ?_
                  refine V_goto (tgt := 155) dL_isSo_151 (by decide) ?_
                  refine V_istore_7 dL_isSo_155 (Nat.le_of_ble_eq_true rfl) rfl ?_
                  refine V_iconst (v := 0) (by decide) dL_isSo_157 ?_
                  refine V_istore_8 dL_isSo_158 (Nat.le_of_ble_eq_true rfl) rfl ?_
                  exact loop 7 0 (by omega)
