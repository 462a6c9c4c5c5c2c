theorem vf_of {r : UInt64} (h : FP.Core.dIsNaN r = false) : vf_n64 r := by
  have h1 := mt (FP.Core.isNaN_bits r).mpr (by rw [h]; decide)
  unfold vf_n64
  rw [UInt64.le_iff_toNat_le, UInt64.toNat_and]
  have h2 : r.toNat &&& (0x7fffffffffffffff : UInt64).toNat = r.toNat % 2 ^ 63 := Nat.and_two_pow_sub_one_eq_mod r.toNat 63
  rw [h2]
  show _ ≤ 9218868437227405312
  omega
theorem fp_div {a b : Int32} (hb : ¬ b = 0) : FP.Core.dIsNaN (FP.Core.ddiv (FP.Core.i2d a) (FP.Core.i2d b)) = false :=
  FP.Core.ddiv_out (FP.Core.DFin.notNaN (FP.Core.i2d_fin a)) (FP.Core.i2d_fin b) (fun h => FP.Core.i2d_ne_zero hb ((FP.Core.zero_bits2 _).mp h))
theorem fp_fin1 : FP.Core.DFin (4607182418800017408 : UInt64) := by
  rw [FP.Core.fin_bits]; decide
theorem fp_sub {a b : Int32} (hb : ¬ b = 0) : FP.Core.dIsNaN (FP.Core.dsub 4607182418800017408 (FP.Core.ddiv (FP.Core.i2d a) (FP.Core.i2d b))) = false := FP.Core.dsub_out' fp_fin1 (fp_div hb)
def csm (i : Nat → Nat → Int32) (f : Nat) : Nat → Int32
  | 0 => 0
  | m + 1 => csm i f m + i (9 + m) f
def shr (a b : Int32) : UInt64 := if b = 0 then 0 else FP.dsub 4607182418800017408 (FP.ddiv (FP.i2d a) (FP.i2d b))
def mx (h : Int64) (v : Int32) : Int64 := 31 * h + v.toInt64
theorem k_X6_savedShare {g : G0} {j : Nat → Nat → Int64} (d : Nat) {i : Nat → Nat → Int32}  : C g m_X6_savedShare (d + 0) 0 0 false [.ref 0] (mk i j) (rets (some (.double (shr (csm i 5 4) (csm i 6 4)))) (mk i j)) := by
  refine C_of (L := [some (.ref 0), none, none, none]) rfl ?_
  have loop : ∀ (n m : Nat), m + n = 4 → V g m_X6_savedShare (d + 0) 0 0 false (Kp g false (rets (some (.double (shr (csm i 5 4) (csm i 6 4)))) (mk i j))) 6 [some (.ref 0), some (.int (csm i 5 m)), some (.int (csm i 6 m)), some (.int (nI m))] [] (mk i j) := by
    intro n
    induction n with
    | zero =>
      intro m hm
      have hm0 : m = 4 := by omega
      subst hm0
      refine L_iload_n_3 dX6_savedShare_6 ?_
      refine V_iconst (v := 4) (by decide) dX6_savedShare_7 ?_
      refine V_icmp_ge (tgt := 47) dX6_savedShare_8 (by decide) (fun h8 => ?_) (fun h8 => ?_)
      · refine L_iload_n_2 dX6_savedShare_47 ?_
        refine V_ifx_ne (tgt := 53) dX6_savedShare_48 (by decide) (fun h48 => ?_) (fun h48 => ?_)
        · refine V_dconst1 dX6_savedShare_53 ?_
          refine L_iload_n_1 dX6_savedShare_54 ?_
          refine V_i2d dX6_savedShare_55 ?_
          refine L_iload_n_2 dX6_savedShare_56 ?_
          refine V_i2d dX6_savedShare_57 ?_
          refine V_ddiv (vf_of (fp_div h48)) dX6_savedShare_58 ?_
          refine V_dsub (vf_of (fp_sub h48)) dX6_savedShare_59 ?_
          exact V_dret dX6_savedShare_60 rfl (by unfold shr; rw [if_neg h48]; exact ⟨rfl, rfl⟩)
        · refine V_dconst0 dX6_savedShare_51 ?_
          exact V_dret dX6_savedShare_52 rfl (by unfold shr; rw [if_pos h48]; exact ⟨rfl, rfl⟩)
      · exact absurd (by decide) h8
    | succ n ih =>
      intro m hm
      have hlt : m < 4 := by omega
      refine L_iload_n_3 dX6_savedShare_6 ?_
      refine V_iconst (v := 4) (by decide) dX6_savedShare_7 ?_
      refine V_icmp_ge (tgt := 47) dX6_savedShare_8 (by decide) (fun h8 => ?_) (fun h8 => ?_)
      · exact absurd ((nI_leI (a := 4) (b := m) (by omega) (by omega)).mp h8) (by omega)
      · refine L_iload_n_1 dX6_savedShare_11 ?_
        refine L_aload_n_0 dX6_savedShare_12 ?_
        refine U_getR (r := 1) dX6_savedShare_13 fl_RX6_10 rfl rfl rfl ?_
        refine U_getR (r := 8) dX6_savedShare_16 fl_RX6_201 rfl rfl rfl ?_
        refine L_iload_n_3 dX6_savedShare_19 ?_
        refine U_aald (n := m) (r := (9 + m)) dX6_savedShare_20 rfl (Or.inr rfl) (rfl) (by omega) (by decide) (br81 (by omega)) ?_
        refine U_getI dX6_savedShare_21 fl_RX6_192 (bkF1 (by omega)) rfl ?_
        refine V_iadd dX6_savedShare_24 ?_
        refine V_istore_n_1 dX6_savedShare_25 (Nat.le_of_ble_eq_true rfl) rfl ?_
        refine L_iload_n_2 dX6_savedShare_26 ?_
        refine L_aload_n_0 dX6_savedShare_27 ?_
        refine U_getR (r := 1) dX6_savedShare_28 fl_RX6_10 rfl rfl rfl ?_
        refine U_getR (r := 8) dX6_savedShare_31 fl_RX6_201 rfl rfl rfl ?_
        refine L_iload_n_3 dX6_savedShare_34 ?_
        refine U_aald (n := m) (r := (9 + m)) dX6_savedShare_35 rfl (Or.inr rfl) (rfl) (by omega) (by decide) (br81 (by omega)) ?_
        refine U_getI dX6_savedShare_36 fl_RX6_205 (bkF1 (by omega)) rfl ?_
        refine V_iadd dX6_savedShare_39 ?_
        refine V_istore_n_2 dX6_savedShare_40 (Nat.le_of_ble_eq_true rfl) rfl ?_
        refine V_iinc_3 (v := nI (m + 1)) dX6_savedShare_41 (Nat.le_of_ble_eq_true rfl) rfl (nI_1 _) ?_
        refine V_goto (tgt := 6) dX6_savedShare_44 (by decide) ?_
        exact ih (m + 1) (by omega)
  refine V_iconst (v := 0) (by decide) dX6_savedShare_0 ?_
  refine V_istore_n_1 dX6_savedShare_1 (Nat.le_of_ble_eq_true rfl) rfl ?_
  refine V_iconst (v := 0) (by decide) dX6_savedShare_2 ?_
  refine V_istore_n_2 dX6_savedShare_3 (Nat.le_of_ble_eq_true rfl) rfl ?_
  refine V_iconst (v := 0) (by decide) dX6_savedShare_4 ?_
  refine V_istore_n_3 dX6_savedShare_5 (Nat.le_of_ble_eq_true rfl) rfl ?_
  exact loop 4 0 (by omega)
def wdF (i : Nat → Nat → Int32) (h : Int64) : Nat → Int64
  | 0 => h
  | m + 1 => mx (mx (wdF i h m) (i 4 m)) (i 7 m)
def wfH (i : Nat → Nat → Int32) (c : Nat) (h : Int64) (p : Nat) : Int64 :=
  mx (mx (mx (mx (mx (mx (mx h (if i p 0 = 0 then -1 else i p 2)) (if i p 0 = 0 then -1 else bcI (i p 1))) ((if i p 4 = 0 then 0 else 1) + (if i p 3 = 0 then 0 else 2))) (i p 5)) (ans i p c)) (coa i (ans i p c) (i p 2) c)) (if i p 0 = 0 then -1 else bcI (i p 1 ^^^ i 2 1))
def plO (i : Nat → Nat → Int32) (x : Int32) : Int32 := (if bit (i 2 0) x = 0 then 0 else 1) + (if bit (i 2 1) x = 0 then 0 else 2)
def wsF (i : Nat → Nat → Int32) (s : Nat) (h : Int64) : Nat → Int64
  | 0 => mx h (plO i (nI s))
  | m + 1 => mx (wsF i s h m) (b2i (¬ bit (i (9 + m) 1) (nI s) = 0))
def hd0 (i : Nat → Nat → Int32) : Int64 := mx (mx (mx (mx (mx 4691 (i 2 2)) (bcI (i 2 0))) (bcI (i 2 1))) (bcI (i 2 0 ^^^ i 2 1))) (i 3 5)
def foF (i : Nat → Nat → Int32) (c : Nat) : Nat → Int64
  | 0 => wdF i (hd0 i) c
  | m + 1 => wfH i c (foF i c m) (9 + m)
def stF (i : Nat → Nat → Int32) (c : Nat) : Nat → Int64
  | 0 => foF i c 4
  | m + 1 => wsF i m (stF i c m) 4
theorem k_X6_withDifferences {g : G0} {j : Nat → Nat → Int64} (d : Nat) {i : Nat → Nat → Int32} {h : Int64} {c : Nat} (hc : i 3 5 = nI c) (h6 : c ≤ 6)  : C g m_X6_withDifferences (d + 0) 0 0 false [.long h, .ref 3] (mk i j) (rets (some (.long (wdF i h c))) (mk i j)) := by
  refine C_of (L := [some (.long h), none, some (.ref 3), none, none, none]) rfl ?_
  have loop : ∀ (n m : Nat), m + n = c → V g m_X6_withDifferences (d + 0) 0 0 false (Kp g false (rets (some (.long (wdF i h c))) (mk i j))) 5 [some (.long h), none, some (.ref 3), some (.long (wdF i h m)), none, some (.int (nI m))] [] (mk i j) := by
    intro n
    induction n with
    | zero =>
      intro m hm
      have hm0 : m = c := by omega
      subst hm0
      refine L_iload_5 dX6_withDifferences_5 ?_
      refine L_aload_n_2 dX6_withDifferences_7 ?_
      refine U_getI dX6_withDifferences_8 fl_RX6_126 rfl rfl ?_
      refine V_eqv (y := nI m) hc ?_
      refine V_icmp_ge (tgt := 50) dX6_withDifferences_11 (by decide) (fun h11 => ?_) (fun h11 => ?_)
      · refine L_lload_n_3 dX6_withDifferences_50 ?_
        exact V_lret dX6_withDifferences_51 rfl (⟨rfl, rfl⟩)
      · exact absurd (Int32.le_refl _) h11
    | succ n ih =>
      intro m hm
      have hlt : m < c := by omega
      refine L_iload_5 dX6_withDifferences_5 ?_
      refine L_aload_n_2 dX6_withDifferences_7 ?_
      refine U_getI dX6_withDifferences_8 fl_RX6_126 rfl rfl ?_
      refine V_eqv (y := nI c) hc ?_
      refine V_icmp_ge (tgt := 50) dX6_withDifferences_11 (by decide) (fun h11 => ?_) (fun h11 => ?_)
      · exact absurd ((nI_leI (a := c) (b := m) (by omega) (by omega)).mp h11) (by omega)
      · refine V_ldc2 kl_RX6_241 dX6_withDifferences_14 ?_
        refine L_lload_n_3 dX6_withDifferences_17 ?_
        refine V_lmul dX6_withDifferences_18 ?_
        refine L_aload_n_2 dX6_withDifferences_19 ?_
        refine U_getR (r := 4) dX6_withDifferences_20 fl_RX6_132 rfl rfl rfl ?_
        refine L_iload_5 dX6_withDifferences_23 ?_
        refine U_iald (n := m) dX6_withDifferences_25 rfl (rfl) (by omega) (by decide) ?_
        refine V_i2l dX6_withDifferences_26 ?_
        refine V_ladd dX6_withDifferences_27 ?_
        refine V_lstore_n_3 dX6_withDifferences_28 (Nat.le_of_ble_eq_true rfl) rfl ?_
        refine V_ldc2 kl_RX6_241 dX6_withDifferences_29 ?_
        refine L_lload_n_3 dX6_withDifferences_32 ?_
        refine V_lmul dX6_withDifferences_33 ?_
        refine L_aload_n_2 dX6_withDifferences_34 ?_
        refine U_getR (r := 7) dX6_withDifferences_35 fl_RX6_136 rfl rfl rfl ?_
        refine L_iload_5 dX6_withDifferences_38 ?_
        refine U_iald (n := m) dX6_withDifferences_40 rfl (rfl) (by omega) (by decide) ?_
        refine V_i2l dX6_withDifferences_41 ?_
        refine V_ladd dX6_withDifferences_42 ?_
        refine V_lstore_n_3 dX6_withDifferences_43 (Nat.le_of_ble_eq_true rfl) rfl ?_
        refine V_iinc_5 (v := nI (m + 1)) dX6_withDifferences_44 (Nat.le_of_ble_eq_true rfl) rfl (nI_1 _) ?_
        refine V_goto (tgt := 5) dX6_withDifferences_47 (by decide) ?_
        exact ih (m + 1) (by omega)
  refine L_lload_n_0 dX6_withDifferences_0 ?_
  refine V_lstore_n_3 dX6_withDifferences_1 (Nat.le_of_ble_eq_true rfl) rfl ?_
  refine V_iconst (v := 0) (by decide) dX6_withDifferences_2 ?_
  refine V_istore_5 dX6_withDifferences_3 (Nat.le_of_ble_eq_true rfl) rfl ?_
  exact loop c 0 (by omega)
theorem k_X6_withFollower {g : G0} {j : Nat → Nat → Int64} (d : Nat) {i : Nat → Nat → Int32} {h : Int64} {c : Nat} (hc : i 3 5 = nI c) (h6 : c ≤ 6) {p : Nat} (hp : kzS p = (1, 0))  : C g m_X6_withFollower (d + 4) 0 0 false [.ref 0, .long h, .ref p] (mk i j) (rets (some (.long (wfH i c h p))) (mk i j)) := by
  refine C_of (L := [some (.ref 0), some (.long h), none, some (.ref p), none, none]) rfl ?_
  refine L_lload_n_1 dX6_withFollower_0 ?_
  refine V_lstore_4 dX6_withFollower_1 (Nat.le_of_ble_eq_true rfl) rfl ?_
  refine V_ldc2 kl_RX6_241 dX6_withFollower_3 ?_
  refine L_lload_4 dX6_withFollower_6 ?_
  refine V_lmul dX6_withFollower_8 ?_
  refine L_aload_n_3 dX6_withFollower_9 ?_
  refine U_cv1 (d := d + 3) (lkR_RX6_180 rfl dX6_withFollower_10) (k_X1_editionOrNone _ hp) ⟨pn_X1_editionOrNone, rfl, (Nat.le_of_ble_eq_true rfl), (Nat.le_of_ble_eq_true rfl), rfl⟩ (⟨_, _, rfl, congrArg Prod.fst (hp), rfl⟩) (cfS cf1) (Nat.le_of_ble_eq_true rfl) ?_
  refine V_i2l dX6_withFollower_13 ?_
  refine V_ladd dX6_withFollower_14 ?_
  refine V_lstore_4 dX6_withFollower_15 (Nat.le_of_ble_eq_true rfl) rfl ?_
  refine V_ldc2 kl_RX6_241 dX6_withFollower_17 ?_
  refine L_lload_4 dX6_withFollower_20 ?_
  refine V_lmul dX6_withFollower_22 ?_
  refine L_aload_n_3 dX6_withFollower_23 ?_
  refine U_cv1 (d := d + 3) (lkR_RX6_174 rfl dX6_withFollower_24) (k_X1_sizeOrNone _ hp) ⟨pn_X1_sizeOrNone, rfl, (Nat.le_of_ble_eq_true rfl), (Nat.le_of_ble_eq_true rfl), rfl⟩ (⟨_, _, rfl, congrArg Prod.fst (hp), rfl⟩) (cfS cf1) (Nat.le_of_ble_eq_true rfl) ?_
  refine V_i2l dX6_withFollower_27 ?_
  refine V_ladd dX6_withFollower_28 ?_
  refine V_lstore_4 dX6_withFollower_29 (Nat.le_of_ble_eq_true rfl) rfl ?_
  refine V_ldc2 kl_RX6_241 dX6_withFollower_31 ?_
  refine L_lload_4 dX6_withFollower_34 ?_
  refine V_lmul dX6_withFollower_36 ?_
  refine L_aload_n_3 dX6_withFollower_37 ?_
  refine U_cv1 (d := d + 3) (lkR_RX6_189 rfl dX6_withFollower_38) (k_X1_attentionNumber _ hp) ⟨pn_X1_attentionNumber, rfl, (Nat.le_of_ble_eq_true rfl), (Nat.le_of_ble_eq_true rfl), rfl⟩ (⟨_, _, rfl, congrArg Prod.fst (hp), rfl⟩) (cfS cf1) (Nat.le_of_ble_eq_true rfl) ?_
  refine V_i2l dX6_withFollower_41 ?_
  refine V_ladd dX6_withFollower_42 ?_
  refine V_lstore_4 dX6_withFollower_43 (Nat.le_of_ble_eq_true rfl) rfl ?_
  refine V_ldc2 kl_RX6_241 dX6_withFollower_45 ?_
  refine L_lload_4 dX6_withFollower_48 ?_
  refine V_lmul dX6_withFollower_50 ?_
  refine L_aload_n_3 dX6_withFollower_51 ?_
  refine U_getI dX6_withFollower_52 fl_RX6_192 hp rfl ?_
  refine V_i2l dX6_withFollower_55 ?_
  refine V_ladd dX6_withFollower_56 ?_
  refine V_lstore_4 dX6_withFollower_57 (Nat.le_of_ble_eq_true rfl) rfl ?_
  refine V_ldc2 kl_RX6_241 dX6_withFollower_59 ?_
  refine L_lload_4 dX6_withFollower_62 ?_
  refine V_lmul dX6_withFollower_64 ?_
  refine L_aload_n_0 dX6_withFollower_65 ?_
  refine U_getR (r := 1) dX6_withFollower_66 fl_RX6_10 rfl rfl rfl ?_
  refine U_getR (r := 2) dX6_withFollower_69 fl_RX6_34 rfl rfl rfl ?_
  refine L_aload_n_3 dX6_withFollower_72 ?_
  refine U_cv2 (d := d + 3) (lkR_RX6_195 rfl dX6_withFollower_73) (k_X3_answerTo _ hc h6 hp) ⟨pn_X3_answerTo, rfl, (Nat.le_of_ble_eq_true rfl), (Nat.le_of_ble_eq_true rfl), rfl⟩ (⟨_, _, rfl, rfl, rfl⟩) (cfS cf3) (Nat.le_of_ble_eq_true rfl) ?_
  refine V_i2l dX6_withFollower_76 ?_
  refine V_ladd dX6_withFollower_77 ?_
  refine V_lstore_4 dX6_withFollower_78 (Nat.le_of_ble_eq_true rfl) rfl ?_
  refine V_ldc2 kl_RX6_241 dX6_withFollower_80 ?_
  refine L_lload_4 dX6_withFollower_83 ?_
  refine V_lmul dX6_withFollower_85 ?_
  refine L_aload_n_0 dX6_withFollower_86 ?_
  refine U_getR (r := 1) dX6_withFollower_87 fl_RX6_10 rfl rfl rfl ?_
  refine L_aload_n_3 dX6_withFollower_90 ?_
  refine U_cv2 (d := d + 3) (lkR_RX6_198 rfl dX6_withFollower_91) (k_X5_nextCostOf _ hc h6 hp) ⟨pn_X5_nextCostOf, rfl, (Nat.le_of_ble_eq_true rfl), (Nat.le_of_ble_eq_true rfl), rfl⟩ (⟨_, _, rfl, rfl, rfl⟩) (cfS cf5) (Nat.le_of_ble_eq_true rfl) ?_
  refine V_i2l dX6_withFollower_94 ?_
  refine V_ladd dX6_withFollower_95 ?_
  refine V_lstore_4 dX6_withFollower_96 (Nat.le_of_ble_eq_true rfl) rfl ?_
  refine V_ldc2 kl_RX6_241 dX6_withFollower_98 ?_
  refine L_lload_4 dX6_withFollower_101 ?_
  refine V_lmul dX6_withFollower_103 ?_
  refine L_aload_n_3 dX6_withFollower_104 ?_
  refine L_aload_n_0 dX6_withFollower_105 ?_
  refine U_getR (r := 1) dX6_withFollower_106 fl_RX6_10 rfl rfl rfl ?_
  refine U_getR (r := 2) dX6_withFollower_109 fl_RX6_34 rfl rfl rfl ?_
  refine U_getI dX6_withFollower_112 fl_RX6_120 rfl rfl ?_
  refine U_cv2 (d := d + 3) (lkR_RX6_186 rfl dX6_withFollower_115) (k_X1_wrongOrNone _ hp) ⟨pn_X1_wrongOrNone, rfl, (Nat.le_of_ble_eq_true rfl), (Nat.le_of_ble_eq_true rfl), rfl⟩ (⟨_, _, rfl, congrArg Prod.fst (hp), rfl⟩) (cfS cf1) (Nat.le_of_ble_eq_true rfl) ?_
  refine V_i2l dX6_withFollower_118 ?_
  refine V_ladd dX6_withFollower_119 ?_
  refine V_lstore_4 dX6_withFollower_120 (Nat.le_of_ble_eq_true rfl) rfl ?_
  refine L_lload_4 dX6_withFollower_122 ?_
  exact V_lret dX6_withFollower_124 rfl (⟨rfl, rfl⟩)
theorem k_X6_withStreet {g : G0} {j : Nat → Nat → Int64} (d : Nat) {i : Nat → Nat → Int32} {h : Int64} {s : Nat}  : C g m_X6_withStreet (d + 2) 0 0 false [.ref 0, .long h, .int (nI s)] (mk i j) (rets (some (.long (wsF i s h 4))) (mk i j)) := by
  refine C_of (L := [some (.ref 0), some (.long h), none, some (.int (nI s)), none, none, none]) rfl ?_
  have loop : ∀ (n m : Nat), m + n = 4 → V g m_X6_withStreet (d + 2) 0 0 false (Kp g false (rets (some (.long (wsF i s h 4))) (mk i j))) 23 [some (.ref 0), some (.long h), none, some (.int (nI s)), some (.long (wsF i s h m)), none, some (.int (nI m))] [] (mk i j) := by
    intro n
    induction n with
    | zero =>
      intro m hm
      have hm0 : m = 4 := by omega
      subst hm0
      refine L_iload_6 dX6_withStreet_23 ?_
      refine V_iconst (v := 4) (by decide) dX6_withStreet_25 ?_
      refine V_icmp_ge (tgt := 67) dX6_withStreet_26 (by decide) (fun h26 => ?_) (fun h26 => ?_)
      · refine L_lload_4 dX6_withStreet_67 ?_
        exact V_lret dX6_withStreet_69 rfl (⟨rfl, rfl⟩)
      · exact absurd (by decide) h26
    | succ n ih =>
      intro m hm
      have hlt : m < 4 := by omega
      refine L_iload_6 dX6_withStreet_23 ?_
      refine V_iconst (v := 4) (by decide) dX6_withStreet_25 ?_
      refine V_icmp_ge (tgt := 67) dX6_withStreet_26 (by decide) (fun h26 => ?_) (fun h26 => ?_)
      · exact absurd ((nI_leI (a := 4) (b := m) (by omega) (by omega)).mp h26) (by omega)
      · refine V_ldc2 kl_RX6_241 dX6_withStreet_29 ?_
        refine L_lload_4 dX6_withStreet_32 ?_
        refine V_lmul dX6_withStreet_34 ?_
        refine L_aload_n_0 dX6_withStreet_35 ?_
        refine U_getR (r := 1) dX6_withStreet_36 fl_RX6_10 rfl rfl rfl ?_
        refine U_getR (r := 8) dX6_withStreet_39 fl_RX6_201 rfl rfl rfl ?_
        refine L_iload_6 dX6_withStreet_42 ?_
        refine U_aald (n := m) (r := (9 + m)) dX6_withStreet_44 rfl (Or.inr rfl) (rfl) (by omega) (by decide) (br81 (by omega)) ?_
        refine L_iload_n_3 dX6_withStreet_45 ?_
        refine U_cv2 (d := d + 1) (lkR_RX6_183 rfl dX6_withStreet_46) (k_X1_knows _ (bkF1 (by omega))) ⟨pn_X1_knows, rfl, (Nat.le_of_ble_eq_true rfl), (Nat.le_of_ble_eq_true rfl), rfl⟩ (⟨_, _, rfl, congrArg Prod.fst ((bkF1 (by omega))), rfl⟩) (cfS cf1) (Nat.le_of_ble_eq_true rfl) ?_
        refine V_ifx_eq (tgt := 56) dX6_withStreet_49 (by decide) (fun h49 => ?_) (fun h49 => ?_)
        · refine V_iconst (v := 0) (by decide) dX6_withStreet_56 ?_
          refine V_i2l dX6_withStreet_57 ?_
          refine V_ladd dX6_withStreet_58 ?_
          refine V_lstore_4 dX6_withStreet_59 (Nat.le_of_ble_eq_true rfl) rfl ?_
          refine V_iinc_6 (v := nI (m + 1)) dX6_withStreet_61 (Nat.le_of_ble_eq_true rfl) rfl (nI_1 _) ?_
          refine V_goto (tgt := 23) dX6_withStreet_64 (by decide) ?_
          have h9 := ih (m + 1) (by omega)
          rw [show wsF i s h (m + 1) = mx (wsF i s h m) (b2i (¬ bit (i (9 + m) 1) (nI s) = 0)) from rfl, b2f (b2z.mp h49)] at h9
          exact h9
        · refine V_iconst (v := 1) (by decide) dX6_withStreet_52 ?_
          refine V_goto (tgt := 57) dX6_withStreet_53 (by decide) ?_
          refine V_i2l dX6_withStreet_57 ?_
          refine V_ladd dX6_withStreet_58 ?_
          refine V_lstore_4 dX6_withStreet_59 (Nat.le_of_ble_eq_true rfl) rfl ?_
          refine V_iinc_6 (v := nI (m + 1)) dX6_withStreet_61 (Nat.le_of_ble_eq_true rfl) rfl (nI_1 _) ?_
          refine V_goto (tgt := 23) dX6_withStreet_64 (by decide) ?_
          have h9 := ih (m + 1) (by omega)
          rw [show wsF i s h (m + 1) = mx (wsF i s h m) (b2i (¬ bit (i (9 + m) 1) (nI s) = 0)) from rfl, b2t (b2p h49)] at h9
          exact h9
  refine V_ldc2 kl_RX6_241 dX6_withStreet_0 ?_
  refine L_lload_n_1 dX6_withStreet_3 ?_
  refine V_lmul dX6_withStreet_4 ?_
  refine L_aload_n_0 dX6_withStreet_5 ?_
  refine U_getR (r := 1) dX6_withStreet_6 fl_RX6_10 rfl rfl rfl ?_
  refine U_getR (r := 2) dX6_withStreet_9 fl_RX6_34 rfl rfl rfl ?_
  refine L_iload_n_3 dX6_withStreet_12 ?_
  refine U_cv2 (d := d + 1) (lkR_RX6_123 rfl dX6_withStreet_13) (k_X3_placeOf _) ⟨pn_X3_placeOf, rfl, (Nat.le_of_ble_eq_true rfl), (Nat.le_of_ble_eq_true rfl), rfl⟩ (⟨_, _, rfl, rfl, rfl⟩) (cfS cf3) (Nat.le_of_ble_eq_true rfl) ?_
  refine V_i2l dX6_withStreet_16 ?_
  refine V_ladd dX6_withStreet_17 ?_
  refine V_lstore_4 dX6_withStreet_18 (Nat.le_of_ble_eq_true rfl) rfl ?_
  refine V_iconst (v := 0) (by decide) dX6_withStreet_20 ?_
  refine V_istore_6 dX6_withStreet_21 (Nat.le_of_ble_eq_true rfl) rfl ?_
  exact loop 4 0 (by omega)
theorem k_X6_digest {g : G0} {j : Nat → Nat → Int64} (d : Nat) {i : Nat → Nat → Int32} {c : Nat} (hc : i 3 5 = nI c) (h6 : c ≤ 6)  : C g m_X6_digest (d + 5) 0 0 false [.ref 0] (mk i j) (rets (some (.long (stF i c 30))) (mk i j)) := by
  refine C_of (L := [some (.ref 0), none, none, none]) rfl ?_
  have loop2 : ∀ (n m : Nat), m + n = 30 → V g m_X6_digest (d + 5) 0 0 false (Kp g false (rets (some (.long (stF i c 30))) (mk i j))) 109 [some (.ref 0), some (.long (stF i c m)), none, some (.int (nI m))] [] (mk i j) := by
    intro n
    induction n with
    | zero =>
      intro m hm
      have hm0 : m = 30 := by omega
      subst hm0
      refine L_iload_n_3 dX6_digest_109 ?_
      refine V_bipush (v := 30) (by decide) dX6_digest_110 ?_
      refine V_icmp_ge (tgt := 128) dX6_digest_112 (by decide) (fun h112 => ?_) (fun h112 => ?_)
      · refine L_lload_n_1 dX6_digest_128 ?_
        exact V_lret dX6_digest_129 rfl (⟨rfl, rfl⟩)
      · exact absurd (by decide) h112
    | succ n ih =>
      intro m hm
      have hlt : m < 30 := by omega
      refine L_iload_n_3 dX6_digest_109 ?_
      refine V_bipush (v := 30) (by decide) dX6_digest_110 ?_
      refine V_icmp_ge (tgt := 128) dX6_digest_112 (by decide) (fun h112 => ?_) (fun h112 => ?_)
      · exact absurd ((nI_leI (a := 30) (b := m) (by omega) (by omega)).mp h112) (by omega)
      · refine L_aload_n_0 dX6_digest_115 ?_
        refine L_lload_n_1 dX6_digest_116 ?_
        refine L_iload_n_3 dX6_digest_117 ?_
        refine U_cv3 (d := d + 4) (lkR_RX6_257 rfl dX6_digest_118) (k_X6_withStreet _) ⟨pn_X6_withStreet, rfl, (Nat.le_of_ble_eq_true rfl), (Nat.le_of_ble_eq_true rfl), rfl⟩ (⟨_, _, rfl, rfl, rfl⟩) (cfS cf6) (Nat.le_of_ble_eq_true rfl) ?_
        refine V_lstore_n_1 dX6_digest_121 (Nat.le_of_ble_eq_true rfl) rfl ?_
        refine V_iinc_3 (v := nI (m + 1)) dX6_digest_122 (Nat.le_of_ble_eq_true rfl) rfl (nI_1 _) ?_
        refine V_goto (tgt := 109) dX6_digest_125 (by decide) ?_
        exact ih (m + 1) (by omega)
  have loop : ∀ (n m : Nat), m + n = 4 → V g m_X6_digest (d + 5) 0 0 false (Kp g false (rets (some (.long (stF i c 30))) (mk i j))) 81 [some (.ref 0), some (.long (foF i c m)), none, some (.int (nI m))] [] (mk i j) := by
    intro n
    induction n with
    | zero =>
      intro m hm
      have hm0 : m = 4 := by omega
      subst hm0
      refine L_iload_n_3 dX6_digest_81 ?_
      refine V_iconst (v := 4) (by decide) dX6_digest_82 ?_
      refine V_icmp_ge (tgt := 107) dX6_digest_83 (by decide) (fun h83 => ?_) (fun h83 => ?_)
      · refine V_iconst (v := 0) (by decide) dX6_digest_107 ?_
        refine V_istore_n_3 dX6_digest_108 (Nat.le_of_ble_eq_true rfl) rfl ?_
        exact loop2 30 0 (by omega)
      · exact absurd (by decide) h83
    | succ n ih =>
      intro m hm
      have hlt : m < 4 := by omega
      refine L_iload_n_3 dX6_digest_81 ?_
      refine V_iconst (v := 4) (by decide) dX6_digest_82 ?_
      refine V_icmp_ge (tgt := 107) dX6_digest_83 (by decide) (fun h83 => ?_) (fun h83 => ?_)
      · exact absurd ((nI_leI (a := 4) (b := m) (by omega) (by omega)).mp h83) (by omega)
      · refine L_aload_n_0 dX6_digest_86 ?_
        refine L_lload_n_1 dX6_digest_87 ?_
        refine L_aload_n_0 dX6_digest_88 ?_
        refine U_getR (r := 1) dX6_digest_89 fl_RX6_10 rfl rfl rfl ?_
        refine U_getR (r := 8) dX6_digest_92 fl_RX6_201 rfl rfl rfl ?_
        refine L_iload_n_3 dX6_digest_95 ?_
        refine U_aald (n := m) (r := (9 + m)) dX6_digest_96 rfl (Or.inr rfl) (rfl) (by omega) (by decide) (br81 (by omega)) ?_
        refine U_cv3 (d := d + 4) (lkR_RX6_253 rfl dX6_digest_97) (k_X6_withFollower _ hc h6 (bkF1 (by omega))) ⟨pn_X6_withFollower, rfl, (Nat.le_of_ble_eq_true rfl), (Nat.le_of_ble_eq_true rfl), rfl⟩ (⟨_, _, rfl, rfl, rfl⟩) (cfS cf6) (Nat.le_of_ble_eq_true rfl) ?_
        refine V_lstore_n_1 dX6_digest_100 (Nat.le_of_ble_eq_true rfl) rfl ?_
        refine V_iinc_3 (v := nI (m + 1)) dX6_digest_101 (Nat.le_of_ble_eq_true rfl) rfl (nI_1 _) ?_
        refine V_goto (tgt := 81) dX6_digest_104 (by decide) ?_
        exact ih (m + 1) (by omega)
  refine V_ldc2 kl_RX6_239 dX6_digest_0 ?_
  refine V_lstore_n_1 dX6_digest_3 (Nat.le_of_ble_eq_true rfl) rfl ?_
  refine V_ldc2 kl_RX6_241 dX6_digest_4 ?_
  refine L_lload_n_1 dX6_digest_7 ?_
  refine V_lmul dX6_digest_8 ?_
  refine L_aload_n_0 dX6_digest_9 ?_
  refine U_cv1 (d := d + 4) (lkR_RX6_79 rfl dX6_digest_10) (k_X6_edition _) ⟨pn_X6_edition, rfl, (Nat.le_of_ble_eq_true rfl), (Nat.le_of_ble_eq_true rfl), rfl⟩ (⟨_, _, rfl, rfl, rfl⟩) (cfS cf6) (Nat.le_of_ble_eq_true rfl) ?_
  refine V_i2l dX6_digest_13 ?_
  refine V_ladd dX6_digest_14 ?_
  refine V_lstore_n_1 dX6_digest_15 (Nat.le_of_ble_eq_true rfl) rfl ?_
  refine V_ldc2 kl_RX6_241 dX6_digest_16 ?_
  refine L_lload_n_1 dX6_digest_19 ?_
  refine V_lmul dX6_digest_20 ?_
  refine L_aload_n_0 dX6_digest_21 ?_
  refine U_cv1 (d := d + 4) (lkR_RX6_58 rfl dX6_digest_22) (k_X6_draft _) ⟨pn_X6_draft, rfl, (Nat.le_of_ble_eq_true rfl), (Nat.le_of_ble_eq_true rfl), rfl⟩ (⟨_, _, rfl, rfl, rfl⟩) (cfS cf6) (Nat.le_of_ble_eq_true rfl) ?_
  refine V_i2l dX6_digest_25 ?_
  refine V_ladd dX6_digest_26 ?_
  refine V_lstore_n_1 dX6_digest_27 (Nat.le_of_ble_eq_true rfl) rfl ?_
  refine V_ldc2 kl_RX6_241 dX6_digest_28 ?_
  refine L_lload_n_1 dX6_digest_31 ?_
  refine V_lmul dX6_digest_32 ?_
  refine L_aload_n_0 dX6_digest_33 ?_
  refine U_cv1 (d := d + 4) (lkR_RX6_243 rfl dX6_digest_34) (k_X6_published _) ⟨pn_X6_published, rfl, (Nat.le_of_ble_eq_true rfl), (Nat.le_of_ble_eq_true rfl), rfl⟩ (⟨_, _, rfl, rfl, rfl⟩) (cfS cf6) (Nat.le_of_ble_eq_true rfl) ?_
  refine V_i2l dX6_digest_37 ?_
  refine V_ladd dX6_digest_38 ?_
  refine V_lstore_n_1 dX6_digest_39 (Nat.le_of_ble_eq_true rfl) rfl ?_
  refine V_ldc2 kl_RX6_241 dX6_digest_40 ?_
  refine L_lload_n_1 dX6_digest_43 ?_
  refine V_lmul dX6_digest_44 ?_
  refine L_aload_n_0 dX6_digest_45 ?_
  refine U_cv1 (d := d + 4) (lkR_RX6_246 rfl dX6_digest_46) (k_X6_pending _) ⟨pn_X6_pending, rfl, (Nat.le_of_ble_eq_true rfl), (Nat.le_of_ble_eq_true rfl), rfl⟩ (⟨_, _, rfl, rfl, rfl⟩) (cfS cf6) (Nat.le_of_ble_eq_true rfl) ?_
  refine V_i2l dX6_digest_49 ?_
  refine V_ladd dX6_digest_50 ?_
  refine V_lstore_n_1 dX6_digest_51 (Nat.le_of_ble_eq_true rfl) rfl ?_
  refine V_ldc2 kl_RX6_241 dX6_digest_52 ?_
  refine L_lload_n_1 dX6_digest_55 ?_
  refine V_lmul dX6_digest_56 ?_
  refine L_aload_n_0 dX6_digest_57 ?_
  refine U_cv1 (d := d + 4) (lkR_RX6_104 rfl dX6_digest_58) (k_X6_kept _) ⟨pn_X6_kept, rfl, (Nat.le_of_ble_eq_true rfl), (Nat.le_of_ble_eq_true rfl), rfl⟩ (⟨_, _, rfl, rfl, rfl⟩) (cfS cf6) (Nat.le_of_ble_eq_true rfl) ?_
  refine V_i2l dX6_digest_61 ?_
  refine V_ladd dX6_digest_62 ?_
  refine V_lstore_n_1 dX6_digest_63 (Nat.le_of_ble_eq_true rfl) rfl ?_
  refine L_lload_n_1 dX6_digest_64 ?_
  refine L_aload_n_0 dX6_digest_65 ?_
  refine U_getR (r := 1) dX6_digest_66 fl_RX6_10 rfl rfl rfl ?_
  refine U_getR (r := 2) dX6_digest_69 fl_RX6_34 rfl rfl rfl ?_
  refine U_getR (r := 3) dX6_digest_72 fl_RX6_95 rfl rfl rfl ?_
  refine U_cv2 (d := d + 4) (lkR_RX6_249 rfl dX6_digest_75) (k_X6_withDifferences _ hc h6) ⟨pn_X6_withDifferences, rfl, (Nat.le_of_ble_eq_true rfl), (Nat.le_of_ble_eq_true rfl), rfl⟩ (trivial) cfn (Nat.le_of_ble_eq_true rfl) ?_
  refine V_lstore_n_1 dX6_digest_78 (Nat.le_of_ble_eq_true rfl) rfl ?_
  refine V_iconst (v := 0) (by decide) dX6_digest_79 ?_
  refine V_istore_n_3 dX6_digest_80 (Nat.le_of_ble_eq_true rfl) rfl ?_
  exact loop 4 0 (by omega)

