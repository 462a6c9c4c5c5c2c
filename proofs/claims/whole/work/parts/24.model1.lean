theorem mdx {x y : Int32} {f w : Nat} (hx : x = nI f) (hy : y = nI w) : 24 + 6 * x + y = nI (24 + 6 * f + w) := by
  rw [hx, hy]
  rw [show (6 : Int32) * nI f = nI (6 * f) from pk_mul 6 f, show (24 : Int32) + nI (6 * f) = nI (24 + 6 * f) from nI_add 24 (6 * f), nI_add]
theorem mdx3 {x y : Int32} {f w : Nat} (hx : x = nI f) (hy : y = nI w) : 6 + 3 * x + y = nI (6 + 3 * f + w) := by
  rw [hx, hy]
  rw [show (3 : Int32) * nI f = nI (3 * f) from pk_mul 3 f, show (6 : Int32) + nI (3 * f) = nI (6 + 3 * f) from nI_add 6 (3 * f), nI_add]
def onF (x : Int32) : Nat → Int32
  | 0 => 0
  | m + 1 => onF x m + (x >>> (nI m &&& 31) &&& 1)
abbrev one (x : Int32) : Int32 := onF x 30
abbrev wit (x a b : Int32) : Prop := ¬ x < a ∧ ¬ b < x
def ordI (x y : Int32) : Int32 := if remI (x - y + 16) 16 = 0 then 0 else if remI (x - y + 16) 16 < 8 then 1 else -1

theorem k_X7_thrown {g : G0} {j : Nat → Nat → Int64} (d : Nat) {i : Nat → Nat → Int32}  : C g m_X7_thrown (d + 0) 0 0 false [.ref 89] (mk i j) (rets (some (.int (i 89 0))) (mk i j)) := by
  refine C_of (L := [some (.ref 89)]) rfl ?_
  refine L_aload_n_0 dX7_thrown_0 ?_
  refine U_getI dX7_thrown_1 fl_RX7_19 rfl rfl ?_
  exact V_iret dX7_thrown_4 rfl rfl (⟨rfl, rfl⟩)
theorem k_X7_fails {g : G0} {j : Nat → Nat → Int64} (d : Nat) {i : Nat → Nat → Int32} {x : Int32}  : C g m_X7_fails (d + 0) 0 0 false [.ref 89, .int x] (mk i j) (rets (some (.int 0)) (mk (up2 i 89 0 x) j)) := by
  refine C_of (L := [some (.ref 89), some (.int x)]) rfl ?_
  refine L_aload_n_0 dX7_fails_0 ?_
  refine L_iload_n_1 dX7_fails_1 ?_
  refine U_putI dX7_fails_2 fl_RX7_19 rfl rfl rfl ?_
  refine V_iconst (v := 0) (by decide) dX7_fails_5 ?_
  exact V_iret dX7_fails_6 rfl rfl (⟨rfl, rfl⟩)
theorem k_X7_within {g : G0} {j : Nat → Nat → Int64} (d : Nat) {i : Nat → Nat → Int32} {x a b : Int32}  : C g m_X7_within (d + 0) 0 0 false [.int x, .int a, .int b] (mk i j) (rets (some (.int (b2i (wit x a b)))) (mk i j)) := by
  refine C_of (L := [some (.int x), some (.int a), some (.int b)]) rfl ?_
  refine L_iload_n_0 dX7_within_0 ?_
  refine L_iload_n_1 dX7_within_1 ?_
  refine V_icmp_lt (tgt := 14) dX7_within_2 (by decide) (fun h2 => ?_) (fun h2 => ?_)
  · refine V_iconst (v := 0) (by decide) dX7_within_14 ?_
    exact V_iret dX7_within_15 rfl rfl (rtI (b2f fun z => z.1 h2).symm)
  · refine L_iload_n_0 dX7_within_5 ?_
    refine L_iload_n_2 dX7_within_6 ?_
    refine V_icmp_gt (tgt := 14) dX7_within_7 (by decide) (fun h7 => ?_) (fun h7 => ?_)
    · refine V_iconst (v := 0) (by decide) dX7_within_14 ?_
      exact V_iret dX7_within_15 rfl rfl (rtI (b2f fun z => z.2 h7).symm)
    · refine V_iconst (v := 1) (by decide) dX7_within_10 ?_
      refine V_goto (tgt := 15) dX7_within_11 (by decide) ?_
      exact V_iret dX7_within_15 rfl rfl (rtI (b2t ⟨h2, h7⟩).symm)
theorem k_X7_isStreet {g : G0} {j : Nat → Nat → Int64} (d : Nat) {i : Nat → Nat → Int32} {x : Int32}  : C g m_X7_isStreet (d + 1) 0 0 false [.int x] (mk i j) (rets (some (.int (b2i (wit x 0 29)))) (mk i j)) := by
  refine C_of (L := [some (.int x)]) rfl ?_
  refine L_iload_n_0 dX7_isStreet_0 ?_
  refine V_iconst (v := 0) (by decide) dX7_isStreet_1 ?_
  refine V_bipush (v := 29) (by decide) dX7_isStreet_2 ?_
  refine U_cv3 (d := d + 0) (lkR_RX7_23 rfl dX7_isStreet_4) (k_X7_within _) ⟨pn_X7_within, rfl, (Nat.le_of_ble_eq_true rfl), (Nat.le_of_ble_eq_true rfl), rfl⟩ (trivial) cfn (Nat.le_of_ble_eq_true rfl) ?_
  exact V_iret dX7_isStreet_7 rfl b2n (⟨rfl, rfl⟩)
theorem k_X7_isEdition {g : G0} {j : Nat → Nat → Int64} (d : Nat) {i : Nat → Nat → Int32} {x : Int32}  : C g m_X7_isEdition (d + 1) 0 0 false [.int x] (mk i j) (rets (some (.int (b2i (wit x 0 15)))) (mk i j)) := by
  refine C_of (L := [some (.int x)]) rfl ?_
  refine L_iload_n_0 dX7_isEdition_0 ?_
  refine V_iconst (v := 0) (by decide) dX7_isEdition_1 ?_
  refine V_bipush (v := 15) (by decide) dX7_isEdition_2 ?_
  refine U_cv3 (d := d + 0) (lkR_RX7_23 rfl dX7_isEdition_4) (k_X7_within _) ⟨pn_X7_within, rfl, (Nat.le_of_ble_eq_true rfl), (Nat.le_of_ble_eq_true rfl), rfl⟩ (trivial) cfn (Nat.le_of_ble_eq_true rfl) ?_
  exact V_iret dX7_isEdition_7 rfl b2n (⟨rfl, rfl⟩)
theorem k_X7_isFollower {g : G0} {j : Nat → Nat → Int64} (d : Nat) {i : Nat → Nat → Int32} {x : Int32}  : C g m_X7_isFollower (d + 1) 0 0 false [.int x] (mk i j) (rets (some (.int (b2i (wit x 0 3)))) (mk i j)) := by
  refine C_of (L := [some (.int x)]) rfl ?_
  refine L_iload_n_0 dX7_isFollower_0 ?_
  refine V_iconst (v := 0) (by decide) dX7_isFollower_1 ?_
  refine V_iconst (v := 3) (by decide) dX7_isFollower_2 ?_
  refine U_cv3 (d := d + 0) (lkR_RX7_23 rfl dX7_isFollower_3) (k_X7_within _) ⟨pn_X7_within, rfl, (Nat.le_of_ble_eq_true rfl), (Nat.le_of_ble_eq_true rfl), rfl⟩ (trivial) cfn (Nat.le_of_ble_eq_true rfl) ?_
  exact V_iret dX7_isFollower_6 rfl b2n (⟨rfl, rfl⟩)
theorem k_X7_ones {g : G0} {j : Nat → Nat → Int64} (d : Nat) {i : Nat → Nat → Int32} {x : Int32}  : C g m_X7_ones (d + 0) 0 0 false [.int x] (mk i j) (rets (some (.int (one x))) (mk i j)) := by
  refine C_of (L := [some (.int x), none, none]) rfl ?_
  have loop : ∀ (n m : Nat), m + n = 30 → V g m_X7_ones (d + 0) 0 0 false (Kp g false (rets (some (.int (one x))) (mk i j))) 4 [some (.int x), some (.int (onF x m)), some (.int (nI m))] [] (mk i j) := by
    intro n
    induction n with
    | zero =>
      intro m hm
      have hm0 : m = 30 := by omega
      subst hm0
      refine L_iload_n_2 dX7_ones_4 ?_
      refine V_bipush (v := 30) (by decide) dX7_ones_5 ?_
      refine V_icmp_ge (tgt := 24) dX7_ones_7 (by decide) (fun h7 => ?_) (fun h7 => ?_)
      · refine L_iload_n_1 dX7_ones_24 ?_
        exact V_iret dX7_ones_25 rfl rfl (⟨rfl, rfl⟩)
      · exact absurd (by decide) h7
    | succ n ih =>
      intro m hm
      have hlt : m < 30 := by omega
      refine L_iload_n_2 dX7_ones_4 ?_
      refine V_bipush (v := 30) (by decide) dX7_ones_5 ?_
      refine V_icmp_ge (tgt := 24) dX7_ones_7 (by decide) (fun h7 => ?_) (fun h7 => ?_)
      · exact absurd ((nI_leI (a := 30) (b := m) (by omega) (by omega)).mp h7) (by omega)
      · refine L_iload_n_1 dX7_ones_10 ?_
        refine L_iload_n_0 dX7_ones_11 ?_
        refine L_iload_n_2 dX7_ones_12 ?_
        refine V_ishr dX7_ones_13 ?_
        refine V_iconst (v := 1) (by decide) dX7_ones_14 ?_
        refine V_iand dX7_ones_15 ?_
        refine V_iadd dX7_ones_16 ?_
        refine V_istore_n_1 dX7_ones_17 (Nat.le_of_ble_eq_true rfl) rfl ?_
        refine V_iinc_2 (v := nI (m + 1)) dX7_ones_18 (Nat.le_of_ble_eq_true rfl) rfl (nI_1 _) ?_
        refine V_goto (tgt := 4) dX7_ones_21 (by decide) ?_
        exact ih (m + 1) (by omega)
  refine V_iconst (v := 0) (by decide) dX7_ones_0 ?_
  refine V_istore_n_1 dX7_ones_1 (Nat.le_of_ble_eq_true rfl) rfl ?_
  refine V_iconst (v := 0) (by decide) dX7_ones_2 ?_
  refine V_istore_n_2 dX7_ones_3 (Nat.le_of_ble_eq_true rfl) rfl ?_
  exact loop 30 0 (by omega)
theorem k_X7_of {g : G0} {j : Nat → Nat → Int64} (d : Nat) {i : Nat → Nat → Int32} {x y : Int32} {f w : Nat} (hx : x = nI f) (hy : y = nI w) (hf : f < 4) (hw : w < 6)  : C g m_X7_of (d + 0) 0 0 false [.ref 89, .int x, .int y] (mk i j) (rets (some (.int (i 90 (24 + 6 * f + w)))) (mk i j)) := by
  refine C_of (L := [some (.ref 89), some (.int x), some (.int y)]) rfl ?_
  refine L_aload_n_0 dX7_of_0 ?_
  refine U_getR (r := 90) dX7_of_1 fl_RX7_7 rfl rfl rfl ?_
  refine V_bipush (v := 24) (by decide) dX7_of_4 ?_
  refine V_bipush (v := 6) (by decide) dX7_of_6 ?_
  refine L_iload_n_1 dX7_of_8 ?_
  refine V_imul dX7_of_9 ?_
  refine V_iadd dX7_of_10 ?_
  refine L_iload_n_2 dX7_of_11 ?_
  refine V_iadd dX7_of_12 ?_
  refine U_iald (n := (24 + 6 * f + w)) dX7_of_13 rfl (mdx hx hy) (by omega) (by decide) ?_
  exact V_iret dX7_of_14 rfl rfl (⟨rfl, rfl⟩)
theorem k_X7_setOf {g : G0} {j : Nat → Nat → Int64} (d : Nat) {i : Nat → Nat → Int32} {x y : Int32} {f w : Nat} (hx : x = nI f) (hy : y = nI w) (hf : f < 4) (hw : w < 6) {v : Int32}  : C g m_X7_setOf (d + 0) 0 0 false [.ref 89, .int x, .int y, .int v] (mk i j) (rets (none) (mk (up2 i 90 (24 + 6 * f + w) v) j)) := by
  refine C_of (L := [some (.ref 89), some (.int x), some (.int y), some (.int v)]) rfl ?_
  refine L_aload_n_0 dX7_setOf_0 ?_
  refine U_getR (r := 90) dX7_setOf_1 fl_RX7_7 rfl rfl rfl ?_
  refine V_bipush (v := 24) (by decide) dX7_setOf_4 ?_
  refine V_bipush (v := 6) (by decide) dX7_setOf_6 ?_
  refine L_iload_n_1 dX7_setOf_8 ?_
  refine V_imul dX7_setOf_9 ?_
  refine V_iadd dX7_setOf_10 ?_
  refine L_iload_n_2 dX7_setOf_11 ?_
  refine V_iadd dX7_setOf_12 ?_
  refine L_iload_n_3 dX7_setOf_13 ?_
  refine U_iast (n := (24 + 6 * f + w)) dX7_setOf_14 rfl (mdx hx hy) (by omega) (by decide) ?_
  exact V_vret dX7_setOf_15 rfl (⟨rfl, rfl⟩)
theorem k_X7_ofDifference {g : G0} {j : Nat → Nat → Int64} (d : Nat) {i : Nat → Nat → Int32} {x y : Int32} {f w : Nat} (hx : x = nI f) (hy : y = nI w) (hf : f < 6) (hw : w < 3)  : C g m_X7_ofDifference (d + 0) 0 0 false [.ref 89, .int x, .int y] (mk i j) (rets (some (.int (i 90 (6 + 3 * f + w)))) (mk i j)) := by
  refine C_of (L := [some (.ref 89), some (.int x), some (.int y)]) rfl ?_
  refine L_aload_n_0 dX7_ofDifference_0 ?_
  refine U_getR (r := 90) dX7_ofDifference_1 fl_RX7_7 rfl rfl rfl ?_
  refine V_bipush (v := 6) (by decide) dX7_ofDifference_4 ?_
  refine V_iconst (v := 3) (by decide) dX7_ofDifference_6 ?_
  refine L_iload_n_1 dX7_ofDifference_7 ?_
  refine V_imul dX7_ofDifference_8 ?_
  refine V_iadd dX7_ofDifference_9 ?_
  refine L_iload_n_2 dX7_ofDifference_10 ?_
  refine V_iadd dX7_ofDifference_11 ?_
  refine U_iald (n := (6 + 3 * f + w)) dX7_ofDifference_12 rfl (mdx3 hx hy) (by omega) (by decide) ?_
  exact V_iret dX7_ofDifference_13 rfl rfl (⟨rfl, rfl⟩)
theorem k_X7_order {g : G0} {j : Nat → Nat → Int64} (d : Nat) {i : Nat → Nat → Int32} {x y : Int32}  : C g m_X7_order (d + 0) 0 0 false [.int x, .int y] (mk i j) (rets (some (.int (ordI x y))) (mk i j)) := by
  refine C_of (L := [some (.int x), some (.int y), none]) rfl ?_
  refine L_iload_n_0 dX7_order_0 ?_
  refine L_iload_n_1 dX7_order_1 ?_
  refine V_isub dX7_order_2 ?_
  refine V_bipush (v := 16) (by decide) dX7_order_3 ?_
  refine V_iadd dX7_order_5 ?_
  refine V_bipush (v := 16) (by decide) dX7_order_6 ?_
  refine V_irem (by decide) dX7_order_8 ?_
  refine V_istore_n_2 dX7_order_9 (Nat.le_of_ble_eq_true rfl) rfl ?_
  refine L_iload_n_2 dX7_order_10 ?_
  refine V_ifx_ne (tgt := 18) dX7_order_11 (by decide) (fun h11 => ?_) (fun h11 => ?_)
  · refine L_iload_n_2 dX7_order_18 ?_
    refine V_bipush (v := 8) (by decide) dX7_order_19 ?_
    refine V_icmp_ge (tgt := 28) dX7_order_21 (by decide) (fun h21 => ?_) (fun h21 => ?_)
    · refine V_iconst (v := (-1)) (by decide) dX7_order_28 ?_
      exact V_iret dX7_order_29 rfl rfl (rtI (by unfold ordI; rw [if_neg h11, if_neg (Int32.not_lt.mpr h21)]))
    · refine V_iconst (v := 1) (by decide) dX7_order_24 ?_
      refine V_goto (tgt := 29) dX7_order_25 (by decide) ?_
      exact V_iret dX7_order_29 rfl rfl (rtI (by unfold ordI; rw [if_neg h11, if_pos (Int32.not_le.mp h21)]))
  · refine V_iconst (v := 0) (by decide) dX7_order_14 ?_
    refine V_goto (tgt := 29) dX7_order_15 (by decide) ?_
    exact V_iret dX7_order_29 rfl rfl (rtI (by unfold ordI; rw [if_pos h11]))
def shW (i : Nat → Nat → Int32) (m : Nat) : Nat → Nat → Int32 := fun a f => if a = 91 ∧ f < m then i 91 (f + 48) else i a f
def cpW (i : Nat → Nat → Int32) (n m : Nat) : Nat → Nat → Int32 := fun a f => if a = 91 ∧ 48 * n ≤ f ∧ f < 48 * n + m then i 90 (f - 48 * n) else i a f
def svC (i : Nat → Nat → Int32) (n : Nat) : Nat → Nat → Int32 := up2 (cpW i n 48) 89 3 (nI (n + 1))
def msv (i : Nat → Nat → Int32) (n : Nat) : Nat → Nat → Int32 := if n < 6 then svC i n else svC (up2 (shW i 240) 89 3 (nI 5)) 5
def unW (i : Nat → Nat → Int32) (n m : Nat) : Nat → Nat → Int32 := fun a f => if a = 90 ∧ f < m then i 91 (48 * n + f) else i a f
theorem k_X7_save_a {g : G0} {j : Nat → Nat → Int64} (d : Nat) {i : Nat → Nat → Int32} {q : Nat} (hn : i 89 3 = nI q) (h6n : q < 6)  : C g m_X7_save (d + 0) 0 0 false [.ref 89] (mk i j) (rets (none) (mk (msv i q) j)) := by
  refine C_of (L := [some (.ref 89), none]) rfl ?_
  have cploop : ∀ (i0 : Nat → Nat → Int32) (n0 : Nat), n0 < 6 → i0 89 3 = nI n0 → svC i0 n0 = msv i q → ∀ c0, c1 [some (Value.ref 89), c0] 1 = true → V g m_X7_save (d + 0) 0 0 false (Kp g false (rets (none) (mk (msv i q) j))) 49 [some (.ref 89), c0] [] (mk i0 j) := by
    intro i0 n0 hn0 h0 hP c0 hc0
    have loop : ∀ (n m : Nat), m + n = 48 → V g m_X7_save (d + 0) 0 0 false (Kp g false (rets (none) (mk (msv i q) j))) 51 [some (.ref 89), some (.int (nI m))] [] (mk (cpW i0 n0 m) j) := by
      intro n
      induction n with
      | zero =>
        intro m hm
        have hm0 : m = 48 := by omega
        subst hm0
        refine L_iload_n_1 dX7_save_51 ?_
        refine V_bipush (v := 48) (by decide) dX7_save_52 ?_
        refine V_icmp_ge (tgt := 83) dX7_save_54 (by decide) (fun h54 => ?_) (fun h54 => ?_)
        · refine L_aload_n_0 dX7_save_83 ?_
          refine V_dup rfl dX7_save_84 ?_
          refine U_getI dX7_save_85 fl_RX7_27 rfl rfl ?_
          refine V_eqv (y := nI n0) (by unfold cpW; rw [if_neg (by omega)]; exact h0) ?_
          refine V_iconst (v := 1) (by decide) dX7_save_88 ?_
          refine V_iadd dX7_save_89 ?_
          refine U_putI dX7_save_90 fl_RX7_27 rfl rfl rfl ?_
          exact V_vret dX7_save_93 rfl (by
        refine ⟨rfl, ?_⟩
        rw [← hP]
        unfold svC
        rw [nI_succ])
        · exact absurd (by decide) h54
      | succ n ih =>
        intro m hm
        have hlt : m < 48 := by omega
        refine L_iload_n_1 dX7_save_51 ?_
        refine V_bipush (v := 48) (by decide) dX7_save_52 ?_
        refine V_icmp_ge (tgt := 83) dX7_save_54 (by decide) (fun h54 => ?_) (fun h54 => ?_)
        · exact absurd ((nI_leI (a := 48) (b := m) (by omega) (by omega)).mp h54) (by omega)
        · refine L_aload_n_0 dX7_save_57 ?_
          refine U_getR (r := 91) dX7_save_58 fl_RX7_13 rfl rfl rfl ?_
          refine L_aload_n_0 dX7_save_61 ?_
          refine U_getI dX7_save_62 fl_RX7_27 rfl rfl ?_
          refine V_eqv (y := nI n0) (by show cpW i0 n0 m 89 3 = nI n0; unfold cpW; rw [if_neg (by omega)]; exact h0) ?_
          refine V_bipush (v := 48) (by decide) dX7_save_65 ?_
          refine V_imul dX7_save_67 ?_
          refine L_iload_n_1 dX7_save_68 ?_
          refine V_iadd dX7_save_69 ?_
          refine L_aload_n_0 dX7_save_70 ?_
          refine U_getR (r := 90) dX7_save_71 fl_RX7_7 rfl rfl rfl ?_
          refine L_iload_n_1 dX7_save_74 ?_
          refine U_iald (n := m) dX7_save_75 rfl (rfl) (by omega) (by decide) ?_
          refine V_eqv (y := i0 90 m) (by unfold cpW; rw [if_neg (by omega)]) ?_
          refine U_iast (n := (48 * n0 + m)) dX7_save_76 rfl (by rw [show nI n0 * 48 = nI (n0 * 48) from pk_mul n0 48, nI_add, Nat.mul_comm]) (by omega) (by decide) ?_
          refine V_iinc_1 (v := nI (m + 1)) dX7_save_77 (Nat.le_of_ble_eq_true rfl) rfl (nI_1 _) ?_
          refine V_goto (tgt := 51) dX7_save_80 (by decide) ?_
          refine V_eqI (i' := cpW i0 n0 (m + 1)) (by
            refine up2_ext fun a9 f9 => ?_
            unfold up2 cpW
            (repeat' split) <;> first | rfl | (exact ieq (by omega) (by omega)) | (exfalso; omega) | (simp_all; done)) ?_
          exact ih (m + 1) (by omega)
    refine V_eqI (i' := cpW i0 n0 0) (by
      refine up2_ext fun a9 f9 => ?_
      unfold cpW
      rw [if_neg (by omega)]) ?_
    refine V_iconst (v := 0) (by decide) dX7_save_49 ?_
    refine V_istore_n_1 dX7_save_50 (Nat.le_of_ble_eq_true rfl) hc0 ?_
    exact loop 48 0 (by omega)
  refine L_aload_n_0 dX7_save_0 ?_
  refine U_getI dX7_save_1 fl_RX7_27 rfl rfl ?_
  refine V_eqv (y := nI q) hn ?_
  refine V_bipush (v := 6) (by decide) dX7_save_4 ?_
  refine V_icmp_ne (tgt := 49) dX7_save_6 (by decide) (fun h6 => ?_) (fun h6 => ?_)
  · exact cploop i q h6n hn (by unfold msv; rw [if_pos h6n]) _ rfl
  · exact absurd ((nI_eq (a := q) (b := 6) (by omega) (by omega)).mp h6) (by omega)
theorem k_X7_save_b {g : G0} {j : Nat → Nat → Int64} (d : Nat) {i : Nat → Nat → Int32} {q : Nat} (hn : i 89 3 = nI q) (hn6 : q = 6)  : C g m_X7_save (d + 0) 0 0 false [.ref 89] (mk i j) (rets (none) (mk (msv i q) j)) := by
  refine C_of (L := [some (.ref 89), none]) rfl ?_
  have cploop : ∀ (i0 : Nat → Nat → Int32) (n0 : Nat), n0 < 6 → i0 89 3 = nI n0 → svC i0 n0 = msv i q → ∀ c0, c1 [some (Value.ref 89), c0] 1 = true → V g m_X7_save (d + 0) 0 0 false (Kp g false (rets (none) (mk (msv i q) j))) 49 [some (.ref 89), c0] [] (mk i0 j) := by
    intro i0 n0 hn0 h0 hP c0 hc0
    have loop : ∀ (n m : Nat), m + n = 48 → V g m_X7_save (d + 0) 0 0 false (Kp g false (rets (none) (mk (msv i q) j))) 51 [some (.ref 89), some (.int (nI m))] [] (mk (cpW i0 n0 m) j) := by
      intro n
      induction n with
      | zero =>
        intro m hm
        have hm0 : m = 48 := by omega
        subst hm0
        refine L_iload_n_1 dX7_save_51 ?_
        refine V_bipush (v := 48) (by decide) dX7_save_52 ?_
        refine V_icmp_ge (tgt := 83) dX7_save_54 (by decide) (fun h54 => ?_) (fun h54 => ?_)
        · refine L_aload_n_0 dX7_save_83 ?_
          refine V_dup rfl dX7_save_84 ?_
          refine U_getI dX7_save_85 fl_RX7_27 rfl rfl ?_
          refine V_eqv (y := nI n0) (by unfold cpW; rw [if_neg (by omega)]; exact h0) ?_
          refine V_iconst (v := 1) (by decide) dX7_save_88 ?_
          refine V_iadd dX7_save_89 ?_
          refine U_putI dX7_save_90 fl_RX7_27 rfl rfl rfl ?_
          exact V_vret dX7_save_93 rfl (by
        refine ⟨rfl, ?_⟩
        rw [← hP]
        unfold svC
        rw [nI_succ])
        · exact absurd (by decide) h54
      | succ n ih =>
        intro m hm
        have hlt : m < 48 := by omega
        refine L_iload_n_1 dX7_save_51 ?_
        refine V_bipush (v := 48) (by decide) dX7_save_52 ?_
        refine V_icmp_ge (tgt := 83) dX7_save_54 (by decide) (fun h54 => ?_) (fun h54 => ?_)
        · exact absurd ((nI_leI (a := 48) (b := m) (by omega) (by omega)).mp h54) (by omega)
        · refine L_aload_n_0 dX7_save_57 ?_
          refine U_getR (r := 91) dX7_save_58 fl_RX7_13 rfl rfl rfl ?_
          refine L_aload_n_0 dX7_save_61 ?_
          refine U_getI dX7_save_62 fl_RX7_27 rfl rfl ?_
          refine V_eqv (y := nI n0) (by show cpW i0 n0 m 89 3 = nI n0; unfold cpW; rw [if_neg (by omega)]; exact h0) ?_
          refine V_bipush (v := 48) (by decide) dX7_save_65 ?_
          refine V_imul dX7_save_67 ?_
          refine L_iload_n_1 dX7_save_68 ?_
          refine V_iadd dX7_save_69 ?_
          refine L_aload_n_0 dX7_save_70 ?_
          refine U_getR (r := 90) dX7_save_71 fl_RX7_7 rfl rfl rfl ?_
          refine L_iload_n_1 dX7_save_74 ?_
          refine U_iald (n := m) dX7_save_75 rfl (rfl) (by omega) (by decide) ?_
          refine V_eqv (y := i0 90 m) (by unfold cpW; rw [if_neg (by omega)]) ?_
          refine U_iast (n := (48 * n0 + m)) dX7_save_76 rfl (by rw [show nI n0 * 48 = nI (n0 * 48) from pk_mul n0 48, nI_add, Nat.mul_comm]) (by omega) (by decide) ?_
          refine V_iinc_1 (v := nI (m + 1)) dX7_save_77 (Nat.le_of_ble_eq_true rfl) rfl (nI_1 _) ?_
          refine V_goto (tgt := 51) dX7_save_80 (by decide) ?_
          refine V_eqI (i' := cpW i0 n0 (m + 1)) (by
            refine up2_ext fun a9 f9 => ?_
            unfold up2 cpW
            (repeat' split) <;> first | rfl | (exact ieq (by omega) (by omega)) | (exfalso; omega) | (simp_all; done)) ?_
          exact ih (m + 1) (by omega)
    refine V_eqI (i' := cpW i0 n0 0) (by
      refine up2_ext fun a9 f9 => ?_
      unfold cpW
      rw [if_neg (by omega)]) ?_
    refine V_iconst (v := 0) (by decide) dX7_save_49 ?_
    refine V_istore_n_1 dX7_save_50 (Nat.le_of_ble_eq_true rfl) hc0 ?_
    exact loop 48 0 (by omega)
  have loop1 : ∀ (n0 m : Nat), m + n0 = 240 → V g m_X7_save (d + 0) 0 0 false (Kp g false (rets (none) (mk (msv i q) j))) 11 [some (.ref 89), some (.int (nI m))] [] (mk (shW i m) j) := by
    intro n0
    induction n0 with
    | zero =>
      intro m hm
      have hm0 : m = 240 := by omega
      subst hm0
      refine L_iload_n_1 dX7_save_11 ?_
      refine V_sipush (v := 240) (by decide) dX7_save_12 ?_
      refine V_icmp_ge (tgt := 39) dX7_save_15 (by decide) (fun h15 => ?_) (fun h15 => ?_)
      · refine L_aload_n_0 dX7_save_39 ?_
        refine V_dup rfl dX7_save_40 ?_
        refine U_getI dX7_save_41 fl_RX7_27 rfl rfl ?_
        refine V_eqv (y := nI 6) (by show shW i 240 89 3 = nI 6; unfold shW; rw [if_neg (by omega), hn, hn6]) ?_
        refine V_iconst (v := 1) (by decide) dX7_save_44 ?_
        refine V_isub dX7_save_45 ?_
        refine U_putI dX7_save_46 fl_RX7_27 rfl rfl rfl ?_
        refine V_eqI (i' := up2 (shW i 240) 89 3 (nI 5)) rfl ?_
        exact cploop (up2 (shW i 240) 89 3 (nI 5)) 5 (by omega) up2_eq (by unfold msv; rw [hn6]; rfl) _ rfl
      · exact absurd (by decide) h15
    | succ n0 ih =>
      intro m hm
      have hlt : m < 240 := by omega
      refine L_iload_n_1 dX7_save_11 ?_
      refine V_sipush (v := 240) (by decide) dX7_save_12 ?_
      refine V_icmp_ge (tgt := 39) dX7_save_15 (by decide) (fun h15 => ?_) (fun h15 => ?_)
      · exact absurd ((nI_leI (a := 240) (b := m) (by omega) (by omega)).mp h15) (by omega)
      · refine L_aload_n_0 dX7_save_18 ?_
        refine U_getR (r := 91) dX7_save_19 fl_RX7_13 rfl rfl rfl ?_
        refine L_iload_n_1 dX7_save_22 ?_
        refine L_aload_n_0 dX7_save_23 ?_
        refine U_getR (r := 91) dX7_save_24 fl_RX7_13 rfl rfl rfl ?_
        refine L_iload_n_1 dX7_save_27 ?_
        refine V_bipush (v := 48) (by decide) dX7_save_28 ?_
        refine V_iadd dX7_save_30 ?_
        refine U_iald (n := (m + 48)) dX7_save_31 rfl (nI_add m 48) (by omega) (by decide) ?_
        refine V_eqv (y := i 91 (m + 48)) (by unfold shW; rw [if_neg (by omega)]) ?_
        refine U_iast (n := m) dX7_save_32 rfl (rfl) (by omega) (by decide) ?_
        refine V_iinc_1 (v := nI (m + 1)) dX7_save_33 (Nat.le_of_ble_eq_true rfl) rfl (nI_1 _) ?_
        refine V_goto (tgt := 11) dX7_save_36 (by decide) ?_
        refine V_eqI (i' := shW i (m + 1)) (by
          refine up2_ext fun a9 f9 => ?_
          unfold up2 shW
          (repeat' split) <;> first | rfl | (exact ieq (by omega) (by omega)) | (exfalso; omega) | (simp_all; done)) ?_
        exact ih (m + 1) (by omega)
  refine L_aload_n_0 dX7_save_0 ?_
  refine U_getI dX7_save_1 fl_RX7_27 rfl rfl ?_
  refine V_bipush (v := 6) (by decide) dX7_save_4 ?_
  refine V_icmp_ne (tgt := 49) dX7_save_6 (by decide) (fun h6 => ?_) (fun h6 => ?_)
  · exact absurd (by rw [hn, hn6]; rfl) h6
  · refine V_iconst (v := 0) (by decide) dX7_save_9 ?_
    refine V_istore_n_1 dX7_save_10 (Nat.le_of_ble_eq_true rfl) rfl ?_
    refine V_eqI (i' := shW i 0) (by
      refine up2_ext fun a9 f9 => ?_
      unfold shW
      rw [if_neg (by omega)]) ?_
    exact loop1 240 0 (by omega)
theorem k_X7_save {g : G0} {j : Nat → Nat → Int64} (d : Nat) {i : Nat → Nat → Int32} {n : Nat} (hn : i 89 3 = nI n) (h6 : n ≤ 6) : C g m_X7_save (d + 0) 0 0 false [.ref 89] (mk i j) (rets none (mk (msv i n) j)) := by
  by_cases h : n < 6
  · exact k_X7_save_a d hn h
  · exact k_X7_save_b d hn (by omega)
