theorem and_one (x : Int32) : x &&& 1 = 0 ∨ x &&& 1 = 1 := by
  have h : (x &&& 1).toUInt32.toNat = x.toUInt32.toNat % 2 := by
    show (x.toUInt32 &&& 1).toNat = _
    rw [UInt32.toNat_and]
    exact Nat.and_two_pow_sub_one_eq_mod _ 1
  have h2 : x.toUInt32.toNat % 2 = 0 ∨ x.toUInt32.toNat % 2 = 1 := by omega
  rcases h2 with h2 | h2
  · left
    rw [h2] at h
    exact congrArg Int32.ofUInt32 (UInt32.toNat_inj.mp h)
  · right
    rw [h2] at h
    exact congrArg Int32.ofUInt32 (UInt32.toNat_inj.mp h)
theorem onF_nat (x : Int32) : ∀ m, ∃ k, k ≤ m ∧ onF x m = nI k
  | 0 => ⟨0, Nat.le_refl _, rfl⟩
  | m + 1 => by
    obtain ⟨k, h1, h2⟩ := onF_nat x m
    show ∃ k, k ≤ m + 1 ∧ onF x m + _ = nI k
    rcases and_one (x >>> (nI m &&& 31)) with h3 | h3
    · exact ⟨k, by omega, by rw [h3, h2]; exact nI_add k 0⟩
    · exact ⟨k + 1, by omega, by rw [h3, h2]; exact nI_1 k⟩
theorem man_in {i : Nat → Nat → Int32} {f c : Nat} : man i f c = 0 ∨ man i f c = 1 ∨ man i f c = 2 ∨ man i f c = 3 := by
  unfold man
  split
  · simp
  · split
    · split <;> simp
    · split
      · simp
      · split <;> simp
theorem mgv_oth {i : Nat → Nat → Int32} : ∀ {m a f : Nat}, (a ≠ 90 ∨ f < 28 ∨ f % 6 ≠ 4) → mgv i m a f = i a f
  | 0, a, f, h => rfl
  | m + 1, a, f, h => by
    unfold mgv
    split
    · unfold up2; rw [if_neg (by omega)]; exact mgv_oth h
    · exact mgv_oth h
theorem mdr_oth {i : Nat → Nat → Int32} {c a f : Nat} (hc : c < 6) (h : a ≠ 90 ∨ (f < 6 ∧ f ≠ 4) ∨ 21 ≤ f) : mdr i c a f = i a f := by
  unfold mdr mdF
  rw [if_neg (by omega)]
  unfold up2
  rw [if_neg (by omega)]
theorem mdr_4 {i : Nat → Nat → Int32} {c : Nat} : mdr i c 90 4 = nI c := by
  unfold mdr mdF; rw [if_neg (by omega)]; exact up2_eq
theorem mpW_oth {i : Nat → Nat → Int32} {c a f : Nat} (hc : c < 6) (h : a ≠ 90 ∨ f = 0 ∨ f = 3 ∨ f = 5 ∨ (24 ≤ f ∧ f % 6 ≠ 4)) : mpW i c a f = i a f := by
  unfold mpW
  try dsimp only
  rw [mgv_oth (by omega)]
  by_cases h9 : a = 90
  · rw [up2_nf (by omega), up2_nf (by omega), up2_nf (by omega), up2_nf (by omega), up2_nf (by omega), up2_nf (by omega)]
  · rw [up2_ne h9, up2_ne h9, up2_ne h9, up2_ne h9, up2_ne h9, up2_ne h9]
theorem mpW_4 {i : Nat → Nat → Int32} {c : Nat} (h : i 90 4 = nI c) : mpW i c 90 4 = nI (c + 1) := by
  unfold mpW
  try dsimp only
  rw [mgv_oth (by omega), up2_nf (by omega), up2_nf (by omega), up2_eq, up2_nf (by omega), up2_nf (by omega), up2_nf (by omega), h, nI_1]
theorem mpW_2 {i : Nat → Nat → Int32} {c n : Nat} (hc : c < 6) (h : i 90 2 = nI n) (hn : n < 16) : mpW i c 90 2 = nI ((n + 1) % 16) := by
  unfold mpW
  try dsimp only
  rw [mgv_oth (by omega), up2_eq, up2_nf (by omega), up2_nf (by omega), up2_nf (by omega), up2_nf (by omega), up2_nf (by omega), h, nI_1]
  exact pk_rem (a := n + 1) (d := 16) (by omega) (by omega) (by omega)
theorem mpb_oth {i : Nat → Nat → Int32} {c q a f : Nat} (h1 : 1 ≤ q) (h2 : c ≤ q) (h3 : q ≤ 6) (h : a ≠ 90 ∨ f = 0 ∨ f = 3 ∨ f = 5 ∨ (24 ≤ f ∧ f % 6 ≠ 4)) : mpb i c q a f = i a f := by
  unfold mpb
  split
  · rw [mpW_oth (by omega) h, mdr_oth (by omega) (by omega)]
  · exact mpW_oth (by omega) h
theorem mpb_4 {i : Nat → Nat → Int32} {c q : Nat} (h1 : 1 ≤ q) (h2 : c ≤ q) (h3 : q ≤ 6) (h : i 90 4 = nI c) : mpb i c q 90 4 = nI (if c = q then q else c + 1) := by
  unfold mpb
  split
  · rw [mpW_4 mdr_4]; congr 1; omega
  · rw [mpW_4 h]
theorem mpb_2 {i : Nat → Nat → Int32} {c q n : Nat} (h1 : 1 ≤ q) (h2 : c ≤ q) (h3 : q ≤ 6) (h : i 90 2 = nI n) (hn : n < 16) : mpb i c q 90 2 = nI ((n + 1) % 16) := by
  unfold mpb
  split
  · exact mpW_2 (by omega) ((mdr_oth (by omega) (by omega)).trans h) hn
  · exact mpW_2 (by omega) h hn
theorem mapA_ne {f : Nat} : ∀ (r k : Nat) (i : Nat → Nat → Int32) {a p : Nat}, (a ≠ 90 ∨ p ≠ 24 + 6 * f + 1) → mapA f r k i a p = i a p
  | 0, k, i, a, p, h => rfl
  | r + 1, k, i, a, p, h => by
    unfold mapA
    rw [mapA_ne r (k + 1) _ h]
    unfold map1 up2
    rw [if_neg (by omega)]
theorem mrf_oth {i : Nat → Nat → Int32} {f c a p : Nat} (h : a ≠ 90 ∨ p < 5 ∨ (6 ≤ p ∧ p < 24) ∨ p = 24 + 6 * f + 3 ∨ p < 24 + 6 * f ∧ 5 < p ∨ 24 + 6 * f + 5 < p) : mrf i f c a p = i a p := by
  unfold mrf
  try dsimp only
  have e1 : up2 i 90 (24 + 6 * f + 4) 0 a p = i a p := by unfold up2; rw [if_neg (by omega)]
  have e2 : ∀ (q : Nat → Nat → Int32) co, mrf1 q f co a p = q a p := fun q co => by
    unfold mrf1
    try dsimp only
    unfold up2
    rw [if_neg (by omega), if_neg (by omega), if_neg (by omega), if_neg (by omega)]
  split
  · exact e1
  · split
    · rw [e2]
      unfold mrA
      cases mlf (up2 i 90 (24 + 6 * f + 4) 0) f c 0
      · exact e1
      · exact (mapA_ne (f := f) _ _ _ (by omega)).trans e1
    · rw [e2]
      unfold up2 at e1 ⊢
      rw [if_neg (by omega)]
      exact e1
theorem mrn_oth {i : Nat → Nat → Int32} {x : Int32} {a p : Nat} (h : a ≠ 90 ∨ p < 2 ∨ p = 3 ∨ (4 < p ∧ (p < 28 ∨ p % 6 ≠ 4))) : mrn i x a p = i a p := by
  unfold mrn
  rw [mgv_oth (by omega)]
  unfold up2
  rw [if_neg (by omega), if_neg (by omega)]
def mcN (i : Nat → Nat → Int32) : Nat := (i 90 4).toNatClampNeg
def mqN (i : Nat → Nat → Int32) : Nat := (i 90 3).toNatClampNeg
def mnN (i : Nat → Nat → Int32) : Nat := (i 90 2).toNatClampNeg
/-- the reference's numbers are in their ranges -/
def MC (i : Nat → Nat → Int32) : Prop := i 90 4 = nI (mcN i) ∧ mcN i ≤ mqN i ∧ 1 ≤ mqN i ∧ mqN i ≤ 6 ∧ i 90 3 = nI (mqN i) ∧ i 90 2 = nI (mnN i) ∧ mnN i < 16 ∧ ∀ f, f < 4 → i 90 (24 + 6 * f + 3) = 0 ∨ i 90 (24 + 6 * f + 3) = 1
theorem MC_of {i : Nat → Nat → Int32} {c K n : Nat} (h1 : i 90 4 = nI c) (h2 : c ≤ K) (h3 : 1 ≤ K) (h4 : K ≤ 6) (h5 : i 90 3 = nI K) (h6 : i 90 2 = nI n) (h7 : n < 16) (h8 : ∀ f, f < 4 → i 90 (24 + 6 * f + 3) = 0 ∨ i 90 (24 + 6 * f + 3) = 1) : MC i ∧ mcN i = c ∧ mqN i = K ∧ mnN i = n := by
  have e1 : mcN i = c := by unfold mcN; rw [h1]; exact nI_clamp (by omega)
  have e2 : mqN i = K := by unfold mqN; rw [h5]; exact nI_clamp (by omega)
  have e3 : mnN i = n := by unfold mnN; rw [h6]; exact nI_clamp (by omega)
  refine ⟨?_, e1, e2, e3⟩
  unfold MC
  rw [e1, e2, e3]
  exact ⟨h1, h2, h3, h4, h5, h6, h7, h8⟩
theorem MC_same {i i' : Nat → Nat → Int32} (h : MC i) (h1 : i' 90 4 = i 90 4) (h2 : i' 90 3 = i 90 3) (h3 : i' 90 2 = i 90 2) (h4 : ∀ f, f < 4 → i' 90 (24 + 6 * f + 3) = i 90 (24 + 6 * f + 3)) : MC i' := by
  obtain ⟨a1, a2, a3, a4, a5, a6, a7, a8⟩ := h
  exact (MC_of (h1.trans a1) a2 a3 a4 (h2.trans a5) (h3.trans a6) a7 (fun f hf => by rw [h4 f hf]; exact a8 f hf)).1
def mok (i : Nat → Nat → Int32) (s v : Int32) : Bool :=
  if s = 43 then decide (mbt (i 90 0) v = 0) else if s = 45 then decide (¬ mbt (i 90 0) v = 0) else if s = 112 then decide (¬ i 90 0 = i 90 1) else if s = 110 then decide (wit v 0 15 ∧ ¬ v = i 90 2) else decide (i 90 (24 + 6 * v.toNatClampNeg + 3) = (if s = 119 then 1 else 0))
def mdo (i : Nat → Nat → Int32) (s v : Int32) : Nat → Nat → Int32 :=
  if s = 43 ∨ s = 45 then mcd i v else if s = 112 then mpb i (mcN i) (mqN i) else if s = 110 then mrn i v else if s = 114 then mrf i v.toNatClampNeg (mcN i) else up2 i 90 (24 + 6 * v.toNatClampNeg + 3) (if s = 115 then 1 else 0)
def mdv (i : Nat → Nat → Int32) (s v : Int32) : Int32 :=
  if s = 43 ∨ s = 45 then one (mdo i s v 90 0) else if s = 112 then mdo i s v 90 2 else if s = 110 then i 90 2 else if s = 114 then man i v.toNatClampNeg (mcN i) else msl (mdo i s v) 4
/-- a number that was read behind its sign -/
def mvl (s v : Int32) : Prop := (s = 43 ∨ s = 45 ∨ s = 112 ∨ s = 110 ∨ (v = nI v.toNatClampNeg ∧ v.toNatClampNeg < 4))
theorem b2x {p q : Prop} [Decidable p] [Decidable q] (h : p ↔ q) : b2i q = b2i p := by unfold b2i; simp only [h]
theorem k_X7_canDo {g : G0} {j : Nat → Nat → Int64} (d : Nat) {i : Nat → Nat → Int32} {s v : Int32} (h7 : i 89 7 = s) (h8 : i 89 8 = v) (hv : mvl s v)  : C g m_X7_canDo (d + 3) 0 0 false [.ref 89] (mk i j) (rets (some (.int (b2i (mok i s v = true)))) (mk i j)) := by
  refine C_of (L := [some (.ref 89)]) rfl ?_
  refine L_aload_n_0 dX7_canDo_0 ?_
  refine U_getI dX7_canDo_1 fl_RX7_162 rfl rfl ?_
  refine V_eqv (y := s) h7 ?_
  by_cases e43 : s = 43
  · refine V_lookup (off := 44) (tgt := 48) dX7_canDo_4 (by decide) (by rw [e43]; decide) (by decide) ?_
    have ho : mok i s v = true ↔ mbt (i 90 0) v = 0 := by rw [e43]; unfold mok; simp
    refine L_aload_n_0 dX7_canDo_48 ?_
    refine L_aload_n_0 dX7_canDo_49 ?_
    refine U_getI dX7_canDo_50 fl_RX7_159 rfl rfl ?_
    refine V_eqv (y := v) h8 ?_
    refine U_cv2 (d := d + 2) (lkR_RX7_90 rfl dX7_canDo_53) (k_X7_canAdd _) ⟨pn_X7_canAdd, rfl, (Nat.le_of_ble_eq_true rfl), (Nat.le_of_ble_eq_true rfl), rfl⟩ (⟨_, _, rfl, rfl, rfl⟩) (cfS cf7) (Nat.le_of_ble_eq_true rfl) ?_
    exact V_iret dX7_canDo_56 rfl b2n (rtI (b2x ho))
  by_cases e45 : s = 45
  · refine V_lookup (off := 53) (tgt := 57) dX7_canDo_4 (by decide) (by rw [e45]; decide) (by decide) ?_
    have ho : mok i s v = true ↔ ¬ mbt (i 90 0) v = 0 := by rw [e45]; unfold mok; simp
    refine L_aload_n_0 dX7_canDo_57 ?_
    refine L_aload_n_0 dX7_canDo_58 ?_
    refine U_getI dX7_canDo_59 fl_RX7_159 rfl rfl ?_
    refine V_eqv (y := v) h8 ?_
    refine U_cv2 (d := d + 2) (lkR_RX7_90 rfl dX7_canDo_62) (k_X7_canAdd _) ⟨pn_X7_canAdd, rfl, (Nat.le_of_ble_eq_true rfl), (Nat.le_of_ble_eq_true rfl), rfl⟩ (⟨_, _, rfl, rfl, rfl⟩) (cfS cf7) (Nat.le_of_ble_eq_true rfl) ?_
    refine V_ifx_ne (tgt := 72) dX7_canDo_65 (by decide) (fun h65 => ?_) (fun h65 => ?_)
    · refine V_iconst (v := 0) (by decide) dX7_canDo_72 ?_
      exact V_iret dX7_canDo_73 rfl rfl (rtI (b2f (fun z => ho.mp z (b2p h65))).symm)
    · refine V_iconst (v := 1) (by decide) dX7_canDo_68 ?_
      refine V_goto (tgt := 73) dX7_canDo_69 (by decide) ?_
      exact V_iret dX7_canDo_73 rfl rfl (rtI (b2t (ho.mpr (b2z.mp h65))).symm)
  by_cases e110 : s = 110
  · refine V_lookup (off := 75) (tgt := 79) dX7_canDo_4 (by decide) (by rw [e110]; decide) (by decide) ?_
    have ho : mok i s v = true ↔ wit v 0 15 ∧ ¬ v = i 90 2 := by rw [e110]; unfold mok; exact decide_eq_true_iff
    refine L_aload_n_0 dX7_canDo_79 ?_
    refine L_aload_n_0 dX7_canDo_80 ?_
    refine U_getI dX7_canDo_81 fl_RX7_159 rfl rfl ?_
    refine V_eqv (y := v) h8 ?_
    refine U_cv2 (d := d + 2) (lkR_RX7_106 rfl dX7_canDo_84) (k_X7_canRenumber _) ⟨pn_X7_canRenumber, rfl, (Nat.le_of_ble_eq_true rfl), (Nat.le_of_ble_eq_true rfl), rfl⟩ (⟨_, _, rfl, rfl, rfl⟩) (cfS cf7) (Nat.le_of_ble_eq_true rfl) ?_
    exact V_iret dX7_canDo_87 rfl b2n (rtI (b2x ho))
  by_cases e112 : s = 112
  · refine V_lookup (off := 70) (tgt := 74) dX7_canDo_4 (by decide) (by rw [e112]; decide) (by decide) ?_
    have ho : mok i s v = true ↔ ¬ i 90 0 = i 90 1 := by rw [e112]; unfold mok; simp
    refine L_aload_n_0 dX7_canDo_74 ?_
    refine U_cv1 (d := d + 2) (lkR_RX7_99 rfl dX7_canDo_75) (k_X7_canPublish _) ⟨pn_X7_canPublish, rfl, (Nat.le_of_ble_eq_true rfl), (Nat.le_of_ble_eq_true rfl), rfl⟩ (⟨_, _, rfl, rfl, rfl⟩) (cfS cf7) (Nat.le_of_ble_eq_true rfl) ?_
    exact V_iret dX7_canDo_78 rfl b2n (rtI (b2x ho))
  refine V_lookup (off := 84) (tgt := 88) dX7_canDo_4 (by decide) (by show Op.lookupswitch.offset [(43, 44), (45, 53), (110, 75), (112, 70)] _ _ = _; rw [lv_osw e43 (by decide), lv_osw e45 (by decide), lv_osw e110 (by decide), lv_osw e112 (by decide)]; rfl) (by decide) ?_
  obtain ⟨hv1, hv2⟩ : v = nI v.toNatClampNeg ∧ v.toNatClampNeg < 4 := by unfold mvl at hv; simp only [e43, e45, e112, e110, false_or] at hv; exact hv
  have ho : mok i s v = true ↔ i 90 (24 + 6 * v.toNatClampNeg + 3) = (if s = 119 then 1 else 0) := by unfold mok; rw [if_neg e43, if_neg e45, if_neg e112, if_neg e110]; simp
  refine L_aload_n_0 dX7_canDo_88 ?_
  refine L_aload_n_0 dX7_canDo_89 ?_
  refine U_getI dX7_canDo_90 fl_RX7_159 rfl rfl ?_
  refine V_eqv (y := v) h8 ?_
  refine V_iconst (v := 3) (by decide) dX7_canDo_93 ?_
  refine U_cv3 (d := d + 2) (lkR_RX7_34 rfl dX7_canDo_94) (k_X7_of _ (f := v.toNatClampNeg) (w := 3) hv1 rfl (hv2) (by decide)) ⟨pn_X7_of, rfl, (Nat.le_of_ble_eq_true rfl), (Nat.le_of_ble_eq_true rfl), rfl⟩ (⟨_, _, rfl, rfl, rfl⟩) (cfS cf7) (Nat.le_of_ble_eq_true rfl) ?_
  refine L_aload_n_0 dX7_canDo_97 ?_
  refine U_getI dX7_canDo_98 fl_RX7_162 rfl rfl ?_
  refine V_eqv (y := s) h7 ?_
  refine V_bipush (v := 119) (by decide) dX7_canDo_101 ?_
  refine V_icmp_ne (tgt := 110) dX7_canDo_103 (by decide) (fun h103 => ?_) (fun h103 => ?_)
  · refine V_iconst (v := 0) (by decide) dX7_canDo_110 ?_
    refine V_icmp_ne (tgt := 118) dX7_canDo_111 (by decide) (fun h111 => ?_) (fun h111 => ?_)
    · refine V_iconst (v := 0) (by decide) dX7_canDo_118 ?_
      exact V_iret dX7_canDo_119 rfl rfl (by
    rw [if_neg h103] at ho
    exact rtI (b2f (fun z => h111 (ho.mp z))).symm)
    · refine V_iconst (v := 1) (by decide) dX7_canDo_114 ?_
      refine V_goto (tgt := 119) dX7_canDo_115 (by decide) ?_
      exact V_iret dX7_canDo_119 rfl rfl (by
    rw [if_neg h103] at ho
    exact rtI (b2t (ho.mpr h111)).symm)
  · refine V_iconst (v := 1) (by decide) dX7_canDo_106 ?_
    refine V_goto (tgt := 111) dX7_canDo_107 (by decide) ?_
    refine V_icmp_ne (tgt := 118) dX7_canDo_111 (by decide) (fun h111 => ?_) (fun h111 => ?_)
    · refine V_iconst (v := 0) (by decide) dX7_canDo_118 ?_
      exact V_iret dX7_canDo_119 rfl rfl (by
    rw [if_pos h103] at ho
    exact rtI (b2f (fun z => h111 (ho.mp z))).symm)
    · refine V_iconst (v := 1) (by decide) dX7_canDo_114 ?_
      refine V_goto (tgt := 119) dX7_canDo_115 (by decide) ?_
      exact V_iret dX7_canDo_119 rfl rfl (by
    rw [if_pos h103] at ho
    exact rtI (b2t (ho.mpr h111)).symm)
section MDO
variable {i : Nat → Nat → Int32} {s v : Int32}
theorem mdo_a (h : s = 43 ∨ s = 45) : mdo i s v = mcd i v ∧ mdv i s v = one (mcd i v 90 0) := by
  have h1 : mdo i s v = mcd i v := if_pos h
  exact ⟨h1, by unfold mdv; rw [if_pos h, h1]⟩
theorem mdo_p (h : s = 112) : mdo i s v = mpb i (mcN i) (mqN i) ∧ mdv i s v = mpb i (mcN i) (mqN i) 90 2 := by
  subst h
  exact ⟨rfl, rfl⟩
theorem mdo_n (h : s = 110) : mdo i s v = mrn i v ∧ mdv i s v = i 90 2 := by
  subst h
  exact ⟨rfl, rfl⟩
theorem mdo_r (h : s = 114) : mdo i s v = mrf i v.toNatClampNeg (mcN i) ∧ mdv i s v = man i v.toNatClampNeg (mcN i) := by
  subst h
  exact ⟨rfl, rfl⟩
theorem mdo_w (h1 : ¬ s = 43) (h2 : ¬ s = 45) (h3 : ¬ s = 110) (h4 : ¬ s = 112) (h5 : ¬ s = 114) : mdo i s v = up2 i 90 (24 + 6 * v.toNatClampNeg + 3) (if s = 115 then 1 else 0) ∧ mdv i s v = msl (up2 i 90 (24 + 6 * v.toNatClampNeg + 3) (if s = 115 then 1 else 0)) 4 := by
  have e : mdo i s v = up2 i 90 (24 + 6 * v.toNatClampNeg + 3) (if s = 115 then 1 else 0) := by
    unfold mdo; rw [if_neg (fun z => z.elim h1 h2), if_neg h4, if_neg h3, if_neg h5]
  exact ⟨e, by unfold mdv; rw [if_neg (fun z => z.elim h1 h2), if_neg h4, if_neg h3, if_neg h5, e]⟩
end MDO
theorem k_X7_doOrder {g : G0} {j : Nat → Nat → Int64} (d : Nat) {i : Nat → Nat → Int32} {s v : Int32} (h7 : i 89 7 = s) (h8 : i 89 8 = v) (hv : mvl s v) (hM : MC i)  : C g m_X7_doOrder (d + 6) 0 0 false [.ref 89] (mk i j) (rets (some (.int (mdv i s v))) (mk (mdo i s v) j)) := by
  refine C_of (L := [some (.ref 89)]) rfl ?_
  refine L_aload_n_0 dX7_doOrder_0 ?_
  refine U_getI dX7_doOrder_1 fl_RX7_162 rfl rfl ?_
  refine V_eqv (y := s) h7 ?_
  obtain ⟨m1, m2, m3, m4, m5, m6, m7, m8⟩ := hM
  by_cases e43 : s = 43
  · refine V_lookup (off := 52) (tgt := 56) dX7_doOrder_4 (by decide) (by rw [e43]; decide) (by decide) ?_
    refine L_aload_n_0 dX7_doOrder_56 ?_
    refine L_aload_n_0 dX7_doOrder_57 ?_
    refine U_getI dX7_doOrder_58 fl_RX7_159 rfl rfl ?_
    refine V_eqv (y := v) h8 ?_
    refine U_cv2 (d := d + 5) (lkR_RX7_96 rfl dX7_doOrder_61) (k_X7_changeDraft _) ⟨pn_X7_changeDraft, rfl, (Nat.le_of_ble_eq_true rfl), (Nat.le_of_ble_eq_true rfl), rfl⟩ (⟨_, _, rfl, rfl, rfl⟩) (cfS cf7) (Nat.le_of_ble_eq_true rfl) ?_
    exact V_iret dX7_doOrder_64 rfl rfl (by rw [(mdo_a (Or.inl e43)).1, (mdo_a (Or.inl e43)).2]; exact ⟨rfl, rfl⟩)
  by_cases e45 : s = 45
  · refine V_lookup (off := 52) (tgt := 56) dX7_doOrder_4 (by decide) (by rw [e45]; decide) (by decide) ?_
    refine L_aload_n_0 dX7_doOrder_56 ?_
    refine L_aload_n_0 dX7_doOrder_57 ?_
    refine U_getI dX7_doOrder_58 fl_RX7_159 rfl rfl ?_
    refine V_eqv (y := v) h8 ?_
    refine U_cv2 (d := d + 5) (lkR_RX7_96 rfl dX7_doOrder_61) (k_X7_changeDraft _) ⟨pn_X7_changeDraft, rfl, (Nat.le_of_ble_eq_true rfl), (Nat.le_of_ble_eq_true rfl), rfl⟩ (⟨_, _, rfl, rfl, rfl⟩) (cfS cf7) (Nat.le_of_ble_eq_true rfl) ?_
    exact V_iret dX7_doOrder_64 rfl rfl (by rw [(mdo_a (Or.inr e45)).1, (mdo_a (Or.inr e45)).2]; exact ⟨rfl, rfl⟩)
  by_cases e110 : s = 110
  · refine V_lookup (off := 66) (tgt := 70) dX7_doOrder_4 (by decide) (by rw [e110]; decide) (by decide) ?_
    refine L_aload_n_0 dX7_doOrder_70 ?_
    refine L_aload_n_0 dX7_doOrder_71 ?_
    refine U_getI dX7_doOrder_72 fl_RX7_159 rfl rfl ?_
    refine V_eqv (y := v) h8 ?_
    refine U_cv2 (d := d + 5) (lkR_RX7_109 rfl dX7_doOrder_75) (k_X7_renumbers _) ⟨pn_X7_renumbers, rfl, (Nat.le_of_ble_eq_true rfl), (Nat.le_of_ble_eq_true rfl), rfl⟩ (⟨_, _, rfl, rfl, rfl⟩) (cfS cf7) (Nat.le_of_ble_eq_true rfl) ?_
    exact V_iret dX7_doOrder_78 rfl rfl (by rw [(mdo_n e110).1, (mdo_n e110).2]; exact ⟨rfl, rfl⟩)
  by_cases e112 : s = 112
  · refine V_lookup (off := 61) (tgt := 65) dX7_doOrder_4 (by decide) (by rw [e112]; decide) (by decide) ?_
    refine L_aload_n_0 dX7_doOrder_65 ?_
    refine U_cv1 (d := d + 5) (lkR_RX7_103 rfl dX7_doOrder_66) (k_X7_publishes _ m1 m5 m2 m3 m4) ⟨pn_X7_publishes, rfl, (Nat.le_of_ble_eq_true rfl), (Nat.le_of_ble_eq_true rfl), rfl⟩ (⟨_, _, rfl, rfl, rfl⟩) (cfS cf7) (Nat.le_of_ble_eq_true rfl) ?_
    exact V_iret dX7_doOrder_69 rfl rfl (by rw [(mdo_p e112).1, (mdo_p e112).2]; exact ⟨rfl, rfl⟩)
  by_cases e114 : s = 114
  · refine V_lookup (off := 75) (tgt := 79) dX7_doOrder_4 (by decide) (by rw [e114]; decide) (by decide) ?_
    obtain ⟨hv1, hv2⟩ : v = nI v.toNatClampNeg ∧ v.toNatClampNeg < 4 := by unfold mvl at hv; simp only [e43, e45, e110, e112, false_or] at hv; exact hv
    refine L_aload_n_0 dX7_doOrder_79 ?_
    refine L_aload_n_0 dX7_doOrder_80 ?_
    refine U_getI dX7_doOrder_81 fl_RX7_159 rfl rfl ?_
    refine V_eqv (y := v) h8 ?_
    refine U_cv2 (d := d + 5) (lkR_RX7_124 rfl dX7_doOrder_84) (k_X7_refreshes _ hv1 hv2 m1 (by omega)) ⟨pn_X7_refreshes, rfl, (Nat.le_of_ble_eq_true rfl), (Nat.le_of_ble_eq_true rfl), rfl⟩ (⟨_, _, rfl, rfl, rfl⟩) (cfS cf7) (Nat.le_of_ble_eq_true rfl) ?_
    exact V_iret dX7_doOrder_87 rfl rfl (by rw [(mdo_r e114).1, (mdo_r e114).2]; exact ⟨rfl, rfl⟩)
  refine V_lookup (off := 84) (tgt := 88) dX7_doOrder_4 (by decide) (by show Op.lookupswitch.offset [(43, 52), (45, 52), (110, 66), (112, 61), (114, 75)] _ _ = _; rw [lv_osw e43 (by decide), lv_osw e45 (by decide), lv_osw e110 (by decide), lv_osw e112 (by decide), lv_osw e114 (by decide)]; rfl) (by decide) ?_
  obtain ⟨hv1, hv2⟩ : v = nI v.toNatClampNeg ∧ v.toNatClampNeg < 4 := by unfold mvl at hv; simp only [e43, e45, e110, e112, false_or] at hv; exact hv
  refine L_aload_n_0 dX7_doOrder_88 ?_
  refine L_aload_n_0 dX7_doOrder_89 ?_
  refine U_getI dX7_doOrder_90 fl_RX7_159 rfl rfl ?_
  refine V_eqv (y := v) h8 ?_
  refine L_aload_n_0 dX7_doOrder_93 ?_
  refine U_getI dX7_doOrder_94 fl_RX7_162 rfl rfl ?_
  refine V_eqv (y := s) h7 ?_
  refine V_bipush (v := 115) (by decide) dX7_doOrder_97 ?_
  refine V_icmp_ne (tgt := 106) dX7_doOrder_99 (by decide) (fun h99 => ?_) (fun h99 => ?_)
  · refine V_iconst (v := 0) (by decide) dX7_doOrder_106 ?_
    refine U_cv3 (d := d + 5) (lkR_RX7_127 rfl dX7_doOrder_107) (k_X7_turns _ hv1 hv2) ⟨pn_X7_turns, rfl, (Nat.le_of_ble_eq_true rfl), (Nat.le_of_ble_eq_true rfl), rfl⟩ (⟨_, _, rfl, rfl, rfl⟩) (cfS cf7) (Nat.le_of_ble_eq_true rfl) ?_
    exact V_iret dX7_doOrder_110 rfl rfl (by rw [(mdo_w e43 e45 e110 e112 e114).1, (mdo_w e43 e45 e110 e112 e114).2, if_neg h99]; exact ⟨rfl, rfl⟩)
  · refine V_iconst (v := 1) (by decide) dX7_doOrder_102 ?_
    refine V_goto (tgt := 107) dX7_doOrder_103 (by decide) ?_
    refine U_cv3 (d := d + 5) (lkR_RX7_127 rfl dX7_doOrder_107) (k_X7_turns _ hv1 hv2) ⟨pn_X7_turns, rfl, (Nat.le_of_ble_eq_true rfl), (Nat.le_of_ble_eq_true rfl), rfl⟩ (⟨_, _, rfl, rfl, rfl⟩) (cfS cf7) (Nat.le_of_ble_eq_true rfl) ?_
    exact V_iret dX7_doOrder_110 rfl rfl (by rw [(mdo_w e43 e45 e110 e112 e114).1, (mdo_w e43 e45 e110 e112 e114).2, if_pos h99]; exact ⟨rfl, rfl⟩)
