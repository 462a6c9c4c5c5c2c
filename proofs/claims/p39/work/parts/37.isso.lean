/-! ===== in the relation every check of the law holds ===== -/
theorem bit_0 (v : Int32) : bit 0 v = 0 := by
  show (0 : Int32) &&& _ = 0
  exact Int32.zero_and
theorem bit_b2i {v : Int32} (h : L30 v) {s : Nat} (hs : s < 30) : b2i (¬ bit v (nI s) = 0) = mbt v (nI s) := by
  obtain ⟨h1, h2⟩ := bit_mbt h hs
  by_cases e : bit v (nI s) = 0
  · rw [b2f (fun z => z e), h1.mp e]
  · rw [b2t e, h2.mp e]
section ISSO
variable {g : G0} {i : Nat → Nat → Int32} {j : Nat → Nat → Int64} {B c K n : Nat}
theorem fol_of (h : RP i i B c K n) {k s : Nat} (hk : k < 4) (hs : s < 30) : C g m_L_isFollower 11 0 0 false [.ref 0, .int (nI k), .int (nI s), .ref 89, .ref 90, .ref 91] (mk i j) (rets (some (.int 1)) (mk i j)) := by
  have hA := RP_AW h
  have hans := ans_lan h hk
  have hcoa := coa_lcn h hk
  obtain ⟨⟨P1, P2, P3, P4⟩, ⟨N1, N2, N3, N4, N5, N6, N7, N8, N9, N10⟩, D, F, CC⟩ := id h
  obtain ⟨F1, F2, F3, F4, F5, F6⟩ := F k hk
  have hst := stq_nI hs
  have e1 := w_editionOf (g := g) (j := j) 9 (k_X6_editionOf 7 (i := i) hk)
  have e2 := w_streets (g := g) (j := j) 9 (k_X6_streets 7 (i := i) hk)
  have e3 := w_has (g := g) (j := j) 9 (k_X6_has 7 (i := i) hk hst)
  have e4 := w_isRight (g := g) (j := j) 9 (k_X6_isRight 7 (i := i) hk)
  have e5 := w_attention (g := g) (j := j) 9 (k_X6_attention 7 (i := i) hk)
  have e6 := w_costs (g := g) (j := j) 9 (k_X6_costs 7 (i := i) hk)
  have e7 := w_answer (g := g) (j := j) 9 (k_X6_answer 6 (i := i) hk N8 (by omega))
  have e8 := w_costToCome (g := g) (j := j) 9 (k_X6_costToCome 5 (i := i) hk N8 (by omega))
  have e9 := w_wrong (g := g) (j := j) 9 (k_X6_wrong 7 (i := i) hk)
  rw [hans] at e7 e8
  rw [hcoa] at e8
  rw [F6] at e6
  have ea : (if i (9 + k) 4 = 0 then 0 else 1) + (if i (9 + k) 3 = 0 then 0 else 2) = 2 * i 91 (5 * k + 2) + i 91 (5 * k + 3) := by
    rw [F2, F4]
    rcases F3 with e | e <;> rcases F5 with e2 | e2 <;> rw [e, e2] <;> decide
  rw [ea] at e5
  rcases F1 with ⟨a1, a2, a3⟩ | ⟨a1, a2, a3, a4, a5⟩
  · rw [if_pos a1] at e1 e2 e9
    have h3 : b2i (¬ bit (i (9 + k) 1) (nI s) = 0) = 0 := b2f (fun z => z (by rw [a2]; exact bit_0 _))
    have h4 : b2i ((if i (9 + k) 0 = 0 then -1 else bcI (i (9 + k) 1 ^^^ i 2 1)) = 0) = 0 := b2f (by rw [if_pos a1]; decide)
    rw [h3] at e3
    rw [h4] at e4
    exact k_L_fol0 0 hk hA (by rw [a3]; decide) e1 e2 e3 e4 e5 e6 e7 e8 e9
  · have a0 : ¬ i (9 + k) 0 = 0 := by rw [a1]; decide
    rw [if_neg a0] at e1 e2 e9
    rw [a4] at e1
    rw [a2] at e2
    rw [a2, P2] at e9
    have h3 : b2i (¬ bit (i (9 + k) 1) (nI s) = 0) = mbt (i 91 (5 * k)) (nI s) := by rw [a2]; exact bit_b2i a3 hs
    have h4 : b2i ((if i (9 + k) 0 = 0 then -1 else bcI (i (9 + k) 1 ^^^ i 2 1)) = 0) = b2i (i 91 (5 * k) = i 89 1) := by
      refine b2x ?_
      rw [if_neg a0, a2, P2, bc_one (L30_xor a3 P4), one_0 (L30_xor a3 P4), xor_0 a3 P4]
    rw [h3] at e3
    rw [h4] at e4
    exact k_L_fol1 0 hk hA (L30_ge a3) a3 P4 e1 e2 e3 e4 e5 e6 e7 e8 e9
theorem share_of (h : RP i i B c K n) (hB : B < 2 ^ 30) : shr (csm i 5 4) (csm i 6 4) = sha i ∧ (¬ csL (i 91) = 0 → ¬ i 89 5 = 0) := by
  obtain ⟨P, N, D, F, a, w, C1, C2, C3⟩ := h
  obtain ⟨a0, w0, l0, z0⟩ := C1 0 (by omega)
  obtain ⟨a1, w1, l1, z1⟩ := C1 1 (by omega)
  obtain ⟨a2, w2, l2, z2⟩ := C1 2 (by omega)
  obtain ⟨a3, w3, l3, z3⟩ := C1 3 (by omega)
  have eA : csm i 5 4 = nI (a 0 + a 1 + a 2 + a 3) := by
    show 0 + i (9 + 0) 5 + i (9 + 1) 5 + i (9 + 2) 5 + i (9 + 3) 5 = _
    rw [a0, a1, a2, a3, show (0 : Int32) = nI 0 from rfl, nI_add, nI_add, nI_add, nI_add]
    congr 1; omega
  have eW : csm i 6 4 = nI (w 0 + w 1 + w 2 + w 3) := by
    show 0 + i (9 + 0) 6 + i (9 + 1) 6 + i (9 + 2) 6 + i (9 + 3) 6 = _
    rw [w0, w1, w2, w3, show (0 : Int32) = nI 0 from rfl, nI_add, nI_add, nI_add, nI_add]
    congr 1; omega
  have b0 : i 91 4 = nI (a 0) := (F 0 (by omega)).2.2.2.2.2.symm.trans a0
  have b1 : i 91 9 = nI (a 1) := (F 1 (by omega)).2.2.2.2.2.symm.trans a1
  have b2 : i 91 14 = nI (a 2) := (F 2 (by omega)).2.2.2.2.2.symm.trans a2
  have b3 : i 91 19 = nI (a 3) := (F 3 (by omega)).2.2.2.2.2.symm.trans a3
  have eM : csL (i 91) = nI (a 0 + a 1 + a 2 + a 3) := by
    unfold csL
    rw [b0, b1, b2, b3, nI_add, nI_add, nI_add]
  have hz : a 0 + a 1 + a 2 + a 3 = 0 ↔ w 0 + w 1 + w 2 + w 3 = 0 := by omega
  have nz : ∀ s, s < 2 ^ 31 → (nI s = 0 ↔ s = 0) := fun s hs => nI_eq (b := 0) hs (by omega)
  unfold shr sha
  rw [eA, eW, eM, C2]
  constructor
  · by_cases h0 : w 0 + w 1 + w 2 + w 3 = 0
    · rw [if_pos ((nz _ (by omega)).mpr h0), if_pos ((nz _ (by omega)).mpr (hz.mpr h0))]
    · rw [if_neg (fun z => h0 ((nz _ (by omega)).mp z)), if_neg (fun z => h0 (hz.mp ((nz _ (by omega)).mp z)))]
  · rw [nz _ (by omega), nz _ (by omega), hz]; exact id
theorem isSo_of (h : RP i i B c K n) (hB : B < 2 ^ 30) (x : Int32) : C g m_L_isSo 12 14 84 false [.ref 0, .int x, .ref 89, .ref 90, .ref 91] (mk i j) (rets (some (.int 1)) (mk i j)) := by
  have hA := RP_AW h
  obtain ⟨z1, z2⟩ := share_of h hB
  obtain ⟨⟨P1, P2, P3, P4⟩, ⟨N1, N2, N3, N4, N5, N6, N7, N8, N9, N10⟩, D, F, CC⟩ := id h
  have s1 := k_X6_edition (g := g) (i := i) (j := j) 9
  have s2 := k_X6_draft (g := g) (i := i) (j := j) 8
  have s3 := k_X6_published (g := g) (i := i) (j := j) 8
  have s4 := k_X6_pending (g := g) (i := i) (j := j) 8
  have s5 := k_X6_kept (g := g) (i := i) (j := j) 9
  have s7 := k_X6_savedShare (g := g) (i := i) (j := j) 9
  rw [N1, ← N2] at s1
  rw [P1] at s2
  rw [P2] at s3
  rw [P1, P2] at s4
  rw [N8, ← N9] at s5
  rw [z1] at s7
  refine k_L_isSo 0 hA P3 s1 s2 s3 s4 s5 (fun s hs => ?_) s7 z2 (fun k hk => ?_) (fun k hk => ?_) (fun a b ha hb => ?_) (fun k s hk hs => fol_of h hk hs)
  · have e := w_where (g := g) (j := j) 9 (k_X6_where 7 (i := i) (stq_nI hs))
    have e2 : (if bit (i 2 0) (nI s) = 0 then 0 else 1) + (if bit (i 2 1) (nI s) = 0 then 0 else 2) = mbt (i 89 0) (nI s) + 2 * mbt (i 89 1) (nI s) := by
      rw [P1, P2]
      obtain ⟨a1, a2⟩ := bit_mbt P3 hs
      obtain ⟨b1, b2⟩ := bit_mbt P4 hs
      by_cases e1 : bit (i 89 0) (nI s) = 0 <;> by_cases e2 : bit (i 89 1) (nI s) = 0
      · rw [if_pos e1, if_pos e2, a1.mp e1, b1.mp e2]; rfl
      · rw [if_pos e1, if_neg e2, a1.mp e1, b2.mp e2]; rfl
      · rw [if_neg e1, if_pos e2, a2.mp e1, b1.mp e2]; rfl
      · rw [if_neg e1, if_neg e2, a2.mp e1, b2.mp e2]; rfl
    rw [e2] at e
    exact e
  · by_cases hkc : k < c
    · rw [if_pos hkc, ← (D k hkc).1]
      exact C_less (by omega) (by omega) (w_from 9 (k_X6_from 8 N8 (by omega) hkc))
    · rw [if_neg hkc]
      exact w_from_x101 9 (k_X6_from_x 2 N8 (by omega) (Or.inr fun z => hkc ((nI_ltI (by omega) (by omega)).mp z)))
  · by_cases hkc : k < c
    · rw [if_pos hkc, ← (D k hkc).2.2.2.2.2.2]
      exact C_less (by omega) (by omega) (w_cost 9 (k_X6_cost 8 N8 (by omega) hkc))
    · rw [if_neg hkc]
      exact w_cost_x101 9 (k_X6_cost_x 2 N8 (by omega) (Or.inr fun z => hkc ((nI_ltI (by omega) (by omega)).mp z)))
  · exact w_compare 9 (k_X6_compare 8 (edq_nI ha) (edq_nI hb))
end ISSO
