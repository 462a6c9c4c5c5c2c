theorem t25 (g : G0) (x : Int32) : St g INV m_L_answer m_X7_answer [.int x] := by
  intro i j t ht I
  obtain ⟨c, K, n, L⟩ := LV_iff.mp I.1
  have L9 := L
  obtain ⟨⟨P1, P2, P3, P4⟩, ⟨N1, N2, N3, N4, N5, N6, N7, N8, N9, N10⟩, D, F, CC⟩ := L
  by_cases hx : foq x
  · obtain ⟨f, hf, e⟩ := wit_nI (b := 3) (by omega) (foq_wit.mp hx)
    have hf : f < 4 := by omega
    subst e
    exact go_ok (w_answer 9 (k_X6_answer 6 hf N8 (by omega))) (fun j => k_X7_answer 6 rfl hf N9 (by omega)) (ans_man L9 hf) up2_eq (INV_agr I agr_t0)
  · exact go_no (w_answer_x1 9 (k_X6_answer_x 2 hx)) (by decide) (k_X7_answer__1 6 (fun z => hx (foq_wit.mpr z))) up2_eq (INV_agr I agr_t1)
theorem t26 (g : G0) (x : Int32) : St g INV m_L_costToCome m_X7_costToCome [.int x] := by
  intro i j t ht I
  obtain ⟨c, K, n, L⟩ := LV_iff.mp I.1
  have L9 := L
  obtain ⟨⟨P1, P2, P3, P4⟩, ⟨N1, N2, N3, N4, N5, N6, N7, N8, N9, N10⟩, D, F, CC⟩ := L
  by_cases hx : foq x
  · obtain ⟨f, hf, e⟩ := wit_nI (b := 3) (by omega) (foq_wit.mp hx)
    have hf : f < 4 := by omega
    subst e
    exact go_ok (w_costToCome 9 (k_X6_costToCome 5 hf N8 (by omega))) (fun j => k_X7_costToCome 5 rfl hf N9 (by omega)) (coa_mca L9 hf) up2_eq (INV_agr I agr_t0)
  · exact go_no (w_costToCome_x1 9 (k_X6_costToCome_x 2 hx)) (by decide) (k_X7_costToCome__1 5 (fun z => hx (foq_wit.mpr z))) up2_eq (INV_agr I agr_t1)
theorem wit_c {x : Int32} {c : Nat} (hc : c ≤ 6) : wit x 0 (nI c - 1) ↔ ∃ k, k < c ∧ x = nI k := by
  match c with
  | 0 =>
    constructor
    · rintro ⟨h1, h2⟩
      exact absurd (Int32.lt_of_lt_of_le (show nI 0 - 1 < 0 by decide) (Int32.not_lt.mp h1)) h2
    · rintro ⟨k, hk, _⟩
      omega
  | c + 1 =>
    rw [nI_pred]
    constructor
    · intro h
      obtain ⟨p, hp, e⟩ := wit_nI (b := c) (by omega) h
      exact ⟨p, by omega, e⟩
    · rintro ⟨k, hk, rfl⟩
      exact witq (b := c) rfl (by omega) (by omega)
theorem lt_c {x : Int32} {c : Nat} (hc : c ≤ 6) (h : ¬ ∃ k, k < c ∧ x = nI k) : x < 0 ∨ ¬ x < nI c := by
  by_cases h0 : x < 0
  · exact Or.inl h0
  · refine Or.inr fun z => h ?_
    obtain ⟨p, hp, e⟩ := nI_of h0
    subst e
    exact ⟨p, (nI_ltI (a := p) (b := c) (by omega) (by omega)).mp z, rfl⟩
theorem t11 (g : G0) (x : Int32) : St g INV m_L_from m_X7_from [.int x] := by
  intro i j t ht I
  obtain ⟨c, K, n, L⟩ := LV_iff.mp I.1
  have L9 := L
  obtain ⟨⟨P1, P2, P3, P4⟩, ⟨N1, N2, N3, N4, N5, N6, N7, N8, N9, N10⟩, D, F, CC⟩ := L
  by_cases hx : ∃ q, q < c ∧ x = nI q
  · obtain ⟨q, hq, e⟩ := hx
    subst e
    exact go_ok (w_from 9 (k_X6_from 8 N8 (by omega) hq)) (fun j => k_X7_from 8 (by rw [N9]; exact (wit_c (by omega)).mpr ⟨q, hq, rfl⟩) rfl (by omega)) ((D q hq).1) up2_eq (INV_agr I agr_t0)
  · exact go_no (w_from_x1 9 (k_X6_from_x 2 N8 (by omega) (lt_c (by omega) hx))) (by decide) (k_X7_from__1 8 (by rw [N9]; exact fun z => hx ((wit_c (by omega)).mp z))) up2_eq (INV_agr I agr_t1)
theorem t12 (g : G0) (x : Int32) : St g INV m_L_cost m_X7_cost [.int x] := by
  intro i j t ht I
  obtain ⟨c, K, n, L⟩ := LV_iff.mp I.1
  have L9 := L
  obtain ⟨⟨P1, P2, P3, P4⟩, ⟨N1, N2, N3, N4, N5, N6, N7, N8, N9, N10⟩, D, F, CC⟩ := L
  by_cases hx : ∃ q, q < c ∧ x = nI q
  · obtain ⟨q, hq, e⟩ := hx
    subst e
    exact go_ok (w_cost 9 (k_X6_cost 8 N8 (by omega) hq)) (fun j => k_X7_cost 8 (by rw [N9]; exact (wit_c (by omega)).mpr ⟨q, hq, rfl⟩) rfl (by omega)) ((D q hq).2.2.2.2.2.2) up2_eq (INV_agr I agr_t0)
  · exact go_no (w_cost_x1 9 (k_X6_cost_x 2 N8 (by omega) (lt_c (by omega) hx))) (by decide) (k_X7_cost__1 8 (by rw [N9]; exact fun z => hx ((wit_c (by omega)).mp z))) up2_eq (INV_agr I agr_t1)
theorem t30 (g : G0) : StP g INV m_X6_clearText m_X7_clearText := by
  intro i j t ht I
  obtain ⟨l, T1, T2, T3, T4⟩ := I.2.2
  have h9 := k_X7_clearText (g := g) (i := up2 i 87 1 0) (j := j) 10
  have h8 := k_X6_clearText (g := g) (i := i) (j := j) 9
  have e : up2 i 87 1 0 89 5 = i 87 1 := (up2_ne (by omega)).trans (T2.trans T1.symm)
  rw [e] at h9
  refine ⟨_, _, _, h8, h9, LV_congr (fun a f z => ?_) (by omega) I.1, SA_congr (fun a f z => ?_) (by omega) I.2.1, 0, ?_, up2_eq, by omega, fun q hq => by omega⟩
  · unfold th up2; rw [if_neg (by omega), if_neg (by omega), if_neg (by omega)]
  · unfold th up2; rw [if_neg (by omega), if_neg (by omega), if_neg (by omega)]
  · unfold th up2; rw [if_neg (by omega), if_neg (by omega), if_pos ⟨rfl, rfl⟩]; rfl
theorem t29 (g : G0) (x : Int32) : St g INV m_L_append m_X7_append [.int x] := by
  intro i j t ht I
  obtain ⟨l, T1, T2, T3, T4⟩ := I.2.2
  by_cases hx : ¬ x < 33 ∧ x ≤ 126
  · have hw : wit x 33 126 := ⟨hx.1, Int32.not_lt.mpr hx.2⟩
    by_cases hl : l = 60
    · subst hl
      exact go_no (w_append_x2 9 (k_X6_append_y 2 hx T1)) (by decide) (k_X7_append__2 9 hw T2) up2_eq (INV_agr I agr_t1)
    · have e5 : up2 (up2 i 88 l x) 87 1 (i 87 1 + 1) 89 5 = nI l := by rw [up2_ne (by omega), up2_ne (by omega)]; exact T2
      refine go_ok (w_append 9 (k_X6_append 8 hx T1 (by omega))) (fun j => k_X7_append 9 hw e5 (by omega)) ?_ ?_ ⟨LV_congr (fun a f z => ?_) (by omega) I.1, SA_congr (fun a f z => ?_) (by omega) I.2.1, l + 1, ?_, up2_eq, by omega, fun q hq => ?_⟩
      · rw [up2_eq, T1, nI_1]
      · rw [up2_nf (by omega), up2_ne (by omega)]; exact up2_eq
      · unfold th up2; rw [if_neg (by omega), if_neg (by omega), if_neg (by omega), if_neg (by omega), if_neg (by omega)]
      · unfold th up2; rw [if_neg (by omega), if_neg (by omega), if_neg (by omega), if_neg (by omega), if_neg (by omega)]
      · unfold th; rw [up2_ne (by omega), up2_ne (by omega), up2_ne (by omega), up2_eq, T1, nI_1]
      · unfold th up2
        by_cases hq2 : q = l
        · simp [hq2]
        · simp [hq2]
          exact T4 q (by omega)
  · exact go_no (w_append_x1 9 (k_X6_append_x 2 hx)) (by decide) (k_X7_append__1 9 (fun z => hx ⟨z.1, Int32.not_lt.mp z.2⟩)) up2_eq (INV_agr I agr_t1)
theorem t28 (g : G0) : StD g INV m_X6_savedShare m_X7_savedShare := by
  intro i j t ht I
  obtain ⟨c, K, n, L⟩ := LV_iff.mp I.1
  have L9 := L
  obtain ⟨⟨P1, P2, P3, P4⟩, ⟨N1, N2, N3, N4, N5, N6, N7, N8, N9, N10⟩, D, F, CC⟩ := L
  obtain ⟨a, w, C1, C2, C3⟩ := CC
  obtain ⟨a0, w0, l0, z0⟩ := C1 0 (by omega)
  obtain ⟨a1, w1, l1, z1⟩ := C1 1 (by omega)
  obtain ⟨a2, w2, l2, z2⟩ := C1 2 (by omega)
  obtain ⟨a3, w3, l3, z3⟩ := C1 3 (by omega)
  have eA : csm i 5 4 = nI (a 0 + a 1 + a 2 + a 3) := by
    show 0 + i (9 + 0) 5 + i (9 + 1) 5 + i (9 + 2) 5 + i (9 + 3) 5 = _
    rw [a0, a1, a2, a3, show (0 : Int32) = nI 0 from rfl, nI_add, nI_add, nI_add, nI_add]
    congr 1; omega
  have eW : csm i 6 4 = nI (w 0 + w 1 + w 2 + w 3) := by
    show 0 + i (9 + 0) 6 + i (9 + 1) 6 + i (9 + 2) 6 + i (9 + 3) 6 = _
    rw [w0, w1, w2, w3, show (0 : Int32) = nI 0 from rfl, nI_add, nI_add, nI_add, nI_add]
    congr 1; omega
  have eM : msu i = nI (a 0 + a 1 + a 2 + a 3) := by
    unfold msu
    rw [← (F 0 (by omega)).2.2.2.2.2.2.2.2.2, ← (F 1 (by omega)).2.2.2.2.2.2.2.2.2, ← (F 2 (by omega)).2.2.2.2.2.2.2.2.2, ← (F 3 (by omega)).2.2.2.2.2.2.2.2.2, a0, a1, a2, a3, nI_add, nI_add, nI_add]
  have hz : a 0 + a 1 + a 2 + a 3 = 0 ↔ w 0 + w 1 + w 2 + w 3 = 0 := by omega
  have nz : ∀ s, s < 2 ^ 31 → (nI s = 0 ↔ s = 0) := fun s hs => nI_eq (b := 0) hs (by omega)
  have h9 := k_X7_savedShare (g := g) (i := i) (j := j) 8 (by rw [eM, C2, nz _ (by omega), nz _ (by omega), hz]; exact id)
  have h8 := k_X6_savedShare (g := g) (i := i) (j := j) 10
  refine ⟨_, i, th i 0, h8, ?_, INV_agr I agr_t0⟩
  have e : shr (csm i 5 4) (csm i 6 4) = msh (msu i) (i 90 5) := by
    unfold shr msh
    rw [eA, eW, eM, C2]
    by_cases h0 : w 0 + w 1 + w 2 + w 3 = 0
    · rw [if_pos ((nz _ (by omega)).mpr h0), if_pos ((nz _ (by omega)).mpr (hz.mpr h0))]
    · rw [if_neg (fun z => h0 ((nz _ (by omega)).mp z)), if_neg (fun z => h0 (hz.mp ((nz _ (by omega)).mp z)))]
  rw [e]
  exact h9
