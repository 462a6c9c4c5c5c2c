theorem C_less {g : G0} {M : M0} {d kc ks kc' ks' : Nat} {op : Bool} {As : List Value} {w : Wd} {P : Res → Wd → Prop} (h1 : kc ≤ kc') (h2 : ks ≤ ks') (h : C g M d kc ks op As w P) : C g M d kc' ks' op As w P := V_less h1 h2 h
section RD
variable {g : G0} {ML MM : M0} {xs : List Value} {i i2 : Nat → Nat → Int32} {j : Nat → Nat → Int64} {t : Nat} {v b x : Int32}
abbrev Goal (g : G0) (INV : (Nat → Nat → Int32) → Nat → Prop) (ML MM : M0) (xs : List Value) (i : Nat → Nat → Int32) (j : Nat → Nat → Int64) (t : Nat) : Prop := ∃ (kk b : Int32) (i1 : Nat → Nat → Int32) (j1 : Nat → Nat → Int64) (i2 : Nat → Nat → Int32), LC g ML 1 6 (.ref 0 :: (xs ++ [.ref 93])) (mk i j) (.int kk) (mk i1 j1) ∧ LC g MM 0 0 (.ref 89 :: xs) (mk i1 j1) (.int b) (mk i2 j1) ∧ i2 89 0 = kk ∧ (kk = 0 → j1 93 0 = b.toInt64) ∧ INV i2 (t + 1)
abbrev GoalB (g : G0) (INV : (Nat → Nat → Int32) → Nat → Prop) (ML MM : M0) (xs : List Value) (i : Nat → Nat → Int32) (j : Nat → Nat → Int64) (t : Nat) : Prop := ∃ (kk b : Int32) (i1 : Nat → Nat → Int32) (j1 : Nat → Nat → Int64) (i2 : Nat → Nat → Int32), LC g ML 1 6 (.ref 0 :: (xs ++ [.ref 93])) (mk i j) (.int kk) (mk i1 j1) ∧ LC g MM 0 0 (.ref 89 :: xs) (mk i1 j1) (.int b) (mk i2 j1) ∧ i2 89 0 = kk ∧ (kk = 0 → j1 93 0 = b.toInt64) ∧ (b = 0 ∨ b = 1) ∧ INV i2 (t + 1)
/-- a call that goes well -/
theorem go_ok {i1 : Nat → Nat → Int32} (hw : C g ML 10 0 0 false (.ref 0 :: (xs ++ [.ref 93])) (mk i j) (rets (some (.int 0)) (mk i1 (up2 j 93 0 v.toInt64)))) (hm : ∀ j, C g MM 10 0 0 false (.ref 89 :: xs) (mk i1 j) (rets (some (.int b)) (mk i2 j))) (he : v = b) (h0 : i2 89 0 = 0) (hI : INV i2 (t + 1)) : Goal g INV ML MM xs i j t := by
  subst he
  exact ⟨0, v, i1, _, i2, C_less (by omega) (by omega) hw, hm _, h0, fun _ => if_pos ⟨rfl, rfl⟩, hI⟩
/-- a call that is refused -/
theorem go_no (hw : C g ML 10 1 6 false (.ref 0 :: (xs ++ [.ref 93])) (mk i j) (rets (some (.int x)) (mk i j))) (hx : ¬ x = 0) (hm : C g MM 10 0 0 false (.ref 89 :: xs) (mk i j) (rets (some (.int b)) (mk i2 j))) (h0 : i2 89 0 = x) (hI : INV i2 (t + 1)) : Goal g INV ML MM xs i j t :=
  ⟨x, b, i, j, i2, hw, hm, h0, fun z => absurd z hx, hI⟩
theorem gb_ok {i1 : Nat → Nat → Int32} (hw : C g ML 10 0 0 false (.ref 0 :: (xs ++ [.ref 93])) (mk i j) (rets (some (.int 0)) (mk i1 (up2 j 93 0 v.toInt64)))) (hm : ∀ j, C g MM 10 0 0 false (.ref 89 :: xs) (mk i1 j) (rets (some (.int b)) (mk i2 j))) (he : v = b) (hb : b = 0 ∨ b = 1) (h0 : i2 89 0 = 0) (hI : INV i2 (t + 1)) : GoalB g INV ML MM xs i j t := by
  subst he
  exact ⟨0, v, i1, _, i2, C_less (by omega) (by omega) hw, hm _, h0, fun _ => if_pos ⟨rfl, rfl⟩, hb, hI⟩
theorem gb_no (hw : C g ML 10 1 6 false (.ref 0 :: (xs ++ [.ref 93])) (mk i j) (rets (some (.int x)) (mk i j))) (hx : ¬ x = 0) (hm : C g MM 10 0 0 false (.ref 89 :: xs) (mk i j) (rets (some (.int b)) (mk i2 j))) (h0 : i2 89 0 = x) (hb : b = 0 ∨ b = 1) (hI : INV i2 (t + 1)) : GoalB g INV ML MM xs i j t :=
  ⟨x, b, i, j, i2, hw, hm, h0, fun z => absurd z hx, hb, hI⟩
end RD
theorem agr_t0 {i : Nat → Nat → Int32} {x : Int32} : agr i (th i x) := agr_th agr_refl
theorem agr_t1 {i : Nat → Nat → Int32} {x y : Int32} : agr i (th (th i x) y) := agr_th agr_t0
theorem one_0 {x : Int32} (h : L30 x) : one x = 0 ↔ x = 0 := by
  obtain ⟨n, hn, rfl⟩ := h
  have e : one (nI n) = nI (pop n 30) := onF_pop (by omega) 30 (by omega)
  rw [e]
  constructor
  · intro z
    have hp := pop_le (n := n) 30
    have h0 : pop n 30 = 0 := (nI_eq (a := pop n 30) (b := 0) (by omega) (by omega)).mp z
    have key : ∀ m, pop n m = 0 → ∀ q, q < m → n.testBit q = false := by
      intro m
      induction m with
      | zero => intro _ q hq; omega
      | succ m ih =>
        intro hm q hq
        have hm2 : pop n m + n / 2 ^ m % 2 = 0 := hm
        by_cases h5 : q = m
        · subst h5
          have h6 : n / 2 ^ q % 2 = 0 := by omega
          rw [tb_div] at h6
          cases h7 : n.testBit q with
          | false => rfl
          | true => rw [h7] at h6; exact absurd h6 (by decide)
        · exact ih (by omega) q (by omega)
    have h9 : n = 0 := by
      apply Nat.eq_of_testBit_eq
      intro q
      rw [Nat.zero_testBit]
      rcases Nat.lt_or_ge q 30 with h5 | h5
      · exact key 30 h0 q h5
      · exact Nat.testBit_lt_two_pow (Nat.lt_of_lt_of_le hn (Nat.pow_le_pow_right (by decide) h5))
    rw [h9]; rfl
  · intro z
    have h9 : n = 0 := (nI_eq (a := n) (b := 0) (by omega) (by omega)).mp z
    subst h9
    rfl
theorem t5 (g : G0) : StP g INV m_X6_edition m_X7_edition := by
  intro i j t ht I
  obtain ⟨c, K, n, ⟨P1, P2, P3, P4⟩, ⟨N1, N2, N3, N4, N5, N6, N7, N8, N9, N10⟩, D, F, CC⟩ := LV_iff.mp I.1
  have h9 := k_X7_edition (g := g) (i := i) (j := j) 10
  have h8 := k_X6_edition (g := g) (i := i) (j := j) 10
  rw [N1, ← N2] at h8
  exact ⟨_, i, th i 0, h8, h9, INV_agr I agr_t0⟩
theorem t6 (g : G0) : StP g INV m_X6_draft m_X7_draft := by
  intro i j t ht I
  obtain ⟨c, K, n, ⟨P1, P2, P3, P4⟩, ⟨N1, N2, N3, N4, N5, N6, N7, N8, N9, N10⟩, D, F, CC⟩ := LV_iff.mp I.1
  have h9 := k_X7_draft (g := g) (i := i) (j := j) 9
  have h8 := k_X6_draft (g := g) (i := i) (j := j) 9
  rw [P1, bc_one P3] at h8
  exact ⟨_, i, th i 0, h8, h9, INV_agr I agr_t0⟩
theorem t7 (g : G0) : StP g INV m_X6_published m_X7_published := by
  intro i j t ht I
  obtain ⟨c, K, n, ⟨P1, P2, P3, P4⟩, ⟨N1, N2, N3, N4, N5, N6, N7, N8, N9, N10⟩, D, F, CC⟩ := LV_iff.mp I.1
  have h9 := k_X7_published (g := g) (i := i) (j := j) 9
  have h8 := k_X6_published (g := g) (i := i) (j := j) 9
  rw [P2, bc_one P4] at h8
  exact ⟨_, i, th i 0, h8, h9, INV_agr I agr_t0⟩
theorem t9 (g : G0) : StP g INV m_X6_pending m_X7_pending := by
  intro i j t ht I
  obtain ⟨c, K, n, ⟨P1, P2, P3, P4⟩, ⟨N1, N2, N3, N4, N5, N6, N7, N8, N9, N10⟩, D, F, CC⟩ := LV_iff.mp I.1
  have h9 := k_X7_pending (g := g) (i := i) (j := j) 8
  have h8 := k_X6_pending (g := g) (i := i) (j := j) 9
  rw [P1, P2, bc_one (L30_xor P3 P4)] at h8
  exact ⟨_, i, th i 0, h8, h9, INV_agr I agr_t0⟩
theorem t10 (g : G0) : StP g INV m_X6_kept m_X7_kept := by
  intro i j t ht I
  obtain ⟨c, K, n, ⟨P1, P2, P3, P4⟩, ⟨N1, N2, N3, N4, N5, N6, N7, N8, N9, N10⟩, D, F, CC⟩ := LV_iff.mp I.1
  have h9 := k_X7_kept (g := g) (i := i) (j := j) 10
  have h8 := k_X6_kept (g := g) (i := i) (j := j) 10
  rw [N8, ← N9] at h8
  exact ⟨_, i, th i 0, h8, h9, INV_agr I agr_t0⟩
theorem t34 (g : G0) : StP g INV m_X6_savedStates m_X7_savedStates := by
  intro i j t ht I
  obtain ⟨s, x, S1, S2, S3, S4, S5, S6⟩ := I.2.1
  have h9 := k_X7_savedStates (g := g) (i := i) (j := j) 10
  have h8 := k_X6_savedStates (g := g) (i := i) (j := j) 10
  rw [S3, ← S5] at h8
  exact ⟨_, i, th i 0, h8, h9, INV_agr I agr_t0⟩
theorem t19 (g : G0) (x : Int32) : St g INV m_L_editionOf m_X7_editionOf [.int x] := by
  intro i j t ht I
  obtain ⟨c, K, n, ⟨P1, P2, P3, P4⟩, ⟨N1, N2, N3, N4, N5, N6, N7, N8, N9, N10⟩, D, F, CC⟩ := LV_iff.mp I.1
  by_cases hx : foq x
  · obtain ⟨f, hf, e⟩ := wit_nI (b := 3) (by omega) (foq_wit.mp hx)
    have hf : f < 4 := by omega
    subst e
    obtain ⟨F1, F2, F3, F4, F5, F6, F7, F8, F9, F10⟩ := F f hf
    exact go_ok (w_editionOf 9 (k_X6_editionOf 7 hf)) (fun j => k_X7_editionOf 8 rfl hf) (by
      unfold mtE
      rw [F1]
      rcases F2 with e | e
      · rw [if_pos e, if_neg (by rw [e]; decide)]
      · rw [if_neg (by rw [e]; decide), if_pos e]
        exact (F5 (by rw [e]; decide)).1) up2_eq (INV_agr I agr_t0)
  · exact go_no (w_editionOf_x1 9 (k_X6_editionOf_x 2 hx)) (by decide) (k_X7_editionOf__1 8 (fun z => hx (foq_wit.mpr z))) up2_eq (INV_agr I agr_t1)
theorem t20 (g : G0) (x : Int32) : St g INV m_L_streets m_X7_streets [.int x] := by
  intro i j t ht I
  obtain ⟨c, K, n, ⟨P1, P2, P3, P4⟩, ⟨N1, N2, N3, N4, N5, N6, N7, N8, N9, N10⟩, D, F, CC⟩ := LV_iff.mp I.1
  by_cases hx : foq x
  · obtain ⟨f, hf, e⟩ := wit_nI (b := 3) (by omega) (foq_wit.mp hx)
    have hf : f < 4 := by omega
    subst e
    obtain ⟨F1, F2, F3, F4, F5, F6, F7, F8, F9, F10⟩ := F f hf
    exact go_ok (w_streets 9 (k_X6_streets 7 hf)) (fun j => k_X7_streets 8 rfl hf) (by
      unfold mtS
      rw [F1, F3, bc_one F4]
      rcases F2 with e | e
      · rw [if_pos e, if_neg (by rw [e]; decide)]
      · rw [if_neg (by rw [e]; decide), if_pos e]) up2_eq (INV_agr I agr_t0)
  · exact go_no (w_streets_x1 9 (k_X6_streets_x 2 hx)) (by decide) (k_X7_streets__1 8 (fun z => hx (foq_wit.mpr z))) up2_eq (INV_agr I agr_t1)
theorem t23 (g : G0) (x : Int32) : St g INV m_L_attention m_X7_attention [.int x] := by
  intro i j t ht I
  obtain ⟨c, K, n, ⟨P1, P2, P3, P4⟩, ⟨N1, N2, N3, N4, N5, N6, N7, N8, N9, N10⟩, D, F, CC⟩ := LV_iff.mp I.1
  by_cases hx : foq x
  · obtain ⟨f, hf, e⟩ := wit_nI (b := 3) (by omega) (foq_wit.mp hx)
    have hf : f < 4 := by omega
    subst e
    obtain ⟨F1, F2, F3, F4, F5, F6, F7, F8, F9, F10⟩ := F f hf
    exact go_ok (w_attention 9 (k_X6_attention 7 hf)) (fun j => k_X7_attention 8 rfl hf) (by
      unfold mtA
      rw [F6, F8]
      rcases F7 with e | e <;> rcases F9 with e2 | e2 <;> rw [e, e2] <;> rfl) up2_eq (INV_agr I agr_t0)
  · exact go_no (w_attention_x1 9 (k_X6_attention_x 2 hx)) (by decide) (k_X7_attention__1 8 (fun z => hx (foq_wit.mpr z))) up2_eq (INV_agr I agr_t1)
theorem t24 (g : G0) (x : Int32) : St g INV m_L_costs m_X7_costs [.int x] := by
  intro i j t ht I
  obtain ⟨c, K, n, ⟨P1, P2, P3, P4⟩, ⟨N1, N2, N3, N4, N5, N6, N7, N8, N9, N10⟩, D, F, CC⟩ := LV_iff.mp I.1
  by_cases hx : foq x
  · obtain ⟨f, hf, e⟩ := wit_nI (b := 3) (by omega) (foq_wit.mp hx)
    have hf : f < 4 := by omega
    subst e
    obtain ⟨F1, F2, F3, F4, F5, F6, F7, F8, F9, F10⟩ := F f hf
    exact go_ok (w_costs 9 (k_X6_costs 7 hf)) (fun j => k_X7_costs 8 rfl hf) (F10) up2_eq (INV_agr I agr_t0)
  · exact go_no (w_costs_x1 9 (k_X6_costs_x 2 hx)) (by decide) (k_X7_costs__1 8 (fun z => hx (foq_wit.mpr z))) up2_eq (INV_agr I agr_t1)
theorem t27 (g : G0) (x : Int32) : St g INV m_L_wrong m_X7_wrong [.int x] := by
  intro i j t ht I
  obtain ⟨c, K, n, ⟨P1, P2, P3, P4⟩, ⟨N1, N2, N3, N4, N5, N6, N7, N8, N9, N10⟩, D, F, CC⟩ := LV_iff.mp I.1
  by_cases hx : foq x
  · obtain ⟨f, hf, e⟩ := wit_nI (b := 3) (by omega) (foq_wit.mp hx)
    have hf : f < 4 := by omega
    subst e
    obtain ⟨F1, F2, F3, F4, F5, F6, F7, F8, F9, F10⟩ := F f hf
    exact go_ok (w_wrong 9 (k_X6_wrong 7 hf)) (fun j => k_X7_wrong 8 rfl hf) (by
      unfold mtW
      rw [F1, F3, P2, bc_one (L30_xor F4 P4)]
      rcases F2 with e | e
      · rw [if_pos e, if_neg (by rw [e]; decide)]
      · rw [if_neg (by rw [e]; decide), if_pos e]) up2_eq (INV_agr I agr_t0)
  · exact go_no (w_wrong_x1 9 (k_X6_wrong_x 2 hx)) (by decide) (k_X7_wrong__1 8 (fun z => hx (foq_wit.mpr z))) up2_eq (INV_agr I agr_t1)
theorem t8 (g : G0) (x : Int32) : St g INV m_L_where m_X7_where [.int x] := by
  intro i j t ht I
  obtain ⟨c, K, n, ⟨P1, P2, P3, P4⟩, ⟨N1, N2, N3, N4, N5, N6, N7, N8, N9, N10⟩, D, F, CC⟩ := LV_iff.mp I.1
  by_cases hx : stq x
  · obtain ⟨v, hv, e⟩ := wit_nI (b := 29) (by omega) (stq_wit.mp hx)
    subst e
    refine go_ok (w_where 9 (k_X6_where 7 hx)) (fun j => k_X7_where 8 (stq_wit.mp hx)) ?_ up2_eq (INV_agr I agr_t0)
    unfold mtP
    rw [P1, P2]
    obtain ⟨a1, a2⟩ := bit_mbt P3 (v := v) (by omega)
    obtain ⟨b1, b2⟩ := bit_mbt P4 (v := v) (by omega)
    by_cases e1 : bit (i 90 0) (nI v) = 0 <;> by_cases e2 : bit (i 90 1) (nI v) = 0
    · rw [if_pos e1, if_pos e2, a1.mp e1, b1.mp e2]; rfl
    · rw [if_pos e1, if_neg e2, a1.mp e1, b2.mp e2]; rfl
    · rw [if_neg e1, if_pos e2, a2.mp e1, b1.mp e2]; rfl
    · rw [if_neg e1, if_neg e2, a2.mp e1, b2.mp e2]; rfl
  · exact go_no (w_where_x1 9 (k_X6_where_x 2 hx)) (by decide) (k_X7_where__1 8 (fun z => hx (stq_wit.mpr z))) up2_eq (INV_agr I agr_t1)
theorem t21 (g : G0) (x y : Int32) : StB g INV m_L_has m_X7_has [.int x, .int y] := by
  intro i j t ht I
  obtain ⟨c, K, n, ⟨P1, P2, P3, P4⟩, ⟨N1, N2, N3, N4, N5, N6, N7, N8, N9, N10⟩, D, F, CC⟩ := LV_iff.mp I.1
  by_cases hy : stq y
  · by_cases hx : foq x
    · obtain ⟨f, hf, e⟩ := wit_nI (b := 3) (by omega) (foq_wit.mp hx)
      have hf : f < 4 := by omega
      subst e
      obtain ⟨v, hv, e⟩ := wit_nI (b := 29) (by omega) (stq_wit.mp hy)
      subst e
      obtain ⟨F1, F2, F3, F4, F5, F6, F7, F8, F9, F10⟩ := F f hf
      refine gb_ok (w_has 9 (k_X6_has 7 hf hy)) (fun j => k_X7_has 8 rfl hf (stq_wit.mp hy)) ?_ (b2c _) up2_eq (INV_agr I agr_t0)
      rw [F3]
      obtain ⟨a1, a2⟩ := bit_mbt F4 (v := v) (by omega)
      exact b2x a2.symm
    · exact gb_no (w_has_x1 9 (k_X6_has_y 2 hy hx)) (by decide) (k_X7_has__1 8 (fun z => hx (foq_wit.mpr z.1))) up2_eq (Or.inl rfl) (INV_agr I agr_t0)
  · exact gb_no (w_has_x1 9 (k_X6_has_x 2 hy)) (by decide) (k_X7_has__1 8 (fun z => hy (stq_wit.mpr z.2))) up2_eq (Or.inl rfl) (INV_agr I agr_t0)
theorem xor_0 {x y : Int32} (hx : L30 x) (hy : L30 y) : x ^^^ y = 0 ↔ x = y := by
  obtain ⟨a, ha, rfl⟩ := hx
  obtain ⟨b, hb, rfl⟩ := hy
  rw [nb_xor]
  have h1 : a ^^^ b < 2 ^ 30 := Nat.xor_lt_two_pow ha hb
  constructor
  · intro z
    have h2 : a ^^^ b = 0 := (nI_eq (b := 0) (by omega) (by omega)).mp z
    have h3 : a = b := by
      apply Nat.eq_of_testBit_eq
      intro q
      have h4 : (a ^^^ b).testBit q = false := by rw [h2]; exact Nat.zero_testBit q
      rw [Nat.testBit_xor] at h4
      cases ha2 : a.testBit q <;> cases hb2 : b.testBit q <;> rw [ha2, hb2] at h4 <;> first | rfl | exact absurd h4 (by decide)
    rw [h3]
  · intro z
    have h2 : a = b := (nI_eq (by omega) (by omega)).mp z
    rw [h2, Nat.xor_self]; rfl
theorem t22 (g : G0) (x : Int32) : StB g INV m_L_isRight m_X7_isRight [.int x] := by
  intro i j t ht I
  obtain ⟨c, K, n, ⟨P1, P2, P3, P4⟩, ⟨N1, N2, N3, N4, N5, N6, N7, N8, N9, N10⟩, D, F, CC⟩ := LV_iff.mp I.1
  by_cases hx : foq x
  · obtain ⟨f, hf, e⟩ := wit_nI (b := 3) (by omega) (foq_wit.mp hx)
    have hf : f < 4 := by omega
    subst e
    obtain ⟨F1, F2, F3, F4, F5, F6, F7, F8, F9, F10⟩ := F f hf
    refine gb_ok (w_isRight 9 (k_X6_isRight 7 hf)) (fun j => k_X7_isRight 8 rfl hf) ?_ (b2c _) up2_eq (INV_agr I agr_t0)
    rw [F1, F3, P2, bc_one (L30_xor F4 P4)]
    refine b2x ?_
    rcases F2 with e | e
    · rw [if_pos e]
      exact ⟨fun z => by rw [e] at z; exact absurd z.1 (by decide), fun z => absurd z (by decide)⟩
    · rw [if_neg (by rw [e]; decide), one_0 (L30_xor F4 P4), xor_0 F4 P4]
      exact ⟨fun z => z.2, fun z => ⟨e, z⟩⟩
  · exact gb_no (w_isRight_x1 9 (k_X6_isRight_x 2 hx)) (by decide) (k_X7_isRight__1 8 (fun z => hx (foq_wit.mpr z))) up2_eq (Or.inl rfl) (INV_agr I agr_t0)
