theorem ord_eq : ∀ p, p < 16 → ∀ q, q < 16 → ordI (nI p) (nI q) = (if nI p = nI q then 0 else if nwr (nI p) (nI q) then 1 else -1) := by decide +kernel
theorem t13 (g : G0) (x y : Int32) : St g INV m_L_compare m_X7_compare [.int x, .int y] := by
  intro i j t ht I
  by_cases h : edq x ∧ edq y
  · obtain ⟨p, hp, ex⟩ := wit_nI (b := 15) (by omega) (edq_wit.mp h.1)
    obtain ⟨q, hq, ey⟩ := wit_nI (b := 15) (by omega) (edq_wit.mp h.2)
    refine go_ok (w_compare 9 (k_X6_compare 8 h.1 h.2)) (fun j => k_X7_compare 8 (edq_wit.mp h.1) (edq_wit.mp h.2)) ?_ up2_eq (INV_agr I agr_t0)
    rw [ex, ey]
    exact (ord_eq p (by omega) q (by omega)).symm
  · exact go_no (w_compare_x1 9 (k_X6_compare_x 2 h)) (by decide) (k_X7_compare__1 8 (fun z => h ⟨edq_wit.mpr z.1, edq_wit.mpr z.2⟩)) up2_eq (INV_agr I agr_t1)
/-- the sum of q from k on, below m -/
def sm (q : Nat → Nat) (k : Nat) : Nat → Nat
  | 0 => 0
  | m + 1 => if k ≤ m then sm q k m + q m else 0
theorem sm_0 {q : Nat → Nat} {k : Nat} : ∀ m, m ≤ k → sm q k m = 0
  | 0, _ => rfl
  | m + 1, h => if_neg (by omega)
theorem sm_first {q : Nat → Nat} {k : Nat} : ∀ r, sm q k (k + 1 + r) = q k + sm q (k + 1) (k + 1 + r)
  | 0 => by
    show (if k ≤ k then sm q k k + q k else 0) = q k + sm q (k + 1) (k + 1)
    rw [if_pos (Nat.le_refl _), sm_0 k (Nat.le_refl _), sm_0 (k + 1) (Nat.le_refl _)]
    omega
  | r + 1 => by
    show (if k ≤ k + 1 + r then sm q k (k + 1 + r) + q (k + 1 + r) else 0) = q k + (if k + 1 ≤ k + 1 + r then sm q (k + 1) (k + 1 + r) + q (k + 1 + r) else 0)
    rw [if_pos (by omega), if_pos (by omega), sm_first r]
    omega
theorem sm_le {q : Nat → Nat} {k : Nat} {b : Nat} (hb : ∀ d, q d ≤ b) : ∀ m, sm q k m ≤ m * b
  | 0 => Nat.zero_le _
  | m + 1 => by
    show (if k ≤ m then sm q k m + q m else 0) ≤ _
    have h1 := sm_le (k := k) hb m
    have h2 := hb m
    rw [Nat.succ_mul]
    split <;> omega
theorem csl_hit {i : Nat → Nat → Int32} {e : Int32} {q : Nat → Nat} {k : Nat} : ∀ (m s : Nat), (∀ d, d < m → i 7 d = nI (q d)) → k < m → i 4 k = e → (∀ d, d < m → d ≠ k → ¬ i 4 d = e) → csl i e m (nI s) = nI (s + sm q k m)
  | 0, s, _, h, _, _ => by omega
  | m + 1, s, hq, h, h1, h2 => by
    show (if i 4 m = e then nI s + i 7 m else csl i e m (nI s + i 7 m)) = nI (s + (if k ≤ m then sm q k m + q m else 0))
    rw [hq m (by omega), nI_add, if_pos (show k ≤ m by omega)]
    by_cases hk : k = m
    · subst hk
      rw [if_pos h1, sm_0 k (Nat.le_refl _)]
      congr 1; omega
    · rw [if_neg (h2 m (by omega) (fun z => hk z.symm)), csl_hit m (s + q m) (fun d hd => hq d (by omega)) (by omega) h1 (fun d hd => h2 d (by omega))]
      congr 1; omega
theorem csl_miss {i : Nat → Nat → Int32} {e : Int32} : ∀ (m : Nat) (a : Int32), (∀ d, d < m → ¬ i 4 d = e) → csl i e m a = -1
  | 0, a, _ => rfl
  | m + 1, a, h => by
    show (if i 4 m = e then a + i 7 m else csl i e m (a + i 7 m)) = -1
    rw [if_neg (h m (by omega))]
    exact csl_miss m _ (fun d hd => h d (by omega))
theorem mcf_sm {i : Nat → Nat → Int32} {q : Nat → Nat} : ∀ (r k s : Nat), (∀ d, k ≤ d → d < k + r → mco i d = nI (q d)) → mcf i r k (nI s) = nI (s + sm q k (k + r))
  | 0, k, s, _ => by
    rw [Nat.add_zero, sm_0 k (Nat.le_refl _)]; rfl
  | r + 1, k, s, h => by
    show mcf i r (k + 1) (nI s + mco i k) = _
    rw [h k (by omega) (by omega), nI_add, mcf_sm r (k + 1) (s + q k) (fun d h1 h2 => h d (by omega) (by omega)), show k + (r + 1) = k + 1 + r by omega, sm_first r]
    congr 1; omega
theorem mlf_some {i : Nat → Nat → Int32} {f : Nat} : ∀ (r k : Nat) {p : Nat}, mlf i f r k = some p → i 90 (6 + 3 * p + 0) = i 90 (24 + 6 * f + 2)
  | 0, k, p, h => by unfold mlf at h; exact absurd h (by simp)
  | r + 1, k, p, h => by
    unfold mlf at h
    split at h
    · rename_i h2; cases h; exact h2
    · exact mlf_some r (k + 1) h
theorem mlf_none {i : Nat → Nat → Int32} {f : Nat} : ∀ (r k : Nat), mlf i f r k = none → ∀ d, k ≤ d → d < k + r → ¬ i 90 (6 + 3 * d + 0) = i 90 (24 + 6 * f + 2)
  | 0, k, h => fun d h1 h2 => by omega
  | r + 1, k, h => fun d h1 h2 => by
    unfold mlf at h
    split at h
    · cases h
    · rename_i h3
      by_cases hk : d = k
      · subst hk; exact h3
      · exact mlf_none r (k + 1) h d (by omega) (by omega)
theorem mco_nat {i : Nat → Nat → Int32} (d : Nat) : ∃ q, q ≤ 61 ∧ mco i d = nI q := by
  obtain ⟨a, a1, a2⟩ := onF_nat (i 90 (6 + 3 * d + 1)) 30
  obtain ⟨b, b1, b2⟩ := onF_nat (i 90 (6 + 3 * d + 2)) 30
  refine ⟨1 + a + b, by omega, ?_⟩
  unfold mco one
  rw [a2, b2, show (1 : Int32) = nI 1 from rfl, nI_add, nI_add]
/-- the class's sum from the end is the reference's from the difference that leads away -/
theorem csl_mlf {i : Nat → Nat → Int32} {c n f : Nat} (hc : c ≤ 6) (hn : n < 16) (D : ∀ d, d < c → DV i c n d) {x : Int32} (hx : x = i 90 (24 + 6 * f + 2)) :
    (mlf i f c 0 = none → csl i x c 0 = -1) ∧ (∀ k, mlf i f c 0 = some k → k < c ∧ csl i x c 0 = mcf i (c - k) k 0 ∧ ∃ s, s ≤ 366 ∧ csl i x c 0 = nI s) := by
  subst hx
  obtain ⟨q, hq⟩ : ∃ q : Nat → Nat, ∀ d, q d ≤ 61 ∧ mco i d = nI (q d) := ⟨fun d => (mco_nat (i := i) d).choose, fun d => (mco_nat (i := i) d).choose_spec⟩
  refine ⟨fun h => csl_miss c 0 fun d hd z => ?_, fun k h => ?_⟩
  · rw [(D d hd).1] at z
    exact mlf_none c 0 h d (by omega) (by omega) z
  · have hk := (mlf_lt c 0 h).2
    have hkc : k < c := by omega
    have h1 := mlf_some c 0 h
    have e1 : csl i (i 90 (24 + 6 * f + 2)) c 0 = nI (0 + sm q k c) := csl_hit (q := q) (k := k) c 0 (fun d hd => (D d hd).2.2.2.2.2.2.trans (hq d).2) hkc ((D k hkc).1.trans h1) (fun d hd hdk z => by
      rw [(D d hd).1, ← h1, (D d hd).2.1, (D k hkc).2.1] at z
      have := (nI_eq (by omega) (by omega)).mp z
      omega)
    have e2 : mcf i (c - k) k 0 = nI (0 + sm q k (k + (c - k))) := mcf_sm (q := q) (c - k) k 0 (fun d _ _ => (hq d).2)
    rw [show k + (c - k) = c by omega] at e2
    have := sm_le (q := q) (k := k) (b := 61) (fun d => (hq d).1) c
    exact ⟨hkc, e1.trans e2.symm, 0 + sm q k c, by omega, e1⟩
theorem ord_eq' {x y : Int32} {n e : Nat} (hn : n < 16) (he : e < 16) (h1 : x = nI n) (h2 : y = nI e) : ordI x y = (if nI n = nI e then 0 else if nwr (nI n) (nI e) then 1 else -1) := by
  rw [h1, h2]; exact ord_eq n hn e he
theorem ans_man {i : Nat → Nat → Int32} {B c K n f : Nat} (h : LW9 i B c K n) (hf : f < 4) : ans i (9 + f) c = man i f c := by
  obtain ⟨⟨P1, P2, P3, P4⟩, ⟨N1, N2, N3, N4, N5, N6, N7, N8, N9, N10⟩, D, F, CC⟩ := h
  obtain ⟨F1, F2, F3, F4, F5, F6, F7, F8, F9, F10⟩ := F f hf
  unfold ans man
  rw [F1]
  by_cases h0 : i 90 (24 + 6 * f + 0) = 0
  · rw [if_pos h0, if_pos h0]
  · obtain ⟨e1, e, he, e2⟩ := F5 h0
    obtain ⟨m1, m2⟩ := csl_mlf (i := i) (c := c) (n := n) (f := f) (by omega) N3 D e1
    have hO := ord_eq' N3 he N2 e2
    rw [if_neg h0, if_neg h0, N1, e1, e2]
    rw [e2] at hO
    rw [e1, e2] at m1 m2
    by_cases h1 : nI e = nI n
    · rw [if_pos h1.symm] at hO
      rw [hO, if_pos h1, if_pos (show ¬ (0 : Int32) < 0 by decide), if_pos rfl]
    · rw [if_neg (fun z => h1 z.symm)] at hO
      rw [if_neg h1]
      by_cases h2 : nwr (nI n) (nI e)
      · rw [if_pos h2] at hO
        rw [hO, if_neg (fun z => z h2), if_neg (show ¬ ¬ (0 : Int32) < 1 by decide)]
        cases hm : mlf i f c 0 with
        | none => exact if_neg (fun z => z.1 (m1 hm))
        | some k =>
          obtain ⟨k1, k2, s, k3, k4⟩ := m2 k hm
          have k5 : ¬ csl i (nI e) c 0 = -1 := by rw [k4]; exact nI_nm1 s (by omega)
          show _ = if ¬ mwh i < mcf i (c - k) k 0 then 1 else 2
          rw [← k2, show mwh i = 1 + bcI (i 2 1) from by unfold mwh; rw [P2, bc_one P4]]
          by_cases h3 : 1 + bcI (i 2 1) < csl i (nI e) c 0
          · rw [if_neg (fun z => z.2 h3), if_neg (fun z => z h3)]
          · rw [if_pos ⟨k5, h3⟩, if_pos h3]
      · rw [if_neg h2] at hO
        rw [hO, if_pos h2, if_pos (show ¬ (0 : Int32) < -1 by decide), if_neg (show ¬ (-1 : Int32) = 0 by decide)]
theorem coa_mca {i : Nat → Nat → Int32} {B c K n f : Nat} (h : LW9 i B c K n) (hf : f < 4) : coa i (ans i (9 + f) c) (i (9 + f) 2) c = mca i f c := by
  have h9 := ans_man h hf
  obtain ⟨⟨P1, P2, P3, P4⟩, ⟨N1, N2, N3, N4, N5, N6, N7, N8, N9, N10⟩, D, F, CC⟩ := h
  obtain ⟨F1, F2, F3, F4, F5, F6, F7, F8, F9, F10⟩ := F f hf
  rw [h9]
  unfold coa mca
  by_cases h1 : man i f c = 1
  · rw [if_pos h1, if_pos h1]
    have h0 : ¬ i 90 (24 + 6 * f + 0) = 0 := fun z => by
      have : man i f c = 2 := if_pos z
      rw [this] at h1; exact absurd h1 (by decide)
    obtain ⟨k, k1, k2⟩ := man_one h1
    obtain ⟨m1, m2⟩ := csl_mlf (i := i) (c := c) (n := n) (f := f) (by omega) N3 D (F5 h0).1
    rw [(m2 k k1).2.1, k1]
    rfl
  · rw [if_neg h1, if_neg h1]
    by_cases h2 : man i f c = 2
    · rw [if_pos h2, if_pos h2]
      unfold mwh
      rw [P2, bc_one P4]
    · rw [if_neg h2, if_neg h2]
