/-- one difference more, on both sides; the published list is the draft, and the next number -/
theorem LW_more {i i2 : Nat → Nat → Int32} {B c K n : Nat} (L : LW9 i B c K n) (hc : c < K) (h1 : i2 3 5 = nI (c + 1)) (h2 : i2 90 4 = nI (c + 1)) (h3 : ∀ a f, 4 ≤ a → a ≤ 7 → f < c → i2 a f = i a f) (h4 : ∀ f, f < 3 * c → i2 90 (6 + f) = i 90 (6 + f)) (h5 : ∀ a f, a < 13 → ¬ (a = 3 ∧ f = 5) → ¬ (4 ≤ a ∧ a ≤ 7) → ¬ (a = 2 ∧ (f = 1 ∨ f = 2)) → i2 a f = i a f) (h6 : ∀ f, f = 0 ∨ f = 3 ∨ f = 5 ∨ 24 ≤ f → i2 90 f = i 90 f)
    (g0 : i2 4 c = i 2 2) (g1 : i2 5 c = i 2 1 &&& (i 2 0 ^^^ (-1))) (g2 : i2 6 c = i 2 0 &&& (i 2 1 ^^^ (-1))) (g3 : i2 7 c = 1 + bcI ((i 2 1 &&& (i 2 0 ^^^ (-1))) ||| (i 2 0 &&& (i 2 1 ^^^ (-1)))))
    (m0 : i2 90 (6 + 3 * c + 0) = i 90 2) (m1 : i2 90 (6 + 3 * c + 1) = i 90 1 &&& (i 90 0 ^^^ (-1))) (m2 : i2 90 (6 + 3 * c + 2) = i 90 0 &&& (i 90 1 ^^^ (-1)))
    (p1 : i2 2 1 = i 2 0) (p2 : i2 90 1 = i 90 0) (p3 : i2 2 2 = nI ((n + 1) % 16)) (p4 : i2 90 2 = nI ((n + 1) % 16)) : LW9 i2 B (c + 1) K ((n + 1) % 16) := by
  obtain ⟨⟨P1, P2, P3, P4⟩, ⟨N1, N2, N3, N4, N5, N6, N7, N8, N9, N10⟩, D, F, CC⟩ := L
  refine ⟨⟨?_, ?_, ?_, ?_⟩, ⟨p3, p4, Nat.mod_lt _ (by omega), ?_, ?_, N6, N7, h1, h2, by omega⟩, fun d hd => ?_, fun f hf => ?_, CV_same CC (Nat.le_refl _) (fun f q hf hq => h5 _ _ (by omega) (by omega) (by omega) (by omega)) (h6 _ (by omega))⟩
  · rw [h5 _ _ (by omega) (by omega) (by omega) (by omega), h6 _ (by omega)]; exact P1
  · rw [p1, p2]; exact P1
  · rw [h6 _ (by omega)]; exact P3
  · rw [p2]; exact P3
  · rw [h5 _ _ (by omega) (by omega) (by omega) (by omega)]; exact N4
  · rw [h6 _ (by omega)]; exact N5
  · by_cases e : d = c
    · subst e
      unfold DV mco
      rw [g0, g1, g2, g3, m0, m1, m2, P1, P2]
      refine ⟨N1.trans N2.symm, ?_, rfl, L30_and P4, rfl, L30_and P3, ?_⟩
      · rw [N2]
        congr 1
        omega
      · rw [one_or (L30_and P4) (L30_and P3) dis_oi, ← Int32.add_assoc]
    · have e9 := D d (by omega)
      have m : ∀ q, q < 3 → i2 90 (6 + 3 * d + q) = i 90 (6 + 3 * d + q) := fun q hq => by
        rw [show 6 + 3 * d + q = 6 + (3 * d + q) by omega]
        exact h4 _ (by omega)
      unfold DV mco at e9 ⊢
      rw [h3 4 d (by omega) (by omega) (by omega), h3 5 d (by omega) (by omega) (by omega), h3 6 d (by omega) (by omega) (by omega), h3 7 d (by omega) (by omega) (by omega), m 0 (by omega), m 1 (by omega), m 2 (by omega)]
      obtain ⟨e1, e2, e3, e4, e5, e6, e7⟩ := e9
      refine ⟨e1, ?_, e3, e4, e5, e6, e7⟩
      rw [e2]
      congr 1
      omega
  · exact FV_same (F f hf) (fun q hq => h5 _ _ (by omega) (by omega) (by omega) (by omega)) (fun q hq => h6 _ (by omega))
