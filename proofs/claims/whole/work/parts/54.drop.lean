/-- the oldest k kept differences go, on both sides -/
theorem LW_drop {i i2 : Nat → Nat → Int32} {B c K n k : Nat} (L : LW9 i B c K n) (hk : k ≤ c) (h1 : i2 3 5 = nI (c - k)) (h2 : i2 90 4 = nI (c - k)) (h3 : ∀ a f, 4 ≤ a → a ≤ 7 → f < c - k → i2 a f = i a (f + k)) (h4 : ∀ f, f < 3 * (c - k) → i2 90 (6 + f) = i 90 (6 + f + 3 * k)) (h5 : ∀ a f, a < 13 → ¬ (a = 3 ∧ f = 5) → ¬ (4 ≤ a ∧ a ≤ 7) → i2 a f = i a f) (h6 : ∀ f, (f < 6 ∧ f ≠ 4) ∨ 24 ≤ f → i2 90 f = i 90 f) : LW9 i2 B (c - k) K n := by
  obtain ⟨⟨P1, P2, P3, P4⟩, ⟨N1, N2, N3, N4, N5, N6, N7, N8, N9, N10⟩, D, F, CC⟩ := L
  refine ⟨⟨?_, ?_, ?_, ?_⟩, ⟨?_, ?_, N3, ?_, ?_, N6, N7, h1, h2, by omega⟩, fun d hd => ?_, fun f hf => ?_, CV_same CC (Nat.le_refl _) (fun f q hf hq => h5 _ _ (by omega) (by omega) (by omega)) (h6 _ (by omega))⟩
  · rw [h5 _ _ (by omega) (by omega) (by omega), h6 _ (by omega)]; exact P1
  · rw [h5 _ _ (by omega) (by omega) (by omega), h6 _ (by omega)]; exact P2
  · rw [h6 _ (by omega)]; exact P3
  · rw [h6 _ (by omega)]; exact P4
  · rw [h5 _ _ (by omega) (by omega) (by omega)]; exact N1
  · rw [h6 _ (by omega)]; exact N2
  · rw [h5 _ _ (by omega) (by omega) (by omega)]; exact N4
  · rw [h6 _ (by omega)]; exact N5
  · have e := D (d + k) (by omega)
    have m : ∀ q, q < 3 → i2 90 (6 + 3 * d + q) = i 90 (6 + 3 * (d + k) + q) := fun q hq => by
      rw [show 6 + 3 * d + q = 6 + (3 * d + q) by omega, h4 _ (by omega)]
      exact ieq rfl (by omega)
    unfold DV mco at e ⊢
    rw [h3 4 d (by omega) (by omega) hd, h3 5 d (by omega) (by omega) hd, h3 6 d (by omega) (by omega) hd, h3 7 d (by omega) (by omega) hd, m 0 (by omega), m 1 (by omega), m 2 (by omega)]
    obtain ⟨e1, e2, e3, e4, e5, e6, e7⟩ := e
    refine ⟨e1, ?_, e3, e4, e5, e6, e7⟩
    rw [e2]
    congr 1
    omega
  · exact FV_same (F f hf) (fun q hq => h5 _ _ (by omega) (by omega) (by omega)) (fun q hq => h6 _ (by omega))
