/-- giving notice on both sides keeps the relation -/
theorem LW_gn {i i2 : Nat → Nat → Int32} {B c K n : Nat} (L : LW9 i B c K n) (hP : ∀ a f, a < 13 → i2 a f = gnF i 4 a f) (hM : ∀ f, i2 90 f = mgv i 4 90 f) : LW9 i2 B c K n :=
  LW_keep L (fun a f h => (hP a f (by omega)).trans (gnF_oth (by omega))) (fun f h h' => (hM f).trans (mgv_oth (by omega)))
    (fun f hf => FV_gn hf (L.2.2.2.1 f hf) (fun q hq => hP _ _ (by omega)) (fun q hq => hM _))
    (CV_same L.2.2.2.2 (Nat.le_refl _) (fun f q hf hq => (hP _ _ (by omega)).trans (gnF_oth (by omega))) ((hM 5).trans (mgv_oth (by omega))))
/-- another number, and no kept difference -/
theorem LW_num {i i2 : Nat → Nat → Int32} {B c K n v : Nat} (L : LW9 i B c K n) (hv : v < 16) (h : ∀ a f, (a < 13 ∨ a = 90) → ¬ (a = 2 ∧ f = 2) → ¬ (a = 3 ∧ f = 5) → ¬ (a = 90 ∧ (f = 2 ∨ f = 4)) → i2 a f = i a f) (h1 : i2 2 2 = nI v) (h2 : i2 3 5 = 0) (h3 : i2 90 2 = nI v) (h4 : i2 90 4 = 0) : LW9 i2 B 0 K v := by
  obtain ⟨⟨P1, P2, P3, P4⟩, ⟨N1, N2, N3, N4, N5, N6, N7, N8, N9, N10⟩, D, F, CC⟩ := L
  refine ⟨⟨?_, ?_, ?_, ?_⟩, ⟨h1, h3, hv, ?_, ?_, N6, N7, h2, h4, by omega⟩, fun d hd => by omega, fun f hf => ?_, CV_same CC (Nat.le_refl _) (fun f q hf hq => h _ _ (by omega) (by omega) (by omega) (by omega)) (h _ _ (by omega) (by omega) (by omega) (by omega))⟩
  · rw [h _ _ (by omega) (by omega) (by omega) (by omega), h _ _ (by omega) (by omega) (by omega) (by omega)]; exact P1
  · rw [h _ _ (by omega) (by omega) (by omega) (by omega), h _ _ (by omega) (by omega) (by omega) (by omega)]; exact P2
  · rw [h _ _ (by omega) (by omega) (by omega) (by omega)]; exact P3
  · rw [h _ _ (by omega) (by omega) (by omega) (by omega)]; exact P4
  · rw [h _ _ (by omega) (by omega) (by omega) (by omega)]; exact N4
  · rw [h _ _ (by omega) (by omega) (by omega) (by omega)]; exact N5
  · exact FV_same (F f hf) (fun q hq => h _ _ (by omega) (by omega) (by omega) (by omega)) (fun q hq => h _ _ (by omega) (by omega) (by omega) (by omega))
