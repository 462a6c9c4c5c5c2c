theorem t33 (g : G0) : St g INV m_L_undo m_X7_undo [] := by
  intro i j t ht I
  obtain ⟨s, x, S1, S2, S3, S4, S5, S6⟩ := I.2.1
  obtain ⟨s9, hs9, hs69, hx9, hS⟩ := INV_S I
  have ex : xN i = x := by unfold xN; rw [S1]; exact nI_clamp (by omega)
  have es : sN i = s := by unfold sN; rw [S3]; exact nI_clamp (by omega)
  by_cases h0 : s = 0
  · subst h0
    exact go_no (w_undo_x1 9 (k_X6_undo_x 2 S3)) (by decide) (k_X7_undo__1 9 S5) up2_eq (INV_agr I agr_t1)
  · have R := S6 (s - 1) (by omega)
    rw [show (x + 6 - s + (s - 1)) % 6 = (x + 5) % 6 by omega] at R
    have hr : (x + 5) % 6 < 6 := Nat.mod_lt _ (by omega)
    have hb : bits i (15 + 12 * ((xN i + 5) % 6)) := by
      intro f hf
      obtain ⟨c, K, n, D, N, KD0, F, CC⟩ := R
      obtain ⟨F1, F2, F3, F4, F5, F6, F7, F8, F9, F10⟩ := F f hf
      rw [ex]
      rw [← F1] at F2
      rw [← F6] at F7
      rw [← F8] at F9
      unfold csA at F2 F7 F9
      rw [← Nat.add_assoc] at F2 F7 F9
      exact ⟨F2, F7, F9⟩
    have h8 := k_X6_undo (g := g) (i := i) (j := j) 5 hS (by omega) hb
    rw [ex, es] at h8
    have eo : ∀ a f, 13 < a → restW i x s a f = i a f := fun a f h => by
      unfold restW
      rw [cpS_off (by omega), up2_ne (by omega), up2_ne (by omega)]
    have e131 : restW i x s 13 1 = nI ((x + 5) % 6) := by
      unfold restW
      rw [cpS_off (by omega), up2_nf (by omega), up2_eq]
    have e132 : restW i x s 13 2 = nI (s - 1) := by
      unfold restW
      rw [cpS_off (by omega), up2_eq]
    have h9 := fun j => k_X7_undo (g := g) (i := restW i x s) (j := j) (q := s - 1) 9 (by rw [eo _ _ (by omega), S5]; congr 1; omega) (by omega)
    have m93 : mun (restW i x s) (s - 1) 89 3 = nI (s - 1) := by
      unfold mun unW
      rw [if_neg (by omega), up2_eq]
    have mo : ∀ a f, a ≠ 90 → ¬ (a = 89 ∧ (f = 0 ∨ f = 3)) → mun (restW i x s) (s - 1) a f = restW i x s a f := fun a f h h' => by
      unfold mun unW
      rw [if_neg (by omega)]
      unfold th up2
      rw [if_neg (by omega), if_neg (by omega)]
    refine go_ok (w_undo 9 h8) h9 (by rw [e132, m93]) ?_ ⟨?_, ⟨s - 1, (x + 5) % 6, ?_, hr, ?_, by omega, m93, fun m hm => ?_⟩, TE_congr (fun a f h => ?_) I.2.2⟩
    · unfold mun unW
      rw [if_neg (by omega), up2_nf (by omega)]
      exact up2_eq
    · refine RS_congr (fun k f hk => ?_) (fun f hf => ?_) (by omega) R
      · show mun (restW i x s) (s - 1) (1 + k) f = i (15 + 12 * ((x + 5) % 6) + k) f
        rw [mo _ _ (by omega) (by omega)]
        unfold restW
        rw [cpS_in hk, up2_ne (by omega), up2_ne (by omega)]
      · show mun (restW i x s) (s - 1) 90 (f + 0) = i 91 (f + 48 * (s - 1))
        unfold mun unW
        rw [if_pos (by omega), up2_ne (by omega), th_ne (by omega), eo _ _ (by omega)]
        exact ieq rfl (by omega)
    · rw [mo _ _ (by omega) (by omega)]; exact e131
    · rw [mo _ _ (by omega) (by omega)]; exact e132
    · refine RS_congr (fun k f hk => ?_) (fun f hf => ?_) (by omega) (S6 m (by omega))
      · show mun (restW i x s) (s - 1) (15 + 12 * (((x + 5) % 6 + 6 - (s - 1) + m) % 6) + k) f = i (15 + 12 * ((x + 6 - s + m) % 6) + k) f
        rw [mo _ _ (by omega) (by omega), eo _ _ (by omega)]
        exact ieq (by omega) rfl
      · show mun (restW i x s) (s - 1) 91 (f + 48 * m) = i 91 (f + 48 * m)
        rw [mo _ _ (by omega) (by omega), eo _ _ (by omega)]
    · rw [mo _ _ (by omega) (by omega), eo _ _ (by omega)]
