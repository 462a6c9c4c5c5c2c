theorem t18 (g : G0) (x : Int32) : St g INV m_L_throwAway m_X7_throwAway [.int x] := by
  intro i j t ht I
  obtain ⟨s, hs, hs6, hx, hS⟩ := INV_S I
  obtain ⟨c, K, n, L⟩ := LV_iff.mp I.1
  by_cases hq : foq x
  · obtain ⟨f, hf, e⟩ := wit_nI (b := 3) (by omega) (foq_wit.mp hq)
    have hf : f < 4 := by omega
    subst e
    have h8 := k_X6_throwAway (g := g) (i := i) (j := j) 5 hf hS
    have eo : ∀ a q, (a < 13 ∨ a = 90) → ¬ (a = 9 + f ∧ q < 2) → ¬ (a = 90 ∧ 24 + 6 * f ≤ q ∧ q < 24 + 6 * f + 3) → mta (msv (th (up2 (up2 (svI i) (9 + f) 0 0) (9 + f) 1 0) 0) s) f a q = i a q := fun a q z1 z2 z3 => by
      unfold mta
      rw [show up2 (up2 (up2 (msv (th (up2 (up2 (svI i) (9 + f) 0 0) (9 + f) 1 0) 0) s) 90 (24 + 6 * f + 0) 0) 90 (24 + 6 * f + 1) 0) 90 (24 + 6 * f + 2) 0 a q = msv (th (up2 (up2 (svI i) (9 + f) 0 0) (9 + f) 1 0) 0) s a q from by unfold up2; rw [if_neg (by omega), if_neg (by omega), if_neg (by omega)], msv_oth (by omega), th_ne (by omega), show up2 (up2 (svI i) (9 + f) 0 0) (9 + f) 1 0 a q = svI i a q from by unfold up2; rw [if_neg (by omega), if_neg (by omega)], svI_oth (by omega) hx]
    have c0 : mta (msv (th (up2 (up2 (svI i) (9 + f) 0 0) (9 + f) 1 0) 0) s) f (9 + f) 0 = 0 := by
      unfold mta
      rw [up2_ne (by omega), up2_ne (by omega), up2_ne (by omega), msv_oth (by omega), th_ne (by omega), up2_nf (by omega), up2_eq]
    have c1' : mta (msv (th (up2 (up2 (svI i) (9 + f) 0 0) (9 + f) 1 0) 0) s) f (9 + f) 1 = 0 := by
      unfold mta
      rw [up2_ne (by omega), up2_ne (by omega), up2_ne (by omega), msv_oth (by omega), th_ne (by omega), up2_eq]
    have m0 : mta (msv (th (up2 (up2 (svI i) (9 + f) 0 0) (9 + f) 1 0) 0) s) f 90 (24 + 6 * f + 0) = 0 := by
      unfold mta
      rw [up2_nf (by omega), up2_nf (by omega), up2_eq]
    have m1 : mta (msv (th (up2 (up2 (svI i) (9 + f) 0 0) (9 + f) 1 0) 0) s) f 90 (24 + 6 * f + 1) = 0 := by
      unfold mta
      rw [up2_nf (by omega), up2_eq]
    have em : ∀ q, msv (th (up2 (up2 (svI i) (9 + f) 0 0) (9 + f) 1 0) 0) s 90 q = i 90 q := fun q => by
      rw [msv_oth (by omega), th_ne (by omega), up2_ne (by omega), up2_ne (by omega), svI_oth (by omega) hx]
    obtain ⟨r1, r2⟩ := save_step I hs hs6 (iC := up2 (up2 (svI i) (9 + f) 0 0) (9 + f) 1 0) (i2 := mta (msv (th (up2 (up2 (svI i) (9 + f) 0 0) (9 + f) 1 0) 0) s) f) (fun a q h => by rw [up2_ne (by omega), up2_ne (by omega)]) (fun a q h => by unfold mta; rw [up2_ne h, up2_ne h, up2_ne h]) (LV_iff.mpr ⟨c, K, n, LW_keep L (fun a q h => eo a q (by omega) (by omega) (by omega)) (fun q h h' => eo 90 q (by omega) (by omega) (by omega)) (fun f' hf' => by
      have F := L.2.2.2.1 f' hf'
      by_cases e : f' = f
      · subst e
        unfold FV at F ⊢
        obtain ⟨F1, F2, F3, F4, F5, F6, F7, F8, F9, F10⟩ := F
        rw [c0, c1', m0, m1, eo (9 + f') 3 (by omega) (by omega) (by omega), eo (9 + f') 4 (by omega) (by omega) (by omega), eo (9 + f') 5 (by omega) (by omega) (by omega), eo 90 (24 + 6 * f' + 3) (by omega) (by omega) (by omega), eo 90 (24 + 6 * f' + 4) (by omega) (by omega) (by omega), eo 90 (24 + 6 * f' + 5) (by omega) (by omega) (by omega)]
        exact ⟨rfl, Or.inl rfl, rfl, L30_0, fun z => absurd rfl z, F6, F7, F8, F9, F10⟩
      · exact FV_same F (fun q hq => eo _ _ (by omega) (by omega) (by omega)) (fun q hq => eo _ _ (by omega) (by omega) (by omega))) (CV_same L.2.2.2.2 (by omega) (fun f' q hf' hq => eo _ _ (by omega) (by omega) (by omega)) (eo 90 5 (by omega) (by omega) (by omega)))⟩)
    refine go_ok (w_throwAway 9 h8) (fun j => k_X7_throwAway (n := s) 8 rfl hf ?_ hs6) ?_ r1 r2
    · rw [up2_ne (by omega), up2_ne (by omega), svI_oth (by omega) hx]; exact hs
    · rw [svI_oth (by omega) hx, svI_oth (by omega) hx, tS_eq L hf]
      unfold mtS
      rw [em, em]
  · exact go_no (w_throwAway_x1 9 (k_X6_throwAway_x 2 hq)) (by decide) (k_X7_throwAway__1 8 (fun z => hq (foq_wit.mpr z))) up2_eq (INV_agr I agr_t1)
