/-! ===== refresh and refreshAll ===== -/
theorem t14 (g : G0) (x : Int32) : St g INV m_L_refresh m_X7_refresh [.int x] := by
  intro i j t ht I
  obtain ⟨s, hs, hs6, hx, hS⟩ := INV_S I
  obtain ⟨c, K, n, L⟩ := LV_iff.mp I.1
  obtain ⟨hCI, hcN, hKN, hnN⟩ := LW_CI L
  obtain ⟨P, ⟨N1, N2, N3, N4, N5, N6, N7, N8, N9, N10⟩, -⟩ := id L
  by_cases hq : foq x
  · obtain ⟨f, hf, e⟩ := wit_nI (b := 3) (by omega) (foq_wit.mp hq)
    have hf : f < 4 := by omega
    subst e
    obtain ⟨F1, F2, F3, F4, F5, F6, F7, F8, F9, F10⟩ := L.2.2.2.1 f hf
    by_cases hb : i (9 + f) 3 = 0
    · have h8 := k_X6_refresh (g := g) (i := i) (j := j) 5 hf hb hS hCI
      rw [hcN] at h8
      have sv : ∀ a f, a < 13 → svI i a f = i a f := fun a f h => svI_oth (by omega) hx
      have hd : ∀ a q, 13 ≤ a → bnI (svI i) (9 + f) c a q = svI i a q := fun a q h => bnI_oth (by omega)
      have e9 : ∀ q, msv (th (bnI (svI i) (9 + f) c) 0) s 90 q = i 90 q := fun q => by
        rw [msv_oth (by omega), th_ne (by omega), hd _ _ (by omega), svI_oth (by omega) hx]
      obtain ⟨hA, L'⟩ := LX_114 (LW_mx (x := svI i) (y := msv (th (bnI (svI i) (9 + f) c) 0) s) (B' := 2000 * t) L (by omega) sv e9) hf
      obtain ⟨r1, r2⟩ := save_step I hs hs6 (iC := bnI (svI i) (9 + f) c) (i2 := mrf (msv (th (bnI (svI i) (9 + f) c) 0) s) f c) hd (fun a q h => mrf_oth (Or.inl h)) (LV_iff.mpr ⟨c, K, n, LW_xm L' (by omega) (fun a q h => by
        rw [mrf_oth (by omega), msv_oth (by omega), th_ne (by omega)]) (fun q => rfl)⟩)
      refine go_ok (w_refresh 9 h8) (fun j => k_X7_refresh (n := s) (c := c) 4 rfl hf ?_ ?_ (by omega) ?_ hs6) hA r1 r2
      · rw [hd _ _ (by omega), svI_oth (by omega) hx, ← F6, hb]; decide
      · rw [hd _ _ (by omega), svI_oth (by omega) hx]; exact N9
      · rw [hd _ _ (by omega), svI_oth (by omega) hx]; exact hs
    · refine go_no (w_refresh_x2 9 (k_X6_refresh_y 2 hf hb)) (by decide) (k_X7_refresh__2 4 rfl hf ?_) up2_eq (INV_agr I agr_t1)
      rcases F7 with e | e
      · exact absurd (F6.trans e) hb
      · exact e
  · exact go_no (w_refresh_x1 9 (k_X6_refresh_x 2 hq)) (by decide) (k_X7_refresh__1 4 (fun z => hq (foq_wit.mpr z))) up2_eq (INV_agr I agr_t1)
theorem LX_ra {x y : Nat → Nat → Int32} {B c K n : Nat} (L : LW9 (mx9 x y) B c K n) : ∀ m, m ≤ 4 → raN c x m = mraN c y m ∧ LW9 (mx9 (raF c x m) (mraF c y m)) (B + 31 * m) c K n
  | 0, _ => ⟨rfl, L⟩
  | m + 1, hm => by
    obtain ⟨h1, h2⟩ := LX_ra L m (by omega)
    obtain ⟨F1, F2, F3, F4, F5, F6, F7, F8, F9, F10⟩ := h2.2.2.2.1 m (by omega)
    rw [mx_c (by omega)] at F6 F8
    rw [mx_m] at F6 F7 F8 F9
    have a1 : raN c x (m + 1) = if raF c x m (9 + m) 3 = 0 ∧ ¬ raF c x m (9 + m) 4 = 0 then raN c x m + 1 else raN c x m := rfl
    have a2 : mraN c y (m + 1) = if mraC (mraF c y m) m = true then mraN c y m + 1 else mraN c y m := rfl
    have a3 : raF c x (m + 1) = if raF c x m (9 + m) 3 = 0 ∧ ¬ raF c x m (9 + m) 4 = 0 then bnI (raF c x m) (9 + m) c else raF c x m := rfl
    have a4 : mraF c y (m + 1) = if mraC (mraF c y m) m = true then mrf (mraF c y m) m c else mraF c y m := rfl
    rw [a1, a2, a3, a4]
    have e : (raF c x m (9 + m) 3 = 0 ∧ ¬ raF c x m (9 + m) 4 = 0) ↔ mraC (mraF c y m) m = true := by
      unfold mraC
      rw [decide_eq_true_iff, F6, F8]
      constructor
      · rintro ⟨a, b⟩
        exact ⟨a, F9.resolve_left b⟩
      · rintro ⟨a, b⟩
        exact ⟨a, by rw [b]; decide⟩
    by_cases h : mraC (mraF c y m) m = true
    · rw [if_pos (e.mpr h), if_pos (e.mpr h), if_pos h, if_pos h]
      exact ⟨by rw [h1], LW_same (LX_114 h2 (by omega)).2 (by omega) (fun _ _ _ => rfl)⟩
    · rw [if_neg (fun z => h (e.mp z)), if_neg (fun z => h (e.mp z)), if_neg h, if_neg h]
      exact ⟨h1, LW_same h2 (by omega) (fun _ _ _ => rfl)⟩
theorem t15 (g : G0) : StP g INV m_X6_refreshAll m_X7_refreshAll := by
  intro i j t ht I
  obtain ⟨s, hs, hs6, hx, hS⟩ := INV_S I
  obtain ⟨c, K, n, L⟩ := LV_iff.mp I.1
  obtain ⟨hCI, hcN, hKN, hnN⟩ := LW_CI L
  obtain ⟨P, ⟨N1, N2, N3, N4, N5, N6, N7, N8, N9, N10⟩, -⟩ := id L
  have h8 := k_X6_refreshAll (g := g) (i := i) (j := j) 5 hS hCI
  rw [hcN] at h8
  have sv : ∀ a f, a < 13 → svI i a f = i a f := fun a f h => svI_oth (by omega) hx
  have hd : ∀ a q, 13 ≤ a → raF c (svI i) 4 a q = svI i a q := fun a q h => raF_oth 4 (by omega)
  have e9 : ∀ q, msv (th (raF c (svI i) 4) 0) s 90 q = i 90 q := fun q => by
    rw [msv_oth (by omega), th_ne (by omega), hd _ _ (by omega), svI_oth (by omega) hx]
  obtain ⟨hA, L'⟩ := LX_ra (LW_mx (x := svI i) (y := msv (th (raF c (svI i) 4) 0) s) (B' := 2000 * t) L (by omega) sv e9) 4 (by omega)
  obtain ⟨r1, r2⟩ := save_step I hs hs6 (iC := raF c (svI i) 4) (i2 := mraF c (msv (th (raF c (svI i) 4) 0) s) 4) hd (fun a q h => mraF_oth (Or.inl h)) (LV_iff.mpr ⟨c, K, n, LW_xm L' (by omega) (fun a q h => by
    rw [mraF_oth (by omega), msv_oth (by omega), th_ne (by omega)]) (fun q => rfl)⟩)
  have h9 := k_X7_refreshAll (g := g) (i := raF c (svI i) 4) (j := j) (c := c) (n := s) 4 (by rw [hd _ _ (by omega), svI_oth (by omega) hx]; exact N9) (by omega) (by rw [hd _ _ (by omega), svI_oth (by omega) hx]; exact hs) hs6
  rw [← hA] at h9
  exact ⟨_, _, _, h8, h9, r2⟩
