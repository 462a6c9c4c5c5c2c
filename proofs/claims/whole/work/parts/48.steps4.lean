theorem LW_keep {i i2 : Nat → Nat → Int32} {B B' c K n : Nat} (L : LW9 i B c K n) (hP : ∀ a f, a < 9 → i2 a f = i a f) (hM : ∀ f, f < 24 → f ≠ 5 → i2 90 f = i 90 f) (hF : ∀ f, f < 4 → FV i2 f) (hC : CV i2 B') : LW9 i2 B' c K n := by
  obtain ⟨⟨P1, P2, P3, P4⟩, ⟨N1, N2, N3, N4, N5, N6, N7, N8, N9, N10⟩, D, F, CC⟩ := L
  refine ⟨⟨?_, ?_, ?_, ?_⟩, ⟨?_, ?_, N3, ?_, ?_, N6, N7, ?_, ?_, N10⟩, fun d hd => ?_, hF, hC⟩
  · rw [hP _ _ (by omega), hM _ (by omega) (by omega)]; exact P1
  · rw [hP _ _ (by omega), hM _ (by omega) (by omega)]; exact P2
  · rw [hM _ (by omega) (by omega)]; exact P3
  · rw [hM _ (by omega) (by omega)]; exact P4
  · rw [hP _ _ (by omega)]; exact N1
  · rw [hM _ (by omega) (by omega)]; exact N2
  · rw [hP _ _ (by omega)]; exact N4
  · rw [hM _ (by omega) (by omega)]; exact N5
  · rw [hP _ _ (by omega)]; exact N8
  · rw [hM _ (by omega) (by omega)]; exact N9
  · have := D d hd
    unfold DV mco at this ⊢
    rw [hP 4 _ (by omega), hP 5 _ (by omega), hP 6 _ (by omega), hP 7 _ (by omega), hM _ (by omega) (by omega), hM _ (by omega) (by omega), hM _ (by omega) (by omega)]
    exact this
theorem FV_same {i i2 : Nat → Nat → Int32} {f : Nat} (h : FV i f) (hP : ∀ q, q < 6 → i2 (9 + f) q = i (9 + f) q) (hM : ∀ q, q < 6 → i2 90 (24 + 6 * f + q) = i 90 (24 + 6 * f + q)) : FV i2 f := by
  unfold FV at h ⊢
  rw [hP 0 (by omega), hP 1 (by omega), hP 2 (by omega), hP 3 (by omega), hP 4 (by omega), hP 5 (by omega), hM 0 (by omega), hM 1 (by omega), hM 2 (by omega), hM 3 (by omega), hM 4 (by omega), hM 5 (by omega)]
  exact h
theorem CV_same {i i2 : Nat → Nat → Int32} {B B' : Nat} (h : CV i B) (hB : B ≤ B') (hP : ∀ f q, f < 4 → q = 5 ∨ q = 6 → i2 (9 + f) q = i (9 + f) q) (hM : i2 90 5 = i 90 5) : CV i2 B' := by
  obtain ⟨a, w, C1, C2, C3⟩ := h
  refine ⟨a, w, fun f hf => ?_, by rw [hM]; exact C2, by omega⟩
  rw [hP f 5 hf (Or.inl rfl), hP f 6 hf (Or.inr rfl)]
  exact C1 f hf
theorem sl_eq {i i' : Nat → Nat → Int32} (h : ∀ f, f < 4 → i' (9 + f) 3 = i 90 (24 + 6 * f + 3) ∧ b01 (i 90 (24 + 6 * f + 3))) : ∀ m, m ≤ 4 → slN i' m = msl i m
  | 0, _ => rfl
  | m + 1, hm => by
    obtain ⟨h1, h2⟩ := h m (by omega)
    show (if i' (9 + m) 3 = 0 then slN i' m else slN i' m + 1) = msl i m + i 90 (24 + 6 * m + 3)
    rw [h1, sl_eq h m (by omega)]
    rcases h2 with e | e
    · rw [if_pos e, e, Int32.add_zero]
    · rw [if_neg (by rw [e]; decide), e]
/-- a follower falls asleep or wakes, on both sides -/
theorem sleep_step {i : Nat → Nat → Int32} {t s f : Nat} {y : Int32} (hy : b01 y) (I : INV i t) (hs : i 89 3 = nI s) (hs6 : s ≤ 6) (hf : f < 4) :
    slN (up2 (svI i) (9 + f) 3 y) 4 = msl (up2 (msv (th (up2 (svI i) (9 + f) 3 y) 0) s) 90 (24 + 6 * f + 3) y) 4 ∧ up2 (msv (th (up2 (svI i) (9 + f) 3 y) 0) s) 90 (24 + 6 * f + 3) y 89 0 = 0 ∧ INV (up2 (msv (th (up2 (svI i) (9 + f) 3 y) 0) s) 90 (24 + 6 * f + 3) y) (t + 1) := by
  obtain ⟨s', h1, h2, hx, hS⟩ := INV_S I
  obtain ⟨c, K, n, L⟩ := LV_iff.mp I.1
  have eo : ∀ a q, (a < 13 ∨ a = 90) → ¬ (a = 9 + f ∧ q = 3) → ¬ (a = 90 ∧ q = 24 + 6 * f + 3) → up2 (msv (th (up2 (svI i) (9 + f) 3 y) 0) s) 90 (24 + 6 * f + 3) y a q = i a q := fun a q z1 z2 z3 => by
    rw [show up2 (msv (th (up2 (svI i) (9 + f) 3 y) 0) s) 90 (24 + 6 * f + 3) y a q = msv (th (up2 (svI i) (9 + f) 3 y) 0) s a q from if_neg z3, msv_oth (by omega), th_ne (by omega), show up2 (svI i) (9 + f) 3 y a q = svI i a q from if_neg z2, svI_oth (by omega) hx]
  have ec : up2 (msv (th (up2 (svI i) (9 + f) 3 y) 0) s) 90 (24 + 6 * f + 3) y (9 + f) 3 = y := by
    rw [up2_ne (by omega), msv_oth (by omega), th_ne (by omega), up2_eq]
  have em : up2 (msv (th (up2 (svI i) (9 + f) 3 y) 0) s) 90 (24 + 6 * f + 3) y 90 (24 + 6 * f + 3) = y := up2_eq
  refine ⟨sl_eq (fun f' hf' => ?_) 4 (Nat.le_refl _), ?_⟩
  · by_cases e : f' = f
    · subst e
      rw [em, up2_eq]
      exact ⟨rfl, hy⟩
    · obtain ⟨F1, F2, F3, F4, F5, F6, F7, F8, F9, F10⟩ := L.2.2.2.1 f' hf'
      rw [eo 90 _ (Or.inr rfl) (by omega) (by omega), up2_ne (by omega), svI_oth (by omega) hx]
      exact ⟨F6, F7⟩
  · refine save_step I hs hs6 (iC := up2 (svI i) (9 + f) 3 y) (fun a q h => up2_ne (by omega)) (fun a q h => up2_ne h) (LV_iff.mpr ⟨c, K, n, LW_keep L (fun a q h => eo a q (by omega) (by omega) (by omega)) (fun q h h' => eo 90 q (by omega) (by omega) (by omega)) (fun f' hf' => ?_) (CV_same L.2.2.2.2 (by omega) (fun f' q hf' hq => eo _ _ (by omega) (by omega) (by omega)) (eo 90 5 (by omega) (by omega) (by omega)))⟩)
    have F := L.2.2.2.1 f' hf'
    by_cases e : f' = f
    · subst e
      unfold FV at F ⊢
      rw [ec, em, eo (9 + f') 0 (by omega) (by omega) (by omega), eo (9 + f') 1 (by omega) (by omega) (by omega), eo (9 + f') 2 (by omega) (by omega) (by omega), eo (9 + f') 4 (by omega) (by omega) (by omega), eo (9 + f') 5 (by omega) (by omega) (by omega), eo 90 (24 + 6 * f' + 0) (by omega) (by omega) (by omega), eo 90 (24 + 6 * f' + 1) (by omega) (by omega) (by omega), eo 90 (24 + 6 * f' + 2) (by omega) (by omega) (by omega), eo 90 (24 + 6 * f' + 4) (by omega) (by omega) (by omega), eo 90 (24 + 6 * f' + 5) (by omega) (by omega) (by omega)]
      obtain ⟨F1, F2, F3, F4, F5, F6, F7, F8, F9, F10⟩ := F
      exact ⟨F1, F2, F3, F4, F5, rfl, hy, F8, F9, F10⟩
    · exact FV_same F (fun q hq => eo _ _ (by omega) (by omega) (by omega)) (fun q hq => eo _ _ (by omega) (by omega) (by omega))
theorem t16 (g : G0) (x : Int32) : St g INV m_L_sleep m_X7_sleep [.int x] := by
  intro i j t ht I
  obtain ⟨s, hs, hs6, hx, hS⟩ := INV_S I
  obtain ⟨c, K, n, L⟩ := LV_iff.mp I.1
  by_cases hq : foq x
  · obtain ⟨f, hf, e⟩ := wit_nI (b := 3) (by omega) (foq_wit.mp hq)
    have hf : f < 4 := by omega
    subst e
    obtain ⟨F1, F2, F3, F4, F5, F6, F7, F8, F9, F10⟩ := L.2.2.2.1 f hf
    by_cases hb : i (9 + f) 3 = 0
    · have h8 := k_X6_sleep (g := g) (i := i) (j := j) 5 hf hb hS
      obtain ⟨r1, r2, r3⟩ := sleep_step (y := 1) (Or.inr rfl) I hs hs6 hf
      refine go_ok (w_sleep 9 h8) (fun j => k_X7_sleep (n := s) 7 rfl hf ?_ ?_ hs6) r1 r2 r3
      · rw [up2_ne (by omega), svI_oth (by omega) hx, ← F6, hb]; decide
      · rw [up2_ne (by omega), svI_oth (by omega) hx]; exact hs
    · refine go_no (w_sleep_x2 9 (k_X6_sleep_y 2 hf hb)) (by decide) (k_X7_sleep__2 7 rfl hf ?_) up2_eq (INV_agr I agr_t1)
      rcases F7 with e | e
      · exact absurd (F6.trans e) hb
      · exact e
  · exact go_no (w_sleep_x1 9 (k_X6_sleep_x 2 hq)) (by decide) (k_X7_sleep__1 7 (fun z => hq (foq_wit.mpr z))) up2_eq (INV_agr I agr_t1)
theorem t17 (g : G0) (x : Int32) : St g INV m_L_wake m_X7_wake [.int x] := by
  intro i j t ht I
  obtain ⟨s, hs, hs6, hx, hS⟩ := INV_S I
  obtain ⟨c, K, n, L⟩ := LV_iff.mp I.1
  by_cases hq : foq x
  · obtain ⟨f, hf, e⟩ := wit_nI (b := 3) (by omega) (foq_wit.mp hq)
    have hf : f < 4 := by omega
    subst e
    obtain ⟨F1, F2, F3, F4, F5, F6, F7, F8, F9, F10⟩ := L.2.2.2.1 f hf
    by_cases hb : i (9 + f) 3 = 0
    · exact go_no (w_wake_x2 9 (k_X6_wake_y 2 hf hb)) (by decide) (k_X7_wake__2 7 rfl hf (F6.symm.trans hb)) up2_eq (INV_agr I agr_t1)
    · have h8 := k_X6_wake (g := g) (i := i) (j := j) 5 hf hb hS
      obtain ⟨r1, r2, r3⟩ := sleep_step (y := 0) (Or.inl rfl) I hs hs6 hf
      refine go_ok (w_wake 9 h8) (fun j => k_X7_wake (n := s) 7 rfl hf ?_ ?_ hs6) r1 r2 r3
      · rw [up2_ne (by omega), svI_oth (by omega) hx, ← F6]; exact hb
      · rw [up2_ne (by omega), svI_oth (by omega) hx]; exact hs
  · exact go_no (w_wake_x1 9 (k_X6_wake_x 2 hq)) (by decide) (k_X7_wake__1 7 (fun z => hq (foq_wit.mpr z))) up2_eq (INV_agr I agr_t1)
