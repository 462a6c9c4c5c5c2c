/-! ===== setKeep ===== -/
theorem LW_K {i i2 : Nat → Nat → Int32} {B c K n m : Nat} (L : LW9 i B c K n) (hm1 : 1 ≤ m) (hm6 : m ≤ 6) (hc : c ≤ m) (h1 : i2 3 4 = nI m) (h2 : i2 90 3 = nI m) (h3 : ∀ a f, a < 13 → ¬ (a = 3 ∧ f = 4) → i2 a f = i a f) (h4 : ∀ f, f ≠ 3 → f < 6 + 3 * c ∨ 24 ≤ f → i2 90 f = i 90 f) : LW9 i2 B c m n := by
  obtain ⟨⟨P1, P2, P3, P4⟩, ⟨N1, N2, N3, N4, N5, N6, N7, N8, N9, N10⟩, D, F, CC⟩ := L
  refine ⟨⟨?_, ?_, ?_, ?_⟩, ⟨?_, ?_, N3, h1, h2, hm1, hm6, ?_, ?_, hc⟩, fun d hd => ?_, fun f hf => ?_, CV_same CC (Nat.le_refl _) (fun f q hf hq => h3 _ _ (by omega) (by omega)) (h4 _ (by omega) (by omega))⟩
  · rw [h3 _ _ (by omega) (by omega), h4 _ (by omega) (by omega)]; exact P1
  · rw [h3 _ _ (by omega) (by omega), h4 _ (by omega) (by omega)]; exact P2
  · rw [h4 _ (by omega) (by omega)]; exact P3
  · rw [h4 _ (by omega) (by omega)]; exact P4
  · rw [h3 _ _ (by omega) (by omega)]; exact N1
  · rw [h4 _ (by omega) (by omega)]; exact N2
  · rw [h3 _ _ (by omega) (by omega)]; exact N8
  · rw [h4 _ (by omega) (by omega)]; exact N9
  · have e := D d hd
    unfold DV mco at e ⊢
    rw [h3 4 d (by omega) (by omega), h3 5 d (by omega) (by omega), h3 6 d (by omega) (by omega), h3 7 d (by omega) (by omega), h4 (6 + 3 * d + 0) (by omega) (by omega), h4 (6 + 3 * d + 1) (by omega) (by omega), h4 (6 + 3 * d + 2) (by omega) (by omega)]
    exact e
  · exact FV_same (F f hf) (fun q hq => h3 _ _ (by omega) (by omega)) (fun q hq => h4 _ (by omega) (by omega))
theorem msk_in {q : Nat} : ∀ (c : Nat) (i : Nat → Nat → Int32) {f : Nat}, q ≤ c → f < 3 * q → msk q c i 90 (6 + f) = i 90 (6 + f + 3 * (c - q))
  | 0, i, f, h1, h2 => by omega
  | c + 1, i, f, h1, h2 => by
    unfold msk
    by_cases h : q < c + 1
    · rw [if_pos h, msk_in c _ (by omega) h2]
      unfold mdr mdF
      rw [if_pos (by omega), up2_nf (by omega)]
      exact ieq rfl (by omega)
    · rw [if_neg h]
      exact ieq rfl (by omega)
theorem msk_oth {q : Nat} : ∀ (c : Nat) (i : Nat → Nat → Int32) {a f : Nat}, c ≤ 6 → (a ≠ 90 ∨ (f < 6 ∧ f ≠ 4) ∨ 24 ≤ f) → msk q c i a f = i a f
  | 0, i, a, f, _, _ => rfl
  | c + 1, i, a, f, h1, h2 => by
    unfold msk
    split
    · rw [msk_oth c _ (by omega) h2]
      exact mdr_oth (by omega) (by omega)
    · rfl
theorem LX_dropk {x y : Nat → Nat → Int32} {B c K n m : Nat} (L : LW9 (mx9 x y) B c K n) (hm : m ≤ c) : LW9 (mx9 (drp x (c - m) c) (msk m c y)) B m K n := by
  have hK6 : K ≤ 6 := L.2.1.2.2.2.2.2.2.1
  have hcK : c ≤ K := L.2.1.2.2.2.2.2.2.2.2.2
  have h9 : y 90 4 = nI c := L.2.1.2.2.2.2.2.2.2.2.1
  have e : c - (c - m) = m := by omega
  have := LW_drop (i2 := mx9 (drp x (c - m) c) (msk m c y)) (k := c - m) L (by omega) ?_ ?_ (fun a f h1 h2 h3 => ?_) (fun f h => ?_) (fun a f h1 h2 h3 => ?_) (fun f h => ?_)
  · rw [e] at this; exact this
  · rw [mx_c (by omega)]; exact drp_cnt
  · rw [mx_m, msk_4 c _ h9]
    congr 1
    split <;> omega
  · rw [mx_c (by omega), mx_c (by omega)]
    unfold drp drF
    rw [if_neg (by omega), if_pos ⟨h1, h2, h3⟩]
  · rw [mx_m, mx_m, msk_in c _ (by omega) (by omega)]
  · rw [mx_c h1, mx_c h1]; exact drp_oth (by omega)
  · rw [mx_m, mx_m]; exact msk_oth _ _ (by omega) (by omega)
theorem LX_keep {x y : Nat → Nat → Int32} {B c K n m : Nat} (L : LW9 (mx9 x y) B c K n) (hm1 : 1 ≤ m) (hm6 : m ≤ 6) : LW9 (mx9 (lim x c m) (msk m c (up2 y 90 3 (nI m)))) B (if m < c then m else c) m n := by
  have hK6 : K ≤ 6 := L.2.1.2.2.2.2.2.2.1
  have hcK : c ≤ K := L.2.1.2.2.2.2.2.2.2.2.2
  have h9 : y 90 4 = nI c := L.2.1.2.2.2.2.2.2.2.2.1
  by_cases h : m < c
  · rw [if_pos h]
    refine LW_K (LX_dropk L (m := m) (by omega)) hm1 hm6 (Nat.le_refl _) ?_ ?_ (fun a f h1 h2 => ?_) (fun f h1 h2 => ?_)
    · rw [mx_c (by omega)]
      unfold lim
      rw [if_neg (by omega), drp_oth (by omega)]
      exact up2_eq
    · rw [mx_m, msk_oth _ _ (by omega) (by omega)]
      exact up2_eq
    · rw [mx_c h1, mx_c h1]
      unfold lim
      rw [if_neg (by omega)]
      unfold drp drF up2
      (repeat' split) <;> first | rfl | (exfalso; omega)
    · rw [mx_m, mx_m]
      by_cases h4 : f = 4
      · subst h4
        rw [msk_4 c _ h9, msk_4 c _ ((up2_nf (by omega)).trans h9)]
      · by_cases h5 : 6 ≤ f ∧ f < 6 + 3 * m
        · obtain ⟨p, rfl⟩ : ∃ p, f = 6 + p := ⟨f - 6, by omega⟩
          rw [msk_in c _ (by omega) (by omega), msk_in c _ (by omega) (by omega), up2_nf (by omega)]
        · rw [msk_oth _ _ (by omega) (by omega), msk_oth _ _ (by omega) (by omega), up2_nf h1]
  · rw [if_neg h]
    have e : ∀ p : Nat → Nat → Int32, msk m c p = p := fun p => by
      cases c with
      | zero => rfl
      | succ c => unfold msk; rw [if_neg h]
    rw [e]
    unfold lim
    rw [if_pos (by omega)]
    refine LW_K L hm1 hm6 (by omega) ?_ ?_ (fun a f h1 h2 => ?_) (fun f h1 h2 => ?_)
    · rw [mx_c (by omega)]; exact up2_eq
    · rw [mx_m]; exact up2_eq
    · rw [mx_c h1, mx_c h1]; exact if_neg h2
    · rw [mx_m, mx_m]; exact up2_nf h1
theorem wit16 {x : Int32} (h : wit x 1 6) : ∃ m, 1 ≤ m ∧ m ≤ 6 ∧ x = nI m := by
  obtain ⟨m, hm, e⟩ := nI_of (x := x) (fun z => h.1 (Int32.lt_trans z (by decide)))
  subst e
  have h1 := mt (nI_ltI (a := m) (b := 1) (by omega) (by omega)).mpr h.1
  have h2 := mt (nI_ltI (a := 6) (b := m) (by omega) (by omega)).mpr h.2
  exact ⟨m, by omega, by omega, rfl⟩
theorem t4 (g : G0) (x : Int32) : St g INV m_L_setKeep m_X7_setKeep [.int x] := by
  intro i j t ht I
  obtain ⟨s, hs, hs6, hx, hS⟩ := INV_S I
  obtain ⟨c, K, n, L⟩ := LV_iff.mp I.1
  obtain ⟨hCI, hcN, hKN, hnN⟩ := LW_CI L
  obtain ⟨⟨P1, P2, P3, P4⟩, ⟨N1, N2, N3, N4, N5, N6, N7, N8, N9, N10⟩, -⟩ := id L
  by_cases hq : wit x 1 6
  · obtain ⟨m, hm1, hm6, e⟩ := wit16 hq
    subst e
    have h8 := k_X6_setKeep (g := g) (i := i) (j := j) 5 hm1 hm6 hS hCI
    rw [hcN] at h8
    have sv : ∀ a f, a < 13 → svI i a f = i a f := fun a f h => svI_oth (by omega) hx
    have hd : ∀ a f, 13 ≤ a → lim (svI i) c m a f = svI i a f := fun a f h => by
      unfold lim
      split
      · exact up2_ne (by omega)
      · rw [drp_oth (by omega)]; exact up2_ne (by omega)
    have e9 : ∀ f, msv (th (lim (svI i) c m) 0) s 90 f = i 90 f := fun f => by
      rw [msv_oth (by omega), th_ne (by omega), hd _ _ (by omega), svI_oth (by omega) hx]
    have L' := LX_keep (LW_mx (x := svI i) (y := msv (th (lim (svI i) c m) 0) s) (B' := 2000 * (t + 1)) L (by omega) sv e9) hm1 hm6
    obtain ⟨r1, r2⟩ := save_step I hs hs6 (iC := lim (svI i) c m) (i2 := msk m c (up2 (msv (th (lim (svI i) c m) 0) s) 90 3 (nI m))) hd (fun a q h => by rw [msk_oth _ _ (by omega) (Or.inl h), up2_ne h]) (LV_iff.mpr ⟨_, m, n, LW_xm L' (Nat.le_refl _) (fun a f h => by
      rw [msk_oth _ _ (by omega) (by omega), up2_ne (by omega), msv_oth (by omega), th_ne (by omega)]) (fun f => rfl)⟩)
    refine go_ok (w_setKeep 9 h8) (fun j => k_X7_setKeep (n := s) (c0 := c) (q := m) 9 ?_ (by omega) hm1 hm6 ?_ hs6) ?_ r1 r2
    · rw [hd _ _ (by omega), svI_oth (by omega) hx]; exact N9
    · rw [hd _ _ (by omega), svI_oth (by omega) hx]; exact hs
    · have q1 : lim (svI i) c m 3 5 = mx9 (lim (svI i) c m) (msk m c (up2 (msv (th (lim (svI i) c m) 0) s) 90 3 (nI m))) 3 5 := by rw [mx_c (by omega)]
      rw [q1, L'.2.1.2.2.2.2.2.2.2.1]
      exact L'.2.1.2.2.2.2.2.2.2.2.1.symm
  · exact go_no (w_setKeep_x1 9 (k_X6_setKeep_x 2 (fun z => hq ⟨z.1, Int32.not_lt.mpr z.2⟩))) (by decide) (k_X7_setKeep__1 9 hq) up2_eq (INV_agr I agr_t1)
