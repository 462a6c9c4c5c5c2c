theorem th_ne {i : Nat → Nat → Int32} {x : Int32} {a f : Nat} (h : a ≠ 89) : th i x a f = i a f := up2_ne h
theorem msv_91c {i i' : Nat → Nat → Int32} {n f : Nat} (h : ∀ a f, a = 90 ∨ a = 91 → i' a f = i a f) : msv i' n 91 f = msv i n 91 f := by
  rw [msv_91, msv_91, h 90 _ (Or.inl rfl), h 90 _ (Or.inl rfl), h 91 _ (Or.inr rfl), h 91 _ (Or.inr rfl)]
theorem INV_S {i : Nat → Nat → Int32} {t : Nat} (I : INV i t) : ∃ s, i 89 3 = nI s ∧ s ≤ 6 ∧ xN i < 6 ∧ SVI i := by
  obtain ⟨s, x, S1, S2, S3, S4, S5, S6⟩ := I.2.1
  obtain ⟨c, K, n, L⟩ := LV_iff.mp I.1
  have ex : xN i = x := by unfold xN; rw [S1]; exact nI_clamp (by omega)
  have es : sN i = s := by unfold sN; rw [S3]; exact nI_clamp (by omega)
  refine ⟨s, S5, S4, by omega, ?_, by omega, ?_, by omega, fun f hf => ?_⟩
  · rw [ex]; exact S1
  · rw [es]; exact S3
  · obtain ⟨F1, F2, F3, F4, F5, F6, F7, F8, F9, F10⟩ := L.2.2.2.1 f hf
    rw [show 1 + 8 + f = 9 + f by omega, F1, F6, F8]
    exact ⟨F2, F7, F9⟩
theorem LW_CI {i : Nat → Nat → Int32} {B c K n : Nat} (L : LW9 i B c K n) : CI i ∧ cN i = c ∧ KN i = K ∧ nN i = n := by
  obtain ⟨P, ⟨N1, N2, N3, N4, N5, N6, N7, N8, N9, N10⟩, D, F, CC⟩ := L
  exact CI_of N8 N10 N6 N7 N4 N1 N3
theorem LW_MC {i : Nat → Nat → Int32} {B c K n : Nat} (L : LW9 i B c K n) : MC i ∧ mcN i = c ∧ mqN i = K ∧ mnN i = n := by
  obtain ⟨P, ⟨N1, N2, N3, N4, N5, N6, N7, N8, N9, N10⟩, D, F, CC⟩ := L
  exact MC_of N9 N10 N6 N7 N5 N2 N3 (fun f hf => (F f hf).2.2.2.2.2.2.1)
/-- a step that saves: what is left to be said is the live state -/
theorem save_step {i iC i2 : Nat → Nat → Int32} {t s : Nat} (I : INV i t) (hs : i 89 3 = nI s) (hs6 : s ≤ 6) (hC : ∀ a f, 13 ≤ a → iC a f = svI i a f) (hM : ∀ a f, a ≠ 90 → i2 a f = msv (th iC 0) s a f) (hL : LV i2 (2000 * (t + 1))) : i2 89 0 = 0 ∧ INV i2 (t + 1) := by
  obtain ⟨s', h1, h2, hx, hS⟩ := INV_S I
  refine ⟨?_, hL, save_SA (by omega) I.1 I.2.1 hs hs6 (fun a f h h' => ?_) (fun f => ?_) ?_, TE_congr (fun a f h => ?_) I.2.2⟩
  · rw [hM _ _ (by omega), msv_oth (by omega)]; exact up2_eq
  · rw [hM _ _ (by omega), msv_oth (by omega), th_ne (by omega), hC _ _ h]
  · rw [hM _ _ (by omega)]
    refine msv_91c fun a f h => ?_
    rw [th_ne (by omega), hC _ _ (by omega), svI_oth (by omega) hx]
  · rw [hM _ _ (by omega), msv_3 hs6]
  · rw [hM _ _ (by omega), msv_oth (by omega)]
    show up2 iC 89 0 0 a f = i a f
    unfold up2
    rw [if_neg (by omega), hC _ _ (by omega), svI_oth (by omega) hx]
theorem LW_draft {i i2 : Nat → Nat → Int32} {B B' c K n : Nat} (L : LW9 i B c K n) (hB : B ≤ B') (h : ∀ a f, (a < 13 ∨ a = 90) → ¬ (a = 2 ∧ f = 0) → ¬ (a = 90 ∧ f = 0) → i2 a f = i a f) (h0 : i2 2 0 = i2 90 0) (h1 : L30 (i2 90 0)) : LW9 i2 B' c K n := by
  obtain ⟨⟨P1, P2, P3, P4⟩, ⟨N1, N2, N3, N4, N5, N6, N7, N8, N9, N10⟩, D, F, a, w, C1, C2, C3⟩ := L
  refine ⟨⟨h0, ?_, h1, ?_⟩, ⟨?_, ?_, N3, ?_, ?_, N6, N7, ?_, ?_, N10⟩, fun d hd => ?_, fun f hf => ?_, a, w, fun f hf => ?_, ?_, by omega⟩
  · rw [h _ _ (by omega) (by omega) (by omega), h _ _ (by omega) (by omega) (by omega)]; exact P2
  · rw [h _ _ (by omega) (by omega) (by omega)]; exact P4
  · rw [h _ _ (by omega) (by omega) (by omega)]; exact N1
  · rw [h _ _ (by omega) (by omega) (by omega)]; exact N2
  · rw [h _ _ (by omega) (by omega) (by omega)]; exact N4
  · rw [h _ _ (by omega) (by omega) (by omega)]; exact N5
  · rw [h _ _ (by omega) (by omega) (by omega)]; exact N8
  · rw [h _ _ (by omega) (by omega) (by omega)]; exact N9
  · have := D d hd
    unfold DV mco at this ⊢
    rw [h 4 _ (by omega) (by omega) (by omega), h 5 _ (by omega) (by omega) (by omega), h 6 _ (by omega) (by omega) (by omega), h 7 _ (by omega) (by omega) (by omega), h 90 _ (by omega) (by omega) (by omega), h 90 _ (by omega) (by omega) (by omega), h 90 _ (by omega) (by omega) (by omega)]
    exact this
  · have := F f hf
    unfold FV at this ⊢
    rw [h (9 + f) 0 (by omega) (by omega) (by omega), h (9 + f) 1 (by omega) (by omega) (by omega), h (9 + f) 2 (by omega) (by omega) (by omega), h (9 + f) 3 (by omega) (by omega) (by omega), h (9 + f) 4 (by omega) (by omega) (by omega), h (9 + f) 5 (by omega) (by omega) (by omega), h 90 (24 + 6 * f + 0) (by omega) (by omega) (by omega), h 90 (24 + 6 * f + 1) (by omega) (by omega) (by omega), h 90 (24 + 6 * f + 2) (by omega) (by omega) (by omega), h 90 (24 + 6 * f + 3) (by omega) (by omega) (by omega), h 90 (24 + 6 * f + 4) (by omega) (by omega) (by omega), h 90 (24 + 6 * f + 5) (by omega) (by omega) (by omega)]
    exact this
  · rw [h (9 + f) 5 (by omega) (by omega) (by omega), h (9 + f) 6 (by omega) (by omega) (by omega)]; exact C1 f hf
  · rw [h 90 5 (by omega) (by omega) (by omega)]; exact C2
/-- the draft changes in one street, on both sides -/
theorem draft_step {i : Nat → Nat → Int32} {t s v : Nat} {y : Int32} (I : INV i t) (hs : i 89 3 = nI s) (hs6 : s ≤ 6) (hv : v < 30) (hy : y = i 90 0 ^^^ ((1 : Int32) <<< (nI v &&& 31))) :
    one (mcd (msv (th (up2 (svI i) 2 0 y) 0) s) (nI v) 90 0) = bcI (up2 (svI i) 2 0 y 2 0) ∧ mcd (msv (th (up2 (svI i) 2 0 y) 0) s) (nI v) 89 0 = 0 ∧ INV (mcd (msv (th (up2 (svI i) 2 0 y) 0) s) (nI v)) (t + 1) := by
  obtain ⟨s', h1, h2, hx, hS⟩ := INV_S I
  obtain ⟨c, K, n, L⟩ := LV_iff.mp I.1
  have hL30 : L30 y := by rw [hy]; exact L30_xor L.1.2.2.1 (L30_shl hv)
  have e90 : mcd (msv (th (up2 (svI i) 2 0 y) 0) s) (nI v) 90 0 = y := by
    unfold mcd
    rw [up2_eq, msv_oth (by omega), th_ne (by omega), up2_ne (by omega), svI_oth (by omega) hx, hy]
  have eo : ∀ a f, (a < 13 ∨ a = 90) → ¬ (a = 2 ∧ f = 0) → ¬ (a = 90 ∧ f = 0) → mcd (msv (th (up2 (svI i) 2 0 y) 0) s) (nI v) a f = i a f := fun a f z1 z2 z3 => by
    unfold mcd
    rw [show up2 (msv (th (up2 (svI i) 2 0 y) 0) s) 90 0 _ a f = msv (th (up2 (svI i) 2 0 y) 0) s a f from if_neg z3, msv_oth (by omega), th_ne (by omega), show up2 (svI i) 2 0 y a f = svI i a f from if_neg z2, svI_oth (by omega) hx]
  have e2 : mcd (msv (th (up2 (svI i) 2 0 y) 0) s) (nI v) 2 0 = y := by
    unfold mcd
    rw [up2_ne (by omega), msv_oth (by omega), th_ne (by omega), up2_eq]
  refine ⟨by rw [e90, up2_eq, bc_one hL30], ?_⟩
  refine save_step I hs hs6 (iC := up2 (svI i) 2 0 y) (fun a f h => up2_ne (by omega)) (fun a f h => up2_ne h) ?_
  exact LV_iff.mpr ⟨c, K, n, LW_draft L (by omega) eo (by rw [e2, e90]) (by rw [e90]; exact hL30)⟩
theorem t0 (g : G0) (x : Int32) : St g INV m_L_add m_X7_add [.int x] := by
  intro i j t ht I
  obtain ⟨s, hs, hs6, hx, hS⟩ := INV_S I
  obtain ⟨c, K, n, L⟩ := LV_iff.mp I.1
  obtain ⟨⟨P1, P2, P3, P4⟩, -⟩ := L
  by_cases hq : stq x
  · obtain ⟨v, hv, e⟩ := wit_nI (b := 29) (by omega) (stq_wit.mp hq)
    have hv : v < 30 := by omega
    subst e
    by_cases hb : bit (i 2 0) (nI v) = 0
    · have hb9 : bit (i 90 0) (nI v) = 0 := by rw [← P1]; exact hb
      have hd : doO (svI i) 43 v = up2 (svI i) 2 0 (i 90 0 ||| ((1 : Int32) <<< (nI v &&& 31))) := by
        rw [dO43, svI_oth (by omega) hx, P1]
      have h8 := k_X6_add (g := g) (i := i) (j := j) 5 hv hb hS
      rw [hd] at h8
      obtain ⟨r1, r2, r3⟩ := draft_step (v := v) (y := i 90 0 ||| ((1 : Int32) <<< (nI v &&& 31))) I hs hs6 hv (add_xor P3 hv hb9)
      refine go_ok (w_add 9 h8) (fun j => k_X7_add (n := s) 8 (stq_wit.mp hq) ?_ ?_ hs6) r1.symm r2 r3
      · rw [up2_ne (by omega), svI_oth (by omega) hx]; exact (bit_mbt P3 hv).1.mp hb9
      · rw [up2_ne (by omega), svI_oth (by omega) hx]; exact hs
    · exact go_no (w_add_x2 9 (k_X6_add_y 2 hv hb)) (by decide) (k_X7_add__2 8 (stq_wit.mp hq) (fun z => hb (by rw [P1]; exact (bit_mbt P3 hv).1.mpr z))) up2_eq (INV_agr I agr_t1)
  · exact go_no (w_add_x1 9 (k_X6_add_x 2 hq)) (by decide) (k_X7_add__1 8 (fun z => hq (stq_wit.mpr z))) up2_eq (INV_agr I agr_t1)
theorem t1 (g : G0) (x : Int32) : St g INV m_L_crossOut m_X7_crossOut [.int x] := by
  intro i j t ht I
  obtain ⟨s, hs, hs6, hx, hS⟩ := INV_S I
  obtain ⟨c, K, n, L⟩ := LV_iff.mp I.1
  obtain ⟨⟨P1, P2, P3, P4⟩, -⟩ := L
  by_cases hq : stq x
  · obtain ⟨v, hv, e⟩ := wit_nI (b := 29) (by omega) (stq_wit.mp hq)
    have hv : v < 30 := by omega
    subst e
    by_cases hb : bit (i 2 0) (nI v) = 0
    · exact go_no (w_crossOut_x2 9 (k_X6_crossOut_y 2 hv (fun z => z hb))) (by decide) (k_X7_crossOut__2 8 (stq_wit.mp hq) ((bit_mbt P3 hv).1.mp (by rw [← P1]; exact hb))) up2_eq (INV_agr I agr_t1)
    · have hb9 : ¬ bit (i 90 0) (nI v) = 0 := by rw [← P1]; exact hb
      have hd : doO (svI i) 45 v = up2 (svI i) 2 0 (i 90 0 &&& (((1 : Int32) <<< (nI v &&& 31)) ^^^ (-1))) := by
        rw [dO45, svI_oth (by omega) hx, P1]
      have h8 := k_X6_crossOut (g := g) (i := i) (j := j) 5 hv hb hS
      rw [hd] at h8
      obtain ⟨r1, r2, r3⟩ := draft_step (v := v) (y := i 90 0 &&& (((1 : Int32) <<< (nI v &&& 31)) ^^^ (-1))) I hs hs6 hv (out_xor P3 hv hb9)
      refine go_ok (w_crossOut 9 h8) (fun j => k_X7_crossOut (n := s) 8 (stq_wit.mp hq) ?_ ?_ hs6) r1.symm r2 r3
      · rw [up2_ne (by omega), svI_oth (by omega) hx]; exact fun z => hb9 ((bit_mbt P3 hv).1.mpr z)
      · rw [up2_ne (by omega), svI_oth (by omega) hx]; exact hs
  · exact go_no (w_crossOut_x1 9 (k_X6_crossOut_x 2 hq)) (by decide) (k_X7_crossOut__1 8 (fun z => hq (stq_wit.mpr z))) up2_eq (INV_agr I agr_t1)
