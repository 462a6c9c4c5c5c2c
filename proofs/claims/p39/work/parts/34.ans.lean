/-! ===== answers, costs, refreshes ===== -/
theorem bc_nat {v : Int32} (h : L30 v) : ∃ p, p ≤ 30 ∧ bcI v = nI p := by
  obtain ⟨n, hn, rfl⟩ := h
  rw [bcI_pop (by omega), pop_30 hn]
  exact ⟨pop n 30, pop_le 30, rfl⟩
theorem lco_nat {e : Nat → Int32} {k : Nat} (h1 : L30 (e (3 * k + 1))) (h2 : L30 (e (3 * k + 2))) : ∃ p, 1 ≤ p ∧ p ≤ 31 ∧ lco e k = nI p := by
  obtain ⟨p, hp, h⟩ := bc_nat (L30_or h1 h2)
  refine ⟨1 + p, by omega, by omega, ?_⟩
  unfold lco
  rw [h, show (1 : Int32) = nI 1 from rfl, nI_add]
theorem lpS_999 {v : Int32} : lpS 999 v = 999 := by unfold lpS; rw [if_neg (by decide)]; decide
theorem lpS_nat {s p : Nat} (h : s < 999) : lpS (nI s) (nI p) = nI (s + p) := by
  unfold lpS
  rw [if_pos (show nI s < 999 from (nI_ltI (a := s) (b := 999) (by omega) (by omega)).mpr h), nI_add]
theorem lpa_miss {e : Nat → Int32} {v : Int32} : ∀ m, (∀ d, d < m → ¬ e (3 * d) = v) → lpa e v m = 999
  | 0, _ => rfl
  | m + 1, h => by
    show lpS (if e (3 * m) = v then 0 else lpa e v m) (lco e m) = 999
    rw [if_neg (h m (by omega)), lpa_miss m (fun d hd => h d (by omega)), lpS_999]
theorem lpa_hit {e : Nat → Int32} {v : Int32} {q : Nat → Nat} {k : Nat} : ∀ m, k < m → m ≤ 6 → (∀ d, q d ≤ 31) → (∀ d, d < m → lco e d = nI (q d)) → e (3 * k) = v → (∀ d, d < m → d ≠ k → ¬ e (3 * d) = v) → lpa e v m = nI (sm q k m)
  | 0, h, _, _, _, _, _ => by omega
  | m + 1, h, h6, hq, hl, h1, h2 => by
    show lpS (if e (3 * m) = v then 0 else lpa e v m) (lco e m) = nI (if k ≤ m then sm q k m + q m else 0)
    rw [hl m (by omega), if_pos (show k ≤ m by omega)]
    by_cases hk : k = m
    · subst hk
      rw [if_pos h1, sm_0 k (Nat.le_refl _)]
      exact lpS_nat (s := 0) (by omega)
    · rw [if_neg (h2 m (by omega) (fun z => hk z.symm)), lpa_hit m (by omega) (by omega) hq (fun d hd => hl d (by omega)) h1 (fun d hd => h2 d (by omega))]
      have := sm_le (q := q) (k := k) (b := 31) hq m
      exact lpS_nat (by omega)
section ANS
variable {x i : Nat → Nat → Int32} {B c K n f : Nat}
/-- the class's sum from the end and the law's from the start -/
theorem csl_lpa (h : RP x i B c K n) {v : Int32} : (csl x v c 0 = -1 ∧ lpa (i 90) v c = 999) ∨ (∃ s, 1 ≤ s ∧ s ≤ 186 ∧ csl x v c 0 = nI s ∧ lpa (i 90) v c = nI s) := by
  obtain ⟨P, ⟨N1, N2, N3, N4, N5, N6, N7, N8, N9, N10⟩, D, F, CC⟩ := h
  have hc6 : c ≤ 6 := by omega
  obtain ⟨q, hq⟩ : ∃ q : Nat → Nat, ∀ d, q d ≤ 31 ∧ (d < c → 1 ≤ q d ∧ lco (i 90) d = nI (q d)) := by
    refine ⟨fun d => if hd : d < c then (lco_nat (D d hd).2.2.2.1 (D d hd).2.2.2.2.2.1).choose else 0, fun d => ?_⟩
    by_cases hd : d < c
    · have hs := (lco_nat (D d hd).2.2.2.1 (D d hd).2.2.2.2.2.1).choose_spec
      dsimp only
      rw [dif_pos hd]
      exact ⟨hs.2.1, fun _ => ⟨hs.1, hs.2.2⟩⟩
    · dsimp only
      rw [dif_neg hd]
      exact ⟨by omega, fun z => absurd z hd⟩
  by_cases hk : ∃ k, k < c ∧ i 90 (3 * k) = v
  · obtain ⟨k, hkc, hkv⟩ := hk
    have hne : ∀ d, d < c → d ≠ k → ¬ i 90 (3 * d) = v := fun d hd hdk z => by
      rw [← hkv, (D d hd).2.1, (D k hkc).2.1] at z
      have := (nI_eq (by omega) (by omega)).mp z
      omega
    have e1 := csl_hit (i := x) (e := v) (q := q) (k := k) c 0 (fun d hd => (D d hd).2.2.2.2.2.2.trans ((hq d).2 hd).2) hkc ((D k hkc).1.trans hkv) (fun d hd hdk z => hne d hd hdk ((D d hd).1.symm.trans z))
    have e2 := lpa_hit (e := i 90) (v := v) (q := q) (k := k) c hkc hc6 (fun d => (hq d).1) (fun d hd => ((hq d).2 hd).2) hkv hne
    have hle := sm_le (q := q) (k := k) (b := 31) (fun d => (hq d).1) c
    have hge : 1 ≤ sm q k c := by
      have e3 := sm_first (q := q) (k := k) (c - k - 1)
      rw [show k + 1 + (c - k - 1) = c by omega] at e3
      have := ((hq k).2 hkc).1
      omega
    refine Or.inr ⟨sm q k c, hge, by omega, ?_, e2⟩
    rw [Nat.zero_add] at e1
    exact e1
  · refine Or.inl ⟨csl_miss c 0 fun d hd z => hk ⟨d, hd, (D d hd).1.symm.trans z⟩, lpa_miss c fun d hd z => hk ⟨d, hd, z⟩⟩
theorem has_or (h : FR x i f) : (x (9 + f) 0 = 0 ∧ i 91 (5 * f) < 0) ∨ (¬ x (9 + f) 0 = 0 ∧ ¬ i 91 (5 * f) < 0 ∧ x (9 + f) 1 = i 91 (5 * f) ∧ L30 (i 91 (5 * f)) ∧ x (9 + f) 2 = i 91 (5 * f + 1)) := by
  rcases h.1 with ⟨h1, h2, h3⟩ | ⟨h1, h2, h3, h4, h5⟩
  · exact Or.inl ⟨h1, by rw [h3]; decide⟩
  · exact Or.inr ⟨by rw [h1]; decide, L30_ge h3, h2, h3, h4⟩
theorem ans_lan (h : RP x i B c K n) (hf : f < 4) : ans x (9 + f) c = lan (i 89) (i 90) (i 91) f c := by
  obtain ⟨⟨P1, P2, P3, P4⟩, ⟨N1, N2, N3, N4, N5, N6, N7, N8, N9, N10⟩, D, F, CC⟩ := id h
  unfold ans lan
  rcases has_or (F f hf) with ⟨h1, h2⟩ | ⟨h1, h2, h3, h4, h5⟩
  · rw [if_pos h1, if_pos h2]
  · rw [if_neg h1, if_neg h2, h5, N1, N2, P2]
    unfold nwI
    by_cases e1 : i 91 (5 * f + 1) = nI n
    · rw [if_pos e1, if_pos e1.symm, if_pos rfl]
    · rw [if_neg e1, if_neg (show ¬ nI n = i 91 (5 * f + 1) from fun z => e1 z.symm)]
      by_cases e2 : nwr (nI n) (i 91 (5 * f + 1))
      · rw [if_pos e2, if_neg (show ¬ ¬ nwr (nI n) (i 91 (5 * f + 1)) from fun z => z e2), if_neg (show ¬ (1 : Int32) = 0 by decide), if_neg (show ¬ (1 : Int32) < 0 by decide)]
        obtain ⟨p, hp, hb⟩ := bc_nat P4
        rcases csl_lpa h (v := i 91 (5 * f + 1)) with ⟨c1, c2⟩ | ⟨s, s1, s2, c1, c2⟩
        · rw [c1, c2, if_neg (fun z => z.1 rfl), hb, show (1 : Int32) = nI 1 from rfl, nI_add, if_pos (show nI (1 + p) < 999 from (nI_ltI (a := 1 + p) (b := 999) (by omega) (by omega)).mpr (by omega))]
        · rw [c1, c2]
          by_cases e3 : 1 + bcI (i 89 1) < nI s
          · rw [if_neg (fun z => z.2 e3), if_pos e3]
          · rw [if_pos ⟨nI_nm1 s (by omega), e3⟩, if_neg e3]
      · rw [if_neg e2, if_pos e2, if_neg (show ¬ (-1 : Int32) = 0 by decide), if_pos (show (-1 : Int32) < 0 by decide)]
theorem lan_1 (h : lan (i 89) (i 90) (i 91) f c = 1) : ¬ i 91 (5 * f) < 0 ∧ ¬ 1 + bcI (i 89 1) < lpa (i 90) (i 91 (5 * f + 1)) c := by
  unfold lan at h
  split at h
  · exact absurd h (by decide)
  · rename_i h1
    split at h
    · exact absurd h (by decide)
    · split at h
      · exact absurd h (by decide)
      · split at h
        · exact absurd h (by decide)
        · rename_i h2; exact ⟨h1, h2⟩
theorem coa_lcn (h : RP x i B c K n) (hf : f < 4) : coa x (lan (i 89) (i 90) (i 91) f c) (x (9 + f) 2) c = lcn (i 89) (i 90) (i 91) f c := by
  obtain ⟨⟨P1, P2, P3, P4⟩, ⟨N1, N2, N3, N4, N5, N6, N7, N8, N9, N10⟩, D, F, CC⟩ := id h
  unfold coa lcn
  by_cases h1 : lan (i 89) (i 90) (i 91) f c = 1
  · rw [if_pos h1, if_pos h1]
    obtain ⟨l1, l2⟩ := lan_1 h1
    obtain ⟨p, hp, hb⟩ := bc_nat P4
    rcases has_or (F f hf) with ⟨a1, a2⟩ | ⟨a1, a2, a3, a4, a5⟩
    · exact absurd a2 l1
    · rw [a5]
      rcases csl_lpa h (v := i 91 (5 * f + 1)) with ⟨c1, c2⟩ | ⟨s, s1, s2, c1, c2⟩
      · rw [c2, hb, show (1 : Int32) = nI 1 from rfl, nI_add] at l2
        exact absurd ((nI_ltI (a := 1 + p) (b := 999) (by omega) (by omega)).mpr (by omega)) l2
      · rw [c1, c2]
  · rw [if_neg h1, if_neg h1, P2]
/-- what a refresh costs -/
theorem lcn_nat (h : RP x i B c K n) (hf : f < 4) (ha : lan (i 89) (i 90) (i 91) f c = 1 ∨ lan (i 89) (i 90) (i 91) f c = 2) : ∃ z w, 1 ≤ z ∧ z ≤ w ∧ w ≤ 31 ∧ lcn (i 89) (i 90) (i 91) f c = nI z ∧ 1 + bcI (i 89 1) = nI w := by
  obtain ⟨⟨P1, P2, P3, P4⟩, ⟨N1, N2, N3, N4, N5, N6, N7, N8, N9, N10⟩, D, F, CC⟩ := id h
  obtain ⟨p, hp, hb⟩ := bc_nat P4
  have hw : 1 + bcI (i 89 1) = nI (1 + p) := by rw [hb, show (1 : Int32) = nI 1 from rfl, nI_add]
  unfold lcn
  by_cases h1 : lan (i 89) (i 90) (i 91) f c = 1
  · rw [if_pos h1]
    obtain ⟨l1, l2⟩ := lan_1 h1
    rcases csl_lpa h (v := i 91 (5 * f + 1)) with ⟨c1, c2⟩ | ⟨s, s1, s2, c1, c2⟩
    · rw [c2, hw] at l2
      exact absurd ((nI_ltI (a := 1 + p) (b := 999) (by omega) (by omega)).mpr (by omega)) l2
    · rw [c2, hw] at l2
      have := mt (nI_ltI (a := 1 + p) (b := s) (by omega) (by omega)).mpr l2
      exact ⟨s, 1 + p, s1, by omega, by omega, c2, hw⟩
  · rw [if_neg h1, if_pos (ha.resolve_left h1)]
    exact ⟨1 + p, 1 + p, by omega, Nat.le_refl _, by omega, hw, hw⟩
theorem apl_lap {v : Int32} (D : ∀ d, d < c → DR x i c n d) : ∀ (r m : Nat) (ch : Int32) (b : Bool), m + r = c → apl x v r m ch b = lap (i 90) v r m ch b
  | 0, m, ch, b, _ => rfl
  | r + 1, m, ch, b, h => by
    have hd := D m (by omega)
    show (if b = true ∨ x 4 m = v then apl x v r (m + 1) ((ch &&& (x 5 m ^^^ (-1))) ||| x 6 m) true else apl x v r (m + 1) ch false) = (if b = true ∨ i 90 (3 * m) = v then lap (i 90) v r (m + 1) ((ch &&& (i 90 (3 * m + 1) ^^^ (-1))) ||| i 90 (3 * m + 2)) true else lap (i 90) v r (m + 1) ch false)
    rw [hd.1, hd.2.2.1, hd.2.2.2.2.1, apl_lap D r (m + 1) _ true (by omega), apl_lap D r (m + 1) ch false (by omega)]
theorem lap_L30 {v : Int32} (D : ∀ d, d < c → DR x i c n d) : ∀ (r m : Nat) (ch : Int32) (b : Bool), m + r = c → L30 ch → L30 (lap (i 90) v r m ch b)
  | 0, m, ch, b, _, h => h
  | r + 1, m, ch, b, h, hc => by
    have hd := D m (by omega)
    unfold lap
    split
    · exact lap_L30 D r (m + 1) _ true (by omega) (L30_or (L30_and hc) hd.2.2.2.2.2.1)
    · exact lap_L30 D r (m + 1) ch false (by omega) hc
theorem sum4 {w : Nat → Nat} {f z : Nat} (hf : f < 4) : (if 0 = f then w 0 + z else w 0) + (if 1 = f then w 1 + z else w 1) + (if 2 = f then w 2 + z else w 2) + (if 3 = f then w 3 + z else w 3) = w 0 + w 1 + w 2 + w 3 + z := by
  rcases (by omega : f = 0 ∨ f = 1 ∨ f = 2 ∨ f = 3) with rfl | rfl | rfl | rfl <;> simp <;> omega
/-- a refresh -/
theorem RP_rf (h : RP x i B c K n) (hf : f < 4) : RP (bnI x (9 + f) c) (rfL i f c) (B + 31) c K n := by
  have hA := ans_lan h hf
  have hC := coa_lcn h hf
  obtain ⟨⟨P1, P2, P3, P4⟩, ⟨N1, N2, N3, N4, N5, N6, N7, N8, N9, N10⟩, D, F, a, w, C1, C2, C3⟩ := id h
  have hxo : ∀ a q, a ≠ 9 + f → bnI x (9 + f) c a q = x a q := fun a q h => bnI_oth h
  by_cases ha : lan (i 89) (i 90) (i 91) f c = 1 ∨ lan (i 89) (i 90) (i 91) f c = 2
  · obtain ⟨b0, b1, b2, b3, b4, b5, b6⟩ := bnI_at (x := x) (p := 9 + f) (c := c) (by omega) (by rw [hA]; exact ha)
    obtain ⟨m0, m1, m2, m3, m4, m5, m6⟩ := rf_at ha
    obtain ⟨z, w0, z1, z2, z3, z4, z5⟩ := lcn_nat h hf ha
    rw [hA] at b1 b5
    rw [hC] at b5
    have hlist : bnI x (9 + f) c (9 + f) 1 = rfl9 i f c ∧ L30 (rfl9 i f c) := by
      rw [b1]
      unfold rfl9
      by_cases h1 : lan (i 89) (i 90) (i 91) f c = 1
      · rw [if_pos h1, if_neg (by rw [h1]; decide)]
        rcases has_or (F f hf) with ⟨a1, a2⟩ | ⟨a1, a2, a3, a4, a5⟩
        · exact absurd a2 (lan_1 h1).1
        · rw [a3, a5]
          exact ⟨apl_lap D c 0 _ false (by omega), lap_L30 D c 0 _ false (by omega) a4⟩
      · rw [if_neg h1, if_pos (ha.resolve_left h1)]
        exact ⟨P2, P4⟩
    have F2 := F f hf
    refine ⟨⟨?_, ?_, ?_, ?_⟩, ⟨?_, ?_, N3, ?_, ?_, N6, N7, ?_, ?_, N10⟩, fun d hd => DR_same (D d hd) (fun a h1 h2 => hxo _ _ (by omega)) (fun q hq => rf_oth _ _ (by omega) (by omega)), fun g hg => ?_, ?_⟩
    · rw [hxo _ _ (by omega), m6 _ _ (by omega) (by omega)]; exact P1
    · rw [hxo _ _ (by omega), m6 _ _ (by omega) (by omega)]; exact P2
    · rw [m6 _ _ (by omega) (by omega)]; exact P3
    · rw [m6 _ _ (by omega) (by omega)]; exact P4
    · rw [hxo _ _ (by omega)]; exact N1
    · rw [m6 _ _ (by omega) (by omega)]; exact N2
    · rw [hxo _ _ (by omega)]; exact N4
    · rw [m6 _ _ (by omega) (by omega)]; exact N5
    · rw [hxo _ _ (by omega)]; exact N8
    · rw [m6 _ _ (by omega) (by omega)]; exact N9
    · by_cases e : g = f
      · subst e
        obtain ⟨F2a, F2b, F2c, F2d, F2e, F2f⟩ := F2
        unfold FR
        rw [b0, b2, b3, b4, b5, m0, m1, m2, m3, m4, F2b, F2f]
        exact ⟨Or.inr ⟨rfl, hlist.1, hlist.2, N1.trans N2.symm, n, N3, N2⟩, rfl, F2c, rfl, Or.inl rfl, rfl⟩
      · exact FR_same (F g hg) (fun q hq => hxo _ _ (by omega)) (fun q hq => m6 _ _ (by omega) (by omega))
    · refine ⟨fun g => if g = f then a g + z else a g, fun g => if g = f then w g + w0 else w g, fun g hg => ?_, ?_, ?_⟩
      · obtain ⟨d1, d2, d3, d4⟩ := C1 g hg
        dsimp only
        by_cases e : g = f
        · subst e
          rw [if_pos rfl, if_pos rfl, b5, b6, d1, d2, z4, P2, z5, nI_add, nI_add]
          exact ⟨rfl, rfl, by omega, fun q => by omega⟩
        · rw [if_neg e, if_neg e, hxo _ _ (by omega), hxo _ _ (by omega)]
          exact ⟨d1, d2, d3, d4⟩
      · rw [m5, C2, z5, nI_add]
        congr 1
        exact (sum4 hf).symm
      · have := sum4 (w := w) (z := w0) hf
        dsimp only
        omega
  · have eb : bnI x (9 + f) c = up2 x (9 + f) 4 0 := by unfold bnI; rw [if_neg (by rw [hA]; exact ha)]
    rw [eb, rf_no ha]
    have hx : ∀ a q, ¬ (a = 9 + f ∧ q = 4) → up2 x (9 + f) 4 0 a q = x a q := fun a q h => if_neg h
    have hi : ∀ a q, ¬ (a = 91 ∧ q = 5 * f + 3) → up2 i 91 (5 * f + 3) 0 a q = i a q := fun a q h => if_neg h
    refine ⟨⟨?_, ?_, ?_, ?_⟩, ⟨?_, ?_, N3, ?_, ?_, N6, N7, ?_, ?_, N10⟩, fun d hd => DR_same (D d hd) (fun a h1 h2 => hx _ _ (by omega)) (fun q hq => hi _ _ (by omega)), fun g hg => ?_, CR_same ⟨a, w, C1, C2, C3⟩ (by omega) (fun g q hg hq => hx _ _ (by omega)) (hi _ _ (by omega))⟩
    · rw [hx _ _ (by omega), hi _ _ (by omega)]; exact P1
    · rw [hx _ _ (by omega), hi _ _ (by omega)]; exact P2
    · rw [hi _ _ (by omega)]; exact P3
    · rw [hi _ _ (by omega)]; exact P4
    · rw [hx _ _ (by omega)]; exact N1
    · rw [hi _ _ (by omega)]; exact N2
    · rw [hx _ _ (by omega)]; exact N4
    · rw [hi _ _ (by omega)]; exact N5
    · rw [hx _ _ (by omega)]; exact N8
    · rw [hi _ _ (by omega)]; exact N9
    · by_cases e : g = f
      · subst e
        have F2 := F g hg
        unfold FR at *
        rw [hx (9 + g) 0 (by omega), hx (9 + g) 1 (by omega), hx (9 + g) 2 (by omega), hx (9 + g) 3 (by omega), hx (9 + g) 5 (by omega), hi 91 (5 * g) (by omega), hi 91 (5 * g + 1) (by omega), hi 91 (5 * g + 2) (by omega), hi 91 (5 * g + 4) (by omega), (up2_eq : up2 x (9 + g) 4 0 (9 + g) 4 = 0), (up2_eq : up2 i 91 (5 * g + 3) 0 91 (5 * g + 3) = 0)]
        exact ⟨F2.1, F2.2.1, F2.2.2.1, rfl, Or.inl rfl, F2.2.2.2.2.2⟩
      · exact FR_same (F g hg) (fun q hq => hx _ _ (by omega)) (fun q hq => hi _ _ (by omega))
/-- refreshAll -/
theorem RP_ra (h : RP x i B c K n) : ∀ m, m ≤ 4 → raN c x m = rnL c i m ∧ RP (raF c x m) (raL c i m) (B + 31 * m) c K n
  | 0, _ => ⟨rfl, h⟩
  | m + 1, hm => by
    obtain ⟨h1, h2⟩ := RP_ra h m (by omega)
    obtain ⟨F1, F2, F3, F4, F5, F6⟩ := h2.2.2.2.1 m (by omega)
    have a1 : raN c x (m + 1) = if raF c x m (9 + m) 3 = 0 ∧ ¬ raF c x m (9 + m) 4 = 0 then raN c x m + 1 else raN c x m := rfl
    have a3 : raF c x (m + 1) = if raF c x m (9 + m) 3 = 0 ∧ ¬ raF c x m (9 + m) 4 = 0 then bnI (raF c x m) (9 + m) c else raF c x m := rfl
    have e : (raF c x m (9 + m) 3 = 0 ∧ ¬ raF c x m (9 + m) 4 = 0) ↔ (raL c i m 91 (5 * m + 2) = 0 ∧ raL c i m 91 (5 * m + 3) = 1) := by
      rw [F2, F4]
      constructor
      · rintro ⟨a, b⟩
        exact ⟨a, F5.resolve_left b⟩
      · rintro ⟨a, b⟩
        exact ⟨a, by rw [b]; decide⟩
    rw [a1, a3]
    by_cases hh : raL c i m 91 (5 * m + 2) = 0 ∧ raL c i m 91 (5 * m + 3) = 1
    · rw [if_pos (e.mpr hh), if_pos (e.mpr hh), (raL_y hh).1, (raL_y hh).2]
      refine ⟨by rw [h1], ?_⟩
      have h9 := RP_rf h2 (f := m) (by omega)
      exact RP_congr h9 (fun _ _ _ => rfl) (fun _ _ _ => rfl) (by omega)
    · rw [if_neg (fun z => hh (e.mp z)), if_neg (fun z => hh (e.mp z)), (raL_n hh).1, (raL_n hh).2]
      exact ⟨h1, RP_congr h2 (fun _ _ _ => rfl) (fun _ _ _ => rfl) (by omega)⟩
theorem rnL_nat : ∀ m, m ≤ 4 → ∃ p, p ≤ m ∧ rnL c i m = nI p
  | 0, _ => ⟨0, Nat.le_refl _, rfl⟩
  | m + 1, hm => by
    obtain ⟨p, hp, h⟩ := rnL_nat m (by omega)
    by_cases hh : raL c i m 91 (5 * m + 2) = 0 ∧ raL c i m 91 (5 * m + 3) = 1
    · exact ⟨p + 1, by omega, by rw [(raL_y hh).2, h, nI_1]⟩
    · exact ⟨p, by omega, by rw [(raL_n hh).2, h]⟩
theorem b01_add {u v : Int32} {p : Nat} (hu : u = nI p) (hv : b01 v) : u + v = (if v = 0 then u else u + 1) ∧ ∃ q, q ≤ p + 1 ∧ u + v = nI q := by
  rcases hv with rfl | rfl
  · exact ⟨by rw [if_pos rfl, Int32.add_zero], p, by omega, by rw [Int32.add_zero]; exact hu⟩
  · refine ⟨by rw [if_neg (by decide)], p + 1, by omega, by rw [hu]; exact nI_1 p⟩
theorem slN_lsl {x i : Nat → Nat → Int32} (h : ∀ f, f < 4 → x (9 + f) 3 = i 91 (5 * f + 2) ∧ b01 (i 91 (5 * f + 2))) : slN x 4 = lsl (i 91) ∧ ∃ p, p ≤ 4 ∧ lsl (i 91) = nI p := by
  obtain ⟨a0, b0⟩ := h 0 (by omega)
  obtain ⟨a1, b1⟩ := h 1 (by omega)
  obtain ⟨a2, b2⟩ := h 2 (by omega)
  obtain ⟨a3, b3⟩ := h 3 (by omega)
  have e0 : i 91 2 = x 9 3 := a0.symm
  have e1 : i 91 7 = x 10 3 := a1.symm
  have e2 : i 91 12 = x 11 3 := a2.symm
  have e3 : i 91 17 = x 12 3 := a3.symm
  rw [← a0] at b0
  rw [← a1] at b1
  rw [← a2] at b2
  rw [← a3] at b3
  unfold lsl
  rw [e0, e1, e2, e3]
  show (if x (9 + 3) 3 = 0 then (if x (9 + 2) 3 = 0 then (if x (9 + 1) 3 = 0 then (if x (9 + 0) 3 = 0 then 0 else 0 + 1) else (if x (9 + 0) 3 = 0 then 0 else 0 + 1) + 1) else (if x (9 + 1) 3 = 0 then (if x (9 + 0) 3 = 0 then 0 else 0 + 1) else (if x (9 + 0) 3 = 0 then 0 else 0 + 1) + 1) + 1) else (if x (9 + 2) 3 = 0 then (if x (9 + 1) 3 = 0 then (if x (9 + 0) 3 = 0 then 0 else 0 + 1) else (if x (9 + 0) 3 = 0 then 0 else 0 + 1) + 1) else (if x (9 + 1) 3 = 0 then (if x (9 + 0) 3 = 0 then 0 else 0 + 1) else (if x (9 + 0) 3 = 0 then 0 else 0 + 1) + 1) + 1) + 1) = _ ∧ _
  change x 9 3 = 0 ∨ x 9 3 = 1 at b0
  change x 10 3 = 0 ∨ x 10 3 = 1 at b1
  change x 11 3 = 0 ∨ x 11 3 = 1 at b2
  change x 12 3 = 0 ∨ x 12 3 = 1 at b3
  simp only [Nat.reduceAdd]
  rcases b0 with b0 | b0 <;> rcases b1 with b1 | b1 <;> rcases b2 with b2 | b2 <;> rcases b3 with b3 | b3 <;> rw [b0, b1, b2, b3] <;> first | exact ⟨by decide, 0, by omega, by decide⟩ | exact ⟨by decide, 1, by omega, by decide⟩ | exact ⟨by decide, 2, by omega, by decide⟩ | exact ⟨by decide, 3, by omega, by decide⟩ | exact ⟨by decide, 4, by omega, by decide⟩
end ANS
