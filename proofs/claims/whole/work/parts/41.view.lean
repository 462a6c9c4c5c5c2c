def FV (i : Nat → Nat → Int32) (f : Nat) : Prop := i (9 + f) 0 = i 90 (24 + 6 * f + 0) ∧ b01 (i 90 (24 + 6 * f + 0)) ∧ i (9 + f) 1 = i 90 (24 + 6 * f + 1) ∧ L30 (i 90 (24 + 6 * f + 1)) ∧
  (¬ i 90 (24 + 6 * f + 0) = 0 → i (9 + f) 2 = i 90 (24 + 6 * f + 2) ∧ ∃ e, e < 16 ∧ i 90 (24 + 6 * f + 2) = nI e) ∧ i (9 + f) 3 = i 90 (24 + 6 * f + 3) ∧ b01 (i 90 (24 + 6 * f + 3)) ∧ i (9 + f) 4 = i 90 (24 + 6 * f + 4) ∧ b01 (i 90 (24 + 6 * f + 4)) ∧ i (9 + f) 5 = i 90 (24 + 6 * f + 5)
def DV (i : Nat → Nat → Int32) (c n d : Nat) : Prop := i 4 d = i 90 (6 + 3 * d + 0) ∧ i 90 (6 + 3 * d + 0) = nI ((n + 16 - (c - d)) % 16) ∧ i 5 d = i 90 (6 + 3 * d + 1) ∧ L30 (i 90 (6 + 3 * d + 1)) ∧ i 6 d = i 90 (6 + 3 * d + 2) ∧ L30 (i 90 (6 + 3 * d + 2)) ∧ i 7 d = mco i d
def CV (i : Nat → Nat → Int32) (B : Nat) : Prop := ∃ a w : Nat → Nat, (∀ f, f < 4 → i (9 + f) 5 = nI (a f) ∧ i (9 + f) 6 = nI (w f) ∧ a f ≤ w f ∧ (a f = 0 → w f = 0)) ∧ i 90 5 = nI (w 0 + w 1 + w 2 + w 3) ∧ w 0 + w 1 + w 2 + w 3 ≤ B
/-- the live state, seen in the places of the memory -/
def LW9 (i : Nat → Nat → Int32) (B c K n : Nat) : Prop := (i 2 0 = i 90 0 ∧ i 2 1 = i 90 1 ∧ L30 (i 90 0) ∧ L30 (i 90 1)) ∧ (i 2 2 = nI n ∧ i 90 2 = nI n ∧ n < 16 ∧ i 3 4 = nI K ∧ i 90 3 = nI K ∧ 1 ≤ K ∧ K ≤ 6 ∧ i 3 5 = nI c ∧ i 90 4 = nI c ∧ c ≤ K) ∧ (∀ d, d < c → DV i c n d) ∧ (∀ f, f < 4 → FV i f) ∧ CV i B
theorem n89 (f : Nat) : 1 + (8 + f) = 9 + f := by omega
theorem LV_iff {i : Nat → Nat → Int32} {B : Nat} : LV i B ↔ ∃ c K n, LW9 i B c K n := by
  constructor
  · rintro ⟨c, K, n, D, N, KD0, F, a, w, C1, C2, C3⟩
    refine ⟨c, K, n, D, N, KD0, fun f hf => ?_, a, w, fun f hf => ?_, C2, C3⟩
    · have := F f hf
      unfold FO csA at this
      rw [n89] at this
      exact this
    · have := C1 f hf
      unfold csA at this
      rw [n89] at this
      exact this
  · rintro ⟨c, K, n, D, N, KD0, F, a, w, C1, C2, C3⟩
    refine ⟨c, K, n, D, N, KD0, fun f hf => ?_, a, w, fun f hf => ?_, C2, C3⟩
    · have := F f hf
      unfold FO csA
      rw [n89]
      exact this
    · have := C1 f hf
      unfold csA
      rw [n89]
      exact this
theorem stq_wit {x : Int32} : stq x ↔ wit x 0 29 := by
  constructor
  · rintro ⟨h1, h2⟩
    obtain ⟨p, hp, e⟩ := nI_of h1
    subst e
    have := mt (nI_leI (a := 30) (b := p) (by omega) (by omega)).mpr h2
    exact witq (b := 29) rfl (by omega) (by omega)
  · intro h
    obtain ⟨p, hp, e⟩ := wit_nI (b := 29) (by omega) h
    subst e
    exact stq_nI (by omega)
theorem foq_wit {x : Int32} : foq x ↔ wit x 0 3 := by
  constructor
  · rintro ⟨h1, h2⟩
    obtain ⟨p, hp, e⟩ := nI_of h1
    subst e
    have := mt (nI_leI (a := 4) (b := p) (by omega) (by omega)).mpr h2
    exact witq (b := 3) rfl (by omega) (by omega)
  · intro h
    obtain ⟨p, hp, e⟩ := wit_nI (b := 3) (by omega) h
    subst e
    exact foq_nI (by omega)
theorem edq_wit {x : Int32} : edq x ↔ wit x 0 15 := by
  constructor
  · rintro ⟨h1, h2⟩
    obtain ⟨p, hp, e⟩ := nI_of h1
    subst e
    have := mt (nI_leI (a := 16) (b := p) (by omega) (by omega)).mpr h2
    exact witq (b := 15) rfl (by omega) (by omega)
  · intro h
    obtain ⟨p, hp, e⟩ := wit_nI (b := 15) (by omega) h
    subst e
    exact edq_nI (by omega)
