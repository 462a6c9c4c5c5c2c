theorem mgv_at {i : Nat → Nat → Int32} {f : Nat} : ∀ m, mgv i m 90 (24 + 6 * f + 4) = if f < m ∧ i 90 (24 + 6 * f + 3) = 0 then 1 else i 90 (24 + 6 * f + 4)
  | 0 => by rw [if_neg (by omega)]; rfl
  | m + 1 => by
    have e3 : mgv i m 90 (24 + 6 * m + 3) = i 90 (24 + 6 * m + 3) := mgv_oth (by omega)
    show (if mgv i m 90 (24 + 6 * m + 3) = 0 then up2 (mgv i m) 90 (24 + 6 * m + 4) 1 else mgv i m) 90 (24 + 6 * f + 4) = _
    rw [e3]
    by_cases h : f = m
    · subst h
      by_cases h2 : i 90 (24 + 6 * f + 3) = 0
      · rw [if_pos h2, up2_eq, if_pos ⟨by omega, h2⟩]
      · rw [if_neg h2, mgv_at f, if_neg (by omega), if_neg (fun z => h2 z.2)]
    · have key : (if i 90 (24 + 6 * m + 3) = 0 then up2 (mgv i m) 90 (24 + 6 * m + 4) 1 else mgv i m) 90 (24 + 6 * f + 4) = mgv i m 90 (24 + 6 * f + 4) := by
        split
        · exact up2_nf (by omega)
        · rfl
      rw [key, mgv_at m]
      by_cases h2 : f < m ∧ i 90 (24 + 6 * f + 3) = 0
      · rw [if_pos h2, if_pos ⟨by omega, h2.2⟩]
      · rw [if_neg h2, if_neg (fun z => h2 ⟨by omega, z.2⟩)]
/-- a notice is given on both sides -/
theorem FV_gn {i i2 : Nat → Nat → Int32} {f : Nat} (hf : f < 4) (h : FV i f) (hP : ∀ q, q < 6 → i2 (9 + f) q = gnF i 4 (9 + f) q) (hM : ∀ q, q < 6 → i2 90 (24 + 6 * f + q) = mgv i 4 90 (24 + 6 * f + q)) : FV i2 f := by
  have c : ∀ q, q < 6 → q ≠ 4 → i2 (9 + f) q = i (9 + f) q := fun q h1 h2 => (hP q h1).trans (gnF_oth (by omega))
  have m : ∀ q, q < 6 → q ≠ 4 → i2 90 (24 + 6 * f + q) = i 90 (24 + 6 * f + q) := fun q h1 h2 => (hM q h1).trans (mgv_oth (by omega))
  obtain ⟨F1, F2, F3, F4, F5, F6, F7, F8, F9, F10⟩ := h
  have c4 : i2 (9 + f) 4 = if i 90 (24 + 6 * f + 3) = 0 then 1 else i 90 (24 + 6 * f + 4) := by
    rw [hP 4 (by omega)]
    unfold gnF
    rw [F6, F8]
    by_cases h2 : i 90 (24 + 6 * f + 3) = 0
    · rw [if_pos ⟨by omega, by omega, rfl, h2⟩, if_pos h2]
    · rw [if_neg (fun z => h2 z.2.2.2), if_neg h2]
  have m4 : i2 90 (24 + 6 * f + 4) = if i 90 (24 + 6 * f + 3) = 0 then 1 else i 90 (24 + 6 * f + 4) := by
    rw [hM 4 (by omega), mgv_at]
    by_cases h2 : i 90 (24 + 6 * f + 3) = 0
    · rw [if_pos ⟨hf, h2⟩, if_pos h2]
    · rw [if_neg (fun z => h2 z.2), if_neg h2]
  unfold FV
  rw [c 0 (by omega) (by omega), c 1 (by omega) (by omega), c 2 (by omega) (by omega), c 3 (by omega) (by omega), c 5 (by omega) (by omega), m 0 (by omega) (by omega), m 1 (by omega) (by omega), m 2 (by omega) (by omega), m 3 (by omega) (by omega), m 5 (by omega) (by omega), c4, m4]
  refine ⟨F1, F2, F3, F4, F5, F6, F7, rfl, ?_, F10⟩
  split
  · exact Or.inr rfl
  · exact F9
