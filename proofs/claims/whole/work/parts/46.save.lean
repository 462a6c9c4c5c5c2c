/-- the copy of the live block in row x -/
theorem cpS_in {i : Nat → Nat → Int32} {a k f : Nat} (h : (k = 1 ∧ f < 3) ∨ (k = 2 ∧ (f = 4 ∨ f = 5)) ∨ (3 ≤ k ∧ k ≤ 6 ∧ f < 6) ∨ (8 ≤ k ∧ k ≤ 11 ∧ f < 7)) (b : Nat) : cpS i a b 4 (a + k) f = i (b + k) f := by
  unfold cpS
  rcases h with ⟨rfl, h⟩ | ⟨rfl, h⟩ | ⟨h1, h2, h3⟩ | ⟨h1, h2, h3⟩
  · rw [if_neg (by omega)]
    unfold cpP
    rw [if_pos (by omega)]
  · rw [if_neg (by omega)]
    unfold cpP cpE
    rw [if_neg (by omega), if_pos (by omega)]
  · rw [if_neg (by omega)]
    unfold cpP cpE cpD
    rw [if_neg (by omega), if_neg (by omega), if_pos (by omega)]
    exact ieq (by omega) rfl
  · rw [if_pos (by omega)]
    exact ieq (by omega) rfl
theorem svI_row {i : Nat → Nat → Int32} {k f r : Nat} (hx : xN i < 6) (hr : r < 6) (h : (k = 1 ∧ f < 3) ∨ (k = 2 ∧ (f = 4 ∨ f = 5)) ∨ (3 ≤ k ∧ k ≤ 6 ∧ f < 6) ∨ (8 ≤ k ∧ k ≤ 11 ∧ f < 7)) : svI i (15 + 12 * r + k) f = if r = xN i then i (1 + k) f else i (15 + 12 * r + k) f := by
  unfold svI saveW
  rw [up2_ne (by omega), up2_ne (by omega)]
  by_cases e : r = xN i
  · rw [if_pos e, ← e]
    exact cpS_in h 1
  · rw [if_neg e]
    have h2 : xN i < r ∨ r < xN i := by omega
    rw [cpS_off (by omega)]
theorem msv_91 {i : Nat → Nat → Int32} {n f : Nat} : msv i n 91 f = if n < 6 then (if 48 * n ≤ f ∧ f < 48 * n + 48 then i 90 (f - 48 * n) else i 91 f) else (if 240 ≤ f ∧ f < 288 then i 90 (f - 240) else if f < 240 then i 91 (f + 48) else i 91 f) := by
  unfold msv
  by_cases h : n < 6
  · rw [if_pos h, if_pos h]
    unfold svC
    rw [up2_ne (by omega)]
    unfold cpW
    by_cases h2 : 48 * n ≤ f ∧ f < 48 * n + 48
    · rw [if_pos ⟨rfl, h2⟩, if_pos h2]
    · rw [if_neg (fun z => h2 z.2), if_neg h2]
  · rw [if_neg h, if_neg h]
    unfold svC
    rw [up2_ne (by omega)]
    unfold cpW
    by_cases h2 : 240 ≤ f ∧ f < 288
    · rw [if_pos (by omega), if_pos h2, up2_ne (by omega)]
      unfold shW
      rw [if_neg (by omega)]
    · rw [if_neg (by omega), if_neg h2, up2_ne (by omega)]
      unfold shW
      by_cases h3 : f < 240
      · rw [if_pos ⟨rfl, h3⟩, if_pos h3]
      · rw [if_neg (fun z => h3 z.2), if_neg h3]
theorem msv_3 {i : Nat → Nat → Int32} {n : Nat} (h : n ≤ 6) : msv i n 89 3 = nI (min (n + 1) 6) := by
  unfold msv
  by_cases h1 : n < 6
  · rw [if_pos h1]
    unfold svC
    rw [up2_eq]
    congr 1; omega
  · rw [if_neg h1]
    unfold svC
    rw [up2_eq]
    congr 1; omega
/-- after a save on both sides the rows and the slots agree again -/
theorem save_SA {i i2 : Nat → Nat → Int32} {B B' s : Nat} (hB : B ≤ B') (I : LV i B) (S : SA i B) (hs : i 89 3 = nI s) (hs6 : s ≤ 6) (hC : ∀ a f, 13 ≤ a → a < 87 → i2 a f = svI i a f) (hM : ∀ f, i2 91 f = msv i s 91 f) (h3 : i2 89 3 = nI (min (s + 1) 6)) : SA i2 B' := by
  obtain ⟨s0, x, S1, S2, S3, S4, S5, S6⟩ := S
  have e0 : s0 = s := (nI_eq (by omega) (by omega)).mp (S5.symm.trans hs)
  subst e0
  have ex : xN i = x := by unfold xN; rw [S1]; exact nI_clamp (by omega)
  have es : sN i = s0 := by unfold sN; rw [S3]; exact nI_clamp (by omega)
  refine ⟨min (s0 + 1) 6, (x + 1) % 6, ?_, by omega, ?_, by omega, h3, fun m hm => ?_⟩
  · rw [hC _ _ (by omega) (by omega)]
    unfold svI saveW
    rw [up2_nf (by omega), up2_eq, ex]
  · rw [hC _ _ (by omega) (by omega)]
    unfold svI saveW
    rw [up2_eq, es]
  · have hrow : ∀ r k f, r < 6 → ((k = 1 ∧ f < 3) ∨ (k = 2 ∧ (f = 4 ∨ f = 5)) ∨ (3 ≤ k ∧ k ≤ 6 ∧ f < 6) ∨ (8 ≤ k ∧ k ≤ 11 ∧ f < 7)) → i2 (15 + 12 * r + k) f = if r = x then i (1 + k) f else i (15 + 12 * r + k) f := fun r k f hr h => by
      rw [hC _ _ (by omega) (by omega), svI_row (by omega) hr h, ex]
    by_cases h6 : s0 < 6
    · by_cases hms : m = s0
      · refine RS_congr (cs := csA i 1) (ms := msA i 90 0) (fun k f hk => ?_) (fun f hf => ?_) hB I
        · show i2 (15 + 12 * (((x + 1) % 6 + 6 - min (s0 + 1) 6 + m) % 6) + k) f = i (1 + k) f
          rw [hrow _ k f (Nat.mod_lt _ (by omega)) hk, if_pos (by omega)]
        · show i2 91 (f + 48 * m) = i 90 (f + 0)
          rw [hM, msv_91, if_pos h6, if_pos (by omega)]
          exact ieq rfl (by omega)
      · refine RS_congr (fun k f hk => ?_) (fun f hf => ?_) hB (S6 m (by omega))
        · show i2 (15 + 12 * (((x + 1) % 6 + 6 - min (s0 + 1) 6 + m) % 6) + k) f = i (15 + 12 * ((x + 6 - s0 + m) % 6) + k) f
          rw [hrow _ k f (Nat.mod_lt _ (by omega)) hk, if_neg (by omega)]
          exact ieq (by omega) rfl
        · show i2 91 (f + 48 * m) = i 91 (f + 48 * m)
          rw [hM, msv_91, if_pos h6, if_neg (by omega)]
    · have hs0 : s0 = 6 := by omega
      subst hs0
      by_cases hms : m = 5
      · refine RS_congr (cs := csA i 1) (ms := msA i 90 0) (fun k f hk => ?_) (fun f hf => ?_) hB I
        · show i2 (15 + 12 * (((x + 1) % 6 + 6 - min (6 + 1) 6 + m) % 6) + k) f = i (1 + k) f
          rw [hrow _ k f (Nat.mod_lt _ (by omega)) hk, if_pos (by omega)]
        · show i2 91 (f + 48 * m) = i 90 (f + 0)
          rw [hM, msv_91, if_neg h6, if_pos (by omega)]
          exact ieq rfl (by omega)
      · refine RS_congr (fun k f hk => ?_) (fun f hf => ?_) hB (S6 (m + 1) (by omega))
        · show i2 (15 + 12 * (((x + 1) % 6 + 6 - min (6 + 1) 6 + m) % 6) + k) f = i (15 + 12 * ((x + 6 - 6 + (m + 1)) % 6) + k) f
          rw [hrow _ k f (Nat.mod_lt _ (by omega)) hk, if_neg (by omega)]
          exact ieq (by omega) rfl
        · show i2 91 (f + 48 * m) = i 91 (f + 48 * (m + 1))
          rw [hM, msv_91, if_neg h6, if_neg (by omega), if_pos (by omega)]
          exact ieq rfl (by omega)
