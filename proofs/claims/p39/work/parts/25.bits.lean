/-! ===== counting bits: Integer.bitCount and the reference's loop ===== -/
theorem pq_and {a m u v : Nat} (ha : a < 256) (hu : u < 256) : (a + 256 * m) &&& (u + 256 * v) = (a &&& u) + 256 * (m &&& v) := by
  have hau : a &&& u < 2 ^ 8 := Nat.and_lt_two_pow a hu
  apply Nat.eq_of_testBit_eq
  intro j
  rw [Nat.testBit_and, show a + 256 * m = 2 ^ 8 * m + a by omega, show u + 256 * v = 2 ^ 8 * v + u by omega, show (a &&& u) + 256 * (m &&& v) = 2 ^ 8 * (m &&& v) + (a &&& u) by omega, Nat.testBit_two_pow_mul_add m ha, Nat.testBit_two_pow_mul_add v hu, Nat.testBit_two_pow_mul_add (m &&& v) hau]
  split <;> rw [Nat.testBit_and]
theorem pq_lo {b q u k : Nat} (hb : b < 2 ^ k) (hu : u < 2 ^ k) : (2 ^ k * q + b) &&& u = b &&& u := by
  apply Nat.eq_of_testBit_eq
  intro j
  rw [Nat.testBit_and, Nat.testBit_and, Nat.testBit_two_pow_mul_add q hb]
  split
  · rfl
  · rename_i h
    have h2 : u.testBit j = false := Nat.testBit_lt_two_pow (Nat.lt_of_lt_of_le hu (Nat.pow_le_pow_right (by decide) (by omega)))
    rw [h2, Bool.and_false, Bool.and_false]
def p1 (M n : Nat) : Nat := n - (n / 2 &&& M)
def p2 (M n : Nat) : Nat := (n &&& M) + (n / 4 &&& M)
def p3 (M n : Nat) : Nat := (n + n / 16) &&& M
theorem p1_s {a m v : Nat} (ha : a < 256) : p1 (85 + 256 * v) (a + 256 * m) = p1 85 a + 256 * p1 v m := by
  unfold p1
  rw [show (a + 256 * m) / 2 = (2 ^ 7 * (m % 2) + a / 2) + 256 * (m / 2) by omega, pq_and (by omega) (by omega), pq_lo (k := 7) (by omega) (by omega)]
  have h1 : a / 2 &&& 85 ≤ a / 2 := Nat.and_le_left
  have h2 : m / 2 &&& v ≤ m / 2 := Nat.and_le_left
  omega
theorem p2_s {a m v : Nat} (ha : a < 256) : p2 (51 + 256 * v) (a + 256 * m) = p2 51 a + 256 * p2 v m := by
  unfold p2
  rw [pq_and ha (by omega), show (a + 256 * m) / 4 = (2 ^ 6 * (m % 4) + a / 4) + 256 * (m / 4) by omega, pq_and (by omega) (by omega), pq_lo (k := 6) (by omega) (by omega)]
  omega
theorem p3_s {a m v : Nat} (ha : a ≤ 68) (hm : m % 16 ≤ 4) : p3 (15 + 256 * v) (a + 256 * m) = p3 15 a + 256 * p3 v m := by
  unfold p3
  rw [show a + 256 * m + (a + 256 * m) / 16 = (a + a / 16 + 16 * (m % 16)) + 256 * (m + m / 16) by omega, pq_and (by omega) (by omega)]
  have h1 : a + a / 16 + 16 * (m % 16) &&& 15 = (a + a / 16 + 16 * (m % 16)) % 2 ^ 4 := Nat.and_two_pow_sub_one_eq_mod _ 4
  have h2 : a + a / 16 &&& 15 = (a + a / 16) % 2 ^ 4 := Nat.and_two_pow_sub_one_eq_mod _ 4
  rw [h1, h2]
  omega
/-- the ones of n below the place m -/
def pop (n : Nat) : Nat → Nat
  | 0 => 0
  | m + 1 => pop n m + n / 2 ^ m % 2
theorem p_byte : ∀ a, a < 256 → p1 85 a < 256 ∧ p2 51 (p1 85 a) ≤ 68 ∧ p2 51 (p1 85 a) % 16 ≤ 4 ∧ p3 15 (p2 51 (p1 85 a)) = pop a 8 ∧ pop a 8 ≤ 8 := by decide +kernel
theorem p_all {a b c d : Nat} (ha : a < 256) (hb : b < 256) (hc : c < 256) (hd : d < 256) :
    p3 252645135 (p2 858993459 (p1 1431655765 (a + 256 * (b + 256 * (c + 256 * d))))) = pop a 8 + 256 * (pop b 8 + 256 * (pop c 8 + 256 * pop d 8)) := by
  obtain ⟨a1, a2, a3, a4, -⟩ := p_byte a ha
  obtain ⟨b1, b2, b3, b4, -⟩ := p_byte b hb
  obtain ⟨c1, c2, c3, c4, -⟩ := p_byte c hc
  obtain ⟨d1, d2, d3, d4, -⟩ := p_byte d hd
  rw [show (1431655765 : Nat) = 85 + 256 * (85 + 256 * (85 + 256 * 85)) from rfl, show (858993459 : Nat) = 51 + 256 * (51 + 256 * (51 + 256 * 51)) from rfl, show (252645135 : Nat) = 15 + 256 * (15 + 256 * (15 + 256 * 15)) from rfl]
  rw [p1_s ha, p1_s hb, p1_s hc, p2_s a1, p2_s b1, p2_s c1, p3_s a2 (by omega), p3_s b2 (by omega), p3_s c2 (by omega), a4, b4, c4, d4]
theorem pop_split {n k : Nat} : ∀ m, pop n (k + m) = pop n k + pop (n / 2 ^ k) m
  | 0 => rfl
  | m + 1 => by
    show pop n (k + m) + n / 2 ^ (k + m) % 2 = _
    rw [pop_split m]
    show _ = pop n k + (pop (n / 2 ^ k) m + n / 2 ^ k / 2 ^ m % 2)
    rw [Nat.div_div_eq_div_mul, ← Nat.pow_add]
    omega
theorem pop_mod {n k : Nat} : ∀ m, m ≤ k → pop n m = pop (n % 2 ^ k) m
  | 0, _ => rfl
  | m + 1, h => by
    show pop n m + n / 2 ^ m % 2 = pop (n % 2 ^ k) m + n % 2 ^ k / 2 ^ m % 2
    rw [pop_mod (k := k) m (by omega)]
    congr 1
    have h1 : (n % 2 ^ k).testBit m = n.testBit m := by rw [Nat.testBit_mod_two_pow, decide_eq_true (by omega), Bool.true_and]
    have e : ∀ q : Nat, q / 2 ^ m % 2 = (q.testBit m).toNat := fun q => by rw [Nat.testBit_eq_decide_div_mod_eq]; rcases Nat.mod_two_eq_zero_or_one (q / 2 ^ m) with z | z <;> rw [z] <;> rfl
    rw [e, e, h1]
theorem pop_le {n : Nat} : ∀ m, pop n m ≤ m
  | 0 => Nat.le_refl _
  | m + 1 => by
    show pop n m + n / 2 ^ m % 2 ≤ m + 1
    have := pop_le (n := n) m
    omega
theorem pop_32 {n : Nat} (h : n < 2 ^ 32) : ∃ a b c d, a < 256 ∧ b < 256 ∧ c < 256 ∧ d < 256 ∧ n = a + 256 * (b + 256 * (c + 256 * d)) ∧ pop n 32 = pop a 8 + pop b 8 + pop c 8 + pop d 8 := by
  refine ⟨n % 256, n / 256 % 256, n / 65536 % 256, n / 16777216, by omega, by omega, by omega, by omega, by omega, ?_⟩
  have h1 : pop n 32 = pop n 8 + pop (n / 2 ^ 8) 24 := pop_split (n := n) (k := 8) 24
  have h2 : pop (n / 2 ^ 8) 24 = pop (n / 2 ^ 8) 8 + pop (n / 2 ^ 8 / 2 ^ 8) 16 := pop_split (n := n / 2 ^ 8) (k := 8) 16
  have h3 : pop (n / 2 ^ 8 / 2 ^ 8) 16 = pop (n / 2 ^ 8 / 2 ^ 8) 8 + pop (n / 2 ^ 8 / 2 ^ 8 / 2 ^ 8) 8 := pop_split (n := n / 2 ^ 8 / 2 ^ 8) (k := 8) 8
  have h4 := pop_mod (n := n) (k := 8) 8 (by omega)
  have h5 := pop_mod (n := n / 2 ^ 8) (k := 8) 8 (by omega)
  have h6 := pop_mod (n := n / 2 ^ 8 / 2 ^ 8) (k := 8) 8 (by omega)
  rw [show n / 2 ^ 8 / 2 ^ 8 = n / 65536 by omega] at h2 h3 h6
  rw [show n / 65536 / 2 ^ 8 = n / 16777216 by omega] at h3
  rw [show n % 2 ^ 8 = n % 256 from rfl] at h4
  rw [show n / 2 ^ 8 % 2 ^ 8 = n / 256 % 256 from rfl] at h5
  rw [show n / 65536 % 2 ^ 8 = n / 65536 % 256 from rfl] at h6
  omega
theorem nb_and (a b : Nat) : nI a &&& nI b = nI (a &&& b) := by
  apply Int32.toBitVec_inj.mp
  rw [Int32.toBitVec_and]
  show BitVec.ofNat 32 a &&& BitVec.ofNat 32 b = BitVec.ofNat 32 (a &&& b)
  apply BitVec.eq_of_toNat_eq
  rw [BitVec.toNat_and, BitVec.toNat_ofNat, BitVec.toNat_ofNat, BitVec.toNat_ofNat, Nat.and_mod_two_pow]
theorem nb_of (x : Int32) : ∃ n, n < 2 ^ 32 ∧ x = nI n := ⟨x.toBitVec.toNat, x.toBitVec.isLt, Int32.toBitVec_inj.mp (by show _ = BitVec.ofNat 32 _; simp)⟩
theorem nb_sl : ∀ l, l < 32 → (((nI l).toUInt32 &&& Int32.toUInt32 31).toBitVec % 32).toNat = l := by decide +kernel
theorem nb_ush {n l : Nat} (hn : n < 2 ^ 32) (hl : l < 32) : ushI (nI n) (nI l) = nI (n / 2 ^ l) := by
  apply Int32.toBitVec_inj.mp
  apply BitVec.eq_of_toNat_eq
  show (((nI n).toUInt32 >>> ((nI l).toUInt32 &&& Int32.toUInt32 31)).toBitVec).toNat = (BitVec.ofNat 32 (n / 2 ^ l)).toNat
  rw [UInt32.toBitVec_shiftRight, BitVec.ushiftRight_eq', BitVec.toNat_ushiftRight, nb_sl l hl, BitVec.toNat_ofNat, Nat.shiftRight_eq_div_pow]
  show (BitVec.ofNat 32 n).toNat / 2 ^ l = _
  rw [BitVec.toNat_ofNat, Nat.mod_eq_of_lt hn, Nat.mod_eq_of_lt (Nat.lt_of_le_of_lt (Nat.div_le_self _ _) hn)]
theorem bcI_pop {n : Nat} (h : n < 2 ^ 32) : bcI (nI n) = nI (pop n 32) := by
  obtain ⟨a, b, c, d, ha, hb, hc, hd, hn, hp⟩ := pop_32 h
  have h8 : ∀ q : Nat, q < 256 → pop q 8 ≤ 8 := fun q hq => (p_byte q hq).2.2.2.2
  have a8 := h8 a ha
  have b8 := h8 b hb
  have c8 := h8 c hc
  have d8 := h8 d hd
  have hall := p_all ha hb hc hd
  rw [← hn] at hall
  have e1 : bc1 (nI n) = nI (p1 1431655765 n) := by
    unfold bc1 p1
    rw [show (1 : Int32) = nI 1 from rfl, nb_ush h (by omega), show (1431655765 : Int32) = nI 1431655765 from rfl, nb_and, pk_sub (Nat.le_trans Nat.and_le_left (Nat.div_le_self _ _))]
  have l1 : p1 1431655765 n < 2 ^ 32 := by unfold p1; omega
  have e2 : bc2 (nI (p1 1431655765 n)) = nI (p2 858993459 (p1 1431655765 n)) := by
    unfold bc2 p2
    rw [show (2 : Int32) = nI 2 from rfl, nb_ush l1 (by omega), show (858993459 : Int32) = nI 858993459 from rfl, nb_and, nb_and, nI_add]
  have l2 : p2 858993459 (p1 1431655765 n) < 2 ^ 31 := by
    unfold p2
    have z1 : p1 1431655765 n &&& 858993459 ≤ 858993459 := Nat.and_le_right
    have z2 : p1 1431655765 n / 4 &&& 858993459 ≤ 858993459 := Nat.and_le_right
    omega
  have e3 : bc3 (nI (p2 858993459 (p1 1431655765 n))) = nI (p3 252645135 (p2 858993459 (p1 1431655765 n))) := by
    unfold bc3 p3
    rw [show (4 : Int32) = nI 4 from rfl, nb_ush (by omega) (by omega), nI_add, show (252645135 : Int32) = nI 252645135 from rfl, nb_and]
  unfold bcI
  rw [e1, e2, e3, hall]
  have e4 : bc4 (nI (pop a 8 + 256 * (pop b 8 + 256 * (pop c 8 + 256 * pop d 8)))) = nI (pop a 8 + 256 * (pop b 8 + 256 * (pop c 8 + 256 * pop d 8)) + (pop a 8 + 256 * (pop b 8 + 256 * (pop c 8 + 256 * pop d 8))) / 2 ^ 8) := by
    unfold bc4
    rw [show (8 : Int32) = nI 8 from rfl, nb_ush (by omega) (by omega), nI_add]
  rw [e4]
  have e5 : bc5 (nI (pop a 8 + 256 * (pop b 8 + 256 * (pop c 8 + 256 * pop d 8)) + (pop a 8 + 256 * (pop b 8 + 256 * (pop c 8 + 256 * pop d 8))) / 2 ^ 8)) = nI ((pop a 8 + 256 * (pop b 8 + 256 * (pop c 8 + 256 * pop d 8)) + (pop a 8 + 256 * (pop b 8 + 256 * (pop c 8 + 256 * pop d 8))) / 2 ^ 8) + (pop a 8 + 256 * (pop b 8 + 256 * (pop c 8 + 256 * pop d 8)) + (pop a 8 + 256 * (pop b 8 + 256 * (pop c 8 + 256 * pop d 8))) / 2 ^ 8) / 2 ^ 16) := by
    unfold bc5
    rw [show (16 : Int32) = nI 16 from rfl, nb_ush (by omega) (by omega), nI_add]
  rw [e5, show (63 : Int32) = nI 63 from rfl, nb_and, show (63 : Nat) = 2 ^ 6 - 1 from rfl, Nat.and_two_pow_sub_one_eq_mod, hp]
  congr 1
  clear e1 e2 e3 e4 e5 hall l1 l2 hp hn
  generalize pop a 8 = P at *
  generalize pop b 8 = Q at *
  generalize pop c 8 = R at *
  generalize pop d 8 = T at *
  rw [show (P + 256 * (Q + 256 * (R + 256 * T))) / 2 ^ 8 = Q + 256 * (R + 256 * T) by omega, show (P + 256 * (Q + 256 * (R + 256 * T)) + (Q + 256 * (R + 256 * T))) / 2 ^ 16 = R + T + 256 * T by omega]
  omega
theorem nb_or (a b : Nat) : nI a ||| nI b = nI (a ||| b) := by
  apply Int32.toBitVec_inj.mp
  rw [Int32.toBitVec_or]
  show BitVec.ofNat 32 a ||| BitVec.ofNat 32 b = BitVec.ofNat 32 (a ||| b)
  apply BitVec.eq_of_toNat_eq
  rw [BitVec.toNat_or, BitVec.toNat_ofNat, BitVec.toNat_ofNat, BitVec.toNat_ofNat, Nat.or_mod_two_pow]
theorem nb_xor (a b : Nat) : nI a ^^^ nI b = nI (a ^^^ b) := by
  apply Int32.toBitVec_inj.mp
  rw [Int32.toBitVec_xor]
  show BitVec.ofNat 32 a ^^^ BitVec.ofNat 32 b = BitVec.ofNat 32 (a ^^^ b)
  apply BitVec.eq_of_toNat_eq
  rw [BitVec.toNat_xor, BitVec.toNat_ofNat, BitVec.toNat_ofNat, BitVec.toNat_ofNat, Nat.xor_mod_two_pow]
theorem nb_ss : ∀ l, l < 32 → ((nI l &&& 31).toBitVec.smod 32).toNat = l := by decide +kernel
theorem nb_sshr {n l : Nat} (hn : n < 2 ^ 31) (hl : l < 32) : nI n >>> (nI l &&& 31) = nI (n / 2 ^ l) := by
  apply Int32.toBitVec_inj.mp
  rw [Int32.toBitVec_shiftRight]
  show ((nI n).toBitVec.sshiftRight ((nI l &&& 31).toBitVec.smod 32).toNat) = BitVec.ofNat 32 (n / 2 ^ l)
  rw [nb_ss l hl]
  have hm : (BitVec.ofNat 32 n).msb = false := by
    rw [BitVec.msb_eq_decide, BitVec.toNat_ofNat]
    exact decide_eq_false (by omega)
  show (BitVec.ofNat 32 n).sshiftRight l = _
  rw [BitVec.sshiftRight_eq_of_msb_false hm]
  apply BitVec.eq_of_toNat_eq
  rw [BitVec.toNat_ushiftRight, BitVec.toNat_ofNat, BitVec.toNat_ofNat, Nat.shiftRight_eq_div_pow, Nat.mod_eq_of_lt (by omega), Nat.mod_eq_of_lt (Nat.lt_of_le_of_lt (Nat.div_le_self _ _) (by omega))]
theorem mbt_nI {n l : Nat} (hn : n < 2 ^ 31) (hl : l < 32) : mbt (nI n) (nI l) = nI (n / 2 ^ l % 2) := by
  unfold mbt
  rw [nb_sshr hn hl, show (1 : Int32) = nI 1 from rfl, nb_and, show (1 : Nat) = 2 ^ 1 - 1 from rfl, Nat.and_two_pow_sub_one_eq_mod]
theorem onF_pop {n : Nat} (hn : n < 2 ^ 31) : ∀ m, m ≤ 31 → onF (nI n) m = nI (pop n m)
  | 0, _ => rfl
  | m + 1, h => by
    show onF (nI n) m + mbt (nI n) (nI m) = nI (pop n m + n / 2 ^ m % 2)
    rw [onF_pop hn m (by omega), mbt_nI hn (by omega), nI_add]
/-- a list of streets -/
def L30 (x : Int32) : Prop := ∃ n, n < 2 ^ 30 ∧ x = nI n
theorem pop_30 {n : Nat} (h : n < 2 ^ 30) : pop n 32 = pop n 30 := by
  have h1 : pop n 32 = pop n 30 + pop (n / 2 ^ 30) 2 := pop_split (n := n) (k := 30) 2
  rw [h1, Nat.div_eq_of_lt h]
  rfl
theorem bc_one {x : Int32} (h : L30 x) : bcI x = one x := by
  obtain ⟨n, hn, rfl⟩ := h
  rw [bcI_pop (by omega), pop_30 hn]
  exact (onF_pop (by omega) 30 (by omega)).symm
theorem L30_0 : L30 0 := ⟨0, by decide, rfl⟩
theorem L30_or {x y : Int32} (hx : L30 x) (hy : L30 y) : L30 (x ||| y) := by
  obtain ⟨a, ha, rfl⟩ := hx
  obtain ⟨b, hb, rfl⟩ := hy
  exact ⟨a ||| b, Nat.or_lt_two_pow ha hb, nb_or a b⟩
theorem L30_xor {x y : Int32} (hx : L30 x) (hy : L30 y) : L30 (x ^^^ y) := by
  obtain ⟨a, ha, rfl⟩ := hx
  obtain ⟨b, hb, rfl⟩ := hy
  exact ⟨a ^^^ b, Nat.xor_lt_two_pow ha hb, nb_xor a b⟩
theorem L30_and {x y : Int32} (hx : L30 x) : L30 (x &&& y) := by
  obtain ⟨a, ha, rfl⟩ := hx
  obtain ⟨b, hb, rfl⟩ := nb_of y
  exact ⟨a &&& b, Nat.lt_of_le_of_lt Nat.and_le_left ha, nb_and a b⟩
theorem shl_nI : ∀ v, v < 30 → (1 : Int32) <<< (nI v &&& 31) = nI (2 ^ v) := by decide +kernel
theorem L30_shl {v : Nat} (h : v < 30) : L30 ((1 : Int32) <<< (nI v &&& 31)) := ⟨2 ^ v, Nat.pow_lt_pow_right (by decide) h, shl_nI v h⟩
theorem tb_div (n v : Nat) : n / 2 ^ v % 2 = (n.testBit v).toNat := by
  rw [Nat.testBit_eq_decide_div_mod_eq]
  rcases Nat.mod_two_eq_zero_or_one (n / 2 ^ v) with z | z <;> rw [z] <;> rfl
theorem and_pow {n v : Nat} : n &&& 2 ^ v = 2 ^ v * (n.testBit v).toNat := by
  apply Nat.eq_of_testBit_eq
  intro j
  rw [Nat.testBit_and, Nat.testBit_two_pow]
  cases ht : n.testBit v with
  | true =>
    show _ = (2 ^ v * 1).testBit j
    rw [Nat.mul_one, Nat.testBit_two_pow]
    by_cases hj : v = j
    · subst hj; rw [ht]; simp
    · simp [hj]
  | false =>
    show _ = (2 ^ v * 0).testBit j
    rw [Nat.mul_zero, Nat.zero_testBit]
    by_cases hj : v = j
    · subst hj; rw [ht]; simp
    · simp [hj]
theorem bit_mbt {x : Int32} (hx : L30 x) {v : Nat} (h : v < 30) : (bit x (nI v) = 0 ↔ mbt x (nI v) = 0) ∧ (¬ bit x (nI v) = 0 ↔ mbt x (nI v) = 1) := by
  obtain ⟨n, hn, rfl⟩ := hx
  have e1 : bit (nI n) (nI v) = nI (n &&& 2 ^ v) := by unfold bit; rw [shl_nI v h, nb_and]
  have hp : 2 ^ v < 2 ^ 30 := Nat.pow_lt_pow_right (by decide) h
  have hp0 : 0 < 2 ^ v := Nat.two_pow_pos v
  rw [e1, mbt_nI (by omega) (by omega), tb_div, and_pow]
  cases n.testBit v
  · exact ⟨⟨fun _ => rfl, fun _ => rfl⟩, ⟨fun z => absurd rfl z, fun z => absurd z (by decide)⟩⟩
  · have h1 : ¬ nI (2 ^ v * 1) = 0 := nI_ne0 (by omega) (by omega)
    exact ⟨⟨fun z => absurd z h1, fun z => absurd z (by decide)⟩, ⟨fun _ => rfl, fun _ => h1⟩⟩
theorem add_xor {x : Int32} (hx : L30 x) {v : Nat} (h : v < 30) (hb : bit x (nI v) = 0) : x ||| ((1 : Int32) <<< (nI v &&& 31)) = x ^^^ ((1 : Int32) <<< (nI v &&& 31)) := by
  have h2 := (bit_mbt hx h).1.mp hb
  obtain ⟨n, hn, rfl⟩ := hx
  rw [mbt_nI (by omega) (by omega), tb_div] at h2
  have ht : n.testBit v = false := by cases ht : n.testBit v with
    | false => rfl
    | true => rw [ht] at h2; exact absurd h2 (by decide)
  rw [shl_nI v h, nb_or, nb_xor]
  congr 1
  apply Nat.eq_of_testBit_eq
  intro j
  rw [Nat.testBit_or, Nat.testBit_xor, Nat.testBit_two_pow]
  by_cases hj : v = j
  · subst hj; rw [ht]; simp
  · simp [hj]
theorem out_xor {x : Int32} (hx : L30 x) {v : Nat} (h : v < 30) (hb : ¬ bit x (nI v) = 0) : x &&& (((1 : Int32) <<< (nI v &&& 31)) ^^^ (-1)) = x ^^^ ((1 : Int32) <<< (nI v &&& 31)) := by
  have h2 := (bit_mbt hx h).2.mp hb
  obtain ⟨n, hn, rfl⟩ := hx
  rw [mbt_nI (by omega) (by omega), tb_div] at h2
  have ht : n.testBit v = true := by cases ht : n.testBit v with
    | true => rfl
    | false => rw [ht] at h2; exact absurd h2 (by decide)
  rw [shl_nI v h, show (-1 : Int32) = nI (2 ^ 32 - 1) from rfl, nb_xor, nb_and, nb_xor]
  congr 1
  apply Nat.eq_of_testBit_eq
  intro j
  rw [Nat.testBit_and, Nat.testBit_xor, Nat.testBit_xor, Nat.testBit_two_pow, Nat.testBit_two_pow_sub_one]
  by_cases hj : v = j
  · subst hj; rw [ht]; simp; omega
  · by_cases h32 : j < 32
    · simp [hj, h32]
    · rw [Nat.testBit_lt_two_pow (Nat.lt_of_lt_of_le hn (Nat.pow_le_pow_right (by decide) (by omega)))]
      simp [hj]
/-- two lists with no street in common -/
theorem pop_or {a b : Nat} (h : a &&& b = 0) : ∀ m, pop (a ||| b) m = pop a m + pop b m
  | 0 => rfl
  | m + 1 => by
    show pop (a ||| b) m + (a ||| b) / 2 ^ m % 2 = pop a m + a / 2 ^ m % 2 + (pop b m + b / 2 ^ m % 2)
    rw [pop_or h m, tb_div, tb_div, tb_div, Nat.testBit_or]
    have h2 : (a &&& b).testBit m = false := by rw [h]; exact Nat.zero_testBit m
    rw [Nat.testBit_and] at h2
    cases ha : a.testBit m <;> cases hb : b.testBit m <;> rw [ha, hb] at h2 <;> first | exact absurd h2 (by decide) | (simp; omega) | (simp; done)
theorem one_or {x y : Int32} (hx : L30 x) (hy : L30 y) (h : x &&& y = 0) : bcI (x ||| y) = one x + one y := by
  rw [bc_one (L30_or hx hy)]
  obtain ⟨a, ha, rfl⟩ := hx
  obtain ⟨b, hb, rfl⟩ := hy
  have h2 : a &&& b = 0 := by
    rw [nb_and] at h
    have h3 : a &&& b < 2 ^ 31 := Nat.lt_of_le_of_lt Nat.and_le_left (by omega)
    exact (nI_eq (b := 0) h3 (by omega)).mp h
  have h3 : a ||| b < 2 ^ 30 := Nat.or_lt_two_pow ha hb
  rw [nb_or]
  show onF _ 30 = onF _ 30 + onF _ 30
  rw [onF_pop (by omega) 30 (by omega), onF_pop (by omega) 30 (by omega), onF_pop (by omega) 30 (by omega), pop_or h2, nI_add]
/-- what goes and what comes have nothing in common -/
theorem dis_oi {x y : Int32} : (x &&& (y ^^^ (-1))) &&& (y &&& (x ^^^ (-1))) = 0 := by
  obtain ⟨a, ha, rfl⟩ := nb_of x
  obtain ⟨b, hb, rfl⟩ := nb_of y
  rw [show (-1 : Int32) = nI (2 ^ 32 - 1) from rfl, nb_xor, nb_xor, nb_and, nb_and, nb_and]
  rw [show (0 : Int32) = nI 0 from rfl]
  congr 1
  apply Nat.eq_of_testBit_eq
  intro j
  rw [Nat.testBit_and, Nat.testBit_and, Nat.testBit_and, Nat.testBit_xor, Nat.testBit_xor, Nat.testBit_two_pow_sub_one, Nat.zero_testBit]
  by_cases h32 : j < 32
  · cases a.testBit j <;> cases b.testBit j <;> simp [h32]
  · rw [Nat.testBit_lt_two_pow (Nat.lt_of_lt_of_le ha (Nat.pow_le_pow_right (by decide) (by omega)))]
    simp
