theorem nb_or (a b : Nat) : nI a ||| nI b = nI (a ||| b) := by
  apply Int32.toBitVec_inj.mp
  rw [Int32.toBitVec_or]
  show BitVec.ofNat 32 a ||| BitVec.ofNat 32 b = BitVec.ofNat 32 (a ||| b)
  apply BitVec.eq_of_toNat_eq
  rw [BitVec.toNat_or, BitVec.toNat_ofNat, BitVec.toNat_ofNat, BitVec.toNat_ofNat, Nat.or_mod_two_pow]
theorem nb_xor (a b : Nat) : nI a ^^^ nI b = nI (a ^^^ b) := by
  apply Int32.toBitVec_inj.mp
  rw [Int32.toBitVec_xor]
  show BitVec.ofNat 32 a ^^^ BitVec.ofNat 32 b = BitVec.ofNat 32 (a ^^^ b)
  apply BitVec.eq_of_toNat_eq
  rw [BitVec.toNat_xor, BitVec.toNat_ofNat, BitVec.toNat_ofNat, BitVec.toNat_ofNat, Nat.xor_mod_two_pow]
theorem nb_ss : ∀ l, l < 32 → ((nI l &&& 31).toBitVec.smod 32).toNat = l := by decide +kernel
theorem nb_sshr {n l : Nat} (hn : n < 2 ^ 31) (hl : l < 32) : nI n >>> (nI l &&& 31) = nI (n / 2 ^ l) := by
  apply Int32.toBitVec_inj.mp
  rw [Int32.toBitVec_shiftRight]
  show ((nI n).toBitVec.sshiftRight ((nI l &&& 31).toBitVec.smod 32).toNat) = BitVec.ofNat 32 (n / 2 ^ l)
  rw [nb_ss l hl]
  have hm : (BitVec.ofNat 32 n).msb = false := by
    rw [BitVec.msb_eq_decide, BitVec.toNat_ofNat]
    exact decide_eq_false (by omega)
  show (BitVec.ofNat 32 n).sshiftRight l = _
  rw [BitVec.sshiftRight_eq_of_msb_false hm]
  apply BitVec.eq_of_toNat_eq
  rw [BitVec.toNat_ushiftRight, BitVec.toNat_ofNat, BitVec.toNat_ofNat, Nat.shiftRight_eq_div_pow, Nat.mod_eq_of_lt (by omega), Nat.mod_eq_of_lt (Nat.lt_of_le_of_lt (Nat.div_le_self _ _) (by omega))]
theorem mbt_nI {n l : Nat} (hn : n < 2 ^ 31) (hl : l < 32) : mbt (nI n) (nI l) = nI (n / 2 ^ l % 2) := by
  unfold mbt
  rw [nb_sshr hn hl, show (1 : Int32) = nI 1 from rfl, nb_and, show (1 : Nat) = 2 ^ 1 - 1 from rfl, Nat.and_two_pow_sub_one_eq_mod]
theorem onF_pop {n : Nat} (hn : n < 2 ^ 31) : ∀ m, m ≤ 31 → onF (nI n) m = nI (pop n m)
  | 0, _ => rfl
  | m + 1, h => by
    show onF (nI n) m + mbt (nI n) (nI m) = nI (pop n m + n / 2 ^ m % 2)
    rw [onF_pop hn m (by omega), mbt_nI hn (by omega), nI_add]
/-- a list of streets -/
def L30 (x : Int32) : Prop := ∃ n, n < 2 ^ 30 ∧ x = nI n
theorem pop_30 {n : Nat} (h : n < 2 ^ 30) : pop n 32 = pop n 30 := by
  have h1 : pop n 32 = pop n 30 + pop (n / 2 ^ 30) 2 := pop_split (n := n) (k := 30) 2
  rw [h1, Nat.div_eq_of_lt h]
  rfl
theorem bc_one {x : Int32} (h : L30 x) : bcI x = one x := by
  obtain ⟨n, hn, rfl⟩ := h
  rw [bcI_pop (by omega), pop_30 hn]
  exact (onF_pop (by omega) 30 (by omega)).symm
theorem L30_0 : L30 0 := ⟨0, by decide, rfl⟩
theorem L30_or {x y : Int32} (hx : L30 x) (hy : L30 y) : L30 (x ||| y) := by
  obtain ⟨a, ha, rfl⟩ := hx
  obtain ⟨b, hb, rfl⟩ := hy
  exact ⟨a ||| b, Nat.or_lt_two_pow ha hb, nb_or a b⟩
theorem L30_xor {x y : Int32} (hx : L30 x) (hy : L30 y) : L30 (x ^^^ y) := by
  obtain ⟨a, ha, rfl⟩ := hx
  obtain ⟨b, hb, rfl⟩ := hy
  exact ⟨a ^^^ b, Nat.xor_lt_two_pow ha hb, nb_xor a b⟩
theorem L30_and {x y : Int32} (hx : L30 x) : L30 (x &&& y) := by
  obtain ⟨a, ha, rfl⟩ := hx
  obtain ⟨b, hb, rfl⟩ := nb_of y
  exact ⟨a &&& b, Nat.lt_of_le_of_lt Nat.and_le_left ha, nb_and a b⟩
theorem shl_nI : ∀ v, v < 30 → (1 : Int32) <<< (nI v &&& 31) = nI (2 ^ v) := by decide +kernel
theorem L30_shl {v : Nat} (h : v < 30) : L30 ((1 : Int32) <<< (nI v &&& 31)) := ⟨2 ^ v, Nat.pow_lt_pow_right (by decide) h, shl_nI v h⟩
theorem tb_div (n v : Nat) : n / 2 ^ v % 2 = (n.testBit v).toNat := by
  rw [Nat.testBit_eq_decide_div_mod_eq]
  rcases Nat.mod_two_eq_zero_or_one (n / 2 ^ v) with z | z <;> rw [z] <;> rfl
theorem and_pow {n v : Nat} : n &&& 2 ^ v = 2 ^ v * (n.testBit v).toNat := by
  apply Nat.eq_of_testBit_eq
  intro j
  rw [Nat.testBit_and, Nat.testBit_two_pow]
  cases ht : n.testBit v with
  | true =>
    show _ = (2 ^ v * 1).testBit j
    rw [Nat.mul_one, Nat.testBit_two_pow]
    by_cases hj : v = j
    · subst hj; rw [ht]; simp
    · simp [hj]
  | false =>
    show _ = (2 ^ v * 0).testBit j
    rw [Nat.mul_zero, Nat.zero_testBit]
    by_cases hj : v = j
    · subst hj; rw [ht]; simp
    · simp [hj]
theorem bit_mbt {x : Int32} (hx : L30 x) {v : Nat} (h : v < 30) : (bit x (nI v) = 0 ↔ mbt x (nI v) = 0) ∧ (¬ bit x (nI v) = 0 ↔ mbt x (nI v) = 1) := by
  obtain ⟨n, hn, rfl⟩ := hx
  have e1 : bit (nI n) (nI v) = nI (n &&& 2 ^ v) := by unfold bit; rw [shl_nI v h, nb_and]
  have hp : 2 ^ v < 2 ^ 30 := Nat.pow_lt_pow_right (by decide) h
  have hp0 : 0 < 2 ^ v := Nat.two_pow_pos v
  rw [e1, mbt_nI (by omega) (by omega), tb_div, and_pow]
  cases n.testBit v
  · exact ⟨⟨fun _ => rfl, fun _ => rfl⟩, ⟨fun z => absurd rfl z, fun z => absurd z (by decide)⟩⟩
  · have h1 : ¬ nI (2 ^ v * 1) = 0 := nI_ne0 (by omega) (by omega)
    exact ⟨⟨fun z => absurd z h1, fun z => absurd z (by decide)⟩, ⟨fun _ => rfl, fun _ => h1⟩⟩
theorem add_xor {x : Int32} (hx : L30 x) {v : Nat} (h : v < 30) (hb : bit x (nI v) = 0) : x ||| ((1 : Int32) <<< (nI v &&& 31)) = x ^^^ ((1 : Int32) <<< (nI v &&& 31)) := by
  have h2 := (bit_mbt hx h).1.mp hb
  obtain ⟨n, hn, rfl⟩ := hx
  rw [mbt_nI (by omega) (by omega), tb_div] at h2
  have ht : n.testBit v = false := by cases ht : n.testBit v with
    | false => rfl
    | true => rw [ht] at h2; exact absurd h2 (by decide)
  rw [shl_nI v h, nb_or, nb_xor]
  congr 1
  apply Nat.eq_of_testBit_eq
  intro j
  rw [Nat.testBit_or, Nat.testBit_xor, Nat.testBit_two_pow]
  by_cases hj : v = j
  · subst hj; rw [ht]; simp
  · simp [hj]
theorem out_xor {x : Int32} (hx : L30 x) {v : Nat} (h : v < 30) (hb : ¬ bit x (nI v) = 0) : x &&& (((1 : Int32) <<< (nI v &&& 31)) ^^^ (-1)) = x ^^^ ((1 : Int32) <<< (nI v &&& 31)) := by
  have h2 := (bit_mbt hx h).2.mp hb
  obtain ⟨n, hn, rfl⟩ := hx
  rw [mbt_nI (by omega) (by omega), tb_div] at h2
  have ht : n.testBit v = true := by cases ht : n.testBit v with
    | true => rfl
    | false => rw [ht] at h2; exact absurd h2 (by decide)
  rw [shl_nI v h, show (-1 : Int32) = nI (2 ^ 32 - 1) from rfl, nb_xor, nb_and, nb_xor]
  congr 1
  apply Nat.eq_of_testBit_eq
  intro j
  rw [Nat.testBit_and, Nat.testBit_xor, Nat.testBit_xor, Nat.testBit_two_pow, Nat.testBit_two_pow_sub_one]
  by_cases hj : v = j
  · subst hj; rw [ht]; simp; omega
  · by_cases h32 : j < 32
    · simp [hj, h32]
    · rw [Nat.testBit_lt_two_pow (Nat.lt_of_lt_of_le hn (Nat.pow_le_pow_right (by decide) (by omega)))]
      simp [hj]
/-- two lists with no street in common -/
theorem pop_or {a b : Nat} (h : a &&& b = 0) : ∀ m, pop (a ||| b) m = pop a m + pop b m
  | 0 => rfl
  | m + 1 => by
    show pop (a ||| b) m + (a ||| b) / 2 ^ m % 2 = pop a m + a / 2 ^ m % 2 + (pop b m + b / 2 ^ m % 2)
    rw [pop_or h m, tb_div, tb_div, tb_div, Nat.testBit_or]
    have h2 : (a &&& b).testBit m = false := by rw [h]; exact Nat.zero_testBit m
    rw [Nat.testBit_and] at h2
    cases ha : a.testBit m <;> cases hb : b.testBit m <;> rw [ha, hb] at h2 <;> first | exact absurd h2 (by decide) | (simp; omega) | (simp; done)
theorem one_or {x y : Int32} (hx : L30 x) (hy : L30 y) (h : x &&& y = 0) : bcI (x ||| y) = one x + one y := by
  rw [bc_one (L30_or hx hy)]
  obtain ⟨a, ha, rfl⟩ := hx
  obtain ⟨b, hb, rfl⟩ := hy
  have h2 : a &&& b = 0 := by
    rw [nb_and] at h
    have h3 : a &&& b < 2 ^ 31 := Nat.lt_of_le_of_lt Nat.and_le_left (by omega)
    exact (nI_eq (b := 0) h3 (by omega)).mp h
  have h3 : a ||| b < 2 ^ 30 := Nat.or_lt_two_pow ha hb
  rw [nb_or]
  show onF _ 30 = onF _ 30 + onF _ 30
  rw [onF_pop (by omega) 30 (by omega), onF_pop (by omega) 30 (by omega), onF_pop (by omega) 30 (by omega), pop_or h2, nI_add]
/-- what goes and what comes have nothing in common -/
theorem dis_oi {x y : Int32} : (x &&& (y ^^^ (-1))) &&& (y &&& (x ^^^ (-1))) = 0 := by
  obtain ⟨a, ha, rfl⟩ := nb_of x
  obtain ⟨b, hb, rfl⟩ := nb_of y
  rw [show (-1 : Int32) = nI (2 ^ 32 - 1) from rfl, nb_xor, nb_xor, nb_and, nb_and, nb_and]
  rw [show (0 : Int32) = nI 0 from rfl]
  congr 1
  apply Nat.eq_of_testBit_eq
  intro j
  rw [Nat.testBit_and, Nat.testBit_and, Nat.testBit_and, Nat.testBit_xor, Nat.testBit_xor, Nat.testBit_two_pow_sub_one, Nat.zero_testBit]
  by_cases h32 : j < 32
  · cases a.testBit j <;> cases b.testBit j <;> simp [h32]
  · rw [Nat.testBit_lt_two_pow (Nat.lt_of_lt_of_le ha (Nat.pow_le_pow_right (by decide) (by omega)))]
    simp
