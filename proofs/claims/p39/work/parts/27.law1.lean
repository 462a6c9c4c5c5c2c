theorem low_n {v : Int32} {n : Nat} (h0 : 0 < n) (h : n < 2 ^ 31) : ∃ r, r < n ∧ remI (v &&& 2147483647) (nI n) = nI r := by
  obtain ⟨c, hc, e⟩ := and31 v
  exact ⟨c % n, Nat.mod_lt _ h0, by unfold remI; rw [e]; exact pk_rem hc h0 h⟩
theorem k_L_low {g : G0} {j : Nat → Nat → Int64} (d : Nat) {i : Nat → Nat → Int32} {v y : Int32} (hy : ¬ y = 0) : C g m_L_low (d + 0) 0 0 false [.int v, .int y] (mk i j) (rets (some (.int (remI (v &&& 2147483647) y))) (mk i j)) := by
  refine C_of (L := [some (.int v), some (.int y)]) rfl ?_
  refine L_iload_n_0 dL_low_0 ?_
  refine V_ldcI kc_RL_9 dL_low_1 ?_
  refine V_iand dL_low_3 ?_
  refine L_iload_n_1 dL_low_4 ?_
  refine V_irem hy dL_low_5 ?_
  exact V_iret dL_low_6 rfl rfl (⟨rfl, rfl⟩)
theorem low_of {g : G0} {j : Nat → Nat → Int64} {i : Nat → Nat → Int32} (v : Int32) {n : Nat} (h0 : 0 < n) (h : n < 2 ^ 31) : ∃ r, r < n ∧ C g m_L_low 0 0 0 false [.int v, .int (nI n)] (mk i j) (rets (some (.int (nI r))) (mk i j)) := by
  obtain ⟨r, h1, h2⟩ := low_n (v := v) h0 h
  have h9 := k_L_low (g := g) (j := j) 0 (i := i) (v := v) (y := nI n) (fun z => by have := (nI_eq (b := 0) h (by omega)).mp z; omega)
  rw [h2] at h9
  exact ⟨r, h1, h9⟩
theorem k_L_cell1 {g : G0} {j : Nat → Nat → Int64} (d : Nat) {i : Nat → Nat → Int32} {k : Nat} (hL : gL g < 2 ^ 31) (hk : k < gL g) : C g m_L_cell (d + 0) 0 0 false [.ref 999, .int (nI k)] (mk i j) (rets (some (.int (gx g k))) (mk i j)) := by
  refine C_of (L := [some (.ref 999), some (.int (nI k))]) rfl ?_
  refine L_iload_n_1 dL_cell_0 ?_
  refine L_aload_n_0 dL_cell_1 ?_
  refine V_slen dL_cell_2 ?_
  refine V_icmp_ge (tgt := 12) dL_cell_3 (by decide) (fun h3 => absurd ((nI_leI (a := gL g) (b := k) (by omega) (by omega)).mp h3) (by omega)) (fun h3 => ?_)
  refine L_aload_n_0 dL_cell_6 ?_
  refine L_iload_n_1 dL_cell_7 ?_
  refine V_sld (i := k) dL_cell_8 rfl hk (by omega) ?_
  refine V_goto (tgt := 21) dL_cell_9 (by decide) ?_
  exact V_iret dL_cell_21 rfl rfl (⟨rfl, rfl⟩)
theorem k_L_cell2 {g : G0} {j : Nat → Nat → Int64} (d : Nat) {i : Nat → Nat → Int32} {k : Nat} (hL : gL g < 2 ^ 31) (hk : ¬ k < gL g) (hk2 : k < 2 ^ 31) : C g m_L_cell (d + 0) 0 0 false [.ref 999, .int (nI k)] (mk i j) (rets (some (.int (41659 * (nI k + 5) + 2890215))) (mk i j)) := by
  refine C_of (L := [some (.ref 999), some (.int (nI k))]) rfl ?_
  refine L_iload_n_1 dL_cell_0 ?_
  refine L_aload_n_0 dL_cell_1 ?_
  refine V_slen dL_cell_2 ?_
  refine V_icmp_ge (tgt := 12) dL_cell_3 (by decide) (fun h3 => ?_) (fun h3 => absurd ((nI_leI (a := gL g) (b := k) (by omega) (by omega)).mpr (by omega)) h3)
  refine V_ldcI kc_RL_7 dL_cell_12 ?_
  refine L_iload_n_1 dL_cell_14 ?_
  refine V_iconst (v := 5) (by decide) dL_cell_15 ?_
  refine V_iadd dL_cell_16 ?_
  refine V_imul dL_cell_17 ?_
  refine V_ldcI kc_RL_8 dL_cell_18 ?_
  refine V_iadd dL_cell_20 ?_
  exact V_iret dL_cell_21 rfl rfl (⟨rfl, rfl⟩)
theorem cell_of (g : G0) {k : Nat} (hL : gL g < 2 ^ 31) (hk : k < 2 ^ 31) : ∃ v : Int32, ∀ (i : Nat → Nat → Int32) (j : Nat → Nat → Int64), C g m_L_cell 0 0 0 false [.ref 999, .int (nI k)] (mk i j) (rets (some (.int v)) (mk i j)) := by
  by_cases h : k < gL g
  · exact ⟨_, fun i j => k_L_cell1 0 hL h⟩
  · exact ⟨_, fun i j => k_L_cell2 0 hL h hk⟩
theorem pop_z (m : Nat) : pop 0 m = 0 := by
  induction m with
  | zero => rfl
  | succ m ih =>
    show pop 0 m + 0 / 2 ^ m % 2 = 0
    rw [ih, Nat.zero_div]
theorem pop_0 {a : Nat} (h : a < 2 ^ 30) (hp : pop a 30 = 0) : a = 0 := by
  have key : ∀ m, pop a m = 0 → ∀ q, q < m → a.testBit q = false := by
    intro m
    induction m with
    | zero => intro _ q hq; omega
    | succ m ih =>
      intro hm q hq
      have hm2 : pop a m + a / 2 ^ m % 2 = 0 := hm
      by_cases h5 : q = m
      · subst h5
        have h6 : a / 2 ^ q % 2 = 0 := by omega
        rw [tb_div] at h6
        cases h7 : a.testBit q with
        | false => rfl
        | true => rw [h7] at h6; exact absurd h6 (by decide)
      · exact ih (by omega) q (by omega)
  apply Nat.eq_of_testBit_eq
  intro q
  rw [Nat.zero_testBit]
  rcases Nat.lt_or_ge q 30 with h5 | h5
  · exact key 30 hp q h5
  · exact Nat.testBit_lt_two_pow (Nat.lt_of_lt_of_le h (Nat.pow_le_pow_right (by decide) h5))
theorem pop_half (a : Nat) : ∀ m, pop a (m + 1) = a % 2 + pop (a / 2) m
  | 0 => by
    show 0 + a / 2 ^ 0 % 2 = a % 2 + 0
    rw [Nat.pow_zero, Nat.div_one]
    omega
  | m + 1 => by
    show pop a (m + 1) + a / 2 ^ (m + 1) % 2 = a % 2 + (pop (a / 2) m + a / 2 / 2 ^ m % 2)
    rw [pop_half a m, Nat.div_div_eq_div_mul, Nat.pow_succ, Nat.mul_comm 2 (2 ^ m)]
    omega
theorem and_half (a b : Nat) : (a &&& b) / 2 = a / 2 &&& b / 2 := by
  have h := Nat.and_div_two_pow (a := a) (b := b) (n := 1)
  rw [Nat.pow_one] at h
  exact h
theorem and_mod2 (a b : Nat) : (a &&& b) % 2 = a % 2 &&& b % 2 := by
  have h := Nat.and_mod_two_pow (a := a) (b := b) (n := 1)
  rw [Nat.pow_one] at h
  exact h
/-- the lowest one goes -/
theorem pop_low : ∀ {n : Nat} (m : Nat), 0 < n → n < 2 ^ m → pop (n &&& (n - 1)) m + 1 = pop n m
  | n, 0, h0, h => by rw [Nat.pow_zero] at h; omega
  | n, m + 1, h0, h => by
    rw [pop_half, pop_half, and_half, and_mod2]
    rcases Nat.mod_two_eq_zero_or_one n with h1 | h1
    · have e1 : (n - 1) / 2 = n / 2 - 1 := by omega
      rw [h1, e1, Nat.zero_and]
      have := pop_low (n := n / 2) m (by omega) (by rw [Nat.pow_succ] at h; omega)
      omega
    · have e1 : (n - 1) / 2 = n / 2 := by omega
      have e2 : (n - 1) % 2 = 0 := by omega
      rw [h1, e1, e2, Nat.and_self, Nat.and_zero]
      omega
theorem k_L_ones0 {g : G0} {j : Nat → Nat → Int64} (d : Nat) {i : Nat → Nat → Int32} {a0 : Nat} (h : a0 < 2 ^ 30) : C g m_L_ones (d + 0) 0 0 false [.int (nI a0)] (mk i j) (rets (some (.int (nI (pop a0 30)))) (mk i j)) := by
  refine C_of (L := [some (.int (nI a0)), none, none]) rfl ?_
  refine V_iconst (v := 0) (by decide) dL_ones_0 ?_
  refine V_istore_n_1 dL_ones_1 (Nat.le_of_ble_eq_true rfl) rfl ?_
  refine L_iload_n_0 dL_ones_2 ?_
  refine V_istore_n_2 dL_ones_3 (Nat.le_of_ble_eq_true rfl) rfl ?_
  have loop : ∀ (r a m : Nat), pop a 30 = r → a < 2 ^ 30 → m + r = pop a0 30 → V g m_L_ones (d + 0) 0 0 false (Kp g false (rets (some (.int (nI (pop a0 30)))) (mk i j))) 4 [some (.int (nI a0)), some (.int (nI m)), some (.int (nI a))] [] (mk i j) := by
    intro r
    induction r with
    | zero =>
      intro a m hp ha hm
      have h0 : a = 0 := pop_0 ha hp
      subst h0
      have hm0 : m = pop a0 30 := by omega
      subst hm0
      refine L_iload_n_2 dL_ones_4 ?_
      refine V_ifx_eq (tgt := 20) dL_ones_5 (by decide) (fun h5 => ?_) (fun h5 => absurd rfl h5)
      refine L_iload_n_1 dL_ones_20 ?_
      exact V_iret dL_ones_21 rfl rfl (⟨rfl, rfl⟩)
    | succ r ih =>
      intro a m hp ha hm
      have h0 : 0 < a := Nat.pos_of_ne_zero fun z => by rw [z, pop_z] at hp; omega
      refine L_iload_n_2 dL_ones_4 ?_
      refine V_ifx_eq (tgt := 20) dL_ones_5 (by decide) (fun h5 => absurd ((nI_eq (b := 0) (by omega) (by omega)).mp h5) (by omega)) (fun h5 => ?_)
      refine V_iinc_1 (v := nI (m + 1)) dL_ones_8 (Nat.le_of_ble_eq_true rfl) rfl (nI_1 _) ?_
      refine L_iload_n_2 dL_ones_11 ?_
      refine L_iload_n_2 dL_ones_12 ?_
      refine V_iconst (v := 1) (by decide) dL_ones_13 ?_
      refine V_isub dL_ones_14 ?_
      refine V_iand dL_ones_15 ?_
      refine V_eqv (y := nI (a &&& (a - 1))) (by rw [show (1 : Int32) = nI 1 from rfl, pk_sub (by omega), nb_and]) ?_
      refine V_istore_n_2 dL_ones_16 (Nat.le_of_ble_eq_true rfl) rfl ?_
      refine V_goto (tgt := 4) dL_ones_17 (by decide) ?_
      have h1 := pop_low (n := a) 30 h0 ha
      exact ih _ _ (by omega) (Nat.lt_of_le_of_lt Nat.and_le_left ha) (by omega)
  exact loop (pop a0 30) a0 0 rfl h (by omega)
theorem k_L_ones {g : G0} {j : Nat → Nat → Int64} (d : Nat) {i : Nat → Nat → Int32} {x : Int32} (h : L30 x) : C g m_L_ones (d + 0) 0 0 false [.int x] (mk i j) (rets (some (.int (bcI x))) (mk i j)) := by
  obtain ⟨n, hn, rfl⟩ := h
  rw [bcI_pop (by omega), pop_30 hn]
  exact k_L_ones0 d hn
def nwL (t : Nat) : Int32 := if t = 0 then 0 else if t < 8 then 1 else -1
/-- the newer of two editions -/
def nwI (a b : Int32) : Int32 := if a = b then 0 else if nwr a b then 1 else -1
theorem nw_eq : ∀ p, p < 16 → ∀ q, q < 16 → nwL ((p + 16 - q) % 16) = nwI (nI p) (nI q) := by decide +kernel
theorem k_L_newer {g : G0} {j : Nat → Nat → Int64} (d : Nat) {i : Nat → Nat → Int32} {p q : Nat} (hp : p < 16) (hq : q < 16) : C g m_L_newer (d + 0) 0 0 false [.int (nI p), .int (nI q)] (mk i j) (rets (some (.int (nwI (nI p) (nI q)))) (mk i j)) := by
  refine C_of (L := [some (.int (nI p)), some (.int (nI q)), none, none]) rfl ?_
  refine V_iconst (v := 0) (by decide) dL_newer_0 ?_
  refine V_istore_n_2 dL_newer_1 (Nat.le_of_ble_eq_true rfl) rfl ?_
  refine L_iload_n_1 dL_newer_2 ?_
  refine V_istore_n_3 dL_newer_3 (Nat.le_of_ble_eq_true rfl) rfl ?_
  have loop : ∀ (r k u : Nat), k < 16 → (p + 16 - k) % 16 = r → u + r < 16 → V g m_L_newer (d + 0) 0 0 false (Kp g false (rets (some (.int (nwL (u + r)))) (mk i j))) 4 [some (.int (nI p)), some (.int (nI q)), some (.int (nI u)), some (.int (nI k))] [] (mk i j) := by
    intro r
    induction r with
    | zero =>
      intro k u hk hr hu
      have h0 : k = p := by omega
      subst h0
      refine L_iload_n_3 dL_newer_4 ?_
      refine L_iload_n_0 dL_newer_5 ?_
      refine V_icmp_eq (tgt := 29) dL_newer_6 (by decide) (fun h6 => ?_) (fun h6 => absurd rfl h6)
      refine L_iload_n_2 dL_newer_29 ?_
      refine V_ifx_ne (tgt := 37) dL_newer_30 (by decide) (fun h30 => ?_) (fun h30 => ?_)
      · have hu0 : ¬ u = 0 := fun z => h30 (by rw [z]; rfl)
        refine L_iload_n_2 dL_newer_37 ?_
        refine V_bipush (v := 8) (by decide) dL_newer_38 ?_
        refine V_icmp_ge (tgt := 47) dL_newer_40 (by decide) (fun h40 => ?_) (fun h40 => ?_)
        · have := (nI_leI (a := 8) (b := u) (by omega) (by omega)).mp h40
          refine V_iconst (v := (-1)) (by decide) dL_newer_47 ?_
          exact V_iret dL_newer_48 rfl rfl (rtI (by unfold nwL; rw [if_neg (by omega), if_neg (by omega)]))
        · have := mt (nI_leI (a := 8) (b := u) (by omega) (by omega)).mpr h40
          refine V_iconst (v := 1) (by decide) dL_newer_43 ?_
          refine V_goto (tgt := 48) dL_newer_44 (by decide) ?_
          exact V_iret dL_newer_48 rfl rfl (rtI (by unfold nwL; rw [if_neg (by omega), if_pos (by omega)]))
      · have hu0 : u = 0 := (nI_eq (b := 0) (by omega) (by omega)).mp h30
        subst hu0
        refine V_iconst (v := 0) (by decide) dL_newer_33 ?_
        refine V_goto (tgt := 48) dL_newer_34 (by decide) ?_
        exact V_iret dL_newer_48 rfl rfl (⟨rfl, rfl⟩)
    | succ r ih =>
      intro k u hk hr hu
      have e : u + (r + 1) = u + 1 + r := by omega
      rw [e]
      refine L_iload_n_3 dL_newer_4 ?_
      refine L_iload_n_0 dL_newer_5 ?_
      refine V_icmp_eq (tgt := 29) dL_newer_6 (by decide) (fun h6 => absurd ((nI_eq (a := k) (b := p) (by omega) (by omega)).mp h6) (by omega)) (fun h6 => ?_)
      refine V_iinc_2 (v := nI (u + 1)) dL_newer_9 (Nat.le_of_ble_eq_true rfl) rfl (nI_1 _) ?_
      refine L_iload_n_3 dL_newer_12 ?_
      refine V_bipush (v := 15) (by decide) dL_newer_13 ?_
      refine V_icmp_ne (tgt := 22) dL_newer_15 (by decide) (fun h15 => ?_) (fun h15 => ?_)
      · have hk15 : ¬ k = 15 := fun z => h15 (by rw [z]; rfl)
        refine L_iload_n_3 dL_newer_22 ?_
        refine V_iconst (v := 1) (by decide) dL_newer_23 ?_
        refine V_iadd dL_newer_24 ?_
        refine V_eqv (nI_1 k) ?_
        refine V_istore_n_3 dL_newer_25 (Nat.le_of_ble_eq_true rfl) rfl ?_
        refine V_goto (tgt := 4) dL_newer_26 (by decide) ?_
        exact ih (k + 1) (u + 1) (by omega) (by omega) (by omega)
      · have hk15 : k = 15 := (nI_eq (a := k) (b := 15) (by omega) (by omega)).mp h15
        subst hk15
        refine V_iconst (v := 0) (by decide) dL_newer_18 ?_
        refine V_goto (tgt := 25) dL_newer_19 (by decide) ?_
        refine V_istore_n_3 dL_newer_25 (Nat.le_of_ble_eq_true rfl) rfl ?_
        refine V_goto (tgt := 4) dL_newer_26 (by decide) ?_
        exact ih 0 (u + 1) (by omega) (by omega) (by omega)
  have h9 := loop ((p + 16 - q) % 16) q 0 hq rfl (by omega)
  rw [Nat.zero_add, nw_eq p hp q hq] at h9
  exact h9
