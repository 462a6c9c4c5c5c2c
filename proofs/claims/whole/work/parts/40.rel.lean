/-! ===== the invariant that ties the class's memory to the reference's ===== -/
def DP (cs : Nat → Nat → Int32) (ms : Nat → Int32) : Prop := cs 1 0 = ms 0 ∧ cs 1 1 = ms 1 ∧ L30 (ms 0) ∧ L30 (ms 1)
def NP (cs : Nat → Nat → Int32) (ms : Nat → Int32) (c K n : Nat) : Prop := cs 1 2 = nI n ∧ ms 2 = nI n ∧ n < 16 ∧ cs 2 4 = nI K ∧ ms 3 = nI K ∧ 1 ≤ K ∧ K ≤ 6 ∧ cs 2 5 = nI c ∧ ms 4 = nI c ∧ c ≤ K
def KD (cs : Nat → Nat → Int32) (ms : Nat → Int32) (c n d : Nat) : Prop := cs 3 d = ms (6 + 3 * d + 0) ∧ ms (6 + 3 * d + 0) = nI ((n + 16 - (c - d)) % 16) ∧ cs 4 d = ms (6 + 3 * d + 1) ∧ L30 (ms (6 + 3 * d + 1)) ∧ cs 5 d = ms (6 + 3 * d + 2) ∧ L30 (ms (6 + 3 * d + 2)) ∧ cs 6 d = 1 + one (ms (6 + 3 * d + 1)) + one (ms (6 + 3 * d + 2))
def b01 (x : Int32) : Prop := x = 0 ∨ x = 1
def FO (cs : Nat → Nat → Int32) (ms : Nat → Int32) (f : Nat) : Prop := cs (8 + f) 0 = ms (24 + 6 * f + 0) ∧ b01 (ms (24 + 6 * f + 0)) ∧ cs (8 + f) 1 = ms (24 + 6 * f + 1) ∧ L30 (ms (24 + 6 * f + 1)) ∧
  (¬ ms (24 + 6 * f + 0) = 0 → cs (8 + f) 2 = ms (24 + 6 * f + 2) ∧ ∃ e, e < 16 ∧ ms (24 + 6 * f + 2) = nI e) ∧ cs (8 + f) 3 = ms (24 + 6 * f + 3) ∧ b01 (ms (24 + 6 * f + 3)) ∧ cs (8 + f) 4 = ms (24 + 6 * f + 4) ∧ b01 (ms (24 + 6 * f + 4)) ∧ cs (8 + f) 5 = ms (24 + 6 * f + 5)
/-- the costs, counted and in whole lists -/
def CO (cs : Nat → Nat → Int32) (ms : Nat → Int32) (B : Nat) : Prop := ∃ a w : Nat → Nat, (∀ f, f < 4 → cs (8 + f) 5 = nI (a f) ∧ cs (8 + f) 6 = nI (w f) ∧ a f ≤ w f ∧ (a f = 0 → w f = 0)) ∧ ms 5 = nI (w 0 + w 1 + w 2 + w 3) ∧ w 0 + w 1 + w 2 + w 3 ≤ B
def RS (cs : Nat → Nat → Int32) (ms : Nat → Int32) (B : Nat) : Prop := ∃ c K n, DP cs ms ∧ NP cs ms c K n ∧ (∀ d, d < c → KD cs ms c n d) ∧ (∀ f, f < 4 → FO cs ms f) ∧ CO cs ms B
abbrev csA (i : Nat → Nat → Int32) (b : Nat) : Nat → Nat → Int32 := fun k f => i (b + k) f
abbrev msA (i : Nat → Nat → Int32) (p o : Nat) : Nat → Int32 := fun f => i p (f + o)
def SA (i : Nat → Nat → Int32) (B : Nat) : Prop := ∃ s x, i 13 1 = nI x ∧ x < 6 ∧ i 13 2 = nI s ∧ s ≤ 6 ∧ i 89 3 = nI s ∧ ∀ m, m < s → RS (csA i (15 + 12 * ((x + 6 - s + m) % 6))) (msA i 91 (48 * m)) B
def TE (i : Nat → Nat → Int32) : Prop := ∃ l, i 87 1 = nI l ∧ i 89 5 = nI l ∧ l ≤ 60 ∧ ∀ q, q < l → i 88 q = i 92 q
def LV (i : Nat → Nat → Int32) (B : Nat) : Prop := RS (csA i 1) (msA i 90 0) B
def INV (i : Nat → Nat → Int32) (t : Nat) : Prop := LV i (2000 * t) ∧ SA i (2000 * t) ∧ TE i
theorem RS_congr {cs cs' : Nat → Nat → Int32} {ms ms' : Nat → Int32} {B B' : Nat} (h : ∀ k f, ((k = 1 ∧ f < 3) ∨ (k = 2 ∧ (f = 4 ∨ f = 5)) ∨ (3 ≤ k ∧ k ≤ 6 ∧ f < 6) ∨ (8 ≤ k ∧ k ≤ 11 ∧ f < 7)) → cs' k f = cs k f) (hm : ∀ f, f < 48 → ms' f = ms f) (hB : B ≤ B') (R : RS cs ms B) : RS cs' ms' B' := by
  obtain ⟨c, K, n, D, N, KD0, F, C⟩ := R
  obtain ⟨D1, D2, D3, D4⟩ := D
  obtain ⟨N1, N2, N3, N4, N5, N6, N7, N8, N9, N10⟩ := N
  refine ⟨c, K, n, ⟨?_, ?_, ?_, ?_⟩, ⟨?_, ?_, N3, ?_, ?_, N6, N7, ?_, ?_, N10⟩, fun d hd => ?_, fun f hf => ?_, ?_⟩
  · rw [h _ _ (by omega), hm _ (by omega)]; exact D1
  · rw [h _ _ (by omega), hm _ (by omega)]; exact D2
  · rw [hm _ (by omega)]; exact D3
  · rw [hm _ (by omega)]; exact D4
  · rw [h _ _ (by omega)]; exact N1
  · rw [hm _ (by omega)]; exact N2
  · rw [h _ _ (by omega)]; exact N4
  · rw [hm _ (by omega)]; exact N5
  · rw [h _ _ (by omega)]; exact N8
  · rw [hm _ (by omega)]; exact N9
  · have := KD0 d hd
    unfold KD at this ⊢
    rw [h _ _ (by omega), h _ _ (by omega), h _ _ (by omega), h _ _ (by omega), hm _ (by omega), hm _ (by omega), hm _ (by omega)]
    exact this
  · have := F f hf
    unfold FO at this ⊢
    rw [h _ _ (by omega), h _ _ (by omega), h _ _ (by omega), h _ _ (by omega), h _ _ (by omega), h _ _ (by omega), hm _ (by omega), hm _ (by omega), hm _ (by omega), hm _ (by omega), hm _ (by omega), hm _ (by omega)]
    exact this
  · obtain ⟨a, w, C1, C2, C3⟩ := C
    refine ⟨a, w, fun f hf => ?_, ?_, by omega⟩
    · rw [h _ _ (by omega), h _ _ (by omega)]; exact C1 f hf
    · rw [hm _ (by omega)]; exact C2
def agr (i i2 : Nat → Nat → Int32) : Prop := ∀ a f, (a ≠ 89 ∨ f = 3 ∨ f = 5) → i2 a f = i a f
theorem SA_congr {i i2 : Nat → Nat → Int32} {B B' : Nat} (h : ∀ a f, (13 ≤ a ∧ a < 87) ∨ a = 91 ∨ (a = 89 ∧ f = 3) → i2 a f = i a f) (hB : B ≤ B') (S : SA i B) : SA i2 B' := by
  obtain ⟨s, x, S1, S2, S3, S4, S5, S6⟩ := S
  refine ⟨s, x, (h _ _ (by omega)).trans S1, S2, (h _ _ (by omega)).trans S3, S4, (h _ _ (by omega)).trans S5, fun m hm => ?_⟩
  refine RS_congr (fun k f hk => h _ _ (by omega)) (fun f hf => h _ _ (by omega)) hB (S6 m hm)
theorem LV_congr {i i2 : Nat → Nat → Int32} {B B' : Nat} (h : ∀ a f, (1 ≤ a ∧ a < 13) ∨ a = 90 → i2 a f = i a f) (hB : B ≤ B') (S : LV i B) : LV i2 B' :=
  RS_congr (fun k f hk => h _ _ (by omega)) (fun f hf => h _ _ (by omega)) hB S
theorem TE_congr {i i2 : Nat → Nat → Int32} (h : ∀ a f, a = 87 ∨ a = 88 ∨ a = 92 ∨ (a = 89 ∧ f = 5) → i2 a f = i a f) (S : TE i) : TE i2 := by
  obtain ⟨l, T1, T2, T3, T4⟩ := S
  refine ⟨l, (h _ _ (by omega)).trans T1, (h _ _ (by omega)).trans T2, T3, fun q hq => ?_⟩
  rw [h _ _ (by omega), h _ _ (by omega)]
  exact T4 q hq
theorem INV_agr {i i2 : Nat → Nat → Int32} {t : Nat} (I : INV i t) (h : agr i i2) : INV i2 (t + 1) :=
  ⟨LV_congr (fun a f z => h a f (by omega)) (by omega) I.1, SA_congr (fun a f z => h a f (by omega)) (by omega) I.2.1, TE_congr (fun a f z => h a f (by omega)) I.2.2⟩
theorem agr_refl {i : Nat → Nat → Int32} : agr i i := fun _ _ _ => rfl
theorem agr_th {i i2 : Nat → Nat → Int32} {x : Int32} (h : agr i i2) : agr i (th i2 x) := fun a f z => by
  rw [show th i2 x a f = i2 a f from by unfold th up2; rw [if_neg (by omega)]]
  exact h a f z
theorem agr_pst {i i2 : Nat → Nat → Int32} {q : Nat} {s v : Int32} (h : agr i i2) : agr i (pst i2 q s v) := fun a f z => by
  rw [psto (by omega)]
  exact h a f z
theorem i7_z {k f : Nat} (h1 : ¬ (f = 4 ∧ (k = 3 ∨ 17 ≤ k ∧ k < 89))) (h2 : ¬ (k = 90 ∧ f = 3)) : i7 k f = 0 := by
  unfold i7
  unfold up2
  rw [if_neg h2]
  unfold i6 iL
  rw [if_neg (by omega)]
  unfold up2
  rw [if_neg (by omega)]
theorem INV_0 : INV i7 0 := by
  refine ⟨⟨0, 3, 0, ⟨?_, ?_, ?_, ?_⟩, ⟨?_, ?_, by omega, ?_, ?_, by omega, by omega, ?_, ?_, by omega⟩, fun d hd => by omega, fun f hf => ?_, ⟨fun _ => 0, fun _ => 0, fun f hf => ?_, ?_, Nat.le_of_ble_eq_true rfl⟩⟩, ⟨0, 0, ?_, by omega, ?_, by omega, ?_, fun m hm => by omega⟩, ⟨0, ?_, ?_, by omega, fun q hq => by omega⟩⟩
  · show i7 2 0 = i7 90 0; rw [i7_z (by omega) (by omega), i7_z (by omega) (by omega)]
  · show i7 2 1 = i7 90 1; rw [i7_z (by omega) (by omega), i7_z (by omega) (by omega)]
  · show L30 (i7 90 0); rw [i7_z (by omega) (by omega)]; exact L30_0
  · show L30 (i7 90 1); rw [i7_z (by omega) (by omega)]; exact L30_0
  · exact i7_z (by omega) (by omega)
  · exact i7_z (by omega) (by omega)
  · rfl
  · rfl
  · exact i7_z (by omega) (by omega)
  · exact i7_z (by omega) (by omega)
  · have hz : ∀ q, q < 6 → i7 90 (24 + 6 * f + q + 0) = 0 := fun q hq => i7_z (by omega) (by omega)
    have hc : ∀ q, q < 4 ∨ q = 5 ∨ q = 6 → i7 (1 + (8 + f)) q = 0 := fun q hq => i7_z (by omega) (by omega)
    have hc4 : i7 (1 + (8 + f)) 4 = 0 := i7_z (by omega) (by omega)
    unfold FO csA msA
    rw [hc 0 (by omega), hc 1 (by omega), hc 2 (by omega), hc 3 (by omega), hc4, hc 5 (by omega), hz 0 (by omega), hz 1 (by omega), hz 2 (by omega), hz 3 (by omega), hz 4 (by omega), hz 5 (by omega)]
    exact ⟨rfl, Or.inl rfl, rfl, L30_0, fun z => absurd rfl z, rfl, Or.inl rfl, rfl, Or.inl rfl, rfl⟩
  · exact ⟨i7_z (by omega) (by omega), i7_z (by omega) (by omega), Nat.le_refl _, fun _ => rfl⟩
  · exact i7_z (by omega) (by omega)
  · exact i7_z (by omega) (by omega)
  · exact i7_z (by omega) (by omega)
  · exact i7_z (by omega) (by omega)
  · exact i7_z (by omega) (by omega)
  · exact i7_z (by omega) (by omega)
