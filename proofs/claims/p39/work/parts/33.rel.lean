/-! ===== the class's memory x and the law's rows in i ===== -/
def DR (x i : Nat → Nat → Int32) (c n d : Nat) : Prop := x 4 d = i 90 (3 * d) ∧ i 90 (3 * d) = nI ((n + 16 - (c - d)) % 16) ∧ x 5 d = i 90 (3 * d + 1) ∧ L30 (i 90 (3 * d + 1)) ∧ x 6 d = i 90 (3 * d + 2) ∧ L30 (i 90 (3 * d + 2)) ∧ x 7 d = lco (i 90) d
def FR (x i : Nat → Nat → Int32) (f : Nat) : Prop := ((x (9 + f) 0 = 0 ∧ x (9 + f) 1 = 0 ∧ i 91 (5 * f) = -1) ∨ (x (9 + f) 0 = 1 ∧ x (9 + f) 1 = i 91 (5 * f) ∧ L30 (i 91 (5 * f)) ∧ x (9 + f) 2 = i 91 (5 * f + 1) ∧ ∃ e, e < 16 ∧ i 91 (5 * f + 1) = nI e)) ∧ x (9 + f) 3 = i 91 (5 * f + 2) ∧ b01 (i 91 (5 * f + 2)) ∧ x (9 + f) 4 = i 91 (5 * f + 3) ∧ b01 (i 91 (5 * f + 3)) ∧ x (9 + f) 5 = i 91 (5 * f + 4)
/-- the costs, counted and in whole lists -/
def CR (x i : Nat → Nat → Int32) (B : Nat) : Prop := ∃ a w : Nat → Nat, (∀ f, f < 4 → x (9 + f) 5 = nI (a f) ∧ x (9 + f) 6 = nI (w f) ∧ a f ≤ w f ∧ (a f = 0 → w f = 0)) ∧ i 89 5 = nI (w 0 + w 1 + w 2 + w 3) ∧ w 0 + w 1 + w 2 + w 3 ≤ B
def PR (x i : Nat → Nat → Int32) : Prop := x 2 0 = i 89 0 ∧ x 2 1 = i 89 1 ∧ L30 (i 89 0) ∧ L30 (i 89 1)
def NR (x i : Nat → Nat → Int32) (c K n : Nat) : Prop := x 2 2 = nI n ∧ i 89 2 = nI n ∧ n < 16 ∧ x 3 4 = nI K ∧ i 89 3 = nI K ∧ 1 ≤ K ∧ K ≤ 6 ∧ x 3 5 = nI c ∧ i 89 4 = nI c ∧ c ≤ K
def RP (x i : Nat → Nat → Int32) (B c K n : Nat) : Prop := PR x i ∧ NR x i c K n ∧ (∀ d, d < c → DR x i c n d) ∧ (∀ f, f < 4 → FR x i f) ∧ CR x i B
/-- the places of the live state -/
def ib (a f : Nat) : Prop := (a = 2 ∧ f < 3) ∨ (a = 3 ∧ (f = 4 ∨ f = 5)) ∨ (4 ≤ a ∧ a ≤ 7 ∧ f < 6) ∨ (9 ≤ a ∧ a ≤ 12 ∧ f < 7)
section REL
variable {x x' i i' : Nat → Nat → Int32} {B B' c c' K n n' d f : Nat}
theorem DR_same (h : DR x i c n d) (hx : ∀ a, 4 ≤ a → a ≤ 7 → x' a d = x a d) (hi : ∀ q, q < 3 → i' 90 (3 * d + q) = i 90 (3 * d + q)) : DR x' i' c n d := by
  have h0 : i' 90 (3 * d) = i 90 (3 * d) := hi 0 (by omega)
  have h1 := hi 1 (by omega)
  have h2 := hi 2 (by omega)
  unfold DR lco at *
  rw [hx 4 (by omega) (by omega), hx 5 (by omega) (by omega), hx 6 (by omega) (by omega), hx 7 (by omega) (by omega), h0, h1, h2]
  exact h
theorem FR_same (h : FR x i f) (hx : ∀ q, q < 7 → x' (9 + f) q = x (9 + f) q) (hi : ∀ q, q < 5 → i' 91 (5 * f + q) = i 91 (5 * f + q)) : FR x' i' f := by
  have h0 : i' 91 (5 * f) = i 91 (5 * f) := hi 0 (by omega)
  unfold FR at *
  rw [hx 0 (by omega), hx 1 (by omega), hx 2 (by omega), hx 3 (by omega), hx 4 (by omega), hx 5 (by omega), h0, hi 1 (by omega), hi 2 (by omega), hi 3 (by omega), hi 4 (by omega)]
  exact h
theorem CR_same (h : CR x i B) (hB : B ≤ B') (hx : ∀ f q, f < 4 → q = 5 ∨ q = 6 → x' (9 + f) q = x (9 + f) q) (hi : i' 89 5 = i 89 5) : CR x' i' B' := by
  obtain ⟨a, w, h1, h2, h3⟩ := h
  exact ⟨a, w, fun f hf => by rw [hx f 5 hf (Or.inl rfl), hx f 6 hf (Or.inr rfl)]; exact h1 f hf, hi.trans h2, by omega⟩
theorem RP_congr (h : RP x i B c K n) (hx : ∀ a f, ib a f → x' a f = x a f) (hi : ∀ a f, 89 ≤ a → i' a f = i a f) (hB : B ≤ B') : RP x' i' B' c K n := by
  obtain ⟨⟨P1, P2, P3, P4⟩, ⟨N1, N2, N3, N4, N5, N6, N7, N8, N9, N10⟩, D, F, CC⟩ := h
  refine ⟨⟨?_, ?_, ?_, ?_⟩, ⟨?_, ?_, N3, ?_, ?_, N6, N7, ?_, ?_, N10⟩, fun d hd => DR_same (D d hd) (fun a h1 h2 => hx _ _ (by unfold ib; omega)) (fun q hq => hi _ _ (by omega)), fun f hf => FR_same (F f hf) (fun q hq => hx _ _ (by unfold ib; omega)) (fun q hq => hi _ _ (by omega)), CR_same CC hB (fun f q hf hq => hx _ _ (by unfold ib; omega)) (hi _ _ (by omega))⟩
  · rw [hx _ _ (by unfold ib; omega), hi _ _ (by omega)]; exact P1
  · rw [hx _ _ (by unfold ib; omega), hi _ _ (by omega)]; exact P2
  · rw [hi _ _ (by omega)]; exact P3
  · rw [hi _ _ (by omega)]; exact P4
  · rw [hx _ _ (by unfold ib; omega)]; exact N1
  · rw [hi _ _ (by omega)]; exact N2
  · rw [hx _ _ (by unfold ib; omega)]; exact N4
  · rw [hi _ _ (by omega)]; exact N5
  · rw [hx _ _ (by unfold ib; omega)]; exact N8
  · rw [hi _ _ (by omega)]; exact N9
theorem RP_AW (h : RP x i B c K n) : AW i c n := by
  obtain ⟨⟨P1, P2, P3, P4⟩, ⟨N1, N2, N3, N4, N5, N6, N7, N8, N9, N10⟩, D, F, CC⟩ := h
  refine ⟨N9, by omega, N2, N3, P4, fun e he => ⟨(D e he).2.2.2.1, (D e he).2.2.2.2.2.1⟩, fun f hf h0 => ?_⟩
  rcases (F f hf).1 with ⟨h1, h2, h3⟩ | ⟨h1, h2, h3, h4, h5⟩
  · rw [h3] at h0; exact absurd (by decide) h0
  · exact h5
theorem L30_ge {v : Int32} (h : L30 v) : ¬ v < 0 := by
  obtain ⟨p, hp, rfl⟩ := h
  exact nI_pos (by omega)
/-- the draft changes, on both sides -/
theorem RP_draft (h : RP x i B c K n) {y : Int32} (hy : L30 y) : RP (up2 x 2 0 y) (up2 i 89 0 y) B c K n := by
  obtain ⟨⟨P1, P2, P3, P4⟩, ⟨N1, N2, N3, N4, N5, N6, N7, N8, N9, N10⟩, D, F, CC⟩ := h
  refine ⟨⟨?_, ?_, ?_, ?_⟩, ⟨?_, ?_, N3, ?_, ?_, N6, N7, ?_, ?_, N10⟩, fun d hd => DR_same (D d hd) (fun a h1 h2 => up2_ne (by omega)) (fun q hq => up2_ne (by omega)), fun f hf => FR_same (F f hf) (fun q hq => up2_ne (by omega)) (fun q hq => up2_ne (by omega)), CR_same CC (Nat.le_refl _) (fun f q hf hq => up2_ne (by omega)) (up2_nf (by omega))⟩
  · rw [up2_eq, up2_eq]
  · rw [up2_nf (by omega), up2_nf (by omega)]; exact P2
  · rw [up2_eq]; exact hy
  · rw [up2_nf (by omega)]; exact P4
  · rw [up2_nf (by omega)]; exact N1
  · rw [up2_nf (by omega)]; exact N2
  · rw [up2_ne (by omega)]; exact N4
  · rw [up2_nf (by omega)]; exact N5
  · rw [up2_ne (by omega)]; exact N8
  · rw [up2_nf (by omega)]; exact N9
/-- a follower's sleep -/
theorem RP_sleep (h : RP x i B c K n) {v : Nat} {b : Int32} (hv : v < 4) (hb : b01 b) : RP (up2 x (9 + v) 3 b) (up2 i 91 (5 * v + 2) b) B c K n := by
  obtain ⟨⟨P1, P2, P3, P4⟩, ⟨N1, N2, N3, N4, N5, N6, N7, N8, N9, N10⟩, D, F, CC⟩ := h
  refine ⟨⟨?_, ?_, ?_, ?_⟩, ⟨?_, ?_, N3, ?_, ?_, N6, N7, ?_, ?_, N10⟩, fun d hd => DR_same (D d hd) (fun a h1 h2 => up2_ne (by omega)) (fun q hq => up2_ne (by omega)), fun f hf => ?_, CR_same CC (Nat.le_refl _) (fun f q hf hq => up2_nf (by omega)) (up2_ne (by omega))⟩
  · rw [up2_ne (by omega), up2_ne (by omega)]; exact P1
  · rw [up2_ne (by omega), up2_ne (by omega)]; exact P2
  · rw [up2_ne (by omega)]; exact P3
  · rw [up2_ne (by omega)]; exact P4
  · rw [up2_ne (by omega)]; exact N1
  · rw [up2_ne (by omega)]; exact N2
  · rw [up2_ne (by omega)]; exact N4
  · rw [up2_ne (by omega)]; exact N5
  · rw [up2_ne (by omega)]; exact N8
  · rw [up2_ne (by omega)]; exact N9
  · by_cases e : f = v
    · subst e
      have hx : ∀ q, q ≠ 3 → up2 x (9 + f) 3 b (9 + f) q = x (9 + f) q := fun q h => up2_nf h
      have hi : ∀ q, q ≠ 5 * f + 2 → up2 i 91 (5 * f + 2) b 91 q = i 91 q := fun q h => up2_nf h
      have hF := F f hf
      unfold FR at *
      rw [hx 0 (by omega), hx 1 (by omega), hx 2 (by omega), hx 4 (by omega), hx 5 (by omega), (up2_eq : up2 x (9 + f) 3 b (9 + f) 3 = b), hi (5 * f) (by omega), hi (5 * f + 1) (by omega), hi (5 * f + 3) (by omega), hi (5 * f + 4) (by omega), (up2_eq : up2 i 91 (5 * f + 2) b 91 (5 * f + 2) = b)]
      exact ⟨hF.1, rfl, hb, hF.2.2.2⟩
    · exact FR_same (F f hf) (fun q hq => up2_ne (by omega)) (fun q hq => up2_nf (by omega))
/-- a list is thrown away -/
theorem RP_throw (h : RP x i B c K n) {v : Nat} (hv : v < 4) : RP (up2 (up2 x (9 + v) 0 0) (9 + v) 1 0) (up2 i 91 (5 * v) (-1)) B c K n := by
  obtain ⟨⟨P1, P2, P3, P4⟩, ⟨N1, N2, N3, N4, N5, N6, N7, N8, N9, N10⟩, D, F, CC⟩ := h
  refine ⟨⟨?_, ?_, ?_, ?_⟩, ⟨?_, ?_, N3, ?_, ?_, N6, N7, ?_, ?_, N10⟩, fun d hd => DR_same (D d hd) (fun a h1 h2 => (up2_ne (by omega)).trans (up2_ne (by omega))) (fun q hq => up2_ne (by omega)), fun f hf => ?_, CR_same CC (Nat.le_refl _) (fun f q hf hq => (up2_nf (by omega)).trans (up2_nf (by omega))) (up2_ne (by omega))⟩
  · rw [up2_ne (by omega), up2_ne (by omega), up2_ne (by omega)]; exact P1
  · rw [up2_ne (by omega), up2_ne (by omega), up2_ne (by omega)]; exact P2
  · rw [up2_ne (by omega)]; exact P3
  · rw [up2_ne (by omega)]; exact P4
  · rw [up2_ne (by omega), up2_ne (by omega)]; exact N1
  · rw [up2_ne (by omega)]; exact N2
  · rw [up2_ne (by omega), up2_ne (by omega)]; exact N4
  · rw [up2_ne (by omega)]; exact N5
  · rw [up2_ne (by omega), up2_ne (by omega)]; exact N8
  · rw [up2_ne (by omega)]; exact N9
  · by_cases e : f = v
    · subst e
      have hx : ∀ q, q ≠ 0 → q ≠ 1 → up2 (up2 x (9 + f) 0 0) (9 + f) 1 0 (9 + f) q = x (9 + f) q := fun q h h' => (up2_nf h').trans (up2_nf h)
      have h0 : up2 (up2 x (9 + f) 0 0) (9 + f) 1 0 (9 + f) 0 = 0 := (up2_nf (by omega)).trans up2_eq
      have hi : ∀ q, q ≠ 5 * f → up2 i 91 (5 * f) (-1) 91 q = i 91 q := fun q h => up2_nf h
      have hF := F f hf
      unfold FR at *
      rw [h0, (up2_eq : up2 (up2 x (9 + f) 0 0) (9 + f) 1 0 (9 + f) 1 = 0), hx 3 (by omega) (by omega), hx 4 (by omega) (by omega), hx 5 (by omega) (by omega), hi (5 * f + 2) (by omega), hi (5 * f + 3) (by omega), hi (5 * f + 4) (by omega), (up2_eq : up2 i 91 (5 * f) (-1) 91 (5 * f) = -1)]
      exact ⟨Or.inl ⟨rfl, rfl, rfl⟩, hF.2⟩
    · exact FR_same (F f hf) (fun q hq => (up2_ne (by omega)).trans (up2_ne (by omega))) (fun q hq => up2_nf (by omega))
theorem ntF_oth {m a q : Nat} (h : a ≠ 91 ∨ q % 5 ≠ 3) : ntF i m a q = i a q := by unfold ntF; rw [if_neg (by omega)]
/-- a notice -/
theorem RP_gn (h : RP x i B c K n) : RP (gnF x 4) (ntF i 4) B c K n := by
  obtain ⟨⟨P1, P2, P3, P4⟩, ⟨N1, N2, N3, N4, N5, N6, N7, N8, N9, N10⟩, D, F, CC⟩ := h
  refine ⟨⟨?_, ?_, ?_, ?_⟩, ⟨?_, ?_, N3, ?_, ?_, N6, N7, ?_, ?_, N10⟩, fun d hd => DR_same (D d hd) (fun a h1 h2 => gnF_oth (by omega)) (fun q hq => ntF_oth (by omega)), fun f hf => ?_, CR_same CC (Nat.le_refl _) (fun f q hf hq => gnF_oth (by omega)) (ntF_oth (by omega))⟩
  · rw [gnF_oth (by omega), ntF_oth (by omega)]; exact P1
  · rw [gnF_oth (by omega), ntF_oth (by omega)]; exact P2
  · rw [ntF_oth (by omega)]; exact P3
  · rw [ntF_oth (by omega)]; exact P4
  · rw [gnF_oth (by omega)]; exact N1
  · rw [ntF_oth (by omega)]; exact N2
  · rw [gnF_oth (by omega)]; exact N4
  · rw [ntF_oth (by omega)]; exact N5
  · rw [gnF_oth (by omega)]; exact N8
  · rw [ntF_oth (by omega)]; exact N9
  · obtain ⟨F1, F2, F3, F4, F5, F6⟩ := F f hf
    have e1 : gnF x 4 (9 + f) 4 = if i 91 (5 * f + 2) = 0 then 1 else i 91 (5 * f + 3) := by
      unfold gnF
      rw [F2]
      by_cases h : i 91 (5 * f + 2) = 0
      · rw [if_pos ⟨by omega, by omega, rfl, h⟩, if_pos h]
      · rw [if_neg (fun z => h z.2.2.2), if_neg h, F4]
    have e2 : ntF i 4 91 (5 * f + 3) = if i 91 (5 * f + 2) = 0 then 1 else i 91 (5 * f + 3) := by
      unfold ntF
      rw [show 5 * f + 3 - 1 = 5 * f + 2 by omega]
      rcases F3 with h | h
      · rw [if_pos ⟨rfl, by omega, by omega, by rw [h]; decide⟩, if_pos h]
      · rw [if_neg (fun z => z.2.2.2 h), if_neg (by rw [h]; decide)]
    unfold FR
    rw [e1, e2, gnF_oth (by omega), gnF_oth (by omega), gnF_oth (by omega), gnF_oth (by omega), gnF_oth (by omega), ntF_oth (by omega), ntF_oth (by omega), ntF_oth (by omega), ntF_oth (by omega)]
    refine ⟨F1, F2, F3, rfl, ?_, F6⟩
    split
    · exact Or.inr rfl
    · exact F5
/-- a new number: no difference is kept -/
theorem RP_num (h : RP x i B c K n) {v : Nat} (hv : v < 16) : RP (up2 (up2 x 2 2 (nI v)) 3 5 0) (up2 (up2 i 89 2 (nI v)) 89 4 0) B 0 K v := by
  obtain ⟨⟨P1, P2, P3, P4⟩, ⟨N1, N2, N3, N4, N5, N6, N7, N8, N9, N10⟩, D, F, CC⟩ := h
  have hi : ∀ q, q ≠ 2 → q ≠ 4 → up2 (up2 i 89 2 (nI v)) 89 4 0 89 q = i 89 q := fun q h1 h2 => (up2_nf h2).trans (up2_nf h1)
  refine ⟨⟨?_, ?_, ?_, ?_⟩, ⟨?_, ?_, hv, ?_, ?_, N6, N7, ?_, ?_, by omega⟩, fun d hd => by omega, fun f hf => FR_same (F f hf) (fun q hq => (up2_ne (by omega)).trans (up2_ne (by omega))) (fun q hq => (up2_ne (by omega)).trans (up2_ne (by omega))), CR_same CC (Nat.le_refl _) (fun f q hf hq => (up2_ne (by omega)).trans (up2_ne (by omega))) (hi _ (by omega) (by omega))⟩
  · rw [up2_ne (by omega), up2_nf (by omega), hi _ (by omega) (by omega)]; exact P1
  · rw [up2_ne (by omega), up2_nf (by omega), hi _ (by omega) (by omega)]; exact P2
  · rw [hi _ (by omega) (by omega)]; exact P3
  · rw [hi _ (by omega) (by omega)]; exact P4
  · rw [up2_ne (by omega), up2_eq]
  · rw [up2_nf (by omega), up2_eq]
  · rw [up2_nf (by omega), up2_ne (by omega)]; exact N4
  · rw [hi _ (by omega) (by omega)]; exact N5
  · exact up2_eq
  · exact up2_eq
/-- the oldest differences go: m are left -/
theorem RP_drop (h : RP x i B c K n) {m : Nat} (hm : m ≤ c) : RP (drp x (c - m) c) (dpR m c i) B m K n := by
  obtain ⟨⟨P1, P2, P3, P4⟩, ⟨N1, N2, N3, N4, N5, N6, N7, N8, N9, N10⟩, D, F, CC⟩ := h
  have hx : ∀ a f, a < 3 ∨ 7 < a ∨ (a = 3 ∧ f ≠ 5) → drp x (c - m) c a f = x a f := fun a f h => drp_oth h
  have hi : ∀ f, f ≠ 4 → dpR m c i 89 f = i 89 f := fun f h => dpR_oth c i (Or.inr h) (Or.inl (by omega))
  have hi1 : ∀ f, dpR m c i 91 f = i 91 f := fun f => dpR_oth c i (Or.inl (by omega)) (Or.inl (by omega))
  refine ⟨⟨?_, ?_, ?_, ?_⟩, ⟨?_, ?_, N3, ?_, ?_, N6, N7, ?_, ?_, by omega⟩, fun d hd => ?_, fun f hf => FR_same (F f hf) (fun q hq => hx _ _ (by omega)) (fun q hq => hi1 _), CR_same CC (Nat.le_refl _) (fun f q hf hq => hx _ _ (by omega)) (hi _ (by omega))⟩
  · rw [hx _ _ (by omega), hi _ (by omega)]; exact P1
  · rw [hx _ _ (by omega), hi _ (by omega)]; exact P2
  · rw [hi _ (by omega)]; exact P3
  · rw [hi _ (by omega)]; exact P4
  · rw [hx _ _ (by omega)]; exact N1
  · rw [hi _ (by omega)]; exact N2
  · rw [hx _ _ (by omega)]; exact N4
  · rw [hi _ (by omega)]; exact N5
  · rw [drp_cnt]; congr 1; omega
  · rw [dpR_4 c i N9]
    congr 1
    split <;> omega
  · have e := D (d + (c - m)) (by omega)
    have hd2 : ∀ q, q < 3 → dpR m c i 90 (3 * d + q) = i 90 (3 * (d + (c - m)) + q) := fun q hq => by
      rw [dpR_in c i hm (by omega)]
      exact ieq rfl (by omega)
    have h0 : dpR m c i 90 (3 * d) = i 90 (3 * (d + (c - m))) := hd2 0 (by omega)
    have hc : ∀ a, 4 ≤ a → a ≤ 7 → drp x (c - m) c a d = x a (d + (c - m)) := fun a h1 h2 => by
      unfold drp drF
      rw [if_neg (by omega), if_pos ⟨h1, h2, by omega⟩]
    unfold DR lco at *
    rw [hc 4 (by omega) (by omega), hc 5 (by omega) (by omega), hc 6 (by omega) (by omega), hc 7 (by omega) (by omega), h0, hd2 1 (by omega), hd2 2 (by omega)]
    obtain ⟨e1, e2, e3⟩ := e
    refine ⟨e1, ?_, e3⟩
    rw [e2]
    congr 1
    omega
theorem L30_not {u v : Int32} (h : L30 u) : L30 (u &&& v) := L30_and h
/-- one difference more -/
theorem RP_more (h : RP x i B c K n) (hc : c < K) : RP (cm6 x c n) (puL i c n) B (c + 1) K ((n + 1) % 16) := by
  obtain ⟨⟨P1, P2, P3, P4⟩, ⟨N1, N2, N3, N4, N5, N6, N7, N8, N9, N10⟩, D, F, CC⟩ := h
  have k1 : ∀ (e u v : Int32) a f, ¬ (a = 3 ∧ f = 5) → ¬ (4 ≤ a ∧ a ≤ 7 ∧ f = c) → keepW x c e u v a f = x a f := fun e u v a f h2 h3 => by
    unfold keepW up2
    rw [if_neg (by omega), if_neg (by omega), if_neg (by omega), if_neg (by omega), if_neg (by omega)]
  have k2 : ∀ a f, ¬ (a = 3 ∧ f = 5) → ¬ (4 ≤ a ∧ a ≤ 7 ∧ f = c) → ¬ (a = 2 ∧ (f = 1 ∨ f = 2)) → cm6 x c n a f = x a f := fun a f h2 h3 h4 => by
    unfold cm6
    rw [show ∀ (j : Nat → Nat → Int32) v w, up2 (up2 j 2 1 v) 2 2 w a f = j a f from fun j v w => by unfold up2; rw [if_neg (by omega), if_neg (by omega)]]
    exact k1 _ _ _ a f h2 h3
  have m2 : ∀ a f, ¬ (a = 90 ∧ 3 * c ≤ f ∧ f < 3 * c + 3) → ¬ (a = 89 ∧ (f = 1 ∨ f = 2 ∨ f = 4)) → puL i c n a f = i a f := fun a f h1 h2 => by
    unfold puL up2
    rw [if_neg (by omega), if_neg (by omega), if_neg (by omega), if_neg (by omega), if_neg (by omega), if_neg (by omega)]
  have r0 : puL i c n 90 (3 * c) = nI n := by
    unfold puL
    rw [up2_ne (by omega), up2_ne (by omega), up2_ne (by omega), up2_nf (by omega), up2_nf (by omega), up2_eq]; exact N2
  have r1 : puL i c n 90 (3 * c + 1) = i 89 1 &&& (i 89 0 ^^^ (-1)) := by
    unfold puL
    rw [up2_ne (by omega), up2_ne (by omega), up2_ne (by omega), up2_nf (by omega), up2_eq]
  have r2 : puL i c n 90 (3 * c + 2) = i 89 0 &&& (i 89 1 ^^^ (-1)) := by
    unfold puL
    rw [up2_ne (by omega), up2_ne (by omega), up2_ne (by omega), up2_eq]
  refine ⟨⟨?_, ?_, ?_, ?_⟩, ⟨?_, ?_, Nat.mod_lt _ (by omega), ?_, ?_, N6, N7, ?_, ?_, by omega⟩, fun d hd => ?_, fun f hf => FR_same (F f hf) (fun q hq => k2 _ _ (by omega) (by omega) (by omega)) (fun q hq => m2 _ _ (by omega) (by omega)), CR_same CC (Nat.le_refl _) (fun f q hf hq => k2 _ _ (by omega) (by omega) (by omega)) (m2 _ _ (by omega) (by omega))⟩
  · rw [k2 _ _ (by omega) (by omega) (by omega), m2 _ _ (by omega) (by omega)]; exact P1
  · have e1 : cm6 x c n 2 1 = x 2 0 := by unfold cm6; rw [up2_nf (by omega), up2_eq]
    have e2 : puL i c n 89 1 = i 89 0 := by unfold puL; rw [up2_nf (by omega), up2_eq]
    rw [e1, e2]; exact P1
  · rw [m2 _ _ (by omega) (by omega)]; exact P3
  · have e2 : puL i c n 89 1 = i 89 0 := by unfold puL; rw [up2_nf (by omega), up2_eq]
    rw [e2]; exact P3
  · unfold cm6; exact up2_eq
  · unfold puL; exact up2_eq
  · rw [k2 _ _ (by omega) (by omega) (by omega)]; exact N4
  · rw [m2 _ _ (by omega) (by omega)]; exact N5
  · unfold cm6 keepW
    rw [up2_ne (by omega), up2_ne (by omega), up2_eq]
  · unfold puL
    rw [up2_nf (by omega), up2_nf (by omega), up2_eq]
  · by_cases e : d = c
    · subst e
      have c4 : cm6 x d n 4 d = x 2 2 := by
        unfold cm6 keepW
        rw [up2_ne (by omega), up2_ne (by omega), up2_ne (by omega), up2_ne (by omega), up2_ne (by omega), up2_ne (by omega), up2_eq]
      have c5 : cm6 x d n 5 d = x 2 1 &&& (x 2 0 ^^^ (-1)) := by
        unfold cm6 keepW
        rw [up2_ne (by omega), up2_ne (by omega), up2_ne (by omega), up2_ne (by omega), up2_ne (by omega), up2_eq]
      have c6 : cm6 x d n 6 d = x 2 0 &&& (x 2 1 ^^^ (-1)) := by
        unfold cm6 keepW
        rw [up2_ne (by omega), up2_ne (by omega), up2_ne (by omega), up2_ne (by omega), up2_eq]
      have c7 : cm6 x d n 7 d = 1 + bcI (x 2 1 &&& (x 2 0 ^^^ (-1)) ||| x 2 0 &&& (x 2 1 ^^^ (-1))) := by
        unfold cm6 keepW
        rw [up2_ne (by omega), up2_ne (by omega), up2_ne (by omega), up2_eq]
      unfold DR lco
      rw [c4, c5, c6, c7, r0, r1, r2, P1, P2, N1]
      refine ⟨rfl, ?_, rfl, L30_and P4, rfl, L30_and P3, rfl⟩
      congr 1
      omega
    · have e0 := DR_same (x' := cm6 x c n) (i' := puL i c n) (D d (by omega)) (fun a h1 h2 => k2 _ _ (by omega) (by omega) (by omega)) (fun q hq => m2 _ _ (by omega) (by omega))
      unfold DR at *
      refine ⟨e0.1, ?_, e0.2.2⟩
      rw [e0.2.1]
      congr 1
      omega
/-- publish -/
theorem RP_pub (h : RP x i B c K n) : ∃ c1, dpR (K - 1) c i 89 4 = nI c1 ∧ c1 < 6 ∧ RP (gnF (isu x c K n) 4) (ntF (puL (dpR (K - 1) c i) c1 n) 4) B (c1 + 1) K ((n + 1) % 16) := by
  obtain ⟨⟨P1, P2, P3, P4⟩, ⟨N1, N2, N3, N4, N5, N6, N7, N8, N9, N10⟩, D, F, CC⟩ := id h
  by_cases hc : c < K
  · have e1 : isu x c K n = cm6 x c n := by unfold isu cm6 kp; rw [if_pos hc]
    have e2 : dpR (K - 1) c i = i := by
      cases c with
      | zero => rfl
      | succ c => exact if_neg (by omega)
    rw [e1, e2]
    exact ⟨c, N9, by omega, RP_gn (RP_more h hc)⟩
  · have hcK : c = K := by omega
    subst hcK
    have d2 : ∀ f, drp x 1 c 2 f = x 2 f := fun f => drp_oth (by omega)
    have e1 : isu x c c n = cm6 (drp x 1 c) (c - 1) n := by
      unfold isu cm6 kp
      rw [if_neg hc, d2, d2, d2, show c - c + 1 = 1 by omega]
    have h9 := RP_drop h (m := c - 1) (by omega)
    rw [show c - (c - 1) = 1 by omega] at h9
    rw [e1]
    exact ⟨c - 1, h9.2.1.2.2.2.2.2.2.2.2.1, by omega, RP_gn (RP_more h9 (by omega))⟩
theorem RP_K (h : RP x i B c K n) {m : Nat} (hm1 : 1 ≤ m) (hm6 : m ≤ 6) (hc : c ≤ m) : RP (up2 x 3 4 (nI m)) (up2 i 89 3 (nI m)) B c m n := by
  obtain ⟨⟨P1, P2, P3, P4⟩, ⟨N1, N2, N3, N4, N5, N6, N7, N8, N9, N10⟩, D, F, CC⟩ := h
  refine ⟨⟨?_, ?_, ?_, ?_⟩, ⟨?_, ?_, N3, up2_eq, up2_eq, hm1, hm6, ?_, ?_, hc⟩, fun d hd => DR_same (D d hd) (fun a h1 h2 => up2_ne (by omega)) (fun q hq => up2_ne (by omega)), fun f hf => FR_same (F f hf) (fun q hq => up2_ne (by omega)) (fun q hq => up2_ne (by omega)), CR_same CC (Nat.le_refl _) (fun f q hf hq => up2_ne (by omega)) (up2_nf (by omega))⟩
  · rw [up2_ne (by omega), up2_nf (by omega)]; exact P1
  · rw [up2_ne (by omega), up2_nf (by omega)]; exact P2
  · rw [up2_nf (by omega)]; exact P3
  · rw [up2_nf (by omega)]; exact P4
  · rw [up2_ne (by omega)]; exact N1
  · rw [up2_nf (by omega)]; exact N2
  · rw [up2_nf (by omega)]; exact N8
  · rw [up2_nf (by omega)]; exact N9
theorem dpR_K {m : Nat} {v : Int32} : ∀ (c : Nat) (i : Nat → Nat → Int32), dpR m c (up2 i 89 3 v) = up2 (dpR m c i) 89 3 v
  | 0, i => rfl
  | c + 1, i => by
    unfold dpR
    split
    · rw [← dpR_K c]
      congr 1
      refine up2_ext fun a f => ?_
      unfold dpk up2
      try dsimp only
      by_cases h1 : a = 89 ∧ f = 4
      · rw [if_pos h1, if_neg (by omega), if_pos h1]
      · rw [if_neg h1, if_neg h1]
        by_cases h2 : a = 90 ∧ f < 3 * c
        · rw [if_pos h2, if_neg (by omega), if_neg (by omega), if_pos h2]
        · rw [if_neg h2, if_neg h2]
    · rfl
theorem drp_K {k : Nat} {v : Int32} : drp (up2 x 3 4 v) k c = up2 (drp x k c) 3 4 v := by
  refine up2_ext fun a f => ?_
  unfold drp drF up2
  try dsimp only
  by_cases h1 : a = 3 ∧ f = 5
  · rw [if_pos h1, if_neg (by omega), if_pos h1]
  · rw [if_neg h1, if_neg h1]
    by_cases h2 : 4 ≤ a ∧ a ≤ 7 ∧ f < c - k
    · rw [if_pos h2, if_neg (by omega), if_neg (by omega), if_pos h2]
    · rw [if_neg h2, if_neg h2]
/-- setKeep -/
theorem RP_keep (h : RP x i B c K n) {m : Nat} (hm1 : 1 ≤ m) (hm6 : m ≤ 6) : RP (lim x c m) (dpR m c (up2 i 89 3 (nI m))) B (if m < c then m else c) m n := by
  unfold lim
  rw [dpR_K]
  by_cases hc : m < c
  · rw [if_neg (by omega), if_pos hc, drp_K]
    refine RP_K (K := K) ?_ hm1 hm6 (Nat.le_refl _)
    exact RP_drop h (by omega)
  · rw [if_pos (by omega), if_neg hc]
    have e2 : dpR m c i = i := by
      cases c with
      | zero => rfl
      | succ c => exact if_neg hc
    rw [e2]
    exact RP_K h hm1 hm6 (by omega)
end REL
