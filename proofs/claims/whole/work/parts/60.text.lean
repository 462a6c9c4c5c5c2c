/-! ===== the two readings of an order text ===== -/
theorem dg_of {x : Int32} (h : dgq x 57) : ∃ t, t ≤ 9 ∧ x = nI (48 + t) := by
  obtain ⟨p, hp, e⟩ := nI_of (x := x) (fun z => h.1 (Int32.lt_trans z (by decide)))
  subst e
  have h1 := mt (nI_ltI (a := p) (b := 48) (by omega) (by omega)).mpr h.1
  have h2 := mt (nI_ltI (a := 57) (b := p) (by omega) (by omega)).mpr h.2
  exact ⟨p - 48, by omega, by congr 1; omega⟩
theorem dg_v {t : Nat} : nI (48 + t) - 48 = nI t := by
  rw [show (48 : Int32) = nI 48 from rfl, pk_sub (by omega)]
  congr 1; omega
theorem dg_wit {x : Int32} : wit (x - 48) 0 9 ↔ dgq x 57 := by
  constructor
  · intro h
    obtain ⟨t, ht, e⟩ := wit_nI (b := 9) (by omega) h
    have ex : x = nI (48 + t) := by
      have := Int32.sub_add_cancel x 48
      rw [e, show (48 : Int32) = nI 48 from rfl, nI_add] at this
      rw [← this]; congr 1; omega
    rw [ex]; exact dgq_nI ht
  · intro h
    obtain ⟨t, ht, e⟩ := dg_of h
    rw [e, dg_v]
    exact witq (b := 9) rfl ht (by omega)
theorem tab1 : ∀ t, t < 10 → pbh 1 (nI (48 + t)) = if t = 1 ∨ t = 2 then 4 else 6 := by decide +kernel
theorem tab2 : ∀ t, t < 10 → pbh 2 (nI (48 + t)) = if t = 1 then 5 else 6 := by decide +kernel
theorem tab3 : ∀ t, t < 10 → pbh 3 (nI (48 + t)) = if t ≤ 3 then 6 else -1 := by decide +kernel
theorem tab4 : ∀ t, t < 10 → pbh 4 (nI (48 + t)) = 6 := by decide +kernel
theorem tab5 : ∀ t, t < 10 → pbh 5 (nI (48 + t)) = if t ≤ 5 then 6 else -1 := by decide +kernel
theorem pbh_6 {x : Int32} (h : ¬ x = 59) : pbh 6 x = -1 := by unfold pbh; rw [if_neg h]; rfl
theorem pbh_e {x : Int32} : pbh (-1) x = -1 := by
  unfold pbh
  by_cases h : x = 59
  · rw [if_pos h]; rfl
  · rw [if_neg h]; rfl
theorem pbh_nd {p x : Int32} (hp : p = 1 ∨ p = 2 ∨ p = 3 ∨ p = 4 ∨ p = 5) (h59 : ¬ x = 59) (h : ¬ dgq x 57) : pbh p x = -1 := by
  unfold pbh
  rw [if_neg h59]
  rcases hp with rfl | rfl | rfl | rfl | rfl
  · show pbd x = -1
    unfold pbd
    rw [if_neg, if_neg h]
    rintro (rfl | rfl)
    · exact h (by decide)
    · exact h (by decide)
  · show pbe x = -1
    unfold pbe
    rw [if_neg, if_neg h]
    rintro rfl
    exact h (by decide)
  · show (if dgq x 51 then (6 : Int32) else -1) = -1
    exact if_neg fun z => h ⟨z.1, fun w => z.2 (Int32.lt_trans (by decide) w)⟩
  · show (if dgq x 57 then (6 : Int32) else -1) = -1
    exact if_neg h
  · show (if dgq x 53 then (6 : Int32) else -1) = -1
    exact if_neg fun z => h ⟨z.1, fun w => z.2 (Int32.lt_trans (by decide) w)⟩
theorem pbh_59 {p : Int32} (h : p = 0 ∨ p = 1 ∨ p = 2 ∨ p = 3) : pbh p 59 = -1 := by
  rcases h with rfl | rfl | rfl | rfl <;> decide
theorem pbh_59' {p : Int32} (h : p = 4 ∨ p = 5 ∨ p = 6) : pbh p 59 = 0 := by
  rcases h with rfl | rfl | rfl <;> decide
section RX
variable {ic im : Nat → Nat → Int32} {l : Nat}
theorem icp_0 : ∀ (r k : Nat), icp ic r k (-1) = 0
  | 0, k => by unfold icp; decide
  | r + 1, k => by unfold icp; rw [pbh_e]; exact icp_0 r (k + 1)
theorem eix_s {k : Nat} {p q : Int32} (hk : k < l) (e : ic 88 k = im 92 k) (hp : pbh p (im 92 k) = q) (hq : ¬ q = -1) : eix ic (l - k) k p = eix ic (l - (k + 1)) (k + 1) q := by
  rw [show l - k = (l - (k + 1)) + 1 by omega]
  show (if pbh p (ic 88 k) = -1 then nI k else eix ic (l - (k + 1)) (k + 1) (pbh p (ic 88 k))) = _
  rw [e, hp, if_neg hq]
theorem icp_s {k : Nat} {p q : Int32} (hk : k < l) (e : ic 88 k = im 92 k) (hp : pbh p (im 92 k) = q) : icp ic (l - k) k p = icp ic (l - (k + 1)) (k + 1) q := by
  rw [show l - k = (l - (k + 1)) + 1 by omega]
  show icp ic (l - (k + 1)) (k + 1) (pbh p (ic 88 k)) = _
  rw [e, hp]
theorem eix_e {k : Nat} {p : Int32} (hk : k < l) (e : ic 88 k = im 92 k) (hp : pbh p (im 92 k) = -1) : eix ic (l - k) k p = nI k ∧ icp ic (l - k) k p = 0 := by
  refine ⟨?_, ?_⟩
  · rw [show l - k = (l - (k + 1)) + 1 by omega]
    show (if pbh p (ic 88 k) = -1 then nI k else eix ic (l - (k + 1)) (k + 1) (pbh p (ic 88 k))) = _
    rw [e, hp, if_pos rfl]
  · rw [icp_s hk e hp]; exact icp_0 _ _
theorem eix_l {p : Int32} : eix ic (l - l) l p = nI l := by rw [Nat.sub_self]; rfl
theorem icp_l {p : Int32} : icp ic (l - l) l p = b2i (p = 4 ∨ p = 5 ∨ p = 6) := by rw [Nat.sub_self]; rfl
theorem nx_in {a : Nat} (h : a < l) : nx im l a = im 92 a := if_pos h
theorem nx_out {a : Nat} (h : ¬ a < l) : nx im l a = 0 := if_neg h
theorem rnR_iff {M a t : Nat} (h : nx im l a = nI (48 + t)) (ht : t ≤ 9) (hM : M < 100) : rnR im l (nI M) a ↔ t ≤ M := by
  unfold rnR
  rw [dg_wit, h, dg_v]
  constructor
  · intro z
    have := mt (nI_ltI (a := M) (b := t) (by omega) (by omega)).mpr z.2
    omega
  · intro z
    exact ⟨dgq_nI ht, fun w => absurd ((nI_ltI (a := M) (b := t) (by omega) (by omega)).mp w) (by omega)⟩
theorem rnR_nd {M : Int32} {a : Nat} (h : ¬ dgq (nx im l a) 57) : ¬ rnR im l M a := fun z => h (dg_wit.mp z.1)
theorem rn2_nd {M : Int32} {a : Nat} (h : ¬ dgq (nx im l (a + 1)) 57) : ¬ rn2 im l M a := fun z => h (dg_wit.mp z.2.1)
theorem dg2 {t u : Nat} : 10 * (nI (48 + t) - 48) + (nI (48 + u) - 48) = nI (10 * t + u) := by
  rw [dg_v, dg_v, show (10 : Int32) = nI 10 from rfl, pk_mul, nI_add]
theorem rn2_iff {M a t u : Nat} (h : nx im l a = nI (48 + t)) (h' : nx im l (a + 1) = nI (48 + u)) (ht : t ≤ 9) (hu : u ≤ 9) (hM : M < 100) : rn2 im l (nI M) a ↔ 0 < t ∧ 10 * t + u ≤ M := by
  unfold rn2
  rw [dg_wit, h, h', dg2, dg_v]
  constructor
  · rintro ⟨z1, z2, z3⟩
    have h1 := (nI_ltI (a := 0) (b := t) (by omega) (by omega)).mp z1
    have h2 := mt (nI_ltI (a := M) (b := 10 * t + u) (by omega) (by omega)).mpr z3
    omega
  · rintro ⟨z1, z2⟩
    exact ⟨(nI_ltI (a := 0) (b := t) (by omega) (by omega)).mpr z1, dgq_nI hu, fun w => absurd ((nI_ltI (a := M) (b := 10 * t + u) (by omega) (by omega)).mp w) (by omega)⟩
theorem txt_1 {k x : Nat} {b : List Nat} (h1 : ic 88 k = nI x) (h2 : txt ic (k + 1) b) : txt ic k (x :: b) := fun q y hq => by
  cases q with
  | zero => cases hq; exact h1
  | succ q =>
    have := h2 q y hq
    rw [show k + (q + 1) = k + 1 + q by omega]; exact this
theorem txt_0 {k : Nat} : txt ic k [] := fun q y hq => by cases q <;> cases hq
theorem txt_a {b : List Nat} : ∀ (a : List Nat) (k : Nat), txt ic k a → txt ic (k + a.length) b → txt ic k (a ++ b)
  | [], k, _, h2 => h2
  | x :: a, k, h1, h2 => by
    obtain ⟨e1, e2⟩ := txt_cons h1
    refine txt_1 e1 (txt_a a (k + 1) e2 ?_)
    rw [List.length_cons] at h2
    rw [show k + 1 + a.length = k + (a.length + 1) by omega]
    exact h2
theorem tabP {P : Int32} {M t : Nat} (hPM : (P = 1 ∧ M = 29) ∨ (P = 2 ∧ M = 15) ∨ (P = 3 ∧ M = 3)) (ht : t ≤ 9) (hM : t ≤ M) : ∃ p, pbh P (nI (48 + t)) = p ∧ ((p = 4 ∧ M = 29 ∧ (t = 1 ∨ t = 2)) ∨ (p = 5 ∧ M = 15 ∧ t = 1) ∨ (p = 6 ∧ ¬ (0 < t ∧ 10 * t ≤ M))) := by
  rcases hPM with ⟨rfl, rfl⟩ | ⟨rfl, rfl⟩ | ⟨rfl, rfl⟩
  · rw [tab1 t (by omega)]
    by_cases h : t = 1 ∨ t = 2
    · exact ⟨4, if_pos h, Or.inl ⟨rfl, rfl, h⟩⟩
    · exact ⟨6, if_neg h, Or.inr (Or.inr ⟨rfl, by omega⟩)⟩
  · rw [tab2 t (by omega)]
    by_cases h : t = 1
    · exact ⟨5, if_pos h, Or.inr (Or.inl ⟨rfl, rfl, h⟩)⟩
    · exact ⟨6, if_neg h, Or.inr (Or.inr ⟨rfl, by omega⟩)⟩
  · rw [tab3 t (by omega)]
    exact ⟨6, if_pos hM, Or.inr (Or.inr ⟨rfl, by omega⟩)⟩
/-- a number is read -/
theorem rdn {P : Int32} {M a : Nat} (hPM : (P = 1 ∧ M = 29) ∨ (P = 2 ∧ M = 15) ∨ (P = 3 ∧ M = 3)) (hT : ∀ q, q < l → ic 88 q = im 92 q) (ha : a ≤ l) :
    (¬ rnR im l (nI M) a ∧ rnA im l (nI M) a = a ∧ eix ic (l - a) a P = nI a ∧ icp ic (l - a) a P = 0) ∨
    (rnR im l (nI M) a ∧ ∃ (v : Nat) (p : Int32), v ≤ M ∧ rnV im l (nI M) a = nI v ∧ rnA im l (nI M) a = a + (dig v).length ∧ a + (dig v).length ≤ l ∧ txt ic a (dig v) ∧ (p = 4 ∨ p = 5 ∨ p = 6) ∧ eix ic (l - a) a P = eix ic (l - (a + (dig v).length)) (a + (dig v).length) p ∧ icp ic (l - a) a P = icp ic (l - (a + (dig v).length)) (a + (dig v).length) p ∧ (a + (dig v).length < l → ¬ im 92 (a + (dig v).length) = 59 → pbh p (im 92 (a + (dig v).length)) = -1)) := by
  have hM : M < 100 := by omega
  have hP : P = 1 ∨ P = 2 ∨ P = 3 := by rcases hPM with h | h | h <;> simp [h.1]
  by_cases hd : dgq (nx im l a) 57
  · have hal : a < l := nx_lt fun z => by rw [z] at hd; exact absurd hd (by decide)
    obtain ⟨t, ht, et⟩ := dg_of hd
    have ex : im 92 a = nI (48 + t) := by exact (nx_in hal).symm.trans et
    have ec : ic 88 a = nI (48 + t) := (hT a hal).trans ex
    by_cases htM : t ≤ M
    · right
      have hR := (rnR_iff et ht hM).mpr htM
      obtain ⟨p, hp, hp2⟩ := tabP hPM ht htM
      have hp1 : ¬ p = -1 := by rcases hp2 with z | z | z <;> rw [z.1] <;> decide
      refine ⟨hR, ?_⟩
      by_cases h2 : rn2 im l (nI M) a
      · have hd2 := dg_wit.mp h2.2.1
        have hal2 : a + 1 < l := nx_lt fun z => by rw [z] at hd2; exact absurd hd2 (by decide)
        obtain ⟨u, hu, eu⟩ := dg_of hd2
        have h3 := (rn2_iff et eu ht hu hM).mp h2
        have ex2 : im 92 (a + 1) = nI (48 + u) := by exact (nx_in hal2).symm.trans eu
        have ec2 : ic 88 (a + 1) = nI (48 + u) := (hT _ hal2).trans ex2
        have hdig : dig (10 * t + u) = [48 + t, 48 + u] := by
          unfold dig
          rw [if_neg (by omega), show (10 * t + u) / 10 = t by omega, show (10 * t + u) % 10 = u by omega]
        have h6 : pbh p (nI (48 + u)) = 6 := by
          rcases hp2 with ⟨z1, z2, z3⟩ | ⟨z1, z2, z3⟩ | ⟨z1, z2⟩
          · rw [z1]; exact tab4 u (by omega)
          · rw [z1, tab5 u (by omega)]; exact if_pos (by omega)
          · exact absurd ⟨h3.1, by omega⟩ z2
        refine ⟨10 * t + u, 6, h3.2, ?_, ?_, ?_, ?_, Or.inr (Or.inr rfl), ?_, ?_, fun z1 z2 => pbh_6 z2⟩
        · unfold rnV
          rw [if_pos ⟨hR, h2⟩, et, eu, dg2]
        · unfold rnA
          rw [if_pos hR, if_pos h2, hdig]; rfl
        · rw [hdig]; exact hal2
        · rw [hdig]; exact txt_1 ec (txt_1 ec2 txt_0)
        · rw [hdig]
          exact (eix_s (q := p) hal (hT a hal) (by rw [ex]; exact hp) hp1).trans (eix_s (q := 6) hal2 (hT _ hal2) (by rw [ex2]; exact h6) (by decide))
        · rw [hdig]
          exact (icp_s (q := p) hal (hT a hal) (by rw [ex]; exact hp)).trans (icp_s (q := 6) hal2 (hT _ hal2) (by rw [ex2]; exact h6))
      · have hdig : dig t = [48 + t] := if_pos (by omega)
        refine ⟨t, p, htM, ?_, ?_, ?_, ?_, ?_, ?_, ?_, fun z1 z2 => ?_⟩
        · unfold rnV
          rw [if_neg (fun z => h2 z.2), et, dg_v]
        · unfold rnA
          rw [if_pos hR, if_neg h2, hdig]; rfl
        · rw [hdig]; exact hal
        · rw [hdig]; exact txt_1 ec txt_0
        · rcases hp2 with z | z | z
          · exact Or.inl z.1
          · exact Or.inr (Or.inl z.1)
          · exact Or.inr (Or.inr z.1)
        · rw [hdig]
          exact eix_s (q := p) hal (hT a hal) (by rw [ex]; exact hp) hp1
        · rw [hdig]
          exact icp_s (q := p) hal (hT a hal) (by rw [ex]; exact hp)
        · rw [hdig] at z1 z2 ⊢
          have z1 : a + 1 < l := z1
          have z2 : ¬ im 92 (a + 1) = 59 := z2
          show pbh p (im 92 (a + 1)) = -1
          by_cases hd2 : dgq (im 92 (a + 1)) 57
          · obtain ⟨u, hu, eu⟩ := dg_of hd2
            have h3 := mt (rn2_iff (M := M) et ((nx_in z1).trans eu) ht hu hM).mpr h2
            rw [eu]
            rcases hp2 with ⟨y1, y2, y3⟩ | ⟨y1, y2, y3⟩ | ⟨y1, y2⟩
            · exact absurd ⟨by omega, by omega⟩ h3
            · rw [y1, tab5 u (by omega)]
              exact if_neg fun w => h3 ⟨by omega, by omega⟩
            · rw [y1]; exact pbh_6 (nI_ne (b := 59) (by omega) (by omega) (by omega))
          · rcases hp2 with ⟨y1, y2, y3⟩ | ⟨y1, y2, y3⟩ | ⟨y1, y2⟩
            · exact pbh_nd (by simp [y1]) z2 hd2
            · exact pbh_nd (by simp [y1]) z2 hd2
            · rw [y1]; exact pbh_6 z2
    · left
      have hR := mt (rnR_iff et ht hM).mp htM
      have h3 : P = 3 ∧ M = 3 := by
        rcases hPM with h | h | h
        · omega
        · omega
        · exact h
      have hpe : pbh P (im 92 a) = -1 := by
        rw [ex, h3.1, tab3 t (by omega)]
        exact if_neg (by omega)
      obtain ⟨e1, e2⟩ := eix_e hal (hT a hal) hpe
      exact ⟨hR, by unfold rnA; rw [if_neg hR], e1, e2⟩
  · left
    have hR : ¬ rnR im l (nI M) a := rnR_nd hd
    have hA : rnA im l (nI M) a = a := by unfold rnA; rw [if_neg hR]
    by_cases hal : a < l
    · have hpe : pbh P (im 92 a) = -1 := by
        rw [nx_in hal] at hd
        by_cases h59 : im 92 a = 59
        · rw [h59]; exact pbh_59 (by rcases hP with z | z | z <;> simp [z])
        · exact pbh_nd (by rcases hP with z | z | z <;> simp [z]) h59 hd
      obtain ⟨e1, e2⟩ := eix_e hal (hT a hal) hpe
      exact ⟨hR, hA, e1, e2⟩
    · have : a = l := by omega
      subst this
      refine ⟨hR, hA, eix_l, ?_⟩
      rw [icp_l]
      rcases hP with rfl | rfl | rfl <;> decide
/-- an order is read -/
theorem rdo {a : Nat} (hT : ∀ q, q < l → ic 88 q = im 92 q) (ha : a ≤ l) :
    (¬ roB im l a ∧ roA im l a ≤ l ∧ eix ic (l - a) a 0 = nI (roA im l a) ∧ icp ic (l - a) a 0 = 0) ∨
    (roB im l a ∧ ∃ (o v : Nat) (p : Int32), vld o v ∧ nx im l a = nI o ∧ (o ≠ 112 → ∀ w, roV im l a w = nI v) ∧ roA im l a = a + (enc (o, v)).length ∧ roA im l a ≤ l ∧ a < l ∧ txt ic a (enc (o, v)) ∧ (p = 4 ∨ p = 5 ∨ p = 6) ∧ eix ic (l - a) a 0 = eix ic (l - roA im l a) (roA im l a) p ∧ icp ic (l - a) a 0 = icp ic (l - roA im l a) (roA im l a) p ∧ (roA im l a < l → ¬ im 92 (roA im l a) = 59 → pbh p (im 92 (roA im l a)) = -1)) := by
  have go : ∀ (o M : Nat) (P : Int32), a < l → nx im l a = nI o → num (nI o) → mo (nI o) = nI M → ((P = 1 ∧ M = 29) ∨ (P = 2 ∧ M = 15) ∨ (P = 3 ∧ M = 3)) → pbh 0 (nI o) = P → o ≠ 112 → (∀ v, v ≤ M → vld o v) →
      (¬ roB im l a ∧ roA im l a ≤ l ∧ eix ic (l - a) a 0 = nI (roA im l a) ∧ icp ic (l - a) a 0 = 0) ∨
      (roB im l a ∧ ∃ (o v : Nat) (p : Int32), vld o v ∧ nx im l a = nI o ∧ (o ≠ 112 → ∀ w, roV im l a w = nI v) ∧ roA im l a = a + (enc (o, v)).length ∧ roA im l a ≤ l ∧ a < l ∧ txt ic a (enc (o, v)) ∧ (p = 4 ∨ p = 5 ∨ p = 6) ∧ eix ic (l - a) a 0 = eix ic (l - roA im l a) (roA im l a) p ∧ icp ic (l - a) a 0 = icp ic (l - roA im l a) (roA im l a) p ∧ (roA im l a < l → ¬ im 92 (roA im l a) = 59 → pbh p (im 92 (roA im l a)) = -1)) := by
    intro o M P hal ho hn hm hPM hp h112 hvl
    have ex : im 92 a = nI o := by exact (nx_in hal).symm.trans ho
    have eA : roA im l a = rnA im l (nI M) (a + 1) := by unfold roA; rw [ho, if_pos hn, hm]
    have eV : ∀ w, roV im l a w = rnV im l (nI M) (a + 1) := fun w => by unfold roV; rw [ho, if_pos hn, hm]
    have hP1 : ¬ P = -1 := by rcases hPM with z | z | z <;> rw [z.1] <;> decide
    have s1 := eix_s (q := P) hal (hT a hal) (by rw [ex]; exact hp) hP1
    have s2 := icp_s (ic := ic) (q := P) hal (hT a hal) (by rw [ex]; exact hp)
    have ne : ¬ nI o = 112 := by
      intro z
      rw [z] at hn
      exact absurd hn (by decide)
    rcases rdn (P := P) (M := M) (a := a + 1) hPM hT hal with ⟨r1, r2, r3, r4⟩ | ⟨r1, v, p, r2, r3, r4, r5, r6, r7, r8, r9, r10⟩
    · left
      refine ⟨?_, ?_, ?_, ?_⟩
      · rintro (z | z)
        · rw [ho, hm] at z; exact r1 z.2
        · rw [ho] at z; exact ne z
      · rw [eA, r2]; exact hal
      · rw [eA, r2, s1]; exact r3
      · rw [s2]; exact r4
    · right
      have hen : enc (o, v) = o :: dig v := by unfold enc; rw [if_neg h112]
      have eA2 : roA im l a = a + 1 + (dig v).length := eA.trans r4
      refine ⟨Or.inl ⟨by rw [ho]; exact hn, by rw [ho, hm]; exact r1⟩, o, v, p, hvl v r2, ho, fun _ w => (eV w).trans r3, ?_, ?_, hal, ?_, r7, ?_, ?_, ?_⟩
      · rw [hen, List.length_cons, eA2]; omega
      · rw [eA2]; exact r5
      · rw [hen]; exact txt_1 ((hT a hal).trans ex) r6
      · rw [eA2, s1]; exact r8
      · rw [eA2, s2]; exact r9
      · rw [eA2]; exact r10
  by_cases hal : a < l
  · have ex : im 92 a = nx im l a := (nx_in hal).symm
    by_cases h1 : nx im l a = 43
    · exact go 43 29 1 hal h1 (by decide) rfl (Or.inl ⟨rfl, rfl⟩) (by decide) (by decide) (fun v hv => Or.inl ⟨Or.inl rfl, by omega⟩)
    by_cases h2 : nx im l a = 45
    · exact go 45 29 1 hal h2 (by decide) rfl (Or.inl ⟨rfl, rfl⟩) (by decide) (by decide) (fun v hv => Or.inl ⟨Or.inr rfl, by omega⟩)
    by_cases h3 : nx im l a = 110
    · exact go 110 15 2 hal h3 (by decide) rfl (Or.inr (Or.inl ⟨rfl, rfl⟩)) (by decide) (by decide) (fun v hv => Or.inr (Or.inr (Or.inl ⟨rfl, by omega⟩)))
    by_cases h4 : nx im l a = 114
    · exact go 114 3 3 hal h4 (by decide) rfl (Or.inr (Or.inr ⟨rfl, rfl⟩)) (by decide) (by decide) (fun v hv => Or.inr (Or.inr (Or.inr ⟨Or.inl rfl, by omega⟩)))
    by_cases h5 : nx im l a = 115
    · exact go 115 3 3 hal h5 (by decide) rfl (Or.inr (Or.inr ⟨rfl, rfl⟩)) (by decide) (by decide) (fun v hv => Or.inr (Or.inr (Or.inr ⟨Or.inr (Or.inl rfl), by omega⟩)))
    by_cases h6 : nx im l a = 119
    · exact go 119 3 3 hal h6 (by decide) rfl (Or.inr (Or.inr ⟨rfl, rfl⟩)) (by decide) (by decide) (fun v hv => Or.inr (Or.inr (Or.inr ⟨Or.inr (Or.inr rfl), by omega⟩)))
    have hnum : ¬ num (nx im l a) := by
      rintro (z | z | z | z | z | z)
      · exact h1 z
      · exact h2 z
      · exact h3 z
      · exact h4 z
      · exact h5 z
      · exact h6 z
    by_cases h7 : nx im l a = 112
    · right
      have eA : roA im l a = a + 1 := by unfold roA; rw [if_neg hnum, if_pos h7]
      have ex7 : im 92 a = 112 := ex.trans h7
      refine ⟨Or.inr h7, 112, 0, 6, Or.inr (Or.inl ⟨rfl, rfl⟩), h7, fun z => absurd rfl z, eA, by rw [eA]; exact hal, hal, txt_1 ((hT a hal).trans ex7) txt_0, Or.inr (Or.inr rfl), ?_, ?_, fun _ z => pbh_6 z⟩
      · rw [eA]; exact eix_s (q := 6) hal (hT a hal) (by rw [ex7]; decide) (by decide)
      · rw [eA]; exact icp_s (q := 6) hal (hT a hal) (by rw [ex7]; decide)
    · left
      have eA : roA im l a = a := by unfold roA; rw [if_neg hnum, if_neg h7]
      have hpe : pbh 0 (im 92 a) = -1 := by
        rw [ex]
        by_cases h59 : nx im l a = 59
        · rw [h59]; decide
        · unfold pbh
          rw [if_neg h59, if_pos rfl]
          unfold pbs
          rw [if_neg (fun z => z.elim h1 h2), if_neg h3, if_neg h7, if_neg (fun z => z.elim h4 (fun z => z.elim h5 h6))]
      obtain ⟨e1, e2⟩ := eix_e hal (hT a hal) hpe
      refine ⟨?_, by rw [eA]; exact ha, by rw [eA]; exact e1, e2⟩
      rintro (z | z)
      · exact hnum z.1
      · exact h7 z
  · left
    have h0 : nx im l a = 0 := nx_out hal
    have hnum : ¬ num (nx im l a) := by rw [h0]; decide
    have h7 : ¬ nx im l a = 112 := by rw [h0]; decide
    have eA : roA im l a = a := by unfold roA; rw [if_neg hnum, if_neg h7]
    have : a = l := by omega
    subst this
    refine ⟨?_, by rw [eA]; exact Nat.le_refl _, by rw [eA]; exact eix_l, by rw [icp_l]; decide⟩
    rintro (z | z)
    · exact hnum z.1
    · exact h7 z
/-- the first error is the same -/
theorem fe_eix (hT : ∀ q, q < l → ic 88 q = im 92 q) : ∀ (r a : Nat) (v : Int32), a ≤ l → l < a + r → ((fe im l r a v).1 = -1 ∧ eix ic (l - a) a 0 = nI l ∧ icp ic (l - a) a 0 = 1) ∨ (∃ z, z ≤ l ∧ (fe im l r a v).1 = nI z ∧ eix ic (l - a) a 0 = nI z ∧ icp ic (l - a) a 0 = 0)
  | 0, a, v, h1, h2 => by omega
  | r + 1, a, v, h1, h2 => by
    unfold fe
    rcases rdo hT h1 with ⟨r1, r2, r3, r4⟩ | ⟨r1, o, w, p, r2, r3, r4, r5, r6, r7, r8, r9, r10, r11, r12⟩
    · right
      rw [if_pos r1]
      exact ⟨_, r2, rfl, r3, r4⟩
    · rw [if_neg (fun z => z r1)]
      by_cases hA : roA im l a = l
      · left
        rw [if_pos hA]
        refine ⟨rfl, ?_, ?_⟩
        · rw [r10, hA]; exact eix_l
        · rw [r11, hA, icp_l]
          rcases r9 with z | z | z <;> rw [z] <;> decide
      · have hlt : roA im l a < l := by omega
        rw [if_neg hA, nx_in hlt]
        by_cases h59 : im 92 (roA im l a) = 59
        · rw [if_neg (fun z => z h59)]
          have hp0 : pbh p (im 92 (roA im l a)) = 0 := by rw [h59]; exact pbh_59' r9
          have := fe_eix hT r (roA im l a + 1) (roV im l a v) hlt (by rw [r5] ; have : 1 ≤ (enc (o, w)).length := (by unfold enc; rw [List.length_cons]; omega); omega)
          rw [r10, r11, eix_s hlt (hT _ hlt) hp0 (by decide), icp_s hlt (hT _ hlt) hp0]
          exact this
        · rw [if_pos h59]
          right
          obtain ⟨e1, e2⟩ := eix_e hlt (hT _ hlt) (r12 hlt h59)
          exact ⟨_, r6, rfl, r10.trans e1, r11.trans e2⟩
end RX
theorem t31 (g : G0) : StP g INV m_X6_firstError m_X7_firstError := by
  intro i j t ht I
  obtain ⟨l, T1, T2, T3, T4⟩ := I.2.2
  have h8 := k_X6_firstError (g := g) (i := i) (j := j) (c := l) 6 T1 T3
  have h9 := k_X7_firstError (g := g) (i := i) (j := j) (l := l) 6 T2 T3
  have e92 : ∀ q, q < l → i 88 q = th i 0 92 q := fun q h => (T4 q h).trans (th_ne (by omega)).symm
  have e : eix i l 0 0 = (if feR (th i 0) l = -1 then nI l else feR (th i 0) l) := by
    rcases fe_eix e92 (l + 1) 0 (th i 0 89 8) (by omega) (by omega) with ⟨h1, h2, h3⟩ | ⟨z, h1, h2, h3, h4⟩
    · rw [if_pos h1]; exact h2
    · have hn : ¬ feR (th i 0) l = -1 := by
        show ¬ (fe (th i 0) l (l + 1) 0 (th i 0 89 8)).1 = -1
        rw [h2]; exact nI_nm1 z (by omega)
      rw [if_neg hn]
      exact h3.trans h2.symm
  rw [← e] at h9
  exact ⟨_, _, _, h8, h9, INV_agr I (agr_pst agr_t0)⟩
