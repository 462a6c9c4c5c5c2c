/-! ===== a follower refreshes ===== -/
theorem csl_mx {x y : Nat → Nat → Int32} {e : Int32} : ∀ (m : Nat) (a : Int32), csl (mx9 x y) e m a = csl x e m a
  | 0, a => rfl
  | m + 1, a => by
    show (if x 4 m = e then a + x 7 m else csl (mx9 x y) e m (a + x 7 m)) = (if x 4 m = e then a + x 7 m else csl x e m (a + x 7 m))
    rw [csl_mx m]
theorem csl_up {x : Nat → Nat → Int32} {e v : Int32} {p q : Nat} (hp : 9 ≤ p) : ∀ (m : Nat) (a : Int32), csl (up2 x p q v) e m a = csl x e m a
  | 0, a => rfl
  | m + 1, a => by
    show (if up2 x p q v 4 m = e then a + up2 x p q v 7 m else csl (up2 x p q v) e m (a + up2 x p q v 7 m)) = (if x 4 m = e then a + x 7 m else csl x e m (a + x 7 m))
    rw [csl_up hp m, up2_ne (by omega), up2_ne (by omega)]
theorem apl_up {x : Nat → Nat → Int32} {e v : Int32} {p q : Nat} (hp : 9 ≤ p) : ∀ (r k : Nat) (l : Int32) (b : Bool), apl (up2 x p q v) e r k l b = apl x e r k l b
  | 0, k, l, b => rfl
  | r + 1, k, l, b => by
    show (if b = true ∨ up2 x p q v 4 k = e then apl (up2 x p q v) e r (k + 1) ((l &&& (up2 x p q v 5 k ^^^ (-1))) ||| up2 x p q v 6 k) true else apl (up2 x p q v) e r (k + 1) l false) = (if b = true ∨ x 4 k = e then apl x e r (k + 1) ((l &&& (x 5 k ^^^ (-1))) ||| x 6 k) true else apl x e r (k + 1) l false)
    rw [apl_up hp r, apl_up hp r, up2_ne (by omega), up2_ne (by omega), up2_ne (by omega)]
theorem mlf_mx {x y : Nat → Nat → Int32} {f : Nat} : ∀ (r k : Nat), mlf (mx9 x y) f r k = mlf y f r k
  | 0, k => rfl
  | r + 1, k => by
    show (if y 90 (6 + 3 * k + 0) = y 90 (24 + 6 * f + 2) then some k else mlf (mx9 x y) f r (k + 1)) = (if y 90 (6 + 3 * k + 0) = y 90 (24 + 6 * f + 2) then some k else mlf y f r (k + 1))
    rw [mlf_mx r]
theorem mcf_mx {x y : Nat → Nat → Int32} : ∀ (r k : Nat) (a : Int32), mcf (mx9 x y) r k a = mcf y r k a
  | 0, k, a => rfl
  | r + 1, k, a => by
    show mcf (mx9 x y) r (k + 1) (a + mco y k) = mcf y r (k + 1) (a + mco y k)
    exact mcf_mx r (k + 1) _
theorem man_mx {x y : Nat → Nat → Int32} {f c : Nat} : man (mx9 x y) f c = man y f c := by
  unfold man
  rw [mlf_mx]
  cases mlf y f c 0 with
  | none => rfl
  | some k =>
    dsimp only
    rw [mcf_mx]
    rfl
theorem mca_mx {x y : Nat → Nat → Int32} {f c : Nat} : mca (mx9 x y) f c = mca y f c := by
  unfold mca
  rw [man_mx, mlf_mx, show mwh (mx9 x y) = mwh y from rfl]
  cases mlf y f c 0 with
  | none => rfl
  | some k =>
    show (if man y f c = 1 then mcf (mx9 x y) (c - k) k 0 else _) = (if man y f c = 1 then mcf y (c - k) k 0 else _)
    rw [mcf_mx]
theorem ans_mx {x y : Nat → Nat → Int32} {p c : Nat} (hp : p < 13) : ans (mx9 x y) p c = ans x p c := by
  unfold ans
  rw [csl_mx, mx_c hp, mx_c hp, mx_c (by omega), mx_c (by omega)]
theorem coa_mx {x y : Nat → Nat → Int32} {a e : Int32} {c : Nat} : coa (mx9 x y) a e c = coa x a e c := by
  unfold coa
  rw [csl_mx, mx_c (by omega)]
theorem coa_up {x : Nat → Nat → Int32} {a e v : Int32} {c p q : Nat} (hp : 9 ≤ p) : coa (up2 x p q v) a e c = coa x a e c := by
  unfold coa
  rw [csl_up hp, up2_ne (by omega)]
theorem mlf_u9 {y : Nat → Nat → Int32} {f q : Nat} {v : Int32} (hq : 24 ≤ q) (hq2 : q ≠ 24 + 6 * f + 2) : ∀ (r k : Nat), k + r ≤ 6 → mlf (up2 y 90 q v) f r k = mlf y f r k
  | 0, k, _ => rfl
  | r + 1, k, h => by
    show (if up2 y 90 q v 90 (6 + 3 * k + 0) = up2 y 90 q v 90 (24 + 6 * f + 2) then some k else mlf (up2 y 90 q v) f r (k + 1)) = (if y 90 (6 + 3 * k + 0) = y 90 (24 + 6 * f + 2) then some k else mlf y f r (k + 1))
    rw [mlf_u9 hq hq2 r (k + 1) (by omega), up2_nf (by omega), up2_nf (by omega)]
/-- the lists that come out are the same -/
theorem ap_tail {x : Nat → Nat → Int32} {e : Int32} {f : Nat} : ∀ (r k : Nat) (y : Nat → Nat → Int32) (l : Int32), k + r ≤ 6 → (∀ d, k ≤ d → d < k + r → x 5 d = y 90 (6 + 3 * d + 1) ∧ x 6 d = y 90 (6 + 3 * d + 2)) → y 90 (24 + 6 * f + 1) = l → apl x e r k l true = mapA f r k y 90 (24 + 6 * f + 1)
  | 0, k, y, l, _, _, h => h.symm
  | r + 1, k, y, l, h6, hd, h => by
    unfold apl
    rw [if_pos (Or.inl rfl)]
    show _ = mapA f r (k + 1) (map1 y f k) 90 (24 + 6 * f + 1)
    refine ap_tail r (k + 1) (map1 y f k) _ (by omega) (fun d h1 h2 => ?_) ?_
    · unfold map1
      rw [up2_nf (by omega), up2_nf (by omega)]
      exact hd d (by omega) (by omega)
    · unfold map1
      rw [up2_eq, h, (hd k (by omega) (by omega)).1, (hd k (by omega) (by omega)).2]
theorem ap_eq {x : Nat → Nat → Int32} {e : Int32} {f c : Nat} {y : Nat → Nat → Int32} {l : Int32} (hc : c ≤ 6) (h4 : ∀ d, d < c → x 4 d = y 90 (6 + 3 * d + 0)) (hd : ∀ d, d < c → x 5 d = y 90 (6 + 3 * d + 1) ∧ x 6 d = y 90 (6 + 3 * d + 2)) (he : e = y 90 (24 + 6 * f + 2)) (hl : y 90 (24 + 6 * f + 1) = l) : ∀ (r k : Nat) {q : Nat}, k + r = c → mlf y f r k = some q → apl x e r k l false = mapA f (c - q) q y 90 (24 + 6 * f + 1)
  | 0, k, q, _, h => by unfold mlf at h; exact absurd h (by simp)
  | r + 1, k, q, hk, h => by
    unfold mlf at h
    unfold apl
    by_cases h2 : y 90 (6 + 3 * k + 0) = y 90 (24 + 6 * f + 2)
    · rw [if_pos h2] at h
      cases h
      rw [if_pos (Or.inr ((h4 k (by omega)).trans (h2.trans he.symm)))]
      rw [show c - k = r + 1 by omega]
      have := ap_tail (x := x) (e := e) (f := f) (r + 1) k y l (by omega) (fun d h1 h2 => hd d (by omega)) hl
      unfold apl at this
      rw [if_pos (Or.inl rfl)] at this
      exact this
    · rw [if_neg h2] at h
      rw [if_neg (fun z => z.elim (fun z => by cases z) (fun z => h2 ((h4 k (by omega)).symm.trans (z.trans he))))]
      exact ap_eq hc h4 hd he hl r (k + 1) (by omega) h
/-- a sum of costs is at least as large as what it begins with, and larger for each difference -/
theorem mcf_ge {y : Nat → Nat → Int32} : ∀ (r k s : Nat), ∃ z, s + r ≤ z ∧ z ≤ s + 61 * r ∧ mcf y r k (nI s) = nI z
  | 0, k, s => ⟨s, by omega, by omega, rfl⟩
  | r + 1, k, s => by
    obtain ⟨a, a1, a2⟩ := onF_nat (y 90 (6 + 3 * k + 1)) 30
    obtain ⟨b, b1, b2⟩ := onF_nat (y 90 (6 + 3 * k + 2)) 30
    have e : mco y k = nI (1 + a + b) := by
      unfold mco one
      rw [a2, b2, show (1 : Int32) = nI 1 from rfl, nI_add, nI_add]
    obtain ⟨z, z1, z2, z3⟩ := mcf_ge (y := y) r (k + 1) (s + (1 + a + b))
    refine ⟨z, by omega, by omega, ?_⟩
    show mcf y r (k + 1) (nI s + mco y k) = nI z
    rw [e, nI_add]
    exact z3
theorem mwh_nat (y : Nat → Nat → Int32) : ∃ w, 1 ≤ w ∧ w ≤ 31 ∧ mwh y = nI w := by
  obtain ⟨a, a1, a2⟩ := onF_nat (y 90 1) 30
  exact ⟨1 + a, by omega, by omega, by unfold mwh one; rw [a2, show (1 : Int32) = nI 1 from rfl, nI_add]⟩
/-- what is counted: nothing, or between 1 and the whole list's cost -/
theorem mca_nat {y : Nat → Nat → Int32} {f c w : Nat} (hc : c ≤ 6) (hw : mwh y = nI w) (hw1 : 1 ≤ w) (hw31 : w ≤ 31) (h : man y f c = 1 ∨ man y f c = 2) : ∃ z, 1 ≤ z ∧ z ≤ w ∧ mca y f c = nI z := by
  unfold mca
  by_cases h1 : man y f c = 1
  · rw [if_pos h1]
    obtain ⟨k, k1, k2⟩ := man_one h1
    obtain ⟨z, z1, z2, z3⟩ := mcf_ge (y := y) (c - k) k 0
    refine ⟨z, by omega, ?_, by rw [k1]; exact z3⟩
    have h3 : ¬ mwh y < mcf y (c - k) k 0 := fun hlt => by
      have : ¬ man y f c = 1 := by
        unfold man
        rw [k1]
        split
        · decide
        · split
          · split <;> decide
          · show ¬ (if ¬ mwh y < mcf y (c - k) k 0 then (1 : Int32) else 2) = 1
            rw [if_neg (fun z => z hlt)]
            decide
      exact this h1
    rw [hw, show (0 : Int32) = nI 0 from rfl, z3] at h3
    have := mt (nI_ltI (a := w) (b := z) (by omega) (by omega)).mpr h3
    omega
  · rw [if_neg h1, if_pos (h.resolve_left h1)]
    exact ⟨w, hw1, Nat.le_refl _, hw⟩
theorem up2s {i : Nat → Nat → Int32} {k f a b : Nat} {v : Int32} : up2 i k f v a b = if a = k ∧ b = f then v else i a b := rfl
theorem bnI_at {x : Nat → Nat → Int32} {p c : Nat} (hp : 9 ≤ p) (h : ans x p c = 1 ∨ ans x p c = 2) :
    bnI x p c p 0 = 1 ∧ bnI x p c p 1 = (if ans x p c = 2 then x 2 1 else apl x (x p 2) c 0 (x p 1) false) ∧ bnI x p c p 2 = x 2 2 ∧ bnI x p c p 3 = x p 3 ∧ bnI x p c p 4 = 0 ∧ bnI x p c p 5 = x p 5 + coa x (ans x p c) (x p 2) c ∧ bnI x p c p 6 = x p 6 + (1 + bcI (x 2 1)) := by
  have h2 : ¬ 2 = p := by omega
  unfold bnI
  rw [if_pos h]
  unfold bnW
  try dsimp only
  rw [coa_up hp]
  simp only [apl_up hp, up2s, h2, false_and, and_false, true_and, and_true, if_false, if_true, Nat.reduceEqDiff, reduceIte, and_self]
theorem mrf1_at {j : Nat → Nat → Int32} {f : Nat} {co : Int32} :
    mrf1 j f co 90 (24 + 6 * f + 0) = 1 ∧ mrf1 j f co 90 (24 + 6 * f + 1) = j 90 (24 + 6 * f + 1) ∧ mrf1 j f co 90 (24 + 6 * f + 2) = j 90 2 ∧ mrf1 j f co 90 (24 + 6 * f + 3) = j 90 (24 + 6 * f + 3) ∧ mrf1 j f co 90 (24 + 6 * f + 4) = j 90 (24 + 6 * f + 4) ∧ mrf1 j f co 90 (24 + 6 * f + 5) = j 90 (24 + 6 * f + 5) + co ∧ mrf1 j f co 90 5 = j 90 5 + mwh j := by
  unfold mrf1
  try dsimp only
  refine ⟨?_, ?_, ?_, ?_, ?_, ?_, ?_⟩
  · rw [up2_nf (by omega), up2_nf (by omega), up2_nf (by omega), up2_eq]
  · rw [up2_nf (by omega), up2_nf (by omega), up2_nf (by omega), up2_nf (by omega)]
  · rw [up2_nf (by omega), up2_nf (by omega), up2_eq, up2_nf (by omega)]
  · rw [up2_nf (by omega), up2_nf (by omega), up2_nf (by omega), up2_nf (by omega)]
  · rw [up2_nf (by omega), up2_nf (by omega), up2_nf (by omega), up2_nf (by omega)]
  · rw [up2_nf (by omega), up2_eq, up2_nf (by omega), up2_nf (by omega)]
  · rw [up2_eq, up2_nf (by omega), up2_nf (by omega), up2_nf (by omega)]
    unfold mwh
    rw [up2_nf (by omega), up2_nf (by omega), up2_nf (by omega)]
theorem mapA_L30 {f : Nat} : ∀ (r k : Nat) (y : Nat → Nat → Int32), k + r ≤ 6 → (∀ d, k ≤ d → d < k + r → L30 (y 90 (6 + 3 * d + 2))) → L30 (y 90 (24 + 6 * f + 1)) → L30 (mapA f r k y 90 (24 + 6 * f + 1))
  | 0, k, y, _, _, h => h
  | r + 1, k, y, h6, hd, h => by
    show L30 (mapA f r (k + 1) (map1 y f k) 90 (24 + 6 * f + 1))
    refine mapA_L30 r (k + 1) _ (by omega) (fun d h1 h2 => ?_) ?_
    · unfold map1
      rw [up2_nf (by omega)]
      exact hd d (by omega) (by omega)
    · unfold map1
      rw [up2_eq]
      exact L30_or (L30_and h) (hd k (by omega) (by omega))
/-- what the reference's refresh leaves -/
theorem mrf_at {y : Nat → Nat → Int32} {f c : Nat} (hc : c ≤ 6) (h : man y f c = 1 ∨ man y f c = 2) :
    mrf y f c 90 (24 + 6 * f + 0) = 1 ∧ (man y f c = 2 → mrf y f c 90 (24 + 6 * f + 1) = y 90 1) ∧ (∀ k, man y f c = 1 → mlf y f c 0 = some k → mrf y f c 90 (24 + 6 * f + 1) = mapA f (c - k) k (up2 y 90 (24 + 6 * f + 4) 0) 90 (24 + 6 * f + 1)) ∧ mrf y f c 90 (24 + 6 * f + 2) = y 90 2 ∧ mrf y f c 90 (24 + 6 * f + 3) = y 90 (24 + 6 * f + 3) ∧ mrf y f c 90 (24 + 6 * f + 4) = 0 ∧ mrf y f c 90 (24 + 6 * f + 5) = y 90 (24 + 6 * f + 5) + mca y f c ∧ mrf y f c 90 5 = y 90 5 + mwh y := by
  have hn : ¬ (man y f c = 0 ∨ man y f c = 3) := by
    rcases h with h | h <;> rw [h] <;> decide
  have eu : ∀ q, q ≠ 24 + 6 * f + 4 → up2 y 90 (24 + 6 * f + 4) 0 90 q = y 90 q := fun q h => up2_nf h
  by_cases h1 : man y f c = 1
  · obtain ⟨k, k1, k2⟩ := man_one h1
    have e : mrf y f c = mrf1 (mapA f (c - k) k (up2 y 90 (24 + 6 * f + 4) 0)) f (mca y f c) := by
      unfold mrf
      try dsimp only
      rw [if_neg hn, if_pos h1]
      unfold mrA
      rw [mlf_u9 (by omega) (by omega) c 0 (by omega), k1]
    obtain ⟨a0, a1, a2, a3, a4, a5, a6⟩ := mrf1_at (j := mapA f (c - k) k (up2 y 90 (24 + 6 * f + 4) 0)) (f := f) (co := mca y f c)
    rw [← e] at a0 a1 a2 a3 a4 a5 a6
    refine ⟨a0, fun z => ?_, fun k' _ hk' => ?_, ?_, ?_, ?_, ?_, ?_⟩
    · rw [h1] at z; exact absurd z (by decide)
    · rw [k1] at hk'; cases hk'; exact a1
    · rw [a2, mapA_oth _ _ _ (by omega), eu _ (by omega)]
    · rw [a3, mapA_oth _ _ _ (by omega), eu _ (by omega)]
    · rw [a4, mapA_oth _ _ _ (by omega)]; exact up2_eq
    · rw [a5, mapA_oth _ _ _ (by omega), eu _ (by omega)]
    · rw [a6, mapA_oth _ _ _ (by omega), eu _ (by omega)]
      unfold mwh
      rw [mapA_oth _ _ _ (by omega), eu _ (by omega)]
  · have h2 := h.resolve_left h1
    have e : mrf y f c = mrf1 (up2 (up2 y 90 (24 + 6 * f + 4) 0) 90 (24 + 6 * f + 1) (y 90 1)) f (mca y f c) := by
      unfold mrf
      try dsimp only
      rw [if_neg hn, if_neg h1, eu _ (by omega)]
    obtain ⟨a0, a1, a2, a3, a4, a5, a6⟩ := mrf1_at (j := up2 (up2 y 90 (24 + 6 * f + 4) 0) 90 (24 + 6 * f + 1) (y 90 1)) (f := f) (co := mca y f c)
    rw [← e] at a0 a1 a2 a3 a4 a5 a6
    refine ⟨a0, fun z => ?_, fun k' z _ => absurd z h1, ?_, ?_, ?_, ?_, ?_⟩
    · rw [a1]; exact up2_eq
    · rw [a2, up2_nf (by omega), eu _ (by omega)]
    · rw [a3, up2_nf (by omega), eu _ (by omega)]
    · rw [a4, up2_nf (by omega)]; exact up2_eq
    · rw [a5, up2_nf (by omega), eu _ (by omega)]
    · rw [a6, up2_nf (by omega), eu _ (by omega)]
      unfold mwh
      rw [up2_nf (by omega), eu _ (by omega)]
theorem sum4 {w : Nat → Nat} {f z : Nat} (hf : f < 4) : (if 0 = f then w 0 + z else w 0) + (if 1 = f then w 1 + z else w 1) + (if 2 = f then w 2 + z else w 2) + (if 3 = f then w 3 + z else w 3) = w 0 + w 1 + w 2 + w 3 + z := by
  rcases (by omega : f = 0 ∨ f = 1 ∨ f = 2 ∨ f = 3) with rfl | rfl | rfl | rfl <;> simp <;> omega
theorem LX_114 {x y : Nat → Nat → Int32} {B c K n f : Nat} (L : LW9 (mx9 x y) B c K n) (hf : f < 4) : ans x (9 + f) c = man y f c ∧ LW9 (mx9 (bnI x (9 + f) c) (mrf y f c)) (B + 31) c K n := by
  have hA := ans_man L hf
  rw [ans_mx (by omega), man_mx] at hA
  have hC := coa_mca L hf
  rw [ans_mx (by omega), coa_mx, mca_mx, mx_c (by omega), hA] at hC
  refine ⟨hA, ?_⟩
  obtain ⟨⟨P1, P2, P3, P4⟩, ⟨N1, N2, N3, N4, N5, N6, N7, N8, N9, N10⟩, D, F, a, w, C1, C2, C3⟩ := id L
  have hc6 : c ≤ 6 := by omega
  have hF := F f hf
  unfold FV at hF
  simp only [mx_m, mx_c (show 9 + f < 13 by omega)] at hF
  obtain ⟨F1, F2, F3, F4, F5, F6, F7, F8, F9, F10⟩ := hF
  have P2' : x 2 1 = y 90 1 := P2
  have N1' : x 2 2 = y 90 2 := N1.trans N2.symm
  by_cases h : man y f c = 1 ∨ man y f c = 2
  · have h' : ans x (9 + f) c = 1 ∨ ans x (9 + f) c = 2 := by rw [hA]; exact h
    obtain ⟨b0, b1, b2, b3, b4, b5, b6⟩ := bnI_at (x := x) (p := 9 + f) (c := c) (by omega) h'
    obtain ⟨m0, m1, m1', m2, m3, m4, m5, m6⟩ := mrf_at hc6 h
    obtain ⟨w0, w1, w2, w3⟩ := mwh_nat y
    obtain ⟨z, z1, z2, z3⟩ := mca_nat hc6 w3 w1 w2 h
    have hwc : 1 + bcI (x 2 1) = nI w0 := by
      rw [← w3]
      unfold mwh
      rw [P2', bc_one (show L30 (y 90 1) from P4)]
    have hlist : bnI x (9 + f) c (9 + f) 1 = mrf y f c 90 (24 + 6 * f + 1) ∧ L30 (mrf y f c 90 (24 + 6 * f + 1)) := by
      rw [b1, hA]
      by_cases h2 : man y f c = 2
      · rw [if_pos h2, m1 h2]
        exact ⟨P2', P4⟩
      · have h1 := h.resolve_right h2
        obtain ⟨k, k1, k2⟩ := man_one h1
        have h0 : ¬ y 90 (24 + 6 * f + 0) = 0 := fun z => by
          have : man y f c = 2 := if_pos z
          exact h2 this
        have q4 : ∀ q, q ≠ 24 + 6 * f + 4 → up2 y 90 (24 + 6 * f + 4) 0 90 q = y 90 q := fun q h => up2_nf h
        rw [if_neg h2, m1' k h1 k1]
        constructor
        · refine ap_eq (c := c) hc6 (fun d hd => ?_) (fun d hd => ⟨?_, ?_⟩) ?_ ?_ c 0 (by omega) ?_
          · rw [q4 _ (by omega)]; exact (D d hd).1
          · rw [q4 _ (by omega)]; exact (D d hd).2.2.1
          · rw [q4 _ (by omega)]; exact (D d hd).2.2.2.2.1
          · rw [q4 _ (by omega)]; exact (F5 h0).1
          · rw [q4 _ (by omega)]; exact F3.symm
          · rw [mlf_u9 (by omega) (by omega) c 0 (by omega)]; exact k1
        · refine mapA_L30 _ _ _ (by omega) (fun d h1 h2 => ?_) ?_
          · rw [q4 _ (by omega)]; exact (D d (by omega)).2.2.2.2.2.1
          · rw [q4 _ (by omega)]; exact F4
    refine LW_keep L (fun a q hq => ?_) (fun q hq hq5 => ?_) (fun g hg => ?_) ?_
    · rw [mx_c (by omega), mx_c (by omega)]; exact bnI_oth (by omega)
    · rw [mx_m, mx_m]; exact mrf_oth (by omega)
    · by_cases e : g = f
      · subst e
        unfold FV
        simp only [mx_m, mx_c (show 9 + g < 13 by omega)]
        rw [b0, m0, b2, m2, b3, m3, b4, m4, b5, m5, hA, hC, F10]
        refine ⟨rfl, Or.inr rfl, hlist.1, hlist.2, fun _ => ⟨N1', n, N3, N2⟩, F6, F7, rfl, Or.inl rfl, rfl⟩
      · refine FV_same (F g hg) (fun q hq => ?_) (fun q hq => ?_)
        · rw [mx_c (by omega), mx_c (by omega)]; exact bnI_oth (by omega)
        · rw [mx_m, mx_m]; exact mrf_oth (by omega)
    · refine ⟨fun g => if g = f then a g + z else a g, fun g => if g = f then w g + w0 else w g, fun g hg => ?_, ?_, ?_⟩
      · obtain ⟨d1, d2, d3, d4⟩ := C1 g hg
        rw [mx_c (by omega)] at d1 d2
        rw [mx_c (by omega), mx_c (by omega)]
        try dsimp only
        by_cases e : g = f
        · subst e
          rw [if_pos rfl, if_pos rfl, b5, b6, d1, d2, hA, hC, z3, hwc, nI_add, nI_add]
          exact ⟨rfl, rfl, by omega, fun q => by omega⟩
        · rw [if_neg e, if_neg e, bnI_oth (by omega), bnI_oth (by omega)]
          exact ⟨d1, d2, d3, d4⟩
      · rw [mx_m] at C2 ⊢
        rw [m6, C2, w3, nI_add]
        congr 1
        exact (sum4 hf).symm
      · have := sum4 (w := w) (z := w0) hf
        try dsimp only
        omega
  · have h' : ¬ (ans x (9 + f) c = 1 ∨ ans x (9 + f) c = 2) := by rw [hA]; exact h
    have h3 : man y f c = 0 ∨ man y f c = 3 := by
      rcases man_in (i := y) (f := f) (c := c) with e | e | e | e
      · exact Or.inl e
      · exact absurd (Or.inl e) h
      · exact absurd (Or.inr e) h
      · exact Or.inr e
    have eb : bnI x (9 + f) c = up2 x (9 + f) 4 0 := by unfold bnI; rw [if_neg h']
    have em : mrf y f c = up2 y 90 (24 + 6 * f + 4) 0 := by unfold mrf; dsimp only; rw [if_pos h3]
    rw [eb, em]
    refine LW_keep L (fun a q hq => ?_) (fun q hq hq5 => ?_) (fun g hg => ?_) (CV_same L.2.2.2.2 (by omega) (fun g q hg hq => ?_) ?_)
    · rw [mx_c (by omega), mx_c (by omega)]; exact up2_ne (by omega)
    · rw [mx_m, mx_m]; exact up2_nf (by omega)
    · by_cases e : g = f
      · subst e
        unfold FV
        simp only [mx_m, mx_c (show 9 + g < 13 by omega)]
        have cx : ∀ q, q ≠ 4 → up2 x (9 + g) 4 0 (9 + g) q = x (9 + g) q := fun q h => up2_nf h
        have cy : ∀ q, q ≠ 4 → up2 y 90 (24 + 6 * g + 4) 0 90 (24 + 6 * g + q) = y 90 (24 + 6 * g + q) := fun q h => up2_nf (by omega)
        have c4 : up2 x (9 + g) 4 0 (9 + g) 4 = 0 := up2_eq
        have y4 : up2 y 90 (24 + 6 * g + 4) 0 90 (24 + 6 * g + 4) = 0 := up2_eq
        rw [cx 0 (by omega), cy 0 (by omega), cx 1 (by omega), cy 1 (by omega), cx 2 (by omega), cy 2 (by omega), cx 3 (by omega), cy 3 (by omega), c4, y4, cx 5 (by omega), cy 5 (by omega)]
        exact ⟨F1, F2, F3, F4, F5, F6, F7, rfl, Or.inl rfl, F10⟩
      · refine FV_same (F g hg) (fun q hq => ?_) (fun q hq => ?_)
        · rw [mx_c (by omega), mx_c (by omega)]; exact up2_ne (by omega)
        · rw [mx_m, mx_m]; exact up2_nf (by omega)
    · rw [mx_c (by omega), mx_c (by omega)]; exact up2_nf (by omega)
    · rw [mx_m, mx_m]; exact up2_nf (by omega)
