theorem gnF_oth {i : Nat → Nat → Int32} {m a f : Nat} (h : f ≠ 4 ∨ a < 9 ∨ 9 + m ≤ a) : gnF i m a f = i a f := by unfold gnF; rw [if_neg (by omega)]
theorem isu_oth {i : Nat → Nat → Int32} {c K n a f : Nat} (h : a < 2 ∨ 7 < a ∨ (a = 3 ∧ f ≠ 5) ∨ (a = 2 ∧ f = 0)) : isu i c K n a f = i a f := by
  unfold isu
  by_cases h2 : a = 2
  · rw [up2_nf (by omega), up2_nf (by omega), kp_oth (by omega)]
  · rw [up2_ne h2, up2_ne h2, kp_oth (by omega)]
theorem dO43 {i : Nat → Nat → Int32} {v : Nat} : doO i 43 v = up2 i 2 0 (i 2 0 ||| (1 <<< (nI v &&& 31))) := rfl
theorem dO45 {i : Nat → Nat → Int32} {v : Nat} : doO i 45 v = up2 i 2 0 (i 2 0 &&& ((1 <<< (nI v &&& 31)) ^^^ (-1))) := rfl
theorem dO112 {i : Nat → Nat → Int32} {v : Nat} : doO i 112 v = gnF (isu i (cN i) (KN i) (nN i)) 4 := rfl
theorem dO110 {i : Nat → Nat → Int32} {v : Nat} : doO i 110 v = gnF (up2 (up2 i 2 2 (nI v)) 3 5 0) 4 := rfl
theorem doO_oth {i : Nat → Nat → Int32} {o v a f : Nat} (hv : vld o v) (h : 13 ≤ a) : doO i o v a f = i a f := by
  rcases hv with ⟨rfl | rfl, hv⟩ | ⟨rfl, rfl⟩ | ⟨rfl, hv⟩ | ⟨rfl | rfl | rfl, hv⟩
  · exact up2_ne (by omega)
  · exact up2_ne (by omega)
  · show gnF _ 4 a f = _; rw [gnF_oth (by omega), isu_oth (by omega)]
  · show gnF _ 4 a f = _; rw [gnF_oth (by omega), up2_ne (by omega), up2_ne (by omega)]
  · exact bnI_oth (by omega)
  · exact up2_ne (by omega)
  · exact up2_ne (by omega)
theorem b2x {p q : Prop} [Decidable p] [Decidable q] (h : p ↔ q) : b2i q = b2i p := by unfold b2i; simp only [h]
theorem one_0 {x : Int32} (h : L30 x) : one x = 0 ↔ x = 0 := by
  obtain ⟨n, hn, rfl⟩ := h
  have e : one (nI n) = nI (pop n 30) := onF_pop (by omega) 30 (by omega)
  rw [e]
  constructor
  · intro z
    have hp := pop_le (n := n) 30
    have h0 : pop n 30 = 0 := (nI_eq (a := pop n 30) (b := 0) (by omega) (by omega)).mp z
    have key : ∀ m, pop n m = 0 → ∀ q, q < m → n.testBit q = false := by
      intro m
      induction m with
      | zero => intro _ q hq; omega
      | succ m ih =>
        intro hm q hq
        have hm2 : pop n m + n / 2 ^ m % 2 = 0 := hm
        by_cases h5 : q = m
        · subst h5
          have h6 : n / 2 ^ q % 2 = 0 := by omega
          rw [tb_div] at h6
          cases h7 : n.testBit q with
          | false => rfl
          | true => rw [h7] at h6; exact absurd h6 (by decide)
        · exact ih (by omega) q (by omega)
    have h9 : n = 0 := by
      apply Nat.eq_of_testBit_eq
      intro q
      rw [Nat.zero_testBit]
      rcases Nat.lt_or_ge q 30 with h5 | h5
      · exact key 30 h0 q h5
      · exact Nat.testBit_lt_two_pow (Nat.lt_of_lt_of_le hn (Nat.pow_le_pow_right (by decide) h5))
    rw [h9]; rfl
  · intro z
    have h9 : n = 0 := (nI_eq (a := n) (b := 0) (by omega) (by omega)).mp z
    subst h9
    rfl
theorem xor_0 {x y : Int32} (hx : L30 x) (hy : L30 y) : x ^^^ y = 0 ↔ x = y := by
  obtain ⟨a, ha, rfl⟩ := hx
  obtain ⟨b, hb, rfl⟩ := hy
  rw [nb_xor]
  have h1 : a ^^^ b < 2 ^ 30 := Nat.xor_lt_two_pow ha hb
  constructor
  · intro z
    have h2 : a ^^^ b = 0 := (nI_eq (b := 0) (by omega) (by omega)).mp z
    have h3 : a = b := by
      apply Nat.eq_of_testBit_eq
      intro q
      have h4 : (a ^^^ b).testBit q = false := by rw [h2]; exact Nat.zero_testBit q
      rw [Nat.testBit_xor] at h4
      cases ha2 : a.testBit q <;> cases hb2 : b.testBit q <;> rw [ha2, hb2] at h4 <;> first | rfl | exact absurd h4 (by decide)
    rw [h3]
  · intro z
    have h2 : a = b := (nI_eq (by omega) (by omega)).mp z
    rw [h2, Nat.xor_self]; rfl
/-- the sum of q from k on, below m -/
def sm (q : Nat → Nat) (k : Nat) : Nat → Nat
  | 0 => 0
  | m + 1 => if k ≤ m then sm q k m + q m else 0
theorem sm_0 {q : Nat → Nat} {k : Nat} : ∀ m, m ≤ k → sm q k m = 0
  | 0, _ => rfl
  | m + 1, h => if_neg (by omega)
theorem sm_first {q : Nat → Nat} {k : Nat} : ∀ r, sm q k (k + 1 + r) = q k + sm q (k + 1) (k + 1 + r)
  | 0 => by
    show (if k ≤ k then sm q k k + q k else 0) = q k + sm q (k + 1) (k + 1)
    rw [if_pos (Nat.le_refl _), sm_0 k (Nat.le_refl _), sm_0 (k + 1) (Nat.le_refl _)]
    omega
  | r + 1 => by
    show (if k ≤ k + 1 + r then sm q k (k + 1 + r) + q (k + 1 + r) else 0) = q k + (if k + 1 ≤ k + 1 + r then sm q (k + 1) (k + 1 + r) + q (k + 1 + r) else 0)
    rw [if_pos (by omega), if_pos (by omega), sm_first r]
    omega
theorem sm_le {q : Nat → Nat} {k : Nat} {b : Nat} (hb : ∀ d, q d ≤ b) : ∀ m, sm q k m ≤ m * b
  | 0 => Nat.zero_le _
  | m + 1 => by
    show (if k ≤ m then sm q k m + q m else 0) ≤ _
    have h1 := sm_le (k := k) hb m
    have h2 := hb m
    rw [Nat.succ_mul]
    split <;> omega
theorem csl_hit {i : Nat → Nat → Int32} {e : Int32} {q : Nat → Nat} {k : Nat} : ∀ (m s : Nat), (∀ d, d < m → i 7 d = nI (q d)) → k < m → i 4 k = e → (∀ d, d < m → d ≠ k → ¬ i 4 d = e) → csl i e m (nI s) = nI (s + sm q k m)
  | 0, s, _, h, _, _ => by omega
  | m + 1, s, hq, h, h1, h2 => by
    show (if i 4 m = e then nI s + i 7 m else csl i e m (nI s + i 7 m)) = nI (s + (if k ≤ m then sm q k m + q m else 0))
    rw [hq m (by omega), nI_add, if_pos (show k ≤ m by omega)]
    by_cases hk : k = m
    · subst hk
      rw [if_pos h1, sm_0 k (Nat.le_refl _)]
      congr 1; omega
    · rw [if_neg (h2 m (by omega) (fun z => hk z.symm)), csl_hit m (s + q m) (fun d hd => hq d (by omega)) (by omega) h1 (fun d hd => h2 d (by omega))]
      congr 1; omega
theorem csl_miss {i : Nat → Nat → Int32} {e : Int32} : ∀ (m : Nat) (a : Int32), (∀ d, d < m → ¬ i 4 d = e) → csl i e m a = -1
  | 0, a, _ => rfl
  | m + 1, a, h => by
    show (if i 4 m = e then a + i 7 m else csl i e m (a + i 7 m)) = -1
    rw [if_neg (h m (by omega))]
    exact csl_miss m _ (fun d hd => h d (by omega))
theorem lt_c {x : Int32} {c : Nat} (hc : c ≤ 6) (h : ¬ ∃ k, k < c ∧ x = nI k) : x < 0 ∨ ¬ x < nI c := by
  by_cases h0 : x < 0
  · exact Or.inl h0
  · refine Or.inr fun z => h ?_
    obtain ⟨p, hp, e⟩ := nI_of h0
    subst e
    exact ⟨p, (nI_ltI (a := p) (b := c) (by omega) (by omega)).mp z, rfl⟩
/-- the copy of the live block in row x -/
theorem cpS_in {i : Nat → Nat → Int32} {a k f : Nat} (h : (k = 1 ∧ f < 3) ∨ (k = 2 ∧ (f = 4 ∨ f = 5)) ∨ (3 ≤ k ∧ k ≤ 6 ∧ f < 6) ∨ (8 ≤ k ∧ k ≤ 11 ∧ f < 7)) (b : Nat) : cpS i a b 4 (a + k) f = i (b + k) f := by
  unfold cpS
  rcases h with ⟨rfl, h⟩ | ⟨rfl, h⟩ | ⟨h1, h2, h3⟩ | ⟨h1, h2, h3⟩
  · rw [if_neg (by omega)]
    unfold cpP
    rw [if_pos (by omega)]
  · rw [if_neg (by omega)]
    unfold cpP cpE
    rw [if_neg (by omega), if_pos (by omega)]
  · rw [if_neg (by omega)]
    unfold cpP cpE cpD
    rw [if_neg (by omega), if_neg (by omega), if_pos (by omega)]
    exact ieq (by omega) rfl
  · rw [if_pos (by omega)]
    exact ieq (by omega) rfl
theorem svI_row {i : Nat → Nat → Int32} {k f r : Nat} (hx : xN i < 6) (hr : r < 6) (h : (k = 1 ∧ f < 3) ∨ (k = 2 ∧ (f = 4 ∨ f = 5)) ∨ (3 ≤ k ∧ k ≤ 6 ∧ f < 6) ∨ (8 ≤ k ∧ k ≤ 11 ∧ f < 7)) : svI i (15 + 12 * r + k) f = if r = xN i then i (1 + k) f else i (15 + 12 * r + k) f := by
  unfold svI saveW
  rw [up2_ne (by omega), up2_ne (by omega)]
  by_cases e : r = xN i
  · rw [if_pos e, ← e]
    exact cpS_in h 1
  · rw [if_neg e]
    have h2 : xN i < r ∨ r < xN i := by omega
    rw [cpS_off (by omega)]
theorem gnF_congr {i i' : Nat → Nat → Int32} {a f : Nat} (h : ∀ q, i a q = i' a q) : gnF i 4 a f = gnF i' 4 a f := by
  unfold gnF
  rw [h 3, h f]
/-- the class's places with one difference more -/
def cm6 (x : Nat → Nat → Int32) (c n : Nat) : Nat → Nat → Int32 := up2 (up2 (keepW x c (x 2 2) (x 2 1 &&& (x 2 0 ^^^ (-1))) (x 2 0 &&& (x 2 1 ^^^ (-1)))) 2 1 (x 2 0)) 2 2 (nI ((n + 1) % 16))
theorem csl_up {x : Nat → Nat → Int32} {e v : Int32} {p q : Nat} (hp : 9 ≤ p) : ∀ (m : Nat) (a : Int32), csl (up2 x p q v) e m a = csl x e m a
  | 0, a => rfl
  | m + 1, a => by
    show (if up2 x p q v 4 m = e then a + up2 x p q v 7 m else csl (up2 x p q v) e m (a + up2 x p q v 7 m)) = (if x 4 m = e then a + x 7 m else csl x e m (a + x 7 m))
    rw [csl_up hp m, up2_ne (by omega), up2_ne (by omega)]
theorem apl_up {x : Nat → Nat → Int32} {e v : Int32} {p q : Nat} (hp : 9 ≤ p) : ∀ (r k : Nat) (l : Int32) (b : Bool), apl (up2 x p q v) e r k l b = apl x e r k l b
  | 0, k, l, b => rfl
  | r + 1, k, l, b => by
    show (if b = true ∨ up2 x p q v 4 k = e then apl (up2 x p q v) e r (k + 1) ((l &&& (up2 x p q v 5 k ^^^ (-1))) ||| up2 x p q v 6 k) true else apl (up2 x p q v) e r (k + 1) l false) = (if b = true ∨ x 4 k = e then apl x e r (k + 1) ((l &&& (x 5 k ^^^ (-1))) ||| x 6 k) true else apl x e r (k + 1) l false)
    rw [apl_up hp r, apl_up hp r, up2_ne (by omega), up2_ne (by omega), up2_ne (by omega)]
theorem coa_up {x : Nat → Nat → Int32} {a e v : Int32} {c p q : Nat} (hp : 9 ≤ p) : coa (up2 x p q v) a e c = coa x a e c := by
  unfold coa
  rw [csl_up hp, up2_ne (by omega)]
theorem up2s {i : Nat → Nat → Int32} {k f a b : Nat} {v : Int32} : up2 i k f v a b = if a = k ∧ b = f then v else i a b := rfl
theorem bnI_at {x : Nat → Nat → Int32} {p c : Nat} (hp : 9 ≤ p) (h : ans x p c = 1 ∨ ans x p c = 2) :
    bnI x p c p 0 = 1 ∧ bnI x p c p 1 = (if ans x p c = 2 then x 2 1 else apl x (x p 2) c 0 (x p 1) false) ∧ bnI x p c p 2 = x 2 2 ∧ bnI x p c p 3 = x p 3 ∧ bnI x p c p 4 = 0 ∧ bnI x p c p 5 = x p 5 + coa x (ans x p c) (x p 2) c ∧ bnI x p c p 6 = x p 6 + (1 + bcI (x 2 1)) := by
  have h2 : ¬ 2 = p := by omega
  unfold bnI
  rw [if_pos h]
  unfold bnW
  try dsimp only
  rw [coa_up hp]
  simp only [apl_up hp, up2s, h2, false_and, and_false, true_and, and_true, if_false, if_true, Nat.reduceEqDiff, reduceIte, and_self]
