def cN (i : Nat → Nat → Int32) : Nat := (i 3 5).toNatClampNeg
def KN (i : Nat → Nat → Int32) : Nat := (i 3 4).toNatClampNeg
def nN (i : Nat → Nat → Int32) : Nat := (i 2 2).toNatClampNeg
/-- the printer's numbers are in their ranges -/
def CI (i : Nat → Nat → Int32) : Prop := i 3 5 = nI (cN i) ∧ cN i ≤ KN i ∧ 1 ≤ KN i ∧ KN i ≤ 6 ∧ i 3 4 = nI (KN i) ∧ i 2 2 = nI (nN i) ∧ nN i < 16
theorem CI_of {i : Nat → Nat → Int32} {c K n : Nat} (h1 : i 3 5 = nI c) (h2 : c ≤ K) (h3 : 1 ≤ K) (h4 : K ≤ 6) (h5 : i 3 4 = nI K) (h6 : i 2 2 = nI n) (h7 : n < 16) : CI i ∧ cN i = c ∧ KN i = K ∧ nN i = n := by
  have e1 : cN i = c := by unfold cN; rw [h1]; exact nI_clamp (by omega)
  have e2 : KN i = K := by unfold KN; rw [h5]; exact nI_clamp (by omega)
  have e3 : nN i = n := by unfold nN; rw [h6]; exact nI_clamp (by omega)
  refine ⟨?_, e1, e2, e3⟩
  unfold CI
  rw [e1, e2, e3]
  exact ⟨h1, h2, h3, h4, h5, h6, h7⟩
def okO (i : Nat → Nat → Int32) (o v : Nat) : Bool :=
  if o = 43 then decide (bit (i 2 0) (nI v) = 0) else if o = 45 then decide (¬ bit (i 2 0) (nI v) = 0) else if o = 112 then decide (¬ i 2 0 = i 2 1) else if o = 110 then decide (¬ nI v = i 2 2) else if o = 119 then decide (i (9 + v) 3 = 1) else decide (i (9 + v) 3 = 0)
def doO (i : Nat → Nat → Int32) (o v : Nat) : Nat → Nat → Int32 :=
  if o = 43 then up2 i 2 0 (i 2 0 ||| (1 <<< (nI v &&& 31))) else if o = 45 then up2 i 2 0 (i 2 0 &&& ((1 <<< (nI v &&& 31)) ^^^ (-1))) else if o = 112 then gnF (isu i (cN i) (KN i) (nN i)) 4 else if o = 110 then gnF (up2 (up2 i 2 2 (nI v)) 3 5 0) 4 else if o = 114 then bnI i (9 + v) (cN i) else if o = 115 then up2 i (9 + v) 3 1 else up2 i (9 + v) 3 0
def vld (o v : Nat) : Prop := ((o = 43 ∨ o = 45) ∧ v < 30) ∨ (o = 112 ∧ v = 0) ∨ (o = 110 ∧ v < 16) ∨ ((o = 114 ∨ o = 115 ∨ o = 119) ∧ v < 4)
theorem b2p {p : Prop} [Decidable p] (h : ¬ b2i p = 0) : p := Classical.byContradiction fun z => h (b2z.mpr z)
theorem stq_nI {v : Nat} (h : v < 30) : stq (nI v) := ⟨nI_pos (by omega), fun z => absurd ((nI_leI (a := 30) (b := v) (by omega) (by omega)).mp z) (by omega)⟩
theorem edq_nI {v : Nat} (h : v < 16) : edq (nI v) := ⟨nI_pos (by omega), fun z => absurd ((nI_leI (a := 16) (b := v) (by omega) (by omega)).mp z) (by omega)⟩
theorem foq_nI {v : Nat} (h : v < 4) : foq (nI v) := ⟨nI_pos (by omega), fun z => absurd ((nI_leI (a := 4) (b := v) (by omega) (by omega)).mp z) (by omega)⟩
