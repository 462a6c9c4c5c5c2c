theorem CI_same {i i' : Nat → Nat → Int32} (h : CI i) (h1 : i' 3 5 = i 3 5) (h2 : i' 3 4 = i 3 4) (h3 : i' 2 2 = i 2 2) : CI i' := by
  obtain ⟨a1, a2, a3, a4, a5, a6, a7⟩ := h
  exact (CI_of (h1.trans a1) a2 a3 a4 (h2.trans a5) (h3.trans a6) a7).1
