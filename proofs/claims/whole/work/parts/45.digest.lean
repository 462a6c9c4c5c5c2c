section DG
variable {i : Nat → Nat → Int32} {B c K n : Nat}
theorem tE_eq {f : Nat} (h : LW9 i B c K n) (hf : f < 4) : (if i (9 + f) 0 = 0 then -1 else i (9 + f) 2) = mtE i f := by
  obtain ⟨F1, F2, F3, F4, F5, F6, F7, F8, F9, F10⟩ := h.2.2.2.1 f hf
  unfold mtE
  rw [F1]
  rcases F2 with e | e
  · rw [if_pos e, if_neg (by rw [e]; decide)]
  · rw [if_neg (by rw [e]; decide), if_pos e]
    exact (F5 (by rw [e]; decide)).1
theorem tS_eq {f : Nat} (h : LW9 i B c K n) (hf : f < 4) : (if i (9 + f) 0 = 0 then -1 else bcI (i (9 + f) 1)) = mtS i f := by
  obtain ⟨F1, F2, F3, F4, F5, F6, F7, F8, F9, F10⟩ := h.2.2.2.1 f hf
  unfold mtS
  rw [F1, F3, bc_one F4]
  rcases F2 with e | e
  · rw [if_pos e, if_neg (by rw [e]; decide)]
  · rw [if_neg (by rw [e]; decide), if_pos e]
theorem tA_eq {f : Nat} (h : LW9 i B c K n) (hf : f < 4) : ((if i (9 + f) 4 = 0 then 0 else 1) + (if i (9 + f) 3 = 0 then 0 else 2) : Int32) = mtA i f := by
  obtain ⟨F1, F2, F3, F4, F5, F6, F7, F8, F9, F10⟩ := h.2.2.2.1 f hf
  unfold mtA
  rw [F6, F8]
  rcases F7 with e | e <;> rcases F9 with e2 | e2 <;> rw [e, e2] <;> rfl
theorem tW_eq {f : Nat} (h : LW9 i B c K n) (hf : f < 4) : (if i (9 + f) 0 = 0 then -1 else bcI (i (9 + f) 1 ^^^ i 2 1)) = mtW i f := by
  obtain ⟨F1, F2, F3, F4, F5, F6, F7, F8, F9, F10⟩ := h.2.2.2.1 f hf
  unfold mtW
  rw [F1, F3, h.1.2.1, bc_one (L30_xor F4 h.1.2.2.2)]
  rcases F2 with e | e
  · rw [if_pos e, if_neg (by rw [e]; decide)]
  · rw [if_neg (by rw [e]; decide), if_pos e]
theorem wf_eq {f : Nat} {x : Int64} (h : LW9 i B c K n) (hf : f < 4) : wfH i c x (9 + f) = mwf i c x f := by
  unfold wfH mwf
  rw [coa_mca h hf, ans_man h hf, tE_eq h hf, tS_eq h hf, tA_eq h hf, tW_eq h hf, (h.2.2.2.1 f hf).2.2.2.2.2.2.2.2.2]
theorem wd_eq {x : Int64} (h : LW9 i B c K n) : ∀ m, m ≤ c → wdF i x m = mwd i x m
  | 0, _ => rfl
  | m + 1, hm => by
    have hd := h.2.2.1 m (by omega)
    show mx (mx (wdF i x m) (i 4 m)) (i 7 m) = mx (mx (mwd i x m) (i 90 (6 + 3 * m + 0))) (mco i m)
    rw [wd_eq h m (by omega), hd.1, hd.2.2.2.2.2.2]
theorem hd_eq (h : LW9 i B c K n) : hd0 i = mh0 i := by
  obtain ⟨⟨P1, P2, P3, P4⟩, ⟨N1, N2, N3, N4, N5, N6, N7, N8, N9, N10⟩, D, F, CC⟩ := h
  unfold hd0 mh0
  rw [N1, N2, P1, P2, bc_one P3, bc_one P4, bc_one (L30_xor P3 P4), N8, N9]
theorem fo_eq (h : LW9 i B c K n) : ∀ m, m ≤ 4 → foF i c m = mfo i c m
  | 0, _ => by
    show wdF i (hd0 i) c = mwd i (mh0 i) c
    rw [hd_eq h, wd_eq h c (Nat.le_refl _)]
  | m + 1, hm => by
    show wfH i c (foF i c m) (9 + m) = mwf i c (mfo i c m) m
    rw [fo_eq h m (by omega), wf_eq h (by omega)]
theorem pl_eq {s : Nat} (h : LW9 i B c K n) (hs : s < 30) : plO i (nI s) = mtP i (nI s) := by
  obtain ⟨⟨P1, P2, P3, P4⟩, -⟩ := h
  unfold plO mtP
  rw [P1, P2]
  obtain ⟨a1, a2⟩ := bit_mbt P3 hs
  obtain ⟨b1, b2⟩ := bit_mbt P4 hs
  by_cases e1 : bit (i 90 0) (nI s) = 0 <;> by_cases e2 : bit (i 90 1) (nI s) = 0
  · rw [if_pos e1, if_pos e2, a1.mp e1, b1.mp e2]; rfl
  · rw [if_pos e1, if_neg e2, a1.mp e1, b2.mp e2]; rfl
  · rw [if_neg e1, if_pos e2, a2.mp e1, b1.mp e2]; rfl
  · rw [if_neg e1, if_neg e2, a2.mp e1, b2.mp e2]; rfl
theorem ws_eq {s : Nat} {x : Int64} (h : LW9 i B c K n) (hs : s < 30) : ∀ m, m ≤ 4 → wsF i s x m = mws i s x m
  | 0, _ => by
    show mx x (plO i (nI s)) = mx x (mtP i (nI s))
    rw [pl_eq h hs]
  | m + 1, hm => by
    obtain ⟨F1, F2, F3, F4, F5, F6, F7, F8, F9, F10⟩ := h.2.2.2.1 m (by omega)
    show mx (wsF i s x m) (b2i (¬ bit (i (9 + m) 1) (nI s) = 0)) = mx (mws i s x m) (b2i (mbt (i 90 (24 + 6 * m + 1)) (nI s) = 1))
    rw [ws_eq h hs m (by omega)]
    congr 1
    rw [F3]
    exact b2x (bit_mbt F4 hs).2.symm
theorem st_eq (h : LW9 i B c K n) : ∀ m, m ≤ 30 → stF i c m = mst i c m
  | 0, _ => fo_eq h 4 (Nat.le_refl _)
  | m + 1, hm => by
    show wsF i m (stF i c m) 4 = mws i m (mst i c m) 4
    rw [st_eq h m (by omega), ws_eq h (by omega) 4 (Nat.le_refl _)]
end DG
section DT
variable {i : Nat → Nat → Int32} {v : Int32} {c : Nat}
theorem mwd_th {x : Int64} : ∀ m, mwd (th i v) x m = mwd i x m
  | 0 => rfl
  | m + 1 => by unfold mwd; rw [mwd_th m]; rfl
theorem mwf_th {x : Int64} {f : Nat} : mwf (th i v) c x f = mwf i c x f := by
  unfold mwf
  rw [man_th, mca_th]
  rfl
theorem mfo_th : ∀ m, mfo (th i v) c m = mfo i c m
  | 0 => by
    show mwd (th i v) (mh0 (th i v)) c = mwd i (mh0 i) c
    rw [mwd_th]; rfl
  | m + 1 => by unfold mfo; rw [mfo_th m, mwf_th]
theorem mws_th {s : Nat} {x : Int64} : ∀ m, mws (th i v) s x m = mws i s x m
  | 0 => rfl
  | m + 1 => by unfold mws; rw [mws_th m]; rfl
theorem mst_th : ∀ m, mst (th i v) c m = mst i c m
  | 0 => by unfold mst; exact mfo_th 4
  | m + 1 => by unfold mst; rw [mst_th m, mws_th]
end DT
theorem t35 (g : G0) : StL g INV m_X6_digest m_X7_digest := by
  intro i j t ht I
  obtain ⟨c, K, n, L⟩ := LV_iff.mp I.1
  have h8 := k_X6_digest (g := g) (i := i) (j := j) 5 L.2.1.2.2.2.2.2.2.2.1 (by have := L.2.1; omega)
  have h9 := k_X7_digest (g := g) (i := i) (j := j) 4 L.2.1.2.2.2.2.2.2.2.2.1 (by have := L.2.1; omega)
  rw [st_eq L 30 (Nat.le_refl _)] at h8
  rw [mst_th] at h9
  exact ⟨_, i, th i 0, _, h8, h9, INV_agr I agr_t0⟩
