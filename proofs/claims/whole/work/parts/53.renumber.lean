theorem mgv_congr {i i' : Nat → Nat → Int32} (h : ∀ f, i 90 f = i' 90 f) : ∀ m f, mgv i m 90 f = mgv i' m 90 f
  | 0, f => h f
  | m + 1, f => by
    show (if mgv i m 90 (24 + 6 * m + 3) = 0 then up2 (mgv i m) 90 (24 + 6 * m + 4) 1 else mgv i m) 90 f = (if mgv i' m 90 (24 + 6 * m + 3) = 0 then up2 (mgv i' m) 90 (24 + 6 * m + 4) 1 else mgv i' m) 90 f
    rw [mgv_congr h m (24 + 6 * m + 3)]
    split
    · unfold up2
      rw [mgv_congr h m f]
    · exact mgv_congr h m f
theorem gnF_congr {i i' : Nat → Nat → Int32} {a f : Nat} (h : ∀ q, i a q = i' a q) : gnF i 4 a f = gnF i' 4 a f := by
  unfold gnF
  rw [h 3, h f]
theorem o110 {i i2 : Nat → Nat → Int32} {B c K n v : Nat} (L : LW9 i B c K n) (hv : v < 16) (hP : ∀ a f, a < 13 → i2 a f = gnF (up2 (up2 i 2 2 (nI v)) 3 5 0) 4 a f) (hM : ∀ f, i2 90 f = mrn i (nI v) 90 f) : LW9 i2 B 0 K v := by
  have L1 : LW9 (up2 (up2 (up2 (up2 i 2 2 (nI v)) 3 5 0) 90 2 (nI v)) 90 4 0) B 0 K v := by
    refine LW_num L hv (fun a f z1 z2 z3 z4 => ?_) ?_ ?_ ?_ ?_
    · unfold up2; rw [if_neg (by omega), if_neg (by omega), if_neg (by omega), if_neg (by omega)]
    · rw [up2_ne (by omega), up2_ne (by omega), up2_ne (by omega), up2_eq]
    · rw [up2_ne (by omega), up2_ne (by omega), up2_eq]
    · rw [up2_nf (by omega), up2_eq]
    · exact up2_eq
  refine LW_gn L1 (fun a f h => (hP a f h).trans (gnF_congr fun q => ?_)) (fun f => (hM f).trans ?_)
  · exact ((up2_ne (k := 90) (by omega)).trans (up2_ne (k := 90) (by omega))).symm
  · unfold mrn
    refine mgv_congr (fun q => ?_) 4 f
    by_cases e4 : q = 4
    · subst e4; rw [up2_eq, up2_eq]
    · rw [up2_nf e4, up2_nf e4]
      by_cases e2 : q = 2
      · subst e2; rw [up2_eq, up2_eq]
      · rw [up2_nf e2, up2_nf e2, up2_ne (by omega), up2_ne (by omega)]
theorem t3 (g : G0) (x : Int32) : St g INV m_L_renumber m_X7_renumber [.int x] := by
  intro i j t ht I
  obtain ⟨s, hs, hs6, hx, hS⟩ := INV_S I
  obtain ⟨c, K, n, L⟩ := LV_iff.mp I.1
  have e2 : i 2 2 = i 90 2 := L.2.1.1.trans L.2.1.2.1.symm
  by_cases hq : edq x ∧ ¬ x = i 2 2
  · obtain ⟨v, hv, e⟩ := wit_nI (b := 15) (by omega) (edq_wit.mp hq.1)
    have hv : v < 16 := by omega
    subst e
    have h8 := k_X6_renumber (g := g) (i := i) (j := j) 5 hv hq.2 hS
    obtain ⟨r1, r2⟩ := save_step I hs hs6 (iC := doO (svI i) 110 v) (i2 := mrn (msv (th (doO (svI i) 110 v) 0) s) (nI v)) (fun a q h => by rw [dO110, gnF_oth (by omega), up2_ne (by omega), up2_ne (by omega)]) (fun a q h => mrn_oth (Or.inl h)) (LV_iff.mpr ⟨0, K, v, by
      refine o110 (B := 2000 * (t + 1)) (i := i) (c := c) (n := n) ⟨L.1, L.2.1, L.2.2.1, L.2.2.2.1, CV_same L.2.2.2.2 (by omega) (fun _ _ _ _ => rfl) rfl⟩ hv (fun a f h => ?_) (fun f => ?_)
      · rw [mrn_oth (by omega), msv_oth (by omega), th_ne (by omega), dO110]
        refine gnF_congr fun q => ?_
        unfold up2
        rw [svI_oth (by omega) hx]
      · unfold mrn
        refine mgv_congr (fun q => ?_) 4 f
        unfold up2
        rw [msv_oth (by omega), th_ne (by omega), dO110, gnF_oth (by omega), up2_ne (by omega), up2_ne (by omega), svI_oth (by omega) hx]⟩)
    have e90 : msv (th (doO (svI i) 110 v) 0) s 90 2 = i 90 2 := by
      rw [msv_oth (by omega), th_ne (by omega), dO110, gnF_oth (by omega), up2_ne (by omega), up2_ne (by omega), svI_oth (by omega) hx]
    refine go_ok (w_renumber 9 h8) (fun j => k_X7_renumber (n := s) 7 ⟨edq_wit.mp hq.1, ?_⟩ ?_ hs6) ?_ r1 r2
    · rw [dO110, gnF_oth (by omega), up2_ne (by omega), up2_ne (by omega), svI_oth (by omega) hx, ← e2]; exact hq.2
    · rw [dO110, gnF_oth (by omega), up2_ne (by omega), up2_ne (by omega), svI_oth (by omega) hx]; exact hs
    · rw [e90, svI_oth (by omega) hx, e2]
  · exact go_no (w_renumber_x1 9 (k_X6_renumber_x 2 hq)) (by decide) (k_X7_renumber__1 7 (fun z => hq ⟨edq_wit.mpr z.1, by rw [e2]; exact z.2⟩)) up2_eq (INV_agr I agr_t1)
