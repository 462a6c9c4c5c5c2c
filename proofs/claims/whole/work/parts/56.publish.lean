/-! ===== two memories: the class's, and the reference's state ===== -/
/-- the class's places from x, the reference's state from y -/
def mx9 (x y : Nat → Nat → Int32) : Nat → Nat → Int32 := fun a f => if a = 90 then y 90 f else x a f
theorem mx_c {x y : Nat → Nat → Int32} {a f : Nat} (h : a < 13) : mx9 x y a f = x a f := if_neg (by omega)
theorem mx_m {x y : Nat → Nat → Int32} {f : Nat} : mx9 x y 90 f = y 90 f := rfl
theorem LW_same {i i2 : Nat → Nat → Int32} {B B' c K n : Nat} (L : LW9 i B c K n) (hB : B ≤ B') (h : ∀ a f, a < 13 ∨ a = 90 → i2 a f = i a f) : LW9 i2 B' c K n :=
  LW_keep L (fun a f z => h a f (by omega)) (fun f _ _ => h 90 f (by omega)) (fun f hf => FV_same (L.2.2.2.1 f hf) (fun q _ => h _ _ (by omega)) (fun q _ => h _ _ (by omega))) (CV_same L.2.2.2.2 hB (fun f q hf _ => h _ _ (by omega)) (h _ _ (by omega)))
theorem LW_mx {i x y : Nat → Nat → Int32} {B B' c K n : Nat} (L : LW9 i B c K n) (hB : B ≤ B') (hx : ∀ a f, a < 13 → x a f = i a f) (hy : ∀ f, y 90 f = i 90 f) : LW9 (mx9 x y) B' c K n :=
  LW_same L hB (fun a f h => by
    rcases h with h | h
    · rw [mx_c h]; exact hx a f h
    · subst h; exact hy f)
theorem LW_xm {i x y : Nat → Nat → Int32} {B B' c K n : Nat} (L : LW9 (mx9 x y) B c K n) (hB : B ≤ B') (hx : ∀ a f, a < 13 → i a f = x a f) (hy : ∀ f, i 90 f = y 90 f) : LW9 i B' c K n :=
  LW_same L hB (fun a f h => by
    rcases h with h | h
    · rw [mx_c h]; exact hx a f h
    · subst h; exact hy f)
theorem LX_gn {x y : Nat → Nat → Int32} {B c K n : Nat} (L : LW9 (mx9 x y) B c K n) : LW9 (mx9 (gnF x 4) (mgv y 4)) B c K n :=
  LW_gn L (fun a f h => by
    rw [mx_c h]
    exact gnF_congr fun q => (mx_c h).symm) (fun f => by
    rw [mx_m]
    exact mgv_congr (i := y) (i' := mx9 x y) (fun _ => mx_m.symm) 4 f)
/-- the reference's state with one difference more -/
def mp3 (i : Nat → Nat → Int32) (c : Nat) : Nat → Nat → Int32 := up2 (up2 (up2 i 90 (6 + 3 * c + 0) (i 90 2)) 90 (6 + 3 * c + 1) (i 90 1 &&& (i 90 0 ^^^ (-1)))) 90 (6 + 3 * c + 2) (i 90 0 &&& (i 90 1 ^^^ (-1)))
def mp6 (i : Nat → Nat → Int32) (c n : Nat) : Nat → Nat → Int32 := up2 (up2 (up2 (mp3 i c) 90 4 (nI (c + 1))) 90 1 (i 90 0)) 90 2 (nI ((n + 1) % 16))
theorem mpW_eq {i : Nat → Nat → Int32} {c n : Nat} (h4 : i 90 4 = nI c) (h2 : i 90 2 = nI n) (hn : n < 16) : mpW i c = mgv (mp6 i c n) 4 := by
  have e1 : ∀ q v, q < 6 → up2 i 90 (6 + 3 * c + 0) v 90 q = i 90 q := fun q v h => up2_nf (by omega)
  have e2 : ∀ q (j : Nat → Nat → Int32) v, q < 6 → up2 j 90 (6 + 3 * c + 1) v 90 q = j 90 q := fun q j v h => up2_nf (by omega)
  have e3 : ∀ q (j : Nat → Nat → Int32) v, q < 6 → up2 j 90 (6 + 3 * c + 2) v 90 q = j 90 q := fun q j v h => up2_nf (by omega)
  have e4 : ∀ q (j : Nat → Nat → Int32) v, q ≠ 4 → up2 j 90 4 v 90 q = j 90 q := fun q j v h => up2_nf h
  have e5 : ∀ q (j : Nat → Nat → Int32) v, q ≠ 1 → up2 j 90 1 v 90 q = j 90 q := fun q j v h => up2_nf h
  unfold mpW mp6 mp3
  dsimp only
  congr 1
  rw [e1 0 _ (by omega), e1 1 _ (by omega), e2 0 _ _ (by omega), e2 1 _ _ (by omega), e1 0 _ (by omega), e1 1 _ (by omega), e3 4 _ _ (by omega), e2 4 _ _ (by omega), e1 4 _ (by omega), h4, nI_1, e4 0 _ _ (by omega), e3 0 _ _ (by omega), e2 0 _ _ (by omega), e1 0 _ (by omega), e5 2 _ _ (by omega), e4 2 _ _ (by omega), e3 2 _ _ (by omega), e2 2 _ _ (by omega), e1 2 _ (by omega), h2, nI_1]
  congr 1
  exact pk_rem (a := n + 1) (d := 16) (by omega) (by omega) (by omega)
/-- the class's places with one difference more -/
def cm6 (x : Nat → Nat → Int32) (c n : Nat) : Nat → Nat → Int32 := up2 (up2 (keepW x c (x 2 2) (x 2 1 &&& (x 2 0 ^^^ (-1))) (x 2 0 &&& (x 2 1 ^^^ (-1)))) 2 1 (x 2 0)) 2 2 (nI ((n + 1) % 16))
theorem LX_more {x y : Nat → Nat → Int32} {B c K n : Nat} (L : LW9 (mx9 x y) B c K n) (hc : c < K) : LW9 (mx9 (cm6 x c n) (mp6 y c n)) B (c + 1) K ((n + 1) % 16) := by
  have k1 : ∀ (e u v : Int32) a f, a < 13 → ¬ (a = 3 ∧ f = 5) → ¬ (4 ≤ a ∧ a ≤ 7 ∧ f = c) → keepW x c e u v a f = x a f := fun e u v a f h1 h2 h3 => by
    unfold keepW up2
    rw [if_neg (by omega), if_neg (by omega), if_neg (by omega), if_neg (by omega), if_neg (by omega)]
  have k2 : ∀ a f, a < 13 → ¬ (a = 3 ∧ f = 5) → ¬ (4 ≤ a ∧ a ≤ 7 ∧ f = c) → ¬ (a = 2 ∧ (f = 1 ∨ f = 2)) → cm6 x c n a f = x a f := fun a f h1 h2 h3 h4 => by
    unfold cm6
    rw [show ∀ (j : Nat → Nat → Int32) v w, up2 (up2 j 2 1 v) 2 2 w a f = j a f from fun j v w => by unfold up2; rw [if_neg (by omega), if_neg (by omega)]]
    exact k1 _ _ _ a f h1 h2 h3
  have m2 : ∀ f, f < 6 + 3 * c ∨ 6 + 3 * c + 3 ≤ f → f ≠ 1 → f ≠ 2 → f ≠ 4 → mp6 y c n 90 f = y 90 f := fun f h1 h2 h3 h4 => by
    unfold mp6 mp3
    rw [up2_nf (by omega), up2_nf (by omega), up2_nf (by omega), up2_nf (by omega), up2_nf (by omega), up2_nf (by omega)]
  have hK6 : K ≤ 6 := L.2.1.2.2.2.2.2.2.1
  refine LW_more L hc ?_ ?_ (fun a f h1 h2 h3 => ?_) (fun f h => ?_) (fun a f h1 h2 h3 h4 => ?_) (fun f h => ?_) ?_ ?_ ?_ ?_ ?_ ?_ ?_ ?_ ?_ ?_ ?_
  · rw [mx_c (by omega)]
    unfold cm6 keepW
    rw [up2_ne (by omega), up2_ne (by omega), up2_eq]
  · rw [mx_m]
    unfold mp6
    rw [up2_nf (by omega), up2_nf (by omega), up2_eq]
  · rw [mx_c (by omega), mx_c (by omega)]; exact k2 a f (by omega) (by omega) (by omega) (by omega)
  · rw [mx_m, mx_m]; exact m2 _ (by omega) (by omega) (by omega) (by omega)
  · rw [mx_c h1, mx_c h1]; exact k2 a f h1 h2 (by omega) h4
  · rw [mx_m, mx_m]; exact m2 _ (by omega) (by omega) (by omega) (by omega)
  · rw [mx_c (by omega), mx_c (by omega)]
    unfold cm6 keepW
    rw [up2_ne (by omega), up2_ne (by omega), up2_ne (by omega), up2_ne (by omega), up2_ne (by omega), up2_ne (by omega), up2_eq]
  · rw [mx_c (by omega), mx_c (by omega), mx_c (by omega)]
    unfold cm6 keepW
    rw [up2_ne (by omega), up2_ne (by omega), up2_ne (by omega), up2_ne (by omega), up2_ne (by omega), up2_eq]
  · rw [mx_c (by omega), mx_c (by omega), mx_c (by omega)]
    unfold cm6 keepW
    rw [up2_ne (by omega), up2_ne (by omega), up2_ne (by omega), up2_ne (by omega), up2_eq]
  · rw [mx_c (by omega), mx_c (by omega), mx_c (by omega)]
    unfold cm6 keepW
    rw [up2_ne (by omega), up2_ne (by omega), up2_ne (by omega), up2_eq]
  · rw [mx_m, mx_m]
    unfold mp6 mp3
    rw [up2_nf (by omega), up2_nf (by omega), up2_nf (by omega), up2_nf (by omega), up2_nf (by omega), up2_eq]
  · rw [mx_m, mx_m, mx_m]
    unfold mp6 mp3
    rw [up2_nf (by omega), up2_nf (by omega), up2_nf (by omega), up2_nf (by omega), up2_eq]
  · rw [mx_m, mx_m, mx_m]
    unfold mp6 mp3
    rw [up2_nf (by omega), up2_nf (by omega), up2_nf (by omega), up2_eq]
  · rw [mx_c (by omega), mx_c (by omega)]
    unfold cm6
    rw [up2_nf (by omega), up2_eq]
  · rw [mx_m, mx_m]
    unfold mp6
    rw [up2_nf (by omega), up2_eq]
  · rw [mx_c (by omega)]
    unfold cm6
    exact up2_eq
  · rw [mx_m]
    unfold mp6
    exact up2_eq
/-- the oldest difference goes -/
theorem LX_drop1 {x y : Nat → Nat → Int32} {B c K n : Nat} (L : LW9 (mx9 x y) B c K n) (hc : 1 ≤ c) : LW9 (mx9 (drp x 1 c) (mdr y (c - 1))) B (c - 1) K n := by
  have hK6 : K ≤ 6 := L.2.1.2.2.2.2.2.2.1
  have hcK : c ≤ K := L.2.1.2.2.2.2.2.2.2.2.2
  refine LW_drop L hc ?_ ?_ (fun a f h1 h2 h3 => ?_) (fun f h => ?_) (fun a f h1 h2 h3 => ?_) (fun f h => ?_)
  · rw [mx_c (by omega)]; exact drp_cnt
  · rw [mx_m]; exact mdr_4
  · rw [mx_c (by omega), mx_c (by omega)]
    unfold drp drF
    rw [if_neg (by omega), if_pos ⟨h1, h2, h3⟩]
  · rw [mx_m, mx_m]
    unfold mdr mdF
    rw [if_pos (by omega), up2_nf (by omega)]
  · rw [mx_c h1, mx_c h1]; exact drp_oth (by omega)
  · rw [mx_m, mx_m]; exact mdr_oth (by omega) (by omega)
theorem LX_112 {x y : Nat → Nat → Int32} {B c K n : Nat} (L : LW9 (mx9 x y) B c K n) : ∃ c', LW9 (mx9 (gnF (isu x c K n) 4) (mpb y c K)) B c' K ((n + 1) % 16) := by
  have hK6 : K ≤ 6 := L.2.1.2.2.2.2.2.2.1
  have hK1 : 1 ≤ K := L.2.1.2.2.2.2.2.1
  have hcK : c ≤ K := L.2.1.2.2.2.2.2.2.2.2.2
  have hn : n < 16 := L.2.1.2.2.1
  have h2 : y 90 2 = nI n := L.2.1.2.1
  have h4 : y 90 4 = nI c := L.2.1.2.2.2.2.2.2.2.2.1
  by_cases h : c < K
  · have e1 : isu x c K n = cm6 x c n := by unfold isu cm6 kp; rw [if_pos h]
    have e2 : mpb y c K = mgv (mp6 y c n) 4 := by unfold mpb; rw [if_neg (by omega)]; exact mpW_eq h4 h2 hn
    rw [e1, e2]
    exact ⟨c + 1, LX_gn (LX_more L h)⟩
  · have hc : c = K := by omega
    subst hc
    have d2 : ∀ f, drp x 1 c 2 f = x 2 f := fun f => drp_oth (by omega)
    have e1 : isu x c c n = cm6 (drp x 1 c) (c - 1) n := by
      unfold isu cm6 kp
      rw [if_neg h, d2, d2, d2, show c - c + 1 = 1 by omega]
    have e2 : mpb y c c = mgv (mp6 (mdr y (c - 1)) (c - 1) n) 4 := by
      unfold mpb; rw [if_pos rfl]
      exact mpW_eq mdr_4 ((mdr_oth (by omega) (by omega)).trans h2) hn
    rw [e1, e2]
    exact ⟨c - 1 + 1, LX_gn (LX_more (LX_drop1 L hK1) (by omega))⟩
theorem t2 (g : G0) : St g INV m_L_publish m_X7_publish [] := by
  intro i j t ht I
  obtain ⟨s, hs, hs6, hx, hS⟩ := INV_S I
  obtain ⟨c, K, n, L⟩ := LV_iff.mp I.1
  obtain ⟨hCI, hcN, hKN, hnN⟩ := LW_CI L
  obtain ⟨⟨P1, P2, P3, P4⟩, ⟨N1, N2, N3, N4, N5, N6, N7, N8, N9, N10⟩, -⟩ := id L
  by_cases hp : i 2 0 = i 2 1
  · exact go_no (w_publish_x1 9 (k_X6_publish_x 2 (fun z => z hp))) (by decide) (k_X7_publish__1 9 (by rw [← P1, ← P2]; exact hp)) up2_eq (INV_agr I agr_t1)
  · have h8 := k_X6_publish (g := g) (i := i) (j := j) 5 hp hS hCI
    have sv : ∀ a f, a < 13 → svI i a f = i a f := fun a f h => svI_oth (by omega) hx
    have ed : doO (svI i) 112 0 = gnF (isu (svI i) c K n) 4 := by
      have q1 : cN (svI i) = c := by unfold cN; rw [sv 3 5 (by omega)]; exact hcN
      have q2 : KN (svI i) = K := by unfold KN; rw [sv 3 4 (by omega)]; exact hKN
      have q3 : nN (svI i) = n := by unfold nN; rw [sv 2 2 (by omega)]; exact hnN
      rw [dO112, q1, q2, q3]
    have hd : ∀ a f, 13 ≤ a → doO (svI i) 112 0 a f = svI i a f := fun a f h => doO_oth (Or.inr (Or.inl ⟨rfl, rfl⟩)) h
    have e9 : ∀ f, msv (th (doO (svI i) 112 0) 0) s 90 f = i 90 f := fun f => by
      rw [msv_oth (by omega), th_ne (by omega), hd _ _ (by omega), svI_oth (by omega) hx]
    obtain ⟨c', L'⟩ := LX_112 (LW_mx (x := svI i) (y := msv (th (doO (svI i) 112 0) 0) s) (B' := 2000 * (t + 1)) L (by omega) sv e9)
    obtain ⟨r1, r2⟩ := save_step I hs hs6 (iC := doO (svI i) 112 0) (i2 := mpb (msv (th (doO (svI i) 112 0) 0) s) c K) hd (fun a q h => mpb_oth N6 N10 N7 (Or.inl h)) (LV_iff.mpr ⟨c', K, _, LW_xm L' (Nat.le_refl _) (fun a f h => by
      rw [mpb_oth N6 N10 N7 (by omega), msv_oth (by omega), th_ne (by omega), ed]) (fun f => rfl)⟩)
    refine go_ok (w_publish 9 h8) (fun j => k_X7_publish (n := s) (c := c) (q := K) 7 ?_ ?_ ?_ N10 N6 N7 ?_ hs6) ?_ r1 r2
    · rw [hd _ _ (by omega), hd _ _ (by omega), svI_oth (by omega) hx, svI_oth (by omega) hx, ← P1, ← P2]; exact hp
    · rw [hd _ _ (by omega), svI_oth (by omega) hx]; exact N9
    · rw [hd _ _ (by omega), svI_oth (by omega) hx]; exact N5
    · rw [hd _ _ (by omega), svI_oth (by omega) hx]; exact hs
    · have q1 : doO (svI i) 112 0 2 2 = mx9 (gnF (isu (svI i) c K n) 4) (mpb (msv (th (doO (svI i) 112 0) 0) s) c K) 2 2 := by rw [ed, mx_c (by omega)]
      rw [q1, L'.2.1.1]
      exact L'.2.1.2.1.symm
