/-! ===== one order on both sides ===== -/
theorem LX_sl {x y : Nat → Nat → Int32} {B c K n f : Nat} {z : Int32} (L : LW9 (mx9 x y) B c K n) (hf : f < 4) (hz : b01 z) : LW9 (mx9 (up2 x (9 + f) 3 z) (up2 y 90 (24 + 6 * f + 3) z)) B c K n := by
  refine LW_keep L (fun a q hq => ?_) (fun q hq hq5 => ?_) (fun g hg => ?_) (CV_same L.2.2.2.2 (Nat.le_refl _) (fun g q hg hq => ?_) ?_)
  · rw [mx_c (by omega), mx_c (by omega)]; exact up2_ne (by omega)
  · rw [mx_m, mx_m]; exact up2_nf (by omega)
  · have F := L.2.2.2.1 g hg
    by_cases e : g = f
    · subst e
      unfold FV at F ⊢
      simp only [mx_m, mx_c (show 9 + g < 13 by omega)] at F ⊢
      obtain ⟨F1, F2, F3, F4, F5, F6, F7, F8, F9, F10⟩ := F
      have cx : ∀ q, q ≠ 3 → up2 x (9 + g) 3 z (9 + g) q = x (9 + g) q := fun q h => up2_nf h
      have cy : ∀ q, q ≠ 3 → up2 y 90 (24 + 6 * g + 3) z 90 (24 + 6 * g + q) = y 90 (24 + 6 * g + q) := fun q h => up2_nf (by omega)
      have c3 : up2 x (9 + g) 3 z (9 + g) 3 = z := up2_eq
      have y3 : up2 y 90 (24 + 6 * g + 3) z 90 (24 + 6 * g + 3) = z := up2_eq
      rw [cx 0 (by omega), cy 0 (by omega), cx 1 (by omega), cy 1 (by omega), cx 2 (by omega), cy 2 (by omega), c3, y3, cx 4 (by omega), cy 4 (by omega), cx 5 (by omega), cy 5 (by omega)]
      exact ⟨F1, F2, F3, F4, F5, rfl, hz, F8, F9, F10⟩
    · refine FV_same F (fun q hq => ?_) (fun q hq => ?_)
      · rw [mx_c (by omega), mx_c (by omega)]; exact up2_ne (by omega)
      · rw [mx_m, mx_m]; exact up2_nf (by omega)
  · rw [mx_c (by omega), mx_c (by omega)]; exact up2_nf (by omega)
  · rw [mx_m, mx_m]; exact up2_nf (by omega)
theorem LX_dr {x y : Nat → Nat → Int32} {B c K n : Nat} {z : Int32} (L : LW9 (mx9 x y) B c K n) (hz : L30 z) : LW9 (mx9 (up2 x 2 0 z) (up2 y 90 0 z)) B c K n := by
  refine LW_draft L (Nat.le_refl _) (fun a f h1 h2 h3 => ?_) ?_ ?_
  · rcases h1 with h1 | h1
    · rw [mx_c h1, mx_c h1]; exact if_neg h2
    · subst h1
      rw [mx_m, mx_m]; exact if_neg h3
  · rw [mx_c (by omega), mx_m, up2_eq, up2_eq]
  · rw [mx_m, up2_eq]; exact hz
theorem LX_pst {x y : Nat → Nat → Int32} {B c K n a : Nat} {s v : Int32} (L : LW9 (mx9 x y) B c K n) : LW9 (mx9 x (pst y a s v)) B c K n :=
  LW_same L (Nat.le_refl _) (fun a f h => by
    rcases h with h | h
    · rw [mx_c h, mx_c h]
    · subst h
      rw [mx_m, mx_m]; exact psto (by omega))
theorem dec_b {p q : Prop} [Decidable p] [Decidable q] (h : p ↔ q) : decide p = decide q := by
  by_cases hp : p
  · rw [decide_eq_true hp, decide_eq_true (h.mp hp)]
  · rw [decide_eq_false hp, decide_eq_false (fun z => hp (h.mpr z))]
theorem LX_ord {x y : Nat → Nat → Int32} {B c K n o v : Nat} {V : Int32} (L : LW9 (mx9 x y) B c K n) (hv : vld o v) (hV : o ≠ 112 → V = nI v) : okO x o v = mok y (nI o) V ∧ (okO x o v = true → ∃ c' n', LW9 (mx9 (doO x o v) (mdo y (nI o) V)) (B + 31) c' K n') := by
  obtain ⟨⟨P1, P2, P3, P4⟩, ⟨N1, N2, N3, N4, N5, N6, N7, N8, N9, N10⟩, D, F, CC⟩ := id L
  have P1 : x 2 0 = y 90 0 := P1
  have P2 : x 2 1 = y 90 1 := P2
  have P3 : L30 (y 90 0) := P3
  have N12 : x 2 2 = y 90 2 := N1.trans N2.symm
  obtain ⟨hCI, hcN, hKN, hnN⟩ := LW_CI L
  obtain ⟨hMC, hmc, hmK, hmn⟩ := LW_MC L
  have hcN : cN x = c := hcN
  have hKN : KN x = K := hKN
  have hnN : nN x = n := hnN
  have hmc : mcN y = c := hmc
  have hmK : mqN y = K := hmK
  have up : ∀ {x' y' : Nat → Nat → Int32} {c' n' : Nat}, LW9 (mx9 x' y') B c' K n' → LW9 (mx9 x' y') (B + 31) c' K n' := fun L' => LW_same L' (by omega) (fun _ _ _ => rfl)
  have fo : ∀ f, f < 4 → x (9 + f) 3 = y 90 (24 + 6 * f + 3) ∧ b01 (y 90 (24 + 6 * f + 3)) := fun f hf => by
    obtain ⟨F1, F2, F3, F4, F5, F6, F7, F8, F9, F10⟩ := F f hf
    rw [mx_c (by omega)] at F6
    exact ⟨F6, F7⟩
  rcases hv with ⟨rfl | rfl, hv⟩ | ⟨rfl, rfl⟩ | ⟨rfl, hv⟩ | ⟨rfl | rfl | rfl, hv⟩
  · have hV := hV (by decide)
    subst hV
    have e1 : okO x 43 v = decide (bit (x 2 0) (nI v) = 0) := rfl
    have e2 : mok y (nI 43) (nI v) = decide (mbt (y 90 0) (nI v) = 0) := rfl
    refine ⟨?_, fun h => ⟨c, n, ?_⟩⟩
    · rw [e1, e2, P1]
      exact dec_b (bit_mbt P3 hv).1
    · rw [e1, P1] at h
      have hb := of_decide_eq_true h
      have e3 : mdo y (nI 43) (nI v) = up2 y 90 0 (y 90 0 ^^^ ((1 : Int32) <<< (nI v &&& 31))) := rfl
      rw [dO43, e3, P1, add_xor P3 hv hb]
      exact up (LX_dr L (L30_xor P3 (L30_shl hv)))
  · have hV := hV (by decide)
    subst hV
    have e1 : okO x 45 v = decide (¬ bit (x 2 0) (nI v) = 0) := rfl
    have e2 : mok y (nI 45) (nI v) = decide (¬ mbt (y 90 0) (nI v) = 0) := rfl
    refine ⟨?_, fun h => ⟨c, n, ?_⟩⟩
    · rw [e1, e2, P1]
      exact dec_b (not_congr (bit_mbt P3 hv).1)
    · rw [e1, P1] at h
      have hb := of_decide_eq_true h
      have e3 : mdo y (nI 45) (nI v) = up2 y 90 0 (y 90 0 ^^^ ((1 : Int32) <<< (nI v &&& 31))) := rfl
      rw [dO45, e3, P1, out_xor P3 hv hb]
      exact up (LX_dr L (L30_xor P3 (L30_shl hv)))
  · have e1 : okO x 112 0 = decide (¬ x 2 0 = x 2 1) := rfl
    have e2 : mok y (nI 112) V = decide (¬ y 90 0 = y 90 1) := rfl
    refine ⟨?_, fun h => ?_⟩
    · rw [e1, e2, P1, P2]
    · obtain ⟨c', L'⟩ := LX_112 L
      have e3 : mdo y (nI 112) V = mpb y (mcN y) (mqN y) := rfl
      rw [dO112, e3, hcN, hKN, hnN, hmc, hmK]
      exact ⟨c', _, up L'⟩
  · have hV := hV (by decide)
    subst hV
    have e1 : okO x 110 v = decide (¬ nI v = x 2 2) := rfl
    have e2 : mok y (nI 110) (nI v) = decide (wit (nI v) 0 15 ∧ ¬ nI v = y 90 2) := rfl
    refine ⟨?_, fun h => ⟨0, v, ?_⟩⟩
    · rw [e1, e2, N12]
      exact dec_b ⟨fun z => ⟨witq (b := 15) rfl (by omega) (by omega), z⟩, fun z => z.2⟩
    · have e3 : mdo y (nI 110) (nI v) = mrn y (nI v) := rfl
      rw [dO110, e3]
      refine up (o110 L hv (fun a f h => ?_) (fun f => ?_))
      · rw [mx_c h]
        refine gnF_congr fun q => ?_
        unfold up2
        rw [mx_c h]
      · rw [mx_m]
        unfold mrn
        refine mgv_congr (fun q => ?_) 4 f
        unfold up2
        rfl
  · have hV := hV (by decide)
    subst hV
    obtain ⟨f1, f2⟩ := fo v hv
    have e1 : okO x 114 v = decide (x (9 + v) 3 = 0) := rfl
    have e2 : mok y (nI 114) (nI v) = decide (y 90 (24 + 6 * (nI v).toNatClampNeg + 3) = 0) := rfl
    have e3 : mdo y (nI 114) (nI v) = mrf y (nI v).toNatClampNeg (mcN y) := rfl
    rw [nI_clamp (by omega)] at e2 e3
    refine ⟨by rw [e1, e2, f1], fun h => ⟨c, n, ?_⟩⟩
    rw [dO114, e3, hcN, hmc]
    exact (LX_114 L hv).2
  · have hV := hV (by decide)
    subst hV
    obtain ⟨f1, f2⟩ := fo v hv
    have e1 : okO x 115 v = decide (x (9 + v) 3 = 0) := rfl
    have e2 : mok y (nI 115) (nI v) = decide (y 90 (24 + 6 * (nI v).toNatClampNeg + 3) = 0) := rfl
    have e3 : mdo y (nI 115) (nI v) = up2 y 90 (24 + 6 * (nI v).toNatClampNeg + 3) 1 := rfl
    rw [nI_clamp (by omega)] at e2 e3
    refine ⟨by rw [e1, e2, f1], fun h => ⟨c, n, ?_⟩⟩
    rw [dO115, e3]
    exact up (LX_sl L hv (Or.inr rfl))
  · have hV := hV (by decide)
    subst hV
    obtain ⟨f1, f2⟩ := fo v hv
    have e1 : okO x 119 v = decide (x (9 + v) 3 = 1) := rfl
    have e2 : mok y (nI 119) (nI v) = decide (y 90 (24 + 6 * (nI v).toNatClampNeg + 3) = 1) := rfl
    have e3 : mdo y (nI 119) (nI v) = up2 y 90 (24 + 6 * (nI v).toNatClampNeg + 3) 0 := rfl
    rw [nI_clamp (by omega)] at e2 e3
    refine ⟨by rw [e1, e2, f1], fun h => ⟨c, n, ?_⟩⟩
    rw [dO119, e3]
    exact up (LX_sl L hv (Or.inl rfl))
theorem exeI_oth {a f : Nat} (h : 13 ≤ a) : ∀ (ts : List (Nat × Nat)) (x : Nat → Nat → Int32), (∀ u ∈ ts, vld u.1 u.2) → exeI x ts a f = x a f
  | [], x, _ => rfl
  | t :: ts, x, hv => by
    unfold exeI
    split
    · rw [exeI_oth h ts _ (fun u hu => hv u (List.mem_cons_of_mem _ hu))]
      exact doO_oth (hv t (List.mem_cons_self ..)) h
    · rfl
section RO
variable {im y : Nat → Nat → Int32} {l : Nat}
theorem nx_c (h : ∀ q, y 92 q = im 92 q) (a : Nat) : nx y l a = nx im l a := by unfold nx; rw [h]
theorem ro_c (h : ∀ q, y 92 q = im 92 q) (a : Nat) : roA y l a = roA im l a ∧ (roB y l a ↔ roB im l a) ∧ ∀ v, roV y l a v = roV im l a v := by
  have e := nx_c (l := l) h
  refine ⟨?_, ?_, fun v => ?_⟩
  · unfold roA rnA; simp only [rnR, rn2, e]
  · unfold roB rnR; simp only [e]
  · unfold roV rnV; simp only [rnR, rn2, e]
end RO
/-- the orders of a complete text, done on both sides -/
theorem run_x {ic im : Nat → Nat → Int32} {l : Nat} (h60 : l ≤ 60) (hT : ∀ q, q < l → ic 88 q = im 92 q) : ∀ (r a : Nat) (v : Int32), a ≤ l → l < a + r → (fe im l r a v).1 = -1 →
    ∃ (t : Nat × Nat) (ts : List (Nat × Nat)), (∀ u ∈ t :: ts, vld u.1 u.2) ∧ txt ic a (encs (t :: ts)) ∧ a + (encs (t :: ts)).length = l ∧
      ∀ (x y : Nat → Nat → Int32) (B c K n : Nat) (s w : Int32), (∀ q, y 92 q = im 92 q) → LW9 (mx9 x y) B c K n → exeN x (t :: ts) = (mgo l r y a s w).1 ∧ (∀ b f, b ≠ 90 → ¬ (b = 89 ∧ 6 ≤ f ∧ f ≤ 8) → (mgo l r y a s w).2 b f = y b f) ∧ ∃ c' n', LW9 (mx9 (exeI x (t :: ts)) (mgo l r y a s w).2) (B + 31 * r) c' K n'
  | 0, a, v, h1, h2, _ => by omega
  | r + 1, a, v, h1, h2, hF => by
    unfold fe at hF
    rcases rdo hT h1 with ⟨r1, r2, r3, r4⟩ | ⟨r1, o, w0, p, r2, r3, r4, r5, r6, r7, r8, r9, r10, r11, r12⟩
    · rw [if_pos r1] at hF
      exact absurd hF (nI_nm1 _ (by have := roA_nn (i := im) (l := l) (a := a); omega))
    · rw [if_neg (fun z => z r1)] at hF
      have hen : 1 ≤ (enc (o, w0)).length := by unfold enc; rw [List.length_cons]; omega
      have hA1 : a + 1 ≤ roA im l a := by omega
      by_cases hA : roA im l a = l
      · refine ⟨(o, w0), [], fun u hu => ?_, r8, ?_, fun x y B c K n s w h92 L => ?_⟩
        · rw [List.mem_singleton.mp hu]; exact r2
        · show a + (enc (o, w0)).length = l
          omega
        · obtain ⟨q1, q2, q3⟩ := ro_c (l := l) h92 a
          have q0 := nx_c (l := l) h92 a
          have hV : o ≠ 112 → roV y l a w = nI w0 := fun z => (q3 w).trans (r4 z w)
          obtain ⟨k1, k2⟩ := LX_ord (LX_pst (a := roA y l a) (s := nx y l a) (v := roV y l a w) L) r2 hV
          rw [← r3, ← q0] at k1 k2
          have hMCy : MC y := (LW_MC L).1
          unfold mgo exeN exeI
          rw [if_pos r7]
          by_cases hok : okO x o w0 = true
          · rw [if_pos hok, if_pos hok, if_pos ⟨q2.mpr r1, by rw [← k1]; exact hok⟩]
            obtain ⟨c', n', L'⟩ := k2 hok
            have e0 : ∀ (z : Nat → Nat → Int32) (s w : Int32), mgo l r z (roA y l a + 1) s w = (0, pst z (roA y l a + 1) s w) := fun z s w => by
              cases r with
              | zero => rfl
              | succ r => unfold mgo; rw [if_neg (by omega)]
            rw [e0]
            refine ⟨rfl, fun b f hb hbf => ?_, c', n', ?_⟩
            · show pst _ _ _ _ b f = _
              rw [psto (by omega), mdo_oth (MC_pst hMCy) hb, psto (by omega)]
            · exact LW_same (LX_pst L') (by omega) (fun _ _ _ => rfl)
          · rw [if_neg hok, if_neg hok, if_neg (fun z => hok (by rw [k1]; exact z.2))]
            refine ⟨rfl, fun b f hb hbf => psto (by omega), c, n, ?_⟩
            exact LW_same (LX_pst L) (by omega) (fun _ _ _ => rfl)
      · rw [if_neg hA] at hF
        have hlt : roA im l a < l := by omega
        by_cases h59 : nx im l (roA im l a) = 59
        · rw [if_neg (fun z => z h59)] at hF
          obtain ⟨t, ts, i1, i2, i3, i4⟩ := run_x h60 hT r (roA im l a + 1) _ hlt (by omega) hF
          have e59 : ic 88 (roA im l a) = nI 59 := (hT _ hlt).trans ((nx_in hlt).symm.trans h59)
          refine ⟨(o, w0), t :: ts, fun u hu => ?_, ?_, ?_, fun x y B c K n s w h92 L => ?_⟩
          · rcases List.mem_cons.mp hu with e | e
            · rw [e]; exact r2
            · exact i1 u e
          · show txt ic a (enc (o, w0) ++ 59 :: encs (t :: ts))
            refine txt_a _ _ r8 (txt_1 ?_ ?_)
            · rw [← r5]; exact e59
            · rw [← r5]; exact i2
          · show a + (enc (o, w0) ++ 59 :: encs (t :: ts)).length = l
            rw [List.length_append, List.length_cons]
            omega
          · obtain ⟨q1, q2, q3⟩ := ro_c (l := l) h92 a
            have q0 := nx_c (l := l) h92 a
            have hV : o ≠ 112 → roV y l a w = nI w0 := fun z => (q3 w).trans (r4 z w)
            obtain ⟨k1, k2⟩ := LX_ord (LX_pst (a := roA y l a) (s := nx y l a) (v := roV y l a w) L) r2 hV
            rw [← r3, ← q0] at k1 k2
            have x1 : exeN x ((o, w0) :: t :: ts) = if okO x o w0 = true then exeN (doO x o w0) (t :: ts) + 1 else 0 := rfl
            have x2 : exeI x ((o, w0) :: t :: ts) = if okO x o w0 = true then exeI (doO x o w0) (t :: ts) else x := rfl
            rw [x1, x2]
            unfold mgo
            rw [if_pos r7]
            by_cases hok : okO x o w0 = true
            · rw [if_pos hok, if_pos hok, if_pos ⟨q2.mpr r1, by rw [← k1]; exact hok⟩]
              obtain ⟨c', n', L'⟩ := k2 hok
              have hMC : MC (pst y (roA y l a) (nx y l a) (roV y l a w)) := MC_pst (show MC y from (LW_MC L).1)
              have h92' : ∀ q, mdo (pst y (roA y l a) (nx y l a) (roV y l a w)) (nx y l a) (roV y l a w) 92 q = im 92 q := fun q => by
                rw [mdo_oth hMC (by omega), psto (by omega)]; exact h92 q
              obtain ⟨j1, j2, c2, n2, j3⟩ := i4 _ _ _ _ _ _ (nx y l a) (roV y l a w) h92' L'
              rw [← q1] at j1 j2 j3
              refine ⟨by rw [j1], fun b f hb hbf => ?_, c2, n2, LW_same j3 (by omega) (fun _ _ _ => rfl)⟩
              show (mgo l r _ _ _ _).2 b f = _
              rw [j2 b f hb hbf, mdo_oth hMC hb, psto (by omega)]
            · rw [if_neg hok, if_neg hok, if_neg (fun z => hok (by rw [k1]; exact z.2))]
              refine ⟨rfl, fun b f hb hbf => psto (by omega), c, n, ?_⟩
              exact LW_same (LX_pst L) (by omega) (fun _ _ _ => rfl)
        · rw [if_pos h59] at hF
          exact absurd hF (nI_nm1 _ (by have := roA_nn (i := im) (l := l) (a := a); omega))
theorem t32 (g : G0) : St g INV m_L_run m_X7_run [] := by
  intro i j t ht I
  obtain ⟨s, hs, hs6, hx, hS⟩ := INV_S I
  obtain ⟨c, K, n, L⟩ := LV_iff.mp I.1
  obtain ⟨hCI, hcN, hKN, hnN⟩ := LW_CI L
  obtain ⟨l, T1, T2, T3, T4⟩ := I.2.2
  have e92 : ∀ q, q < l → i 88 q = th i 0 92 q := fun q h => (T4 q h).trans (th_ne (by omega)).symm
  rcases fe_eix e92 (l + 1) 0 (th i 0 89 8) (by omega) (by omega) with ⟨h1, h2, h3⟩ | ⟨z, h1, h2, h3, h4⟩
  · obtain ⟨u, ts, i1, i2, i3, i4⟩ := run_x T3 e92 (l + 1) 0 _ (by omega) (by omega) h1
    rw [Nat.sub_zero] at h3
    have h8 := k_X6_run (g := g) (i := i) (j := j) (c := l) 2 T1 T3 h3 i1 i2 (by omega) hS hCI
    have sv : ∀ a f, a < 13 → svI i a f = i a f := fun a f h => svI_oth (by omega) hx
    -- the memory that the class leaves
    have hd : ∀ a f, 13 ≤ a → ¬ (a = 87 ∧ f = 1) → up2 (exeI (svI i) (u :: ts)) 87 1 0 a f = svI i a f := fun a f h h' => by
      rw [show up2 (exeI (svI i) (u :: ts)) 87 1 0 a f = exeI (svI i) (u :: ts) a f from if_neg h']
      exact exeI_oth h _ _ i1
    generalize hi1 : up2 (exeI (svI i) (u :: ts)) 87 1 0 = i1' at h8 hd
    have g1 : ∀ a f, 87 ≤ a → ¬ (a = 87 ∧ f = 1) → i1' a f = i a f := fun a f h h' => by rw [hd a f (by omega) h', svI_oth (by omega) hx]
    have hfe : ∀ (r a : Nat) (v : Int32), fe (th i1' 0) l r a v = fe (th i 0) l r a v := by
      have e9 : ∀ q, th i1' 0 92 q = th i 0 92 q := fun q => by rw [th_ne (by omega), th_ne (by omega), g1 _ _ (by omega) (by omega)]
      intro r
      induction r with
      | zero => intro a v; rfl
      | succ r ih =>
        intro a v
        obtain ⟨q1, q2, q3⟩ := ro_c (l := l) e9 a
        have q0 := nx_c (l := l) e9
        unfold fe
        simp only [q1, q2, q3, q0, ih]
    have e8 : th i1' 0 89 8 = th i 0 89 8 := by
      unfold th up2
      rw [if_neg (by omega), if_neg (by omega), g1 _ _ (by omega) (by omega)]
    have hf : feR (th i1' 0) l = -1 := by
      show (fe (th i1' 0) l (l + 1) 0 (th i1' 0 89 8)).1 = -1
      rw [hfe, e8]; exact h1
    -- the memory behind the reference's save
    have m1 : ∀ a f, a ≠ 91 → ¬ (a = 89 ∧ (f = 0 ∨ f = 3 ∨ (6 ≤ f ∧ f ≤ 8))) → mS i1' l s a f = i1' a f := fun a f h h' => by
      unfold mS
      rw [msv_oth (by omega)]
      unfold feM
      rw [psto (by omega)]
      exact if_neg (by omega)
    have m90 : ∀ f, mS i1' l s 90 f = i 90 f := fun f => by rw [m1 _ _ (by omega) (by omega), g1 _ _ (by omega) (by omega)]
    have m92 : ∀ q, mS i1' l s 92 q = th i 0 92 q := fun q => by rw [m1 _ _ (by omega) (by omega), g1 _ _ (by omega) (by omega), th_ne (by omega)]
    obtain ⟨j1, j2, c', n', j3⟩ := i4 (svI i) (mS i1' l s) (2000 * t) c K n (mS i1' l s 89 7) (mS i1' l s 89 8) m92 (LW_mx L (Nat.le_refl _) sv m90)
    have hM : MC i1' := MC_same (LW_MC L).1 (g1 _ _ (by omega) (by omega)) (g1 _ _ (by omega) (by omega)) (g1 _ _ (by omega) (by omega)) (fun f hf => g1 _ _ (by omega) (by omega))
    have h9 := fun j => k_X7_run (g := g) (i := i1') (j := j) (l := l) (n := s) 3 (by rw [g1 _ _ (by omega) (by omega)]; exact T2) T3 (by rw [g1 _ _ (by omega) (by omega)]; exact hs) hs6 hM hf
    have hmr : mrun i1' l s = mgo l (l + 1) (mS i1' l s) 0 (mS i1' l s 89 7) (mS i1' l s 89 8) := rfl
    rw [← hmr] at j1 j2 j3
    generalize mrun i1' l s = R at h9 j1 j2 j3
    -- what the memory is in the end
    have r0 : ∀ a f, a ≠ 90 → ¬ (a = 89 ∧ 5 ≤ f ∧ f ≤ 8) → up2 R.2 89 5 0 a f = mS i1' l s a f := fun a f h h' => by
      rw [show up2 R.2 89 5 0 a f = R.2 a f from if_neg (by omega)]
      exact j2 a f h (by omega)
    refine go_ok (w_run 9 h8) h9 (by rw [j1]) ?_ ⟨LV_iff.mpr ⟨c', K, n', LW_xm j3 (by omega) (fun a f h => ?_) (fun f => ?_)⟩, save_SA (by omega) I.1 I.2.1 hs hs6 (fun a f h h' => ?_) (fun f => ?_) ?_, 0, ?_, ?_, by omega, fun q hq => by omega⟩
    · rw [r0 _ _ (by omega) (by omega)]
      unfold mS
      rw [msv_oth (by omega)]
      unfold feM
      rw [psto (by omega)]
      exact up2_eq
    · rw [r0 _ _ (by omega) (by omega), m1 _ _ (by omega) (by omega), ← hi1]
      exact up2_ne (by omega)
    · exact up2_ne (by omega)
    · rw [r0 _ _ (by omega) (by omega), m1 _ _ (by omega) (by omega), hd _ _ h (by omega)]
    · rw [r0 _ _ (by omega) (by omega)]
      unfold mS
      refine msv_91c fun a f h => ?_
      unfold feM
      rw [psto (by omega), th_ne (by omega), g1 _ _ (by omega) (by omega)]
    · rw [r0 _ _ (by omega) (by omega)]
      unfold mS
      exact msv_3 hs6
    · rw [r0 _ _ (by omega) (by omega), m1 _ _ (by omega) (by omega), ← hi1]
      exact up2_eq
    · exact up2_eq
  · rw [Nat.sub_zero] at h4
    have hf : ¬ feR (th i 0) l = -1 := by
      show ¬ (fe (th i 0) l (l + 1) 0 (th i 0 89 8)).1 = -1
      rw [h2]; exact nI_nm1 z (by omega)
    refine go_no (w_run_x1 9 (k_X6_run_x 2 T1 T3 (by rw [h4]; decide))) (by decide) (k_X7_run__1 3 T2 T3 hf) up2_eq (INV_agr I ?_)
    intro a f h
    rw [show up2 (feM (th i 0) (fe (th i 0) l (l + 1) 0 (th i 0 89 8))) 89 0 1 a f = feM (th i 0) (fe (th i 0) l (l + 1) 0 (th i 0 89 8)) a f from if_neg (by omega)]
    exact agr_pst agr_t0 a f h
