/-! ===== what is undone is as it was ===== -/
section IB
variable {i i' : Nat → Nat → Int32} {c f s : Nat}
theorem csl_ib (h : ∀ a f, ib a f → i' a f = i a f) {e : Int32} : ∀ (m : Nat) (acc : Int32), m ≤ 6 → csl i' e m acc = csl i e m acc
  | 0, _, _ => rfl
  | m + 1, acc, hm => by
    show (if i' 4 m = e then acc + i' 7 m else csl i' e m (acc + i' 7 m)) = (if i 4 m = e then acc + i 7 m else csl i e m (acc + i 7 m))
    rw [h 4 m (by unfold ib; omega), h 7 m (by unfold ib; omega), csl_ib h m _ (by omega)]
theorem ans_ib (h : ∀ a f, ib a f → i' a f = i a f) (hf : f < 4) (hc : c ≤ 6) : ans i' (9 + f) c = ans i (9 + f) c := by
  unfold ans
  rw [h (9 + f) 0 (by unfold ib; omega), h (9 + f) 2 (by unfold ib; omega), h 2 2 (by unfold ib; omega), h 2 1 (by unfold ib; omega), csl_ib h c _ hc]
theorem coa_ib (h : ∀ a f, ib a f → i' a f = i a f) {a e : Int32} (hc : c ≤ 6) : coa i' a e c = coa i a e c := by
  unfold coa
  rw [h 2 1 (by unfold ib; omega), csl_ib h c _ hc]
theorem wfH_ib (h : ∀ a f, ib a f → i' a f = i a f) {v : Int64} (hf : f < 4) (hc : c ≤ 6) : wfH i' c v (9 + f) = wfH i c v (9 + f) := by
  unfold wfH
  rw [ans_ib h hf hc, coa_ib h hc, h (9 + f) 0 (by unfold ib; omega), h (9 + f) 1 (by unfold ib; omega), h (9 + f) 2 (by unfold ib; omega), h (9 + f) 3 (by unfold ib; omega), h (9 + f) 4 (by unfold ib; omega), h (9 + f) 5 (by unfold ib; omega), h 2 1 (by unfold ib; omega)]
theorem wdF_ib (h : ∀ a f, ib a f → i' a f = i a f) {v : Int64} : ∀ m, m ≤ 6 → wdF i' v m = wdF i v m
  | 0, _ => rfl
  | m + 1, hm => by
    show mx (mx (wdF i' v m) (i' 4 m)) (i' 7 m) = mx (mx (wdF i v m) (i 4 m)) (i 7 m)
    rw [wdF_ib h m (by omega), h 4 m (by unfold ib; omega), h 7 m (by unfold ib; omega)]
theorem hd0_ib (h : ∀ a f, ib a f → i' a f = i a f) : hd0 i' = hd0 i := by
  unfold hd0
  rw [h 2 0 (by unfold ib; omega), h 2 1 (by unfold ib; omega), h 2 2 (by unfold ib; omega), h 3 5 (by unfold ib; omega)]
theorem foF_ib (h : ∀ a f, ib a f → i' a f = i a f) (hc : c ≤ 6) : ∀ m, m ≤ 4 → foF i' c m = foF i c m
  | 0, _ => by
    show wdF i' (hd0 i') c = wdF i (hd0 i) c
    rw [hd0_ib h, wdF_ib h c hc]
  | m + 1, hm => by
    show wfH i' c (foF i' c m) (9 + m) = wfH i c (foF i c m) (9 + m)
    rw [foF_ib h hc m (by omega), wfH_ib h (by omega) hc]
theorem wsF_ib (h : ∀ a f, ib a f → i' a f = i a f) {v : Int64} : ∀ m, m ≤ 4 → wsF i' s v m = wsF i s v m
  | 0, _ => by
    show mx v (plO i' (nI s)) = mx v (plO i (nI s))
    unfold plO
    rw [h 2 0 (by unfold ib; omega), h 2 1 (by unfold ib; omega)]
  | m + 1, hm => by
    show mx (wsF i' s v m) (b2i (¬ bit (i' (9 + m) 1) (nI s) = 0)) = mx (wsF i s v m) (b2i (¬ bit (i (9 + m) 1) (nI s) = 0))
    rw [wsF_ib h m (by omega), h (9 + m) 1 (by unfold ib; omega)]
theorem stF_ib (h : ∀ a f, ib a f → i' a f = i a f) (hc : c ≤ 6) : ∀ m, stF i' c m = stF i c m
  | 0 => foF_ib h hc 4 (Nat.le_refl _)
  | m + 1 => by
    show wsF i' m (stF i' c m) 4 = wsF i m (stF i c m) 4
    rw [stF_ib h hc m, wsF_ib h 4 (Nat.le_refl _)]
end IB
/-- the saved states' numbers -/
def SX (i : Nat → Nat → Int32) : Prop := ∃ s x, i 13 1 = nI x ∧ x < 6 ∧ i 13 2 = nI s ∧ s ≤ 6
section UNDO
variable {g : G0} {i i1 i2 m m1 : Nat → Nat → Int32} {j : Nat → Nat → Int64} {B B1 c c1 K K1 n n1 : Nat}
theorem SX_N (h : SX i) : i 13 1 = nI (xN i) ∧ xN i < 6 ∧ i 13 2 = nI (sN i) ∧ sN i ≤ 6 := by
  obtain ⟨s, x, S1, S2, S3, S4⟩ := h
  have ex : xN i = x := by unfold xN; rw [S1]; exact nI_clamp (by omega)
  have es : sN i = s := by unfold sN; rw [S3]; exact nI_clamp (by omega)
  rw [ex, es]
  exact ⟨S1, S2, S3, S4⟩
theorem RP_bits (h : RP i m B c K n) {f : Nat} (hf : f < 4) : (i (9 + f) 0 = 0 ∨ i (9 + f) 0 = 1) ∧ (i (9 + f) 3 = 0 ∨ i (9 + f) 3 = 1) ∧ (i (9 + f) 4 = 0 ∨ i (9 + f) 4 = 1) := by
  obtain ⟨F1, F2, F3, F4, F5, F6⟩ := h.2.2.2.1 f hf
  refine ⟨?_, by rw [F2]; exact F3, by rw [F4]; exact F5⟩
  rcases F1 with F1 | F1
  · exact Or.inl F1.1
  · exact Or.inr F1.1
theorem SVI_of (h : RP i m B c K n) (hS : SX i) : SVI i := by
  obtain ⟨a1, a2, a3, a4⟩ := SX_N hS
  refine ⟨a1, a2, a3, a4, fun f hf => ?_⟩
  rw [show 1 + 8 + f = 9 + f by omega]
  exact RP_bits h hf
theorem CI_RP (h : RP i m B c K n) : CI i ∧ cN i = c ∧ KN i = K ∧ nN i = n := by
  obtain ⟨P, ⟨N1, N2, N3, N4, N5, N6, N7, N8, N9, N10⟩, D, F, CC⟩ := h
  exact CI_of N8 N10 N6 N7 N4 N1 N3
theorem sv_13 (h : ∀ a f, 13 ≤ a → i1 a f = svI i a f) : i1 13 1 = nI ((xN i + 1) % 6) ∧ i1 13 2 = nI (min (sN i + 1) 6) := by
  rw [h _ _ (by omega), h _ _ (by omega)]
  unfold svI saveW
  exact ⟨(up2_nf (by omega)).trans up2_eq, up2_eq⟩
theorem SX_sv (h : ∀ a f, 13 ≤ a → i1 a f = svI i a f) : SX i1 := by
  obtain ⟨h1, h2⟩ := sv_13 h
  exact ⟨min (sN i + 1) 6, (xN i + 1) % 6, h1, Nat.mod_lt _ (by omega), h2, by omega⟩
theorem SX_same (h : SX i) (h1 : i1 13 1 = i 13 1) (h2 : i1 13 2 = i 13 2) : SX i1 := by
  obtain ⟨s, x, S1, S2, S3, S4⟩ := h
  exact ⟨s, x, h1.trans S1, S2, h2.trans S3, S4⟩
/-- undo brings the live state back -/
theorem undo_of (h : RP i m B c K n) (hS : SX i) (hsv : ∀ a f, 13 ≤ a → i1 a f = svI i a f) (h1 : RP i1 m1 B1 c1 K1 n1) :
    ∃ (v : Int32) (i9 : Nat → Nat → Int32), C g m_L_undo 10 1 6 false [.ref 0] (mk i1 j) (rets (some (.int v)) (mk i9 j)) ∧ ¬ v < 0 ∧ (∀ a f, ib a f → i9 a f = i a f) ∧ (∀ a f, 89 ≤ a → i9 a f = i1 a f) ∧ SX i9 := by
  obtain ⟨a1, a2, a3, a4⟩ := SX_N hS
  obtain ⟨b1, b2⟩ := sv_13 hsv
  have ex : xN i1 = (xN i + 1) % 6 := by unfold xN; rw [b1]; exact nI_clamp (by omega)
  have es : sN i1 = min (sN i + 1) 6 := by unfold sN; rw [b2]; exact nI_clamp (by omega)
  have er : (xN i1 + 5) % 6 = xN i := by rw [ex]; omega
  have hrow : ∀ k f, ((k = 1 ∧ f < 3) ∨ (k = 2 ∧ (f = 4 ∨ f = 5)) ∨ (3 ≤ k ∧ k ≤ 6 ∧ f < 6) ∨ (8 ≤ k ∧ k ≤ 11 ∧ f < 7)) → i1 (15 + 12 * xN i + k) f = i (1 + k) f := fun k f hk => by
    rw [hsv _ _ (by omega), svI_row a2 a2 hk, if_pos rfl]
  have hb : bits i1 (15 + 12 * ((xN i1 + 5) % 6)) := by
    intro f hf
    rw [er, show 15 + 12 * xN i + 8 + f = 15 + 12 * xN i + (8 + f) by omega, hrow (8 + f) 0 (by omega), hrow (8 + f) 3 (by omega), hrow (8 + f) 4 (by omega), show 1 + (8 + f) = 9 + f by omega]
    exact RP_bits h hf
  have h8 := k_X6_undo (g := g) (i := i1) (j := j) 5 (SVI_of h1 (SX_sv hsv)) (by omega) hb
  have e2 : restW i1 (xN i1) (sN i1) 13 2 = nI (sN i1 - 1) := by
    unfold restW
    rw [cpS_off (by omega), up2_eq]
  rw [e2] at h8
  refine ⟨_, _, C_less (by omega) (by omega) (w_undo 9 h8), nI_pos (by omega), fun a f hi => ?_, fun a f ha => ?_, ?_⟩
  · have ha : a = 1 + (a - 1) := by unfold ib at hi; omega
    have hk : ((a - 1 = 1 ∧ f < 3) ∨ (a - 1 = 2 ∧ (f = 4 ∨ f = 5)) ∨ (3 ≤ a - 1 ∧ a - 1 ≤ 6 ∧ f < 6) ∨ (8 ≤ a - 1 ∧ a - 1 ≤ 11 ∧ f < 7)) := by unfold ib at hi; omega
    rw [ha]
    unfold restW
    rw [cpS_in hk, er, up2_ne (by omega), up2_ne (by omega), hrow _ _ hk]
  · unfold restW
    rw [cpS_off (by omega), up2_ne (by omega), up2_ne (by omega)]
  · refine ⟨sN i1 - 1, (xN i1 + 5) % 6, ?_, Nat.mod_lt _ (by omega), e2, by omega⟩
    unfold restW
    rw [cpS_off (by omega), up2_nf (by omega), up2_eq]
/-- the law's rows alone -/
def nz (i : Nat → Nat → Int32) : Nat → Nat → Int32 := fun a f => if 89 ≤ a then i a f else 0
theorem nz_at {a f : Nat} (h : 89 ≤ a) : nz i a f = i a f := if_pos h
theorem nz_fn {a : Nat} (h : 89 ≤ a) : nz i a = i a := funext fun _ => if_pos h
theorem nz_eq (h : ∀ a f, 89 ≤ a → i1 a f = i a f) : nz i1 = nz i := by
  refine up2_ext fun a f => ?_
  unfold nz
  by_cases ha : 89 ≤ a
  · rw [if_pos ha, if_pos ha, h a f ha]
  · rw [if_neg ha, if_neg ha]
/-- a call, its answer, and what the law owes -/
def RES (g : G0) (kd a : Int32) (i : Nat → Nat → Int32) (j : Nat → Nat → Int64) (v : Int32) (B : Nat) : Prop := ∃ (i1 i2 : Nat → Nat → Int32) (c K n : Nat),
  C g m_L_call 11 1 6 false [.ref 0, .int kd, .int a] (mk i j) (rets (some (.int v)) (mk i1 j)) ∧
  C g m_L_due 11 0 0 false [.int kd, .int a, .ref 89, .ref 90, .ref 91] (mk i1 j) (rets (some (.int v)) (mk i2 j)) ∧
  ((v < -100 ∧ i1 = i) ∨ (¬ v < -100 ∧ ∀ a f, 13 ≤ a → i1 a f = svI i a f)) ∧ (∀ a f, 89 ≤ a → i1 a f = i a f) ∧ (∀ a f, a < 89 → i2 a f = i1 a f) ∧ RP i2 i2 (B + 124) c K n
theorem RES_ok {kd a v : Int32} (hS : SX i)
    (hcall : C g m_L_call 11 1 6 false [.ref 0, .int kd, .int a] (mk i j) (rets (some (.int v)) (mk i1 j)))
    (hdue : C g m_L_due 11 0 0 false [.int kd, .int a, .ref 89, .ref 90, .ref 91] (mk i1 j) (rets (some (.int v)) (mk i2 j)))
    (hv : ¬ v < -100) (hsv : ∀ a f, 13 ≤ a → i1 a f = svI i a f) (h2 : ∀ a f, a < 89 → i2 a f = i1 a f) (hR : RP i1 i2 (B + 124) c K n) : RES g kd a i j v B :=
  ⟨i1, i2, c, K, n, hcall, hdue, Or.inr ⟨hv, hsv⟩, fun a f ha => (hsv a f (by omega)).trans (svI_oth (by omega) (SX_N hS).2.1), h2, RP_congr hR (fun a f h => h2 a f (by unfold ib at h; omega)) (fun _ _ _ => rfl) (Nat.le_refl _)⟩
theorem RES_no {kd a v : Int32} (h : RP i i B c K n)
    (hcall : C g m_L_call 11 1 6 false [.ref 0, .int kd, .int a] (mk i j) (rets (some (.int v)) (mk i j)))
    (hdue : C g m_L_due 11 0 0 false [.int kd, .int a, .ref 89, .ref 90, .ref 91] (mk i j) (rets (some (.int v)) (mk i j)))
    (hv : v < -100) : RES g kd a i j v B :=
  ⟨i, i, c, K, n, hcall, hdue, Or.inl ⟨hv, rfl⟩, fun _ _ _ => rfl, fun _ _ _ => rfl, RP_congr h (fun _ _ _ => rfl) (fun _ _ _ => rfl) (by omega)⟩
/-- every state in the relation: the call answers W of the law's rows -/
def STEP (g : G0) (kd a : Int32) : Prop := ∃ W : (Nat → Nat → Int32) → Nat → Int32, ∀ (i : Nat → Nat → Int32) (j : Nat → Nat → Int64) (B c K n : Nat), RP i i B c K n → SX i → RES g kd a i j (W (nz i) c) B
/-- after the save, before the change -/
theorem base (h : RP i i B c K n) (hS : SX i) (h1 : ∀ a f, 89 ≤ a → i1 a f = i a f) : RP (svI i) i1 B c K n :=
  RP_congr h (fun a f ha => svI_oth (by unfold ib at ha; omega) (SX_N hS).2.1) h1 (Nat.le_refl _)
theorem up124 (h : RP i m B c K n) : RP i m (B + 124) c K n := RP_congr h (fun _ _ _ => rfl) (fun _ _ _ => rfl) (by omega)
theorem nI_100 {p : Nat} (h : p < 2 ^ 31) : ¬ nI p < -100 := fun z => nI_pos h (Int32.lt_of_lt_of_le z (by decide))
theorem bc_100 {v : Int32} (h : L30 v) : ¬ bcI v < -100 := by
  obtain ⟨p, hp, e⟩ := bc_nat h
  rw [e]; exact nI_100 (by omega)
theorem st_0 {v : Nat} (hv : v < 30) : STEP g 0 (nI v) := by
  refine ⟨fun m _ => if mbt (m 89 0) (nI v) = 0 then bcI (m 89 0 ^^^ ((1 : Int32) <<< (nI v &&& 31))) else -103, fun i j B c K n h hS => ?_⟩
  dsimp only
  rw [nz_at (by omega)]
  obtain ⟨⟨P1, P2, P3, P4⟩, -⟩ := id h
  have hx := (SX_N hS).2.1
  by_cases hb : mbt (i 89 0) (nI v) = 0
  · rw [if_pos hb]
    have hb2 : bit (i 2 0) (nI v) = 0 := by rw [P1]; exact (bit_mbt P3 hv).1.mpr hb
    have h8 := k_X6_add (g := g) (i := i) (j := j) 5 hv hb2 (SVI_of h hS)
    have e1 : doO (svI i) 43 v = up2 (svI i) 2 0 (i 89 0 ^^^ ((1 : Int32) <<< (nI v &&& 31))) := by
      rw [dO43, svI_oth (by omega) hx, P1, add_xor P3 hv (by rw [← P1]; exact hb2)]
    rw [e1, up2_eq] at h8
    have hM : ∀ a f, 89 ≤ a → up2 (svI i) 2 0 (i 89 0 ^^^ ((1 : Int32) <<< (nI v &&& 31))) a f = i a f := fun a f ha => (up2_ne (by omega)).trans (svI_oth (by omega) hx)
    have h9 := k_L_due0 (g := g) (j := j) 10 (k_L_op0 9 (i := up2 (svI i) 2 0 (i 89 0 ^^^ ((1 : Int32) <<< (nI v &&& 31)))) hv (by rw [hM _ _ (by omega)]; exact P3) (by rw [hM _ _ (by omega)]; exact hb))
    rw [hM 89 0 (by omega)] at h9
    exact RES_ok hS (k_L_call0 10 (C_less (by omega) (by omega) (w_add 9 h8))) h9 (bc_100 (L30_xor P3 (L30_shl hv))) (fun a f ha => up2_ne (by omega)) (fun a f ha => up2_ne (by omega)) (up124 (RP_draft (base h hS hM) (L30_xor P3 (L30_shl hv))))
  · rw [if_neg hb]
    have hb2 : ¬ bit (i 2 0) (nI v) = 0 := by rw [P1]; exact fun z => hb ((bit_mbt P3 hv).1.mp z)
    exact RES_no h (k_L_call0 10 (w_add_x103 9 (k_X6_add_y 2 hv hb2))) (k_L_due0 10 (k_L_op0_x 9 hb)) (by decide)
theorem st_1 {v : Nat} (hv : v < 30) : STEP g 1 (nI v) := by
  refine ⟨fun m _ => if mbt (m 89 0) (nI v) = 1 then bcI (m 89 0 ^^^ ((1 : Int32) <<< (nI v &&& 31))) else -103, fun i j B c K n h hS => ?_⟩
  dsimp only
  rw [nz_at (by omega)]
  obtain ⟨⟨P1, P2, P3, P4⟩, -⟩ := id h
  have hx := (SX_N hS).2.1
  by_cases hb : mbt (i 89 0) (nI v) = 1
  · rw [if_pos hb]
    have hb2 : ¬ bit (i 2 0) (nI v) = 0 := by rw [P1]; exact (bit_mbt P3 hv).2.mpr hb
    have h8 := k_X6_crossOut (g := g) (i := i) (j := j) 5 hv hb2 (SVI_of h hS)
    have e1 : doO (svI i) 45 v = up2 (svI i) 2 0 (i 89 0 ^^^ ((1 : Int32) <<< (nI v &&& 31))) := by
      rw [dO45, svI_oth (by omega) hx, P1, out_xor P3 hv (by rw [← P1]; exact hb2)]
    rw [e1, up2_eq] at h8
    have hM : ∀ a f, 89 ≤ a → up2 (svI i) 2 0 (i 89 0 ^^^ ((1 : Int32) <<< (nI v &&& 31))) a f = i a f := fun a f ha => (up2_ne (by omega)).trans (svI_oth (by omega) hx)
    have h9 := k_L_due1 (g := g) (j := j) 10 (k_L_op1 9 (i := up2 (svI i) 2 0 (i 89 0 ^^^ ((1 : Int32) <<< (nI v &&& 31)))) hv (by rw [hM _ _ (by omega)]; exact P3) (by rw [hM _ _ (by omega)]; exact hb))
    rw [hM 89 0 (by omega)] at h9
    exact RES_ok hS (k_L_call1 10 (C_less (by omega) (by omega) (w_crossOut 9 h8))) h9 (bc_100 (L30_xor P3 (L30_shl hv))) (fun a f ha => up2_ne (by omega)) (fun a f ha => up2_ne (by omega)) (up124 (RP_draft (base h hS hM) (L30_xor P3 (L30_shl hv))))
  · rw [if_neg hb]
    have hb2 : ¬ (¬ bit (i 2 0) (nI v) = 0) := by rw [P1]; exact fun z => hb ((bit_mbt P3 hv).2.mp z)
    exact RES_no h (k_L_call1 10 (w_crossOut_x103 9 (k_X6_crossOut_y 2 hv hb2))) (k_L_due1 10 (k_L_op1_x 9 hb)) (by decide)
theorem puL_oth {M : Nat → Nat → Int32} {c n a f : Nat} (h : a < 89) : puL M c n a f = M a f := by
  unfold puL
  rw [up2_ne (by omega), up2_ne (by omega), up2_ne (by omega), up2_ne (by omega), up2_ne (by omega), up2_ne (by omega)]
theorem st_2 {v : Int32} : STEP g 2 v := by
  refine ⟨fun m _ => if m 89 0 = m 89 1 then -103 else nI (((m 89 2).toNatClampNeg + 1) % 16), fun i j B c K n h hS => ?_⟩
  dsimp only
  rw [nz_at (by omega), nz_at (by omega), nz_at (by omega)]
  obtain ⟨⟨P1, P2, P3, P4⟩, ⟨N1, N2, N3, N4, N5, N6, N7, N8, N9, N10⟩, -⟩ := id h
  have hx := (SX_N hS).2.1
  obtain ⟨hCI, hcN, hKN, hnN⟩ := CI_RP h
  by_cases hp : i 89 0 = i 89 1
  · rw [if_pos hp]
    exact RES_no h (k_L_call2 10 (w_publish_x103 9 (k_X6_publish_x 2 (fun z => z (by rw [P1, P2]; exact hp))))) (k_L_due2 10 (k_L_op2_x 9 hp)) (by decide)
  · rw [if_neg hp, N2, nI_clamp (by omega)]
    have sv : ∀ a f, a < 13 ∨ 87 ≤ a → svI i a f = i a f := fun a f h => svI_oth h hx
    have h8 := k_X6_publish (g := g) (i := i) (j := j) 5 (by rw [P1, P2]; exact hp) (SVI_of h hS) hCI
    have q1 : cN (svI i) = c := by unfold cN; rw [sv 3 5 (by omega)]; exact hcN
    have q2 : KN (svI i) = K := by unfold KN; rw [sv 3 4 (by omega)]; exact hKN
    have q3 : nN (svI i) = n := by unfold nN; rw [sv 2 2 (by omega)]; exact hnN
    rw [dO112, q1, q2, q3] at h8
    have hsv : ∀ a f, 13 ≤ a → gnF (isu (svI i) c K n) 4 a f = svI i a f := fun a f ha => (gnF_oth (by omega)).trans (isu_oth (by omega))
    have hM : ∀ a f, 89 ≤ a → gnF (isu (svI i) c K n) 4 a f = i a f := fun a f ha => (hsv a f (by omega)).trans (sv a f (by omega))
    obtain ⟨c1, e1, e2, hR⟩ := RP_pub (base h hS hM)
    have h9 := k_L_due2 (g := g) (j := j) (x := v) 10 (k_L_op2 9 (i := gnF (isu (svI i) c K n) 4) ((hM _ _ (by omega)).trans N9) (by omega) ((hM _ _ (by omega)).trans N5) N6 N7 ((hM _ _ (by omega)).trans N2) N3 (by rw [hM _ _ (by omega), hM _ _ (by omega)]; exact hp) e1 e2)
    rw [hR.2.1.1] at h8
    refine RES_ok hS (k_L_call2 10 (C_less (by omega) (by omega) (w_publish 9 h8))) h9 (nI_100 (by omega)) hsv (fun a f ha => ?_) (up124 hR)
    rw [ntF_oth (by omega), puL_oth ha]
    exact dpR_oth c _ (Or.inl (by omega)) (Or.inl (by omega))
theorem st_7 {v : Nat} (hv : v < 16) : STEP g 7 (nI v) := by
  refine ⟨fun m _ => if m 89 2 = nI v then -102 else m 89 2, fun i j B c K n h hS => ?_⟩
  dsimp only
  rw [nz_at (by omega)]
  obtain ⟨⟨P1, P2, P3, P4⟩, ⟨N1, N2, N3, N4, N5, N6, N7, N8, N9, N10⟩, -⟩ := id h
  have hx := (SX_N hS).2.1
  have e2 : i 2 2 = i 89 2 := N1.trans N2.symm
  by_cases hq : i 89 2 = nI v
  · rw [if_pos hq]
    exact RES_no h (k_L_call7 10 (w_renumber_x102 9 (k_X6_renumber_x 2 (fun z => z.2 (hq.symm.trans e2.symm))))) (k_L_due7 10 (k_L_op7_x 9 hq)) (by decide)
  · rw [if_neg hq]
    have h8 := k_X6_renumber (g := g) (i := i) (j := j) 5 hv (by rw [e2]; exact fun z => hq z.symm) (SVI_of h hS)
    rw [dO110, svI_oth (by omega) hx, e2] at h8
    have hsv : ∀ a f, 13 ≤ a → gnF (up2 (up2 (svI i) 2 2 (nI v)) 3 5 0) 4 a f = svI i a f := fun a f ha => (gnF_oth (by omega)).trans ((up2_ne (by omega)).trans (up2_ne (by omega)))
    have hM : ∀ a f, 89 ≤ a → gnF (up2 (up2 (svI i) 2 2 (nI v)) 3 5 0) 4 a f = i a f := fun a f ha => (hsv a f (by omega)).trans (svI_oth (by omega) hx)
    have h9 := k_L_due7 (g := g) (j := j) 10 (k_L_op7 9 (i := gnF (up2 (up2 (svI i) 2 2 (nI v)) 3 5 0) 4) (v := nI v) (by rw [hM _ _ (by omega)]; exact hq))
    rw [hM 89 2 (by omega)] at h9
    refine RES_ok hS (k_L_call7 10 (C_less (by omega) (by omega) (w_renumber 9 h8))) h9 (by rw [N2]; exact nI_100 (by omega)) hsv (fun a f ha => ?_) (up124 (RP_gn (RP_num (base h hS hM) hv)))
    rw [ntF_oth (by omega), up2_ne (by omega), up2_ne (by omega)]
theorem st_8 {v : Nat} (h1 : 1 ≤ v) (h6 : v ≤ 6) : STEP g 8 (nI v) := by
  refine ⟨fun m c => nI (if v < c then v else c), fun i j B c K n h hS => ?_⟩
  dsimp only
  obtain ⟨⟨P1, P2, P3, P4⟩, ⟨N1, N2, N3, N4, N5, N6, N7, N8, N9, N10⟩, -⟩ := id h
  have hx := (SX_N hS).2.1
  obtain ⟨hCI, hcN, hKN, hnN⟩ := CI_RP h
  have h8 := k_X6_setKeep (g := g) (i := i) (j := j) 5 h1 h6 (SVI_of h hS) hCI
  rw [hcN] at h8
  have hsv : ∀ a f, 13 ≤ a → lim (svI i) c v a f = svI i a f := fun a f ha => by
    unfold lim
    split
    · exact up2_ne (by omega)
    · exact (drp_oth (by omega)).trans (up2_ne (by omega))
  have hM : ∀ a f, 89 ≤ a → lim (svI i) c v a f = i a f := fun a f ha => (hsv a f (by omega)).trans (svI_oth (by omega) hx)
  have hR := RP_keep (base h hS hM) h1 h6
  have h9 := k_L_due8 (g := g) (j := j) 10 (k_L_op8 9 (i := lim (svI i) c v) (c := c) (q := v) ((hM _ _ (by omega)).trans N9) (by omega) h6)
  rw [hR.2.1.2.2.2.2.2.2.2.2.1] at h9
  rw [hR.2.1.2.2.2.2.2.2.2.1] at h8
  refine RES_ok hS (k_L_call8 10 (C_less (by omega) (by omega) (w_setKeep 9 h8))) h9 (nI_100 (by split <;> omega)) hsv (fun a f ha => ?_) (up124 hR)
  exact (dpR_oth c _ (Or.inl (by omega)) (Or.inl (by omega))).trans (up2_ne (by omega))
theorem lan_100 {k : Nat} : ¬ lan (i 89) (i 90) (i 91) k c < -100 := by
  rcases lan_in (i := i) (k := k) (c := c) with h | h | h | h <;> rw [h] <;> decide
theorem st_3 {v : Nat} (hv : v < 4) : STEP g 3 (nI v) := by
  refine ⟨fun m c => if m 91 (5 * v + 2) = 0 then lan (m 89) (m 90) (m 91) v c else -103, fun i j B c K n h hS => ?_⟩
  dsimp only
  rw [nz_at (by omega), nz_fn (by omega), nz_fn (by omega), nz_fn (by omega)]
  have hx := (SX_N hS).2.1
  obtain ⟨hCI, hcN, hKN, hnN⟩ := CI_RP h
  obtain ⟨F1, F2, F3, F4, F5, F6⟩ := h.2.2.2.1 v hv
  by_cases hs : i 91 (5 * v + 2) = 0
  · rw [if_pos hs]
    have h8 := k_X6_refresh (g := g) (i := i) (j := j) 5 hv (F2.trans hs) (SVI_of h hS) hCI
    rw [hcN] at h8
    have hsv : ∀ a f, 13 ≤ a → bnI (svI i) (9 + v) c a f = svI i a f := fun a f ha => bnI_oth (by omega)
    have hM : ∀ a f, 89 ≤ a → bnI (svI i) (9 + v) c a f = i a f := fun a f ha => (hsv a f (by omega)).trans (svI_oth (by omega) hx)
    have hf : ∀ a, 89 ≤ a → bnI (svI i) (9 + v) c a = i a := fun a ha => funext fun f => hM a f ha
    have hB := base h hS hM
    have h9 := k_L_due3 (g := g) (j := j) 5 (i := bnI (svI i) (9 + v) c) hv (RP_AW hB) ((hM _ _ (by omega)).trans hs)
    rw [ans_lan hB hv, hf 89 (by omega), hf 90 (by omega), hf 91 (by omega)] at h8
    rw [hf 89 (by omega), hf 90 (by omega), hf 91 (by omega)] at h9
    refine RES_ok hS (k_L_call3 10 (C_less (by omega) (by omega) (w_refresh 9 h8))) h9 lan_100 hsv (fun a f ha => rf_oth _ _ (by omega) (by omega)) (RP_congr (RP_rf hB hv) (fun _ _ _ => rfl) (fun _ _ _ => rfl) (by omega))
  · rw [if_neg hs]
    exact RES_no h (k_L_call3 10 (w_refresh_x103 9 (k_X6_refresh_y 2 hv (by rw [F2]; exact hs)))) (k_L_due3_x 5 hv hs) (by decide)
theorem raL_oth : ∀ (m : Nat) {a f : Nat}, a < 89 → raL c i m a f = i a f
  | 0, _, _, _ => rfl
  | m + 1, a, f, h => by
    unfold raL
    split
    · exact (rf_oth _ _ (by omega) (by omega)).trans (raL_oth m h)
    · exact raL_oth m h
theorem st_4 {v : Int32} : STEP g 4 v := by
  refine ⟨fun m c => rnL c m 4, fun i j B c K n h hS => ?_⟩
  dsimp only
  have hx := (SX_N hS).2.1
  obtain ⟨hCI, hcN, hKN, hnN⟩ := CI_RP h
  have h8 := k_X6_refreshAll (g := g) (i := i) (j := j) 5 (SVI_of h hS) hCI
  rw [hcN] at h8
  have hsv : ∀ a f, 13 ≤ a → raF c (svI i) 4 a f = svI i a f := fun a f ha => raF_oth 4 (by omega)
  have hM : ∀ a f, 89 ≤ a → raF c (svI i) 4 a f = i a f := fun a f ha => (hsv a f (by omega)).trans (svI_oth (by omega) hx)
  have hB := base h hS hM
  obtain ⟨r1, hR⟩ := RP_ra hB 4 (Nat.le_refl _)
  obtain ⟨r2, -⟩ := RP_ra (base (i1 := nz i) h hS (fun a f ha => nz_at ha)) 4 (Nat.le_refl _)
  have h9 := k_L_due4 (g := g) (j := j) 5 (i := raF c (svI i) 4) (x := v) (RP_AW hB)
  rw [r2] at h8
  rw [← r1, r2] at h9
  obtain ⟨p, hp, e⟩ := rnL_nat (c := c) (i := nz i) 4 (Nat.le_refl _)
  exact RES_ok hS (k_L_call4 10 (C_less (by omega) (by omega) h8)) h9 (by rw [e]; exact nI_100 (by omega)) hsv (fun a f ha => raL_oth 4 ha) hR
theorem lsl_100 (h : RP i m B c K n) {b : Int32} {v : Nat} (hv : v < 4) (hb : b01 b) : slN (up2 i (9 + v) 3 b) 4 = lsl (up2 m 91 (5 * v + 2) b 91) ∧ ∃ p, p ≤ 4 ∧ lsl (up2 m 91 (5 * v + 2) b 91) = nI p := by
  have hR := RP_sleep h hv hb
  exact slN_lsl (i := up2 m 91 (5 * v + 2) b) fun f hf => ⟨(hR.2.2.2.1 f hf).2.1, (hR.2.2.2.1 f hf).2.2.1⟩
theorem st_5 {v : Nat} (hv : v < 4) : STEP g 5 (nI v) := by
  refine ⟨fun m c => if m 91 (5 * v + 2) = 0 then lsl (up2 m 91 (5 * v + 2) 1 91) else -103, fun i j B c K n h hS => ?_⟩
  dsimp only
  rw [nz_at (by omega)]
  have hx := (SX_N hS).2.1
  obtain ⟨F1, F2, F3, F4, F5, F6⟩ := h.2.2.2.1 v hv
  by_cases hs : i 91 (5 * v + 2) = 0
  · rw [if_pos hs]
    have h8 := k_X6_sleep (g := g) (i := i) (j := j) 5 hv (F2.trans hs) (SVI_of h hS)
    have hsv : ∀ a f, 13 ≤ a → up2 (svI i) (9 + v) 3 1 a f = svI i a f := fun a f ha => up2_ne (by omega)
    have hM : ∀ a f, 89 ≤ a → up2 (svI i) (9 + v) 3 1 a f = i a f := fun a f ha => (hsv a f (by omega)).trans (svI_oth (by omega) hx)
    have hB := base h hS hM
    have h9 := k_L_due5 (g := g) (j := j) 5 (i := up2 (svI i) (9 + v) 3 1) hv ((hM _ _ (by omega)).trans hs)
    obtain ⟨e1, -⟩ := lsl_100 hB (b := 1) hv (Or.inr rfl)
    obtain ⟨e3, p, hp, e4⟩ := lsl_100 (base (i1 := nz i) h hS (fun a f ha => nz_at ha)) (b := 1) hv (Or.inr rfl)
    rw [← e1, e3] at h9
    rw [e3] at h8
    exact RES_ok hS (k_L_call5 10 (C_less (by omega) (by omega) (w_sleep 9 h8))) h9 (by rw [e4]; exact nI_100 (by omega)) hsv (fun a f ha => up2_ne (by omega)) (up124 (RP_sleep hB hv (Or.inr rfl)))
  · rw [if_neg hs]
    exact RES_no h (k_L_call5 10 (w_sleep_x103 9 (k_X6_sleep_y 2 hv (by rw [F2]; exact hs)))) (k_L_due5_x 5 hv hs) (by decide)
theorem st_6 {v : Nat} (hv : v < 4) : STEP g 6 (nI v) := by
  refine ⟨fun m c => if m 91 (5 * v + 2) = 1 then lsl (up2 m 91 (5 * v + 2) 0 91) else -103, fun i j B c K n h hS => ?_⟩
  dsimp only
  rw [nz_at (by omega)]
  have hx := (SX_N hS).2.1
  obtain ⟨F1, F2, F3, F4, F5, F6⟩ := h.2.2.2.1 v hv
  by_cases hs : i 91 (5 * v + 2) = 1
  · rw [if_pos hs]
    have h8 := k_X6_wake (g := g) (i := i) (j := j) 5 hv (by rw [F2, hs]; decide) (SVI_of h hS)
    have hsv : ∀ a f, 13 ≤ a → up2 (svI i) (9 + v) 3 0 a f = svI i a f := fun a f ha => up2_ne (by omega)
    have hM : ∀ a f, 89 ≤ a → up2 (svI i) (9 + v) 3 0 a f = i a f := fun a f ha => (hsv a f (by omega)).trans (svI_oth (by omega) hx)
    have hB := base h hS hM
    have h9 := k_L_due6 (g := g) (j := j) 5 (i := up2 (svI i) (9 + v) 3 0) hv ((hM _ _ (by omega)).trans hs)
    obtain ⟨e1, -⟩ := lsl_100 hB (b := 0) hv (Or.inl rfl)
    obtain ⟨e3, p, hp, e4⟩ := lsl_100 (base (i1 := nz i) h hS (fun a f ha => nz_at ha)) (b := 0) hv (Or.inl rfl)
    rw [← e1, e3] at h9
    rw [e3] at h8
    exact RES_ok hS (k_L_call6 10 (C_less (by omega) (by omega) (w_wake 9 h8))) h9 (by rw [e4]; exact nI_100 (by omega)) hsv (fun a f ha => up2_ne (by omega)) (up124 (RP_sleep hB hv (Or.inl rfl)))
  · rw [if_neg hs]
    exact RES_no h (k_L_call6 10 (w_wake_x103 9 (k_X6_wake_y 2 hv (by rw [F2]; exact F3.resolve_right hs)))) (k_L_due6_x 5 hv hs) (by decide)
theorem st_9 {v : Nat} (hv : v < 4) : STEP g 9 (nI v) := by
  refine ⟨fun m c => if m 91 (5 * v) < 0 then -1 else bcI (m 91 (5 * v)), fun i j B c K n h hS => ?_⟩
  dsimp only
  rw [nz_at (by omega)]
  have hx := (SX_N hS).2.1
  have h8 := k_X6_throwAway (g := g) (i := i) (j := j) 5 hv (SVI_of h hS)
  have hsv : ∀ a f, 13 ≤ a → up2 (up2 (svI i) (9 + v) 0 0) (9 + v) 1 0 a f = svI i a f := fun a f ha => (up2_ne (by omega)).trans (up2_ne (by omega))
  have hM : ∀ a f, 89 ≤ a → up2 (up2 (svI i) (9 + v) 0 0) (9 + v) 1 0 a f = i a f := fun a f ha => (hsv a f (by omega)).trans (svI_oth (by omega) hx)
  have hB := base h hS hM
  have hF := has_or (h.2.2.2.1 v hv)
  have h9 := k_L_due9 (g := g) (j := j) 10 (i := up2 (up2 (svI i) (9 + v) 0 0) (9 + v) 1 0) hv (by
    rw [hM _ _ (by omega)]
    rcases hF with ⟨a1, a2⟩ | ⟨a1, a2, a3, a4, a5⟩
    · exact fun z => absurd a2 z
    · exact fun _ => a4)
  rw [hM 91 (5 * v) (by omega)] at h9
  rw [svI_oth (by omega) hx, svI_oth (by omega) hx] at h8
  have e : (if i (9 + v) 0 = 0 then -1 else bcI (i (9 + v) 1)) = (if i 91 (5 * v) < 0 then -1 else bcI (i 91 (5 * v))) ∧ ¬ (if i 91 (5 * v) < 0 then -1 else bcI (i 91 (5 * v))) < -100 := by
    rcases hF with ⟨a1, a2⟩ | ⟨a1, a2, a3, a4, a5⟩
    · rw [if_pos a1, if_pos a2]; exact ⟨rfl, by decide⟩
    · rw [if_neg a1, if_neg a2, a3]; exact ⟨rfl, bc_100 a4⟩
  rw [e.1] at h8
  exact RES_ok hS (k_L_call9 10 (C_less (by omega) (by omega) (w_throwAway 9 h8))) h9 e.2 hsv (fun a f ha => up2_ne (by omega)) (up124 (RP_throw hB hv))
/-- the calls that the law makes -/
def KA (kd a : Int32) : Prop := (kd = 0 ∧ ∃ v, v < 30 ∧ a = nI v) ∨ (kd = 1 ∧ ∃ v, v < 30 ∧ a = nI v) ∨ kd = 2 ∨ (kd = 3 ∧ ∃ v, v < 4 ∧ a = nI v) ∨ kd = 4 ∨ (kd = 5 ∧ ∃ v, v < 4 ∧ a = nI v) ∨ (kd = 6 ∧ ∃ v, v < 4 ∧ a = nI v) ∨ (kd = 7 ∧ ∃ v, v < 16 ∧ a = nI v) ∨ (kd = 8 ∧ ∃ v, 1 ≤ v ∧ v ≤ 6 ∧ a = nI v) ∨ (kd = 9 ∧ ∃ v, v < 4 ∧ a = nI v)
theorem st_all {kd a : Int32} (h : KA kd a) : STEP g kd a := by
  rcases h with ⟨rfl, v, h, rfl⟩ | ⟨rfl, v, h, rfl⟩ | rfl | ⟨rfl, v, h, rfl⟩ | rfl | ⟨rfl, v, h, rfl⟩ | ⟨rfl, v, h, rfl⟩ | ⟨rfl, v, h, rfl⟩ | ⟨rfl, v, h, h', rfl⟩ | ⟨rfl, v, h, rfl⟩
  · exact st_0 h
  · exact st_1 h
  · exact st_2
  · exact st_3 h
  · exact st_4
  · exact st_5 h
  · exact st_6 h
  · exact st_7 h
  · exact st_8 h h'
  · exact st_9 h
end UNDO
