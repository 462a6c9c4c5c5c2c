/-! ===== fields, arrays, new objects ===== -/
theorem TW_in {w : Cond} (h : w ∈ lw_tbl) (ho : okW w = true) : w ∈ TW := List.mem_filter.mpr ⟨h, ho⟩
/-- the class c of the table, all that its fields' rows ask -/
def CF (c : Nat) : Prop := vwCl[c]? = some (RX c, TX c, nX c) ∧ (∀ w ∈ u_ws (RX c) (TX c) (nX c), w ∈ TW) ∧ (∀ k, k < nX c → parseFieldDescriptor (TX c k).2.2.1 = some (tX c k)) ∧ (∀ a, a < nX c → ∀ b, b < nX c → a ≠ b → (TX c a).2.1 ≠ (TX c b).2.1) ∧ c < 8
theorem okW_lay (C : String) (T : u_T) (k : Nat) : okW (u_lay C T k) = true := by
  unfold u_lay okW
  split <;> rfl
theorem u_TW {C : String} {T : u_T} {N : Nat} (h : ∀ w ∈ u_ws C T N, w ∈ lw_tbl) : ∀ w ∈ u_ws C T N, w ∈ TW := by
  intro w hw
  refine TW_in (h w hw) ?_
  obtain ⟨k, -, rfl⟩ := List.mem_map.mp hw
  exact okW_lay C T k
theorem cf0 : CF 0 := ⟨rfl, u_TW inX0, tyX0_ok, nmX0, by omega⟩
theorem cf1 : CF 1 := ⟨rfl, u_TW inX1, tyX1_ok, nmX1, by omega⟩
theorem cf2 : CF 2 := ⟨rfl, u_TW inX2, tyX2_ok, nmX2, by omega⟩
theorem cf3 : CF 3 := ⟨rfl, u_TW inX3, tyX3_ok, nmX3, by omega⟩
theorem cf4 : CF 4 := ⟨rfl, u_TW inX4, tyX4_ok, nmX4, by omega⟩
theorem cf5 : CF 5 := ⟨rfl, u_TW inX5, tyX5_ok, nmX5, by omega⟩
theorem cf6 : CF 6 := ⟨rfl, u_TW inX6, tyX6_ok, nmX6, by omega⟩
/-- the entry idx of own's pool names the field f of the class c -/
def FL (own : String) (idx c f : Nat) : Prop := CF c ∧ f < nX c ∧ ((Cond.fieldLink own idx (TX c f).1 (TX c f).2.1 (TX c f).2.2.1 ∈ TW) ∨ ∃ host : String, Cond.fieldLinkNest own idx (TX c f).1 (TX c f).2.1 (TX c f).2.2.1 host ∈ TW)
/-- kind and size of the place k -/
def kz (w : Wd) (k : Nat) : Nat × Nat := if k < wN w then wS w k else (99, 0)
theorem kz_lt {w : Wd} {k : Nat} {a : Nat × Nat} (h : kz w k = a) (ha : a.1 ≠ 99) : k < wN w ∧ wS w k = a := by
  unfold kz at h
  split at h
  · exact ⟨‹_›, h⟩
  · rw [← h] at ha; exact absurd rfl ha
theorem ce_obj {g : G0} {w : Wd} {k c z : Nat} (h : wS w k = (c, z)) (hc : c < 8) : ce g w k = .inr (c, (List.range (nX c)).map (fun f => fv g w k f (tX c f))) := by
  unfold ce
  rw [h]
  show (if c = 10 then _ else if c = 11 then _ else if c = 12 then _ else if c = 13 then _ else _) = _
  rw [if_neg (by omega), if_neg (by omega), if_neg (by omega), if_neg (by omega)]
theorem ce_int {g : G0} {w : Wd} {k z : Nat} (h : wS w k = (10, z)) : ce g w k = .inl (gcI g, z, .inl (wI w k)) := by unfold ce; rw [h]; rfl
theorem ce_long {g : G0} {w : Wd} {k z : Nat} (h : wS w k = (11, z)) : ce g w k = .inl (gcJ g, z, .inr (.inl (wJ w k))) := by unfold ce; rw [h]; rfl
theorem ce_st {g : G0} {w : Wd} {k z : Nat} (h : wS w k = (12, z)) : ce g w k = .inl (gcS g, z, .inr (.inr (.inr (.inr (fun i => (wR w k i).map (ad g)))))) := by unfold ce; rw [h]; rfl
theorem ce_fo {g : G0} {w : Wd} {k z : Nat} (h : wS w k = (13, z)) : ce g w k = .inl (gcF g, z, .inr (.inr (.inr (.inr (fun i => (wR w k i).map (ad g)))))) := by unfold ce; rw [h]; rfl
def isRefT (t : FieldType) : Bool := match t with
  | .object _ => true
  | .array _ => true
  | _ => false
def isIntT (t : FieldType) : Bool := match t with
  | .long => false
  | .object _ => false
  | .array _ => false
  | _ => true
theorem fv_int {g : G0} {w : Wd} {k f : Nat} {t : FieldType} (h : isIntT t = true) : fv g w k f t = .int (wI w k f) := by
  cases t <;> first | rfl | cases h
theorem fv_ref {g : G0} {w : Wd} {k f r : Nat} {t : FieldType} (h : isRefT t = true) (hr : wR w k f = some r) : fv g w k f t = .ref (ad g r) := by
  cases t <;> first | (show va_rf ((wR w k f).map (ad g)) = _; rw [hr]; rfl) | cases h
section HEAP
variable {g : G0} {M : M0} {d kc ks : Nat} {op : Bool} {K : K0} {pc : Nat} {L : List (Option Value)} {S : List Value} {w : Wd}
theorem V_get0 {idx c f k z : Nat} {v : Value} (hd : decode M.co pc = .ok (.getfield idx, 3)) (hF : FL M.nm.cls idx c f) (hk : kz w k = (c, z)) (hv : fv g w k f (tX c f) = cv g v) (kk : V g M d kc ks op K (pc + 3) L (v :: S) w) : V g M d kc ks op K pc L (.ref k :: S) w := by
  intro p e s m args below meth c0 H locs cells slots ls mc ms A Z
  obtain ⟨hx, hb, hml, hr, hown, hlk, hnm, htb, hE⟩ := id A
  obtain ⟨hl, hH, hop, hS, hkc, hks⟩ := id Z
  obtain ⟨⟨hc1, hc2, hc3, hc4, hc5⟩, hf, hlink⟩ := hF
  obtain ⟨hk1, hk2⟩ := kz_lt hk (by show c ≠ 99; omega)
  have hts : ∀ w ∈ TW, w.before args s = true := fun w hw => hE.2.1 w hw args
  have he : (wl g w)[k]? = some (ad g k, .inr (c, (List.range (nX c)).map (fun f => fv g w k f (tX c f)))) := by rw [wl_at hk1, ce_obj hk2 hc5]
  have hvv : ((List.range (nX c)).map (fun f => fv g w k f (tX c f)))[f]? = some (cv g v) := by rw [List.getElem?_map, List.getElem?_range hf, ← hv]; rfl
  rcases hlink with h | ⟨host, h⟩
  · exact va_get hx hb hts hc2 hown hE.1 hH.P k he hc1 f hf (hts _ h) (fun _ h => h) hvv hd (kk p e s m args below meth c0 H locs cells slots ls mc ms A Z)
  · exact va_getN hx hb hts hc2 hown hE.1 hH.P k he hc1 f hf (hts _ h) (fun _ h => h) hvv hd (kk p e s m args below meth c0 H locs cells slots ls mc ms A Z)
theorem V_getI {idx c f k z : Nat} (hd : decode M.co pc = .ok (.getfield idx, 3)) (hF : FL M.nm.cls idx c f) (hk : kz w k = (c, z)) (ht : isIntT (tX c f) = true) (kk : V g M d kc ks op K (pc + 3) L (.int (wI w k f) :: S) w) : V g M d kc ks op K pc L (.ref k :: S) w := V_get0 hd hF hk (fv_int ht) kk
theorem V_getJ {idx c f k z : Nat} (hd : decode M.co pc = .ok (.getfield idx, 3)) (hF : FL M.nm.cls idx c f) (hk : kz w k = (c, z)) (ht : tX c f = .long) (kk : V g M d kc ks op K (pc + 3) L (.long (wJ w k f) :: S) w) : V g M d kc ks op K pc L (.ref k :: S) w := V_get0 hd hF hk (by rw [ht]; rfl) kk
theorem V_getR {idx c f k z r : Nat} (hd : decode M.co pc = .ok (.getfield idx, 3)) (hF : FL M.nm.cls idx c f) (hk : kz w k = (c, z)) (ht : isRefT (tX c f) = true) (hr : wR w k f = some r) (kk : V g M d kc ks op K (pc + 3) L (.ref r :: S) w) : V g M d kc ks op K pc L (.ref k :: S) w := V_get0 hd hF hk (fv_ref ht hr) kk
/-- behind a change of one cell -/
theorem Hd_set {w w' : Wd} {H H1 : Heap} {k : Nat} (hH : Hd g w H) (hn : wN w' = wN w) (hk : k < wN w) (ho : ∀ j, j ≠ k → ce g w' j = ce g w j) (he : va_at (gD g) vwCl (ad g k, ce g w' k) H1) (hz : H1.size = H.size) (oq : ∀ q, q ≠ ad g k → H1[q]? = H[q]?) : Hd g w' H1 := by
  refine ⟨?_, by rw [hn]; exact hH.2.1, by rw [hn, hz]; exact hH.2.2⟩
  rw [← wl_set hn hk ho]
  exact hH.1.set hH.D (wl_at hk) he oq
theorem ce_sI {w : Wd} {k f j : Nat} {v : Int32} (h : j ≠ k) : ce g (sI w k f v) j = ce g w j := by
  have h1 : up2 (wI w) k f v j = wI w j := funext fun b => if_neg (fun z => h z.1)
  unfold ce fv
  simp only [sI, wI, wS, wJ, wR, wN] at h1 ⊢
  simp only [h1]
theorem ce_sJ {w : Wd} {k f j : Nat} {v : Int64} (h : j ≠ k) : ce g (sJ w k f v) j = ce g w j := by
  have h1 : up2 (wJ w) k f v j = wJ w j := funext fun b => if_neg (fun z => h z.1)
  unfold ce fv
  simp only [sJ, wI, wS, wJ, wR, wN] at h1 ⊢
  simp only [h1]
theorem ce_sR {w : Wd} {k f j : Nat} {v : Option Nat} (h : j ≠ k) : ce g (sR w k f v) j = ce g w j := by
  have h1 : up2 (wR w) k f v j = wR w j := funext fun b => if_neg (fun z => h z.1)
  unfold ce fv
  simp only [sR, wI, wS, wJ, wR, wN] at h1 ⊢
  simp only [h1]
theorem V_put0 {idx c f k z : Nat} {v : Value} {w' : Wd} {ty : FieldType} (hd : decode M.co pc = .ok (.putfield idx, 3)) (hF : FL M.nm.cls idx c f) (hk : kz w k = (c, z)) (hfin : (TX c f).2.2.2 = false ∨ ((TX c f).2.2.2 = true ∧ M.nm.name = "<init>" ∧ (TX c f).1 = M.nm.cls ∧ Cond.fieldLink M.nm.cls idx (TX c f).1 (TX c f).2.1 (TX c f).2.2.1 ∈ TW)) (ht : tX c f = ty) (hn : narrow ty (cv g v) = cv g v) (hfit : fits ty (cv g v) = true)
    (hwn : wN w' = wN w) (hws : wS w' = wS w) (ho : ∀ j, j ≠ k → ce g w' j = ce g w j) (hw : ∀ j, j < nX c → fv g w' k j (tX c j) = if j = f then cv g v else fv g w k j (tX c j))
    (kk : V g M d kc ks op K (pc + 3) L S w') : V g M d kc ks op K pc L (v :: .ref k :: S) w := by
  intro p e s m args below meth c0 H locs cells slots ls mc ms A Z
  obtain ⟨hx, hb, hml, hr, hown, hlk, hnm, htb, hE⟩ := id A
  obtain ⟨hl, hH, hop, hS, hkc, hks⟩ := id Z
  obtain ⟨⟨hc1, hc2, hc3, hc4, hc5⟩, hf, hlink⟩ := hF
  obtain ⟨hk1, hk2⟩ := kz_lt hk (by show c ≠ 99; omega)
  have hts : ∀ w ∈ TW, w.before args s = true := fun w hw => hE.2.1 w hw args
  have he : (wl g w)[k]? = some (ad g k, .inr (c, (List.range (nX c)).map (fun f => fv g w k f (tX c f)))) := by rw [wl_at hk1, ce_obj hk2 hc5]
  have hap := va_apart (own := M.nm.cls) hts hc2 (tX c) hc3 hc4 hE.1 hc1
  obtain ⟨r, h1, cell, q1, q2, q3, q4⟩ := hH.P k _ he
  have hr9 : r = (RX c, TX c, nX c) := Option.some.inj (h1.symm.trans hc1)
  subst hr9
  obtain ⟨hSl, hfc, kC, hkC, hkind⟩ := hE.1.1 c _ hc1
  obtain ⟨cf, kf, fi, fd, hi, hsl⟩ := hSl f hf
  have hst := (u_facts hfc hkC (u_lays hts hc2 hf) hi).1
  have hlay := hts _ (hc2 _ (u_in_lay (C := RX c) (T := TX c) hf))
  have hpf : parseFieldDescriptor (TX c f).2.2.1 = some ty := by rw [hc3 f hf, ht]
  have hafter : ∀ (H' : Heap), H'[ad g k]? = some (cell.setSlot fd.slot (cv g v)) → H'.size = H.size → (∀ q, q ≠ ad g k → H'[q]? = H[q]?) → W p (gl g) e { frames := d, cells := mc, slots := ms, locals := 36 * d } s m args below meth c0 H' (locs ++ [⟨ad g k, fd.slot⟩]) cells slots (K below args s mc ms) (F0 m (pc + 3) ls (S.map (cv g))) := by
    intro H' e1 e2 e3
    rw [hsl] at e1 ⊢
    refine kk p e s m args below meth c0 H' _ cells slots ls mc ms A ⟨hl, Hd_set hH hwn hk1 ho ?_ e2 e3, fun h => by rw [e2, hwn]; exact hop h, hS.put e2 e3 ?_, hkc, hks⟩
    · rw [ce_obj (by rw [hws]; exact hk2) hc5]
      refine ⟨_, hc1, t_OB.to (V := updV (vp_V ((List.range (nX c)).map (fun f => fv g w k f (tX c f)))) f (cv g v)) ⟨_, e1, q2, q3, t_set q4 hap hf (cv g v)⟩ (fun j hj => ?_)⟩
      have hj1 : vp_V ((List.range (nX c)).map (fun f => fv g w' k f (tX c f))) j = fv g w' k j (tX c j) := by
        unfold vp_V; rw [List.getD_eq_getElem?_getD, List.getElem?_map, List.getElem?_range hj]; rfl
      have hj2 : vp_V ((List.range (nX c)).map (fun f => fv g w k f (tX c f))) j = fv g w k j (tX c j) := by
        unfold vp_V; rw [List.getD_eq_getElem?_getD, List.getElem?_map, List.getElem?_range hj]; rfl
      show updV _ f (cv g v) j = vp_V _ j
      rw [hj1, hw j hj]
      unfold updV
      rw [hj2]
    · show gB g ≤ ad g k
      rw [ad_lt (by have := hH.2.1; omega)]; omega
  have hhas : fd.slot < cell.slots.size := by rw [hsl]; exact k2_hasslot (q4 f hf)
  rcases hfin with hfin | ⟨hfin, hin2, hdecl, hlk2⟩
  · unfold u_lay at hlay
    rw [if_neg (by rw [hfin]; decide)] at hlay
    have h6 := u_store hfc hkC hkind hlay hi hpf hn hfit
    rcases hlink with h | ⟨host, h⟩
    · exact W.putK hx hb (f := fd) ⟨hown, hts _ h, ⟨_, _, _, hi⟩, hst⟩ (by rw [q2]; exact h6) q1 q3 hhas rfl rfl hd hafter
    · exact va_WputK hx hb (f := fd) hown (hts _ h) hi hst (by rw [q2]; exact h6) q1 q3 hhas rfl rfl hd hafter
  · unfold u_lay at hlay
    rw [if_pos hfin] at hlay
    have hcf : m.cls = cf := by
      obtain ⟨_, _, c', _, _, _, -, -, hf', -, -, -, hown2, -⟩ := Cond.laysFinal_spec hlay
      have e1 : c' = cf := by have := hi.symm.trans hf'; simp at this; exact this.1.symm
      rw [hdecl] at hown2
      rw [← e1]; exact Option.some.inj (hown.symm.trans hown2)
    have h6 := u_fits hfc hkC hkind (Or.inr hlay) hi hpf hn hfit
    exact W.putFinK hx hb hown (hts _ hlk2) hi hst hcf (hnm.trans hin2) (by rw [q2]; exact h6) q1 q3 hhas rfl rfl hd hafter
theorem fv_sI {w : Wd} {k f j : Nat} {v : Int32} {t : FieldType} (ht : j = f → isIntT t = true) : fv g (sI w k f v) k j t = if j = f then .int v else fv g w k j t := by
  by_cases h : j = f
  · subst h
    rw [if_pos rfl, fv_int (ht rfl)]
    show Value.int (up2 (wI w) k j v k j) = _
    unfold up2
    rw [if_pos ⟨rfl, rfl⟩]
  · rw [if_neg h]
    cases t <;> first | rfl | (show Value.int (up2 (wI w) k f v k j) = Value.int (wI w k j); unfold up2; rw [if_neg (fun z => h z.2)])
theorem V_putI {idx c f k z : Nat} {x : Int32} (hd : decode M.co pc = .ok (.putfield idx, 3)) (hF : FL M.nm.cls idx c f) (hk : kz w k = (c, z)) (hfin : (TX c f).2.2.2 = false) (ht : tX c f = .int) (kk : V g M d kc ks op K (pc + 3) L S (sI w k f x)) : V g M d kc ks op K pc L (.int x :: .ref k :: S) w :=
  V_put0 (w' := sI w k f x) (ty := .int) hd hF hk (Or.inl hfin) ht rfl rfl rfl rfl (fun j hj => ce_sI hj) (fun j _ => fv_sI (fun h => by rw [h, ht]; rfl)) kk
theorem V_putZ {idx c f k z : Nat} {x : Int32} (hd : decode M.co pc = .ok (.putfield idx, 3)) (hF : FL M.nm.cls idx c f) (hk : kz w k = (c, z)) (hfin : (TX c f).2.2.2 = false) (ht : tX c f = .boolean) (hx : x = 0 ∨ x = 1) (kk : V g M d kc ks op K (pc + 3) L S (sI w k f x)) : V g M d kc ks op K pc L (.int x :: .ref k :: S) w :=
  V_put0 (w' := sI w k f x) (ty := .boolean) hd hF hk (Or.inl hfin) ht (by rcases hx with rfl | rfl <;> rfl) (by rcases hx with rfl | rfl <;> rfl) rfl rfl (fun j hj => ce_sI hj) (fun j _ => fv_sI (fun h => by rw [h, ht]; rfl)) kk
theorem fv_sJ {w : Wd} {k f j : Nat} {v : Int64} {t : FieldType} (ht : j = f → t = .long) : fv g (sJ w k f v) k j t = if j = f then .long v else fv g w k j t := by
  by_cases h : j = f
  · subst h
    rw [if_pos rfl, ht rfl]
    show Value.long (up2 (wJ w) k j v k j) = _
    unfold up2
    rw [if_pos ⟨rfl, rfl⟩]
  · rw [if_neg h]
    cases t <;> first | rfl | (show Value.long (up2 (wJ w) k f v k j) = Value.long (wJ w k j); unfold up2; rw [if_neg (fun z => h z.2)])
theorem V_putJ {idx c f k z : Nat} {x : Int64} (hd : decode M.co pc = .ok (.putfield idx, 3)) (hF : FL M.nm.cls idx c f) (hk : kz w k = (c, z)) (hfin : (TX c f).2.2.2 = false) (ht : tX c f = .long) (kk : V g M d kc ks op K (pc + 3) L S (sJ w k f x)) : V g M d kc ks op K pc L (.long x :: .ref k :: S) w :=
  V_put0 (w' := sJ w k f x) (ty := .long) hd hF hk (Or.inl hfin) ht rfl rfl rfl rfl (fun j hj => ce_sJ hj) (fun j _ => fv_sJ (fun h => by rw [h, ht])) kk
theorem fv_sR {w : Wd} {k f j r : Nat} {t : FieldType} (ht : j = f → isRefT t = true) : fv g (sR w k f (some r)) k j t = if j = f then .ref (ad g r) else fv g w k j t := by
  by_cases h : j = f
  · subst h
    rw [if_pos rfl]
    refine fv_ref (ht rfl) ?_
    show up2 (wR w) k j (some r) k j = _
    unfold up2
    rw [if_pos ⟨rfl, rfl⟩]
  · rw [if_neg h]
    cases t <;> first | rfl | (show va_rf ((up2 (wR w) k f (some r) k j).map (ad g)) = va_rf ((wR w k j).map (ad g)); unfold up2; rw [if_neg (fun z => h z.2)])
/-- a final field of references, in the constructor -/
theorem V_putR {idx c f k z r : Nat} (hd : decode M.co pc = .ok (.putfield idx, 3)) (hF : FL M.nm.cls idx c f) (hk : kz w k = (c, z)) (hfin : (TX c f).2.2.2 = true) (hin : M.nm.name = "<init>") (hdecl : (TX c f).1 = M.nm.cls) (hlk : Cond.fieldLink M.nm.cls idx (TX c f).1 (TX c f).2.1 (TX c f).2.2.1 ∈ TW) (ht : isRefT (tX c f) = true) (kk : V g M d kc ks op K (pc + 3) L S (sR w k f (some r))) : V g M d kc ks op K pc L (.ref r :: .ref k :: S) w :=
  V_put0 (w' := sR w k f (some r)) (ty := tX c f) hd hF hk (Or.inr ⟨hfin, hin, hdecl, hlk⟩) rfl (by cases hq : tX c f <;> first | rfl | (rw [hq] at ht; cases ht)) (by cases hq : tX c f <;> first | rfl | (rw [hq] at ht; cases ht)) rfl rfl (fun j hj => ce_sR hj) (fun j _ => fv_sR (fun h => by rw [h]; exact ht)) kk
end HEAP

