/-! ===== arrays, new objects, the script ===== -/
section ARR
variable {g : G0} {M : M0} {d kc ks : Nat} {op : Bool} {K : K0} {pc : Nat} {L : List (Option Value)} {S : List Value} {w : Wd}
theorem V_iald {k z i : Nat} {x : Int32} (hd : decode M.co pc = .ok (.iaload, 1)) (hk : kz w k = (10, z)) (hx : x = nI i) (hi : i < z) (hz : z < 2 ^ 31) (kk : V g M d kc ks op K (pc + 1) L (.int (wI w k i) :: S) w) : V g M d kc ks op K pc L (.int x :: .ref k :: S) w := by
  intro p e s m args below meth c0 H locs cells slots ls mc ms A Z
  obtain ⟨hx0, hb, hml, hr, hown, hlk, hnm, htb, hE⟩ := id A
  obtain ⟨hl, hH, hop, hS, hkc, hks⟩ := id Z
  obtain ⟨hk1, hk2⟩ := kz_lt hk (by show 10 ≠ 99; omega)
  subst hx
  have h9 := kk p e s m args below meth c0 H locs cells slots ls mc ms A Z
  have hc : (nI i).toNatClampNeg = i := nI_clamp (by omega)
  refine va_iald (D := gD g) (cl := vwCl) (tys := gT g) (ws := wl g w) hx0 hb hE.1 hH.P k 0 (f := wI w k) (n := z) (cA := gcI g) (by rw [wl_at hk1, ce_int hk2]) rfl (vp_in_nI hi hz) hd ?_
  rw [hc]
  exact h9
theorem V_aald {k z i r kd : Nat} {x : Int32} (hd : decode M.co pc = .ok (.aaload, 1)) (hk : kz w k = (kd, z)) (hkd : kd = 12 ∨ kd = 13) (hx : x = nI i) (hi : i < z) (hz : z < 2 ^ 31) (hr0 : wR w k i = some r) (kk : V g M d kc ks op K (pc + 1) L (.ref r :: S) w) : V g M d kc ks op K pc L (.int x :: .ref k :: S) w := by
  intro p e s m args below meth c0 H locs cells slots ls mc ms A Z
  obtain ⟨hx0, hb, hml, hr, hown, hlk, hnm, htb, hE⟩ := id A
  obtain ⟨hl, hH, hop, hS, hkc, hks⟩ := id Z
  obtain ⟨hk1, hk2⟩ := kz_lt hk (by show kd ≠ 99; omega)
  subst hx
  have h9 := kk p e s m args below meth c0 H locs cells slots ls mc ms A Z
  have hc : (nI i).toNatClampNeg = i := nI_clamp (by omega)
  rcases hkd with rfl | rfl
  · refine va_aldq (D := gD g) (cl := vwCl) (tys := gT g) (ws := wl g w) hx0 hb hE.1 hH.P k 2 (f := fun i => (wR w k i).map (ad g)) (n := z) (cA := gcS g) (by rw [wl_at hk1, ce_st hk2]) rfl (vp_in_nI hi hz) hd ?_
    rw [hc]
    show W p _ _ _ _ _ _ _ _ _ _ _ _ _ _ (F0 _ _ _ (va_rf ((wR w k i).map (ad g)) :: _))
    rw [hr0]
    exact h9
  · refine va_aldq (D := gD g) (cl := vwCl) (tys := gT g) (ws := wl g w) hx0 hb hE.1 hH.P k 3 (f := fun i => (wR w k i).map (ad g)) (n := z) (cA := gcF g) (by rw [wl_at hk1, ce_fo hk2]) rfl (vp_in_nI hi hz) hd ?_
    rw [hc]
    show W p _ _ _ _ _ _ _ _ _ _ _ _ _ _ (F0 _ _ _ (va_rf ((wR w k i).map (ad g)) :: _))
    rw [hr0]
    exact h9
theorem V_iast {k z i : Nat} {x v : Int32} (hd : decode M.co pc = .ok (.iastore, 1)) (hk : kz w k = (10, z)) (hx : x = nI i) (hi : i < z) (hz : z < 2 ^ 31) (kk : V g M d kc ks op K (pc + 1) L S (sI w k i v)) : V g M d kc ks op K pc L (.int v :: .int x :: .ref k :: S) w := by
  intro p e s m args below meth c0 H locs cells slots ls mc ms A Z
  obtain ⟨hx0, hb, hml, hr, hown, hlk, hnm, htb, hE⟩ := id A
  obtain ⟨hl, hH, hop, hS, hkc, hks⟩ := id Z
  obtain ⟨hk1, hk2⟩ := kz_lt hk (by show 10 ≠ 99; omega)
  subst hx
  have hc : (nI i).toNatClampNeg = i := nI_clamp (by omega)
  have he : (wl g w)[k]? = some (ad g k, .inl (gcI g, z, .inl (wI w k))) := by rw [wl_at hk1, ce_int hk2]
  have hin : vp_in (nI i) z := vp_in_nI hi hz
  have hcell := hH.P k _ he
  refine W.iast (cell := vp_cell (gcI g) (z, .inl (wI w k))) hx0 hb hcell ((hE.1.2 0 _ rfl).1 z (fun j => .int (wI w k j))) (fun q => by cases q) (by show ¬ (nI i < 0 ∨ (arrV _ _ _).slots.size ≤ _); rw [arrV_size]; exact hin) rfl rfl hd fun H1 e1 e2 e3 => ?_
  refine kk p e s m args below meth c0 H1 _ cells slots ls mc ms A ⟨hl, Hd_set hH rfl hk1 (fun j hj => ce_sI hj) ?_ e2 e3, fun h => by rw [e2]; exact hop h, hS.put e2 e3 ?_, hkc, hks⟩
  · rw [ce_int (w := sI w k i v) hk2]
    show H1[ad g k]? = some (vp_cell _ _)
    rw [e1, vp_cell_i, vp_cell_i, arrV_store, hc]
    congr 2
    funext q
    show updV _ i (.int v) q = Value.int (up2 (wI w) k i v k q)
    unfold updV up2
    by_cases hq : q = i
    · rw [if_pos hq, if_pos ⟨rfl, hq⟩]
    · rw [if_neg hq, if_neg (fun z => hq z.2)]
  · show gB g ≤ ad g k
    rw [ad_lt (by have := hH.2.1; omega)]; omega
theorem V_aast {k z i r kd c zc : Nat} {x : Int32} (hd : decode M.co pc = .ok (.aastore, 1)) (hk : kz w k = (kd, z)) (hr : kz w r = (c, zc)) (hkd : (kd = 12 ∧ c = 5) ∨ (kd = 13 ∧ c = 1)) (hx : x = nI i) (hi : i < z) (hz : z < 2 ^ 31) (kk : V g M d kc ks op K (pc + 1) L S (sR w k i (some r))) : V g M d kc ks op K pc L (.ref r :: .int x :: .ref k :: S) w := by
  intro p e s m args below meth c0 H locs cells slots ls mc ms A Z
  obtain ⟨hx0, hb, hml, hr0, hown, hlk, hnm, htb, hE⟩ := id A
  obtain ⟨hl, hH, hop, hS, hkc, hks⟩ := id Z
  obtain ⟨hk1, hk2⟩ := kz_lt hk (by show kd ≠ 99; omega)
  obtain ⟨hr1, hr2⟩ := kz_lt hr (by show c ≠ 99; omega)
  subst hx
  have hc : (nI i).toNatClampNeg = i := nI_clamp (by omega)
  have key : ∀ (cA : ClassId) (t0 : Nat) (q : vw_C), vwCl[c]? = some q → (gT g)[t0]? = some (cA, .object q.1) → ce g w k = .inl (cA, z, .inr (.inr (.inr (.inr (fun i => (wR w k i).map (ad g)))))) → ce g (sR w k i (some r)) k = .inl (cA, z, .inr (.inr (.inr (.inr (fun j => (wR (sR w k i (some r)) k j).map (ad g)))))) → W p (gl g) e { frames := d, cells := mc, slots := ms, locals := 36 * d } s m args below meth c0 H locs cells slots (K below args s mc ms) (F0 m pc ls (.ref (ad g r) :: .int (nI i) :: .ref (ad g k) :: S.map (cv g))) := by
    intro cA t0 q hq ht hce hce2
    have he : (wl g w)[k]? = some (ad g k, .inl (cA, z, .inr (.inr (.inr (.inr (fun i => (wR w k i).map (ad g))))))) := by rw [wl_at hk1, hce]
    have hin : vp_in (nI i) z := vp_in_nI hi hz
    have hcell := hH.P k _ he
    have hc8 : c < 8 := by omega
    have her : (wl g w)[r]? = some (ad g r, .inr (c, (List.range (nX c)).map (fun f => fv g w r f (tX c f)))) := by rw [wl_at hr1, ce_obj hr2 hc8]
    obtain ⟨r', hr', cellV, g1, g2, g3, -⟩ := hH.P r _ her
    have hcls := (hE.1.1 c q hq).2
    obtain ⟨kA, comp, k1, k2, k3, -⟩ := (hE.1.2 t0 _ ht).2
    have hcomp : comp = (gD g).1 c := Option.some.inj (k3.symm.trans hcls.1)
    subst hcomp
    obtain ⟨kC, hkC, -⟩ := hcls.2
    refine W.aast (cell := vp_cell cA (z, .inr (.inr (.inr (.inr (fun i => (wR w k i).map (ad g))))))) hx0 hb hcell (fun q h => by cases h) (fun h => by cases h) k1 k2 rfl hkC ⟨fun h => hin (Or.inl h), by show _ < (arrV _ _ _).slots.size; rw [arrV_size, hc]; exact hi⟩ g1 (fun q h => by rw [g3] at h; cases h) (by rw [g2]; exact hkC) (by rw [g2]; exact va_assign hcls) rfl rfl hd fun H1 e1 e2 e3 => ?_
    refine kk p e s m args below meth c0 H1 _ cells slots ls mc ms A ⟨hl, Hd_set hH rfl hk1 (fun j hj => ce_sR hj) ?_ e2 e3, fun h => by rw [e2]; exact hop h, hS.put e2 e3 ?_, hkc, hks⟩
    · rw [hce2]
      show H1[ad g k]? = some (vp_cell _ _)
      rw [e1, vp_cell_q, vp_cell_q, arrV_store, hc]
      congr 2
      funext q
      show updV _ i (.ref (ad g r)) q = va_rf ((up2 (wR w) k i (some r) k q).map (ad g))
      unfold updV up2
      by_cases hq : q = i
      · rw [if_pos hq, if_pos ⟨rfl, hq⟩]; rfl
      · rw [if_neg hq, if_neg (fun z => hq z.2)]
    · show gB g ≤ ad g k
      rw [ad_lt (by have := hH.2.1; omega)]; omega
  rcases hkd with ⟨rfl, rfl⟩ | ⟨rfl, rfl⟩
  · exact key (gcS g) 2 _ rfl rfl (ce_st hk2) (ce_st (w := sR w k i (some r)) hk2)
  · exact key (gcF g) 3 _ rfl rfl (ce_fo hk2) (ce_fo (w := sR w k i (some r)) hk2)
/-- the world with one place more -/
abbrev nw (w : Wd) (a : Nat × Nat) : Wd := (wN w + 1, (fun k => if k = wN w then a else wS w k), (fun k i => if k = wN w then 0 else wI w k i), (fun k i => if k = wN w then 0 else wJ w k i), (fun k i => if k = wN w then none else wR w k i))
theorem ce_nw {w : Wd} {a : Nat × Nat} {j : Nat} (h : j < wN w) : ce g (nw w a) j = ce g w j := by
  have h0 : j ≠ wN w := by omega
  unfold ce fv
  simp only [nw, wI, wS, wJ, wR, wN] at h0 ⊢
  simp only [if_neg h0]
theorem Hd_push {w : Wd} {a : Nat × Nat} {H H1 : Heap} (hH : Hd g w H) (hn : wN w < 900) (hop : H.size = gB g + wN w) (he : va_at (gD g) vwCl (ad g (wN w), ce g (nw w a) (wN w)) H1) (hz : H1.size = H.size + 1) (oq : ∀ q, q < H.size → H1[q]? = H[q]?) : Hd g (nw w a) H1 := by
  refine ⟨?_, by show wN w + 1 ≤ 900; omega, by show gB g + (wN w + 1) ≤ H1.size; omega⟩
  rw [← wl_push (w := w) (w' := nw w a) rfl (fun j hj => ce_nw hj)]
  refine (hH.1.kept fun k q hq => oq q.1 ((hH.1 k q hq).lt)).app (fun k x hx => ?_)
  have hz0 : k < 1 := (List.getElem?_eq_some_iff.mp hx).1
  rw [show k = 0 by omega] at hx
  cases hx
  exact he
theorem S_push {s : State} {H H1 : Heap} {locs : List Loc} {w : Wd} (hS : va_S (gA g) s.heap H locs) (hz : H1.size = H.size + 1) (oq : ∀ q, q < H.size → H1[q]? = H[q]?) : va_S (gA g) s.heap H1 locs :=
  ⟨Nat.le_trans hS.1 (by omega), fun x h1 h2 => (oq x (Nat.lt_of_lt_of_le h1 hS.1)).trans (hS.2.1 x h1 h2), hS.2.2⟩
theorem V_new {idx c : Nat} (hd : decode M.co pc = .ok (.new idx, 3)) (hc : CF c) (h1 : Cond.classLink M.nm.cls idx (RX c) ∈ TW) (h2 : Cond.instantiable (RX c) (nX c) ∈ TW) (h3 : Cond.initialized (RX c) ∈ TW) (hn : wN w < 900) (hdef : ∀ j, j < nX c → defaultValue (tX c j) = fv g (nw w (c, 0)) (wN w) j (tX c j)) (kk : V g M d kc ks true K (pc + 3) L (.ref (wN w) :: S) (nw w (c, 0))) : V g M d (kc + 1) (ks + nX c) true K pc L S w := by
  intro p e s m args below meth c0 H locs cells slots ls mc ms A Z
  obtain ⟨hx0, hb, hml, hr0, hown, hlk, hnm, htb, hE⟩ := id A
  obtain ⟨hl, hH, hop, hS, hkc, hks⟩ := id Z
  obtain ⟨hc1, hc2, hc3, hc4, hc5⟩ := hc
  have hts : ∀ w ∈ TW, w.before args s = true := fun w hw => hE.2.1 w hw args
  have hKn := hE.1.1 c _ hc1
  have ho := hop rfl
  refine W.newcK hx0 hb hown (hts _ h1) (hts _ h2) (hts _ h3) rfl hd (by show cells + 1 ≤ mc; omega) (by show slots + nX c ≤ ms; omega) hKn.2.1 rfl fun H1 kC hkC e1 z1 o1 => ?_
  have had : ad g (wN w) = H.size := by rw [ad_lt (by omega), ho]
  have h9 := kk p e s m args below meth c0 H1 locs (cells + 1) (slots + nX c) ls mc ms A ⟨hl, Hd_push hH hn ho ?_ z1 o1, fun _ => by rw [z1, ho]; exact Nat.add_assoc _ _ _, S_push (w := w) hS z1 o1, by omega, by omega⟩
  · show W p (gl g) e _ s m args below meth c0 H1 locs (cells + 1) (slots + nX c) _ (F0 m (pc + 3) ls (.ref H.size :: S.map (cv g)))
    rw [← had]
    exact h9
  · rw [ce_obj (w := nw w (c, 0)) (z := 0) (by show (if wN w = wN w then (c, 0) else _) = _; rw [if_pos rfl]) hc5, had]
    refine ⟨_, hc1, (u_born (tX c) hts hc2 hKn hkC e1 hc3).to fun j hj => ?_⟩
    unfold vp_V
    rw [List.getD_eq_getElem?_getD, List.getElem?_map, List.getElem?_range hj]
    exact hdef j hj
theorem fv_nw {a : Nat × Nat} {j : Nat} {t : FieldType} (ht : defaultValue t = .int 0 ∨ (isRefT t = true) ∨ t = .long) (hi : defaultValue t = .int 0 → isIntT t = true) : defaultValue t = fv g (nw w a) (wN w) j t := by
  rcases ht with h | h | h
  · rw [h, fv_int (hi h)]
    show _ = Value.int (if wN w = wN w then 0 else _)
    rw [if_pos rfl]
  · cases t <;> first | (show Value.null = va_rf ((if wN w = wN w then none else _ : Option Nat).map (ad g)); rw [if_pos rfl]; rfl) | cases h
  · subst h
    show Value.long 0 = Value.long (if wN w = wN w then 0 else _)
    rw [if_pos rfl]
theorem V_newarr {atype : ArrayType} {n z kd : Nat} {x : Int32} (hd : decode M.co pc = .ok (.newarray atype, 2)) (hkd : (atype = .int ∧ kd = 10) ∨ False) (h1 : Cond.arrayClass (newarray.typeOf atype) ∈ TW) (hx : x = nI z) (hz : z < 65536) (hn : wN w < 900) (kk : V g M d kc ks true K (pc + 2) L (.ref (wN w) :: S) (nw w (kd, z))) : V g M d (kc + 1) (ks + z) true K pc L (.int x :: S) w := by
  intro p e s m args below meth c0 H locs cells slots ls mc ms A Z
  obtain ⟨hx0, hb, hml, hr0, hown, hlk, hnm, htb, hE⟩ := id A
  obtain ⟨hl, hH, hop, hS, hkc, hks⟩ := id Z
  have hts : ∀ w ∈ TW, w.before args s = true := fun w hw => hE.2.1 w hw args
  have ho := hop rfl
  subst hx
  have hcl : (nI z).toNatClampNeg = z := nI_clamp (by omega)
  have hcb : z * componentBytes (newarray.typeOf atype) ≤ 536870912 := by
    rcases hkd with ⟨rfl, -⟩ | hz
    · show z * 4 ≤ _; omega
    · exact hz.elim
  refine va_newaK hx0 hb (hts _ h1) rfl hd rfl (nI_pos (by omega)) hcl hcb (by show cells + 1 ≤ mc; omega) (by show slots + z ≤ ms; omega) rfl fun H1 cA e1 z1 o1 hAr hNm => ?_
  have had : ad g (wN w) = H.size := by rw [ad_lt (by omega), ho]
  have h9 := kk p e s m args below meth c0 H1 locs (cells + 1) (slots + z) ls mc ms A ⟨hl, Hd_push hH hn ho ?_ z1 o1, fun _ => by rw [z1, ho]; exact Nat.add_assoc _ _ _, S_push (w := w) hS z1 o1, by omega, by omega⟩
  · show W p (gl g) e _ s m args below meth c0 H1 locs (cells + 1) (slots + z) _ (F0 m (pc + 2) ls (.ref H.size :: S.map (cv g)))
    rw [← had]
    exact h9
  · rcases hkd with ⟨rfl, rfl⟩ | hz
    · have hA : cA = gcI g := Option.some.inj (hNm.symm.trans (hE.1.2 0 _ rfl).2)
      rw [ce_int (w := nw w (10, z)) (z := z) (by show (if wN w = wN w then (10, z) else _) = _; rw [if_pos rfl]), had]
      show H1[H.size]? = some (vp_cell _ _)
      rw [e1, hA, vp_cell_i]
      congr 2
      funext q
      show Value.int 0 = Value.int (if wN w = wN w then 0 else _)
      rw [if_pos rfl]
    · exact hz.elim
theorem V_anewarr {idx n z kd c : Nat} {x : Int32} (hd : decode M.co pc = .ok (.anewarray idx, 3)) (hkd : (kd = 12 ∧ c = 5) ∨ (kd = 13 ∧ c = 1)) (h1 : Cond.classLink M.nm.cls idx (RX c) ∈ TW) (h2 : Cond.arrayOver (.object (RX c)) ∈ TW) (hx : x = nI z) (hz : z < 65536) (hn : wN w < 900) (kk : V g M d kc ks true K (pc + 3) L (.ref (wN w) :: S) (nw w (kd, z))) : V g M d (kc + 1) (ks + z) true K pc L (.int x :: S) w := by
  intro p e s m args below meth c0 H locs cells slots ls mc ms A Z
  obtain ⟨hx0, hb, hml, hr0, hown, hlk, hnm, htb, hE⟩ := id A
  obtain ⟨hl, hH, hop, hS, hkc, hks⟩ := id Z
  have hts : ∀ w ∈ TW, w.before args s = true := fun w hw => hE.2.1 w hw args
  have ho := hop rfl
  subst hx
  have hcl : (nI z).toNatClampNeg = z := nI_clamp (by omega)
  refine W.anew hx0 hb hown (hts _ h1) (hts _ h2) rfl hd rfl (nI_pos (by omega)) (by rw [hcl]; omega) (by show cells + 1 ≤ mc; omega) (by rw [hcl]; show slots + z ≤ ms; omega) fun cA kA comp f1 f2 f3 f4 => ?_
  rw [hcl]
  generalize hH1 : H.push ({ cls := cA, slots := Array.replicate z .null, vm := .none } : Cell) = H1
  have z1 : H1.size = H.size + 1 := by rw [← hH1, Array.size_push]
  have e1 : H1[H.size]? = some (arrV cA z (fun _ => .null)) := by rw [← hH1, Array.getElem?_push_size, ← arrV_new]
  have o1 : ∀ q : Nat, q < H.size → H1[q]? = H[q]? := fun q hq => by rw [← hH1, Array.getElem?_push, if_neg (Nat.ne_of_lt hq)]
  have had : ad g (wN w) = H.size := by rw [ad_lt (by omega), ho]
  have h9 := kk p e s m args below meth c0 H1 locs (cells + 1) (slots + z) ls mc ms A ⟨hl, Hd_push hH hn ho ?_ z1 o1, fun _ => by rw [z1, ho]; exact Nat.add_assoc _ _ _, S_push (w := w) hS z1 o1, by omega, by omega⟩
  · show W p (gl g) e _ s m args below meth c0 H1 locs (cells + 1) (slots + z) _ (F0 m (pc + 3) ls (.ref H.size :: S.map (cv g)))
    rw [← had]
    exact h9
  · rcases hkd with ⟨rfl, rfl⟩ | ⟨rfl, rfl⟩
    · obtain ⟨kA9, comp9, -, -, -, hf9⟩ := (hE.1.2 2 _ rfl).2
      have hA : cA = gcS g := Option.some.inj (f1.symm.trans hf9)
      rw [ce_st (w := nw w (12, z)) (z := z) (by show (if wN w = wN w then (12, z) else _) = _; rw [if_pos rfl]), had]
      show H1[H.size]? = some (vp_cell _ _)
      rw [e1, hA, vp_cell_q]
      congr 2
      funext q
      show Value.null = va_rf ((if wN w = wN w then none else _ : Option Nat).map (ad g))
      rw [if_pos rfl]; rfl
    · obtain ⟨kA9, comp9, -, -, -, hf9⟩ := (hE.1.2 3 _ rfl).2
      have hA : cA = gcF g := Option.some.inj (f1.symm.trans hf9)
      rw [ce_fo (w := nw w (13, z)) (z := z) (by show (if wN w = wN w then (13, z) else _) = _; rw [if_pos rfl]), had]
      show H1[H.size]? = some (vp_cell _ _)
      rw [e1, hA, vp_cell_q]
      congr 2
      funext q
      show Value.null = va_rf ((if wN w = wN w then none else _ : Option Nat).map (ad g))
      rw [if_pos rfl]; rfl
/-- nothing more is made from here -/
theorem V_shut (kk : V g M d kc ks false K pc L S w) : V g M d kc ks true K pc L S w := by
  intro p e s m args below meth c0 H locs cells slots ls mc ms A Z
  obtain ⟨hl, hH, hop, hS, hkc, hks⟩ := id Z
  exact kk p e s m args below meth c0 H locs cells slots ls mc ms A ⟨hl, hH, (fun h => nomatch h), hS, hkc, hks⟩
theorem V_less {kc' ks' : Nat} (h1 : kc' ≤ kc) (h2 : ks' ≤ ks) (kk : V g M d kc' ks' op K pc L S w) : V g M d kc ks op K pc L S w := by
  intro p e s m args below meth c0 H locs cells slots ls mc ms A Z
  obtain ⟨hl, hH, hop, hS, hkc, hks⟩ := id Z
  exact kk p e s m args below meth c0 H locs cells slots ls mc ms A ⟨hl, hH, hop, hS, by omega, by omega⟩
/-- a world that agrees within its places -/
theorem V_world {w' : Wd} (hn : wN w' = wN w) (he : ∀ j, j < wN w → ce g w' j = ce g w j) (kk : V g M d kc ks op K pc L S w') : V g M d kc ks op K pc L S w := by
  intro p e s m args below meth c0 H locs cells slots ls mc ms A Z
  obtain ⟨hl, hH, hop, hS, hkc, hks⟩ := id Z
  have hw : wl g w' = wl g w := by
    unfold wl
    rw [hn]
    exact List.map_congr_left fun j hj => by rw [he j (List.mem_range.mp hj)]
  exact kk p e s m args below meth c0 H locs cells slots ls mc ms A ⟨hl, ⟨by rw [hw]; exact hH.1, by rw [hn]; exact hH.2.1, by rw [hn]; exact hH.2.2⟩, fun h => by rw [hn]; exact hop h, hS, hkc, hks⟩
/-- fewer locals are known -/
theorem V_locals {L' : List (Option Value)} (h : ∀ q ∈ lcl g 0 L', q ∈ lcl g 0 L) (kk : V g M d kc ks op K pc L' S w) : V g M d kc ks op K pc L S w := by
  intro p e s m args below meth c0 H locs cells slots ls mc ms A Z
  obtain ⟨hl, hH, hop, hS, hkc, hks⟩ := id Z
  exact kk p e s m args below meth c0 H locs cells slots ls mc ms A ⟨⟨hl.1, hl.2.1, fun q hq => hl.2.2 q (h q hq)⟩, hH, hop, hS, hkc, hks⟩
theorem V_slen (hd : decode M.co pc = .ok (.arraylength, 1)) (kk : V g M d kc ks op K (pc + 1) L (.int (nI (gL g)) :: S) w) : V g M d kc ks op K pc L (.ref 999 :: S) w := by
  intro p e s m args below meth c0 H locs cells slots ls mc ms A Z
  obtain ⟨hx0, hb, hml, hr0, hown, hlk, hnm, htb, hE⟩ := id A
  obtain ⟨hl, hH, hop, hS, hkc, hks⟩ := id Z
  obtain ⟨-, -, -, -, -, -, hX, hlt, hsz, -⟩ := hE
  have h999 : ad g 999 = gb g := if_pos rfl
  show W p _ _ _ _ _ _ _ _ _ _ _ _ _ _ (F0 _ _ _ (.ref (ad g 999) :: _))
  rw [h999]
  exact va_slen (b := gb g) hx0 hb hX (by omega) (by show ¬ gB g ≤ gb g; omega) hS hd (kk p e s m args below meth c0 H locs cells slots ls mc ms A Z)
theorem V_sld {i : Nat} {x : Int32} (hd : decode M.co pc = .ok (.iaload, 1)) (hx : x = nI i) (hi : i < gL g) (hz : gL g < 2 ^ 31) (kk : V g M d kc ks op K (pc + 1) L (.int (gx g i) :: S) w) : V g M d kc ks op K pc L (.int x :: .ref 999 :: S) w := by
  intro p e s m args below meth c0 H locs cells slots ls mc ms A Z
  obtain ⟨hx0, hb, hml, hr0, hown, hlk, hnm, htb, hE⟩ := id A
  obtain ⟨hl, hH, hop, hS, hkc, hks⟩ := id Z
  obtain ⟨-, -, -, -, -, -, hX, hlt, hsz, -⟩ := hE
  have h9 := kk p e s m args below meth c0 H locs cells slots ls mc ms A Z
  subst hx
  have hc : (nI i).toNatClampNeg = i := nI_clamp (by omega)
  have h999 : ad g 999 = gb g := if_pos rfl
  show W p _ _ _ _ _ _ _ _ _ _ _ _ _ _ (F0 _ _ _ (.int _ :: .ref (ad g 999) :: _))
  rw [h999]
  refine va_sld (b := gb g) hx0 hb hX (by omega) (by show ¬ gB g ≤ gb g; omega) hS (vp_in_nI hi hz) hd ?_
  rw [hc]
  exact h9
end ARR

