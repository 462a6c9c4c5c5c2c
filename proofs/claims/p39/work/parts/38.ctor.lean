theorem ob_in : Cond.instanceMethod objectInit ∈ TW := TW_in (List.mem_of_getElem? (i := 29) (by decide +kernel)) rfl
theorem ob_cd : Cond.code objectInit ⟨#[0xb1]⟩ 1 none ∈ TW := TW_in (List.mem_of_getElem? (i := 30) (by decide +kernel)) rfl
theorem ob_RX0 : Cond.methodLink RX0 3 objectInit ∈ TW := TW_in (List.mem_of_getElem? (i := 48) (by decide +kernel)) rfl
theorem is_RX0n : Cond.instantiable (RX 0) (nX 0) ∈ TW := TW_in (List.mem_of_getElem? (i := 44) (by decide +kernel)) rfl
theorem ob_RX1 : Cond.methodLink RX1 3 objectInit ∈ TW := TW_in (List.mem_of_getElem? (i := 98) (by decide +kernel)) rfl
theorem is_RX1n : Cond.instantiable (RX 1) (nX 1) ∈ TW := TW_in (List.mem_of_getElem? (i := 94) (by decide +kernel)) rfl
theorem ob_RX2 : Cond.methodLink RX2 3 objectInit ∈ TW := TW_in (List.mem_of_getElem? (i := 167) (by decide +kernel)) rfl
theorem is_RX2n : Cond.instantiable (RX 2) (nX 2) ∈ TW := TW_in (List.mem_of_getElem? (i := 163) (by decide +kernel)) rfl
theorem ob_RX3 : Cond.methodLink RX3 3 objectInit ∈ TW := TW_in (List.mem_of_getElem? (i := 42) (by decide +kernel)) rfl
theorem is_RX3n : Cond.instantiable (RX 3) (nX 3) ∈ TW := TW_in (List.mem_of_getElem? (i := 38) (by decide +kernel)) rfl
theorem ob_RX4 : Cond.methodLink RX4 3 objectInit ∈ TW := TW_in (List.mem_of_getElem? (i := 147) (by decide +kernel)) rfl
theorem is_RX4n : Cond.instantiable (RX 4) (nX 4) ∈ TW := TW_in (List.mem_of_getElem? (i := 143) (by decide +kernel)) rfl
theorem ob_RX5 : Cond.methodLink RX5 3 objectInit ∈ TW := TW_in (List.mem_of_getElem? (i := 36) (by decide +kernel)) rfl
theorem is_RX5n : Cond.instantiable (RX 5) (nX 5) ∈ TW := TW_in (List.mem_of_getElem? (i := 32) (by decide +kernel)) rfl
theorem ob_RX6 : Cond.methodLink RX6 1 objectInit ∈ TW := TW_in (List.mem_of_getElem? (i := 28) (by decide +kernel)) rfl
theorem is_RX6n : Cond.instantiable (RX 6) (nX 6) ∈ TW := TW_in (List.mem_of_getElem? (i := 24) (by decide +kernel)) rfl
section CTOR
variable {g : G0} {M M' : M0} {d d' kc ks kc' ks' : Nat} {op : Bool} {K : K0} {pc n : Nat} {vc : Option Nat} {L : List (Option Value)} {S : List Value} {w w' : Wd}
theorem V_objI {idx k : Nat} (hd : decode M.co pc = .ok (.invokespecial idx, 3)) (h1 : Cond.methodLink M.nm.cls idx objectInit ∈ TW) (hd1 : 1 ≤ d) (hr : (S.map fun v => v.category).sum ≤ 8) (kk : V g M d kc ks op K (pc + 3) L S w) : V g M d kc ks op K pc L (.ref k :: S) w := by
  intro p e s m args below meth c0 H locs cells slots ls mc ms A Z
  obtain ⟨hx0, hb, hml, hr0, hown, hlk, hnm, htb, hE⟩ := id A
  obtain ⟨hl, hH, hop, hS, hkc, hks⟩ := id Z
  have hts : ∀ w ∈ TW, w.before args s = true := fun w hw => hE.2.1 w hw args
  have h8 := lv_room (m := m) (pc := pc) (ls := ls) (rest := (Value.ref k :: S).map (cv g)) (st := S.map (cv g)) (by rw [cats]; exact hr)
  refine W.objInit hx0 hb hown (hts _ h1) (hts _ ob_in) (hts _ ob_cd) rfl (by rw [hml]; exact hl.1) rfl hd (by show 1 ≤ d; omega) (by show _ ≤ 36 * d; have h8 := h8; omega) ?_
  refine W.eq (g2 := F0 m (pc + 3) ls (S.map (cv g))) rfl ?_
  exact kk p e s m args below meth c0 H locs cells slots ls mc ms A Z
theorem ce_congr {k : Nat} (h1 : wS w k = wS w' k) (h2 : wI w k = wI w' k) (h3 : wJ w k = wJ w' k) (h4 : wR w k = wR w' k) : ce g w k = ce g w' k := by
  unfold ce fv
  simp only [h1, h2, h3, h4]
abbrev wo (n : Nat) (i : Nat → Nat → Int32) (R : Nat → Nat → Option Nat) : Wd := (n, SH, i, fun _ _ => 0, R)
theorem wo_nw {i : Nat → Nat → Int32} {R : Nat → Nat → Option Nat} {a : Nat × Nat} (hs : SH n = a) (hi : ∀ f, i n f = 0) (hR : ∀ f, R n f = none) (k : Nat) : ce g (wo (n + 1) i R) k = ce g (nw (wo n i R) a) k := by
  by_cases hk : k = n
  · subst hk
    refine ce_congr ?_ ?_ ?_ ?_
    · show SH k = if k = k then a else _; rw [if_pos rfl, hs]
    · funext f; show i k f = if k = k then 0 else _; rw [if_pos rfl, hi]
    · funext f; show (0 : Int64) = if k = k then 0 else _; rw [if_pos rfl]
    · funext f; show R k f = if k = k then none else _; rw [if_pos rfl, hR]
  · refine ce_congr ?_ ?_ ?_ ?_
    · show SH k = if k = n then a else _; rw [if_neg hk]
    · funext f; show i k f = if k = n then 0 else _; rw [if_neg hk]
    · funext f; show (0 : Int64) = if k = n then 0 else _; rw [if_neg hk]
    · funext f; show R k f = if k = n then none else _; rw [if_neg hk]
variable {i : Nat → Nat → Int32} {R : Nat → Nat → Option Nat}
theorem N_new {idx c : Nat} (hd : decode M.co pc = .ok (.new idx, 3)) (hc : CF c) (h1 : Cond.classLink M.nm.cls idx (RX c) ∈ TW) (h2 : Cond.instantiable (RX c) (nX c) ∈ TW) (h3 : Cond.initialized (RX c) ∈ TW) (hdef : ∀ j, j < nX c → (defaultValue (tX c j) = .int 0 ∨ isRefT (tX c j) = true ∨ tX c j = .long) ∧ (defaultValue (tX c j) = .int 0 → isIntT (tX c j) = true)) (hn : n < 900) (hs : SH n = (c, 0)) (hi : ∀ f, i n f = 0) (hR : ∀ f, R n f = none) (hk : kc' + 1 ≤ kc) (hks : ks' + nX c ≤ ks) (kk : V g M d kc' ks' true K (pc + 3) L (.ref n :: S) (wo (n + 1) i R)) : V g M d kc ks true K pc L S (wo n i R) :=
  V_less hk hks (V_new (w := wo n i R) hd hc h1 h2 h3 hn (fun j hj => fv_nw (hdef j hj).1 (hdef j hj).2) (V_world (w' := wo (n + 1) i R) rfl (fun k _ => wo_nw hs hi hR k) kk))
theorem N_arr {atype : ArrayType} {z kd : Nat} {x : Int32} (hd : decode M.co pc = .ok (.newarray atype, 2)) (hkd : (atype = .int ∧ kd = 10) ∨ False) (h1 : Cond.arrayClass (newarray.typeOf atype) ∈ TW) (hx : x = nI z) (hz : z < 65536) (hn : n < 900) (hs : SH n = (kd, z)) (hi : ∀ f, i n f = 0) (hR : ∀ f, R n f = none) (hk : kc' + 1 ≤ kc) (hks : ks' + z ≤ ks) (kk : V g M d kc' ks' true K (pc + 2) L (.ref n :: S) (wo (n + 1) i R)) : V g M d kc ks true K pc L (.int x :: S) (wo n i R) :=
  V_less hk hks (V_newarr (n := 0) (w := wo n i R) hd hkd h1 hx hz hn (V_world (w' := wo (n + 1) i R) rfl (fun k _ => wo_nw hs hi hR k) kk))
theorem N_anew {idx z kd c : Nat} {x : Int32} (hd : decode M.co pc = .ok (.anewarray idx, 3)) (hkd : (kd = 12 ∧ c = 5) ∨ (kd = 13 ∧ c = 1)) (h1 : Cond.classLink M.nm.cls idx (RX c) ∈ TW) (h2 : Cond.arrayOver (.object (RX c)) ∈ TW) (hx : x = nI z) (hz : z < 65536) (hn : n < 900) (hs : SH n = (kd, z)) (hi : ∀ f, i n f = 0) (hR : ∀ f, R n f = none) (hk : kc' + 1 ≤ kc) (hks : ks' + z ≤ ks) (kk : V g M d kc' ks' true K (pc + 3) L (.ref n :: S) (wo (n + 1) i R)) : V g M d kc ks true K pc L (.int x :: S) (wo n i R) :=
  V_less hk hks (V_anewarr (n := 0) (w := wo n i R) hd hkd h1 h2 hx hz hn (V_world (w' := wo (n + 1) i R) rfl (fun k _ => wo_nw hs hi hR k) kk))
theorem N_putR {idx c f k z r : Nat} (hd : decode M.co pc = .ok (.putfield idx, 3)) (hF : FL M.nm.cls idx c f) (hkn : k < n) (hk : SH k = (c, z)) (hfin : (TX c f).2.2.2 = true) (hin : M.nm.name = "<init>") (hdecl : (TX c f).1 = M.nm.cls) (hlk : Cond.fieldLink M.nm.cls idx (TX c f).1 (TX c f).2.1 (TX c f).2.2.1 ∈ TW) (ht : isRefT (tX c f) = true) (kk : V g M d kc ks true K (pc + 3) L S (wo n i (up2 R k f (some r)))) : V g M d kc ks true K pc L (.ref r :: .ref k :: S) (wo n i R) :=
  V_putR (w := wo n i R) hd hF ((if_pos hkn).trans hk) hfin hin hdecl hlk ht kk
theorem N_call {v : Option Value} {k ck cs : Nat} (hL : LkR g M pc M' n vc) (hC : C g M' d ck cs true [.ref k] w (rets v w')) (hm : MK M' n [.ref k]) (hv : rcv w M' [.ref k] vc) (h8 : CFs vc) (hk : kc' + ck ≤ kc) (hks : ks' + cs ≤ ks) (hr : (S.map fun v => v.category).sum ≤ 8) (kk : V g M (d + 1) kc' ks' true K (pc + 3) L (v.toList ++ S) w') : V g M (d + 1) kc ks true K pc L (.ref k :: S) w :=
  V_call (As := [.ref k]) hL hC hm.1 hm.2.1 hm.2.2.1 hm.2.2.2.1 hm.2.2.2.2 hv h8 (Nat.le_refl _) (by omega) (by omega) hr (V_less (by omega) (by omega) kk)
theorem N_rcv {k c z : Nat} (hkn : k < n) (hk : SH k = (c, z)) (hc : RX c = M'.nm.cls) : rcv (wo n i R) M' [.ref k] (some c) := ⟨k, [], rfl, by show ((if k < n then SH k else (99, 0)) : Nat × Nat).1 = c; rw [if_pos hkn, hk], hc⟩
theorem up2_nR {f : Nat → Nat → Option Nat} {a b k l : Nat} {v : Option Nat} (h : k ≠ a) : up2 f a b v k l = f k l := if_neg (fun z => h z.1)
end CTOR
theorem SHb {b o : Nat} (h : blk b) (ho : o < 12) : SH (b + o) = bl o := by
  have h2 : o = 0 ∨ o = 1 ∨ o = 2 ∨ o = 3 ∨ o = 4 ∨ o = 5 ∨ o = 6 ∨ o = 7 ∨ o = 8 ∨ o = 9 ∨ o = 10 ∨ o = 11 := by omega
  rcases h with rfl | rfl | rfl | rfl | rfl | rfl | rfl <;> rcases h2 with rfl | rfl | rfl | rfl | rfl | rfl | rfl | rfl | rfl | rfl | rfl | rfl <;> rfl
theorem RRb {b o f : Nat} (h : blk b) (ho : o < 12) : RR (b + o) f = br o (b + o) f := by
  have h2 : o = 0 ∨ o = 1 ∨ o = 2 ∨ o = 3 ∨ o = 4 ∨ o = 5 ∨ o = 6 ∨ o = 7 ∨ o = 8 ∨ o = 9 ∨ o = 10 ∨ o = 11 := by omega
  rcases h with rfl | rfl | rfl | rfl | rfl | rfl | rfl <;> rcases h2 with rfl | rfl | rfl | rfl | rfl | rfl | rfl | rfl | rfl | rfl | rfl | rfl <;> rfl
/-- nothing yet from n on -/
def fr (n : Nat) (i : Nat → Nat → Int32) (R : Nat → Nat → Option Nat) : Prop := ∀ k f, n ≤ k → i k f = 0 ∧ R k f = none

theorem df_0 : ∀ j, j < nX 0 → (defaultValue (tX 0 j) = .int 0 ∨ isRefT (tX 0 j) = true ∨ tX 0 j = .long) ∧ (defaultValue (tX 0 j) = .int 0 → isIntT (tX 0 j) = true) := by
  intro j hj
  have hj : j < 6 := hj
  have h2 : j = 0 ∨ j = 1 ∨ j = 2 ∨ j = 3 ∨ j = 4 ∨ j = 5 := by omega
  rcases h2 with rfl | rfl | rfl | rfl | rfl | rfl <;> first | exact ⟨Or.inl rfl, fun _ => rfl⟩ | exact ⟨Or.inr (Or.inl rfl), fun z => by cases z⟩ | exact ⟨Or.inr (Or.inr rfl), fun z => by cases z⟩
theorem df_1 : ∀ j, j < nX 1 → (defaultValue (tX 1 j) = .int 0 ∨ isRefT (tX 1 j) = true ∨ tX 1 j = .long) ∧ (defaultValue (tX 1 j) = .int 0 → isIntT (tX 1 j) = true) := by
  intro j hj
  have hj : j < 7 := hj
  have h2 : j = 0 ∨ j = 1 ∨ j = 2 ∨ j = 3 ∨ j = 4 ∨ j = 5 ∨ j = 6 := by omega
  rcases h2 with rfl | rfl | rfl | rfl | rfl | rfl | rfl <;> first | exact ⟨Or.inl rfl, fun _ => rfl⟩ | exact ⟨Or.inr (Or.inl rfl), fun z => by cases z⟩ | exact ⟨Or.inr (Or.inr rfl), fun z => by cases z⟩
theorem df_2 : ∀ j, j < nX 2 → (defaultValue (tX 2 j) = .int 0 ∨ isRefT (tX 2 j) = true ∨ tX 2 j = .long) ∧ (defaultValue (tX 2 j) = .int 0 → isIntT (tX 2 j) = true) := by
  intro j hj
  have hj : j < 2 := hj
  have h2 : j = 0 ∨ j = 1 := by omega
  rcases h2 with rfl | rfl <;> first | exact ⟨Or.inl rfl, fun _ => rfl⟩ | exact ⟨Or.inr (Or.inl rfl), fun z => by cases z⟩ | exact ⟨Or.inr (Or.inr rfl), fun z => by cases z⟩
theorem df_3 : ∀ j, j < nX 3 → (defaultValue (tX 3 j) = .int 0 ∨ isRefT (tX 3 j) = true ∨ tX 3 j = .long) ∧ (defaultValue (tX 3 j) = .int 0 → isIntT (tX 3 j) = true) := by
  intro j hj
  have hj : j < 4 := hj
  have h2 : j = 0 ∨ j = 1 ∨ j = 2 ∨ j = 3 := by omega
  rcases h2 with rfl | rfl | rfl | rfl <;> first | exact ⟨Or.inl rfl, fun _ => rfl⟩ | exact ⟨Or.inr (Or.inl rfl), fun z => by cases z⟩ | exact ⟨Or.inr (Or.inr rfl), fun z => by cases z⟩
theorem df_4 : ∀ j, j < nX 4 → (defaultValue (tX 4 j) = .int 0 ∨ isRefT (tX 4 j) = true ∨ tX 4 j = .long) ∧ (defaultValue (tX 4 j) = .int 0 → isIntT (tX 4 j) = true) := by
  intro j hj
  have hj : j < 3 := hj
  have h2 : j = 0 ∨ j = 1 ∨ j = 2 := by omega
  rcases h2 with rfl | rfl | rfl <;> first | exact ⟨Or.inl rfl, fun _ => rfl⟩ | exact ⟨Or.inr (Or.inl rfl), fun z => by cases z⟩ | exact ⟨Or.inr (Or.inr rfl), fun z => by cases z⟩
theorem df_5 : ∀ j, j < nX 5 → (defaultValue (tX 5 j) = .int 0 ∨ isRefT (tX 5 j) = true ∨ tX 5 j = .long) ∧ (defaultValue (tX 5 j) = .int 0 → isIntT (tX 5 j) = true) := by
  intro j hj
  have hj : j < 2 := hj
  have h2 : j = 0 ∨ j = 1 := by omega
  rcases h2 with rfl | rfl <;> first | exact ⟨Or.inl rfl, fun _ => rfl⟩ | exact ⟨Or.inr (Or.inl rfl), fun z => by cases z⟩ | exact ⟨Or.inr (Or.inr rfl), fun z => by cases z⟩
theorem df_6 : ∀ j, j < nX 6 → (defaultValue (tX 6 j) = .int 0 ∨ isRefT (tX 6 j) = true ∨ tX 6 j = .long) ∧ (defaultValue (tX 6 j) = .int 0 → isIntT (tX 6 j) = true) := by
  intro j hj
  have hj : j < 3 := hj
  have h2 : j = 0 ∨ j = 1 ∨ j = 2 := by omega
  rcases h2 with rfl | rfl | rfl <;> first | exact ⟨Or.inl rfl, fun _ => rfl⟩ | exact ⟨Or.inr (Or.inl rfl), fun z => by cases z⟩ | exact ⟨Or.inr (Or.inr rfl), fun z => by cases z⟩
theorem c_X1 {g : G0} (d : Nat) {i : Nat → Nat → Int32} {R : Nat → Nat → Option Nat} {n b : Nat} : C g m_X1_init (d + 1) 0 0 true [.ref b] (wo n i R) (rets none (wo n i R)) := by
  refine C_of (L := [some (.ref b)]) rfl ?_
  refine L_aload_n_0 dX1_init_0 ?_
  refine V_objI dX1_init_1 ob_RX1 (by omega) (by decide) ?_
  exact V_vret dX1_init_4 rfl ⟨rfl, rfl⟩
def RD (b : Nat) (R : Nat → Nat → Option Nat) : Nat → Nat → Option Nat := up2 (up2 (up2 (up2 R (b + 2) 0 (some (b + 3))) (b + 2) 1 (some (b + 4))) (b + 2) 2 (some (b + 5))) (b + 2) 3 (some (b + 6))
theorem c_X0 {g : G0} (d : Nat) {i : Nat → Nat → Int32} {R : Nat → Nat → Option Nat} {b : Nat} (hb : blk b) (hf : fr (b + 2) i R) : C g m_X0_init (d + 1) 4 24 true [.ref (b + 2)] (wo (b + 3) i R) (rets none (wo (b + 7) (up2 i (b + 2) 4 3) (RD b R))) := by
  have h900 : b + 12 < 900 := by unfold blk at hb; omega
  refine C_of (L := [some (.ref (b + 2))]) rfl ?_
  refine L_aload_n_0 dX0_init_0 ?_
  refine V_objI dX0_init_1 ob_RX0 (by omega) (by decide) ?_
  refine L_aload_n_0 dX0_init_4 ?_
  refine V_bipush (v := 6) (by decide) dX0_init_5 ?_
  refine N_arr (z := 6) (kd := 10) (kc' := 3) (ks' := 18) dX0_init_7 (Or.inl ⟨rfl, rfl⟩) ac_int rfl (by decide) (by omega) (SHb (o := 3) hb (by omega)) (fun f => (hf _ f (by omega)).1) (fun f => (hf _ f (by omega)).2) (by omega) (by omega) ?_
  refine N_putR (c := 0) (f := 0) (z := 0) dX0_init_9 fl_RX0_9 (by omega) (SHb (o := 2) hb (by omega)) rfl rfl rfl fw_RX0_9 rfl ?_
  refine L_aload_n_0 dX0_init_12 ?_
  refine V_bipush (v := 6) (by decide) dX0_init_13 ?_
  refine N_arr (z := 6) (kd := 10) (kc' := 2) (ks' := 12) dX0_init_15 (Or.inl ⟨rfl, rfl⟩) ac_int rfl (by decide) (by omega) (SHb (o := 4) hb (by omega)) (fun f => (hf _ f (by omega)).1) (fun f => by rw [up2_nR (by omega)]; exact (hf _ f (by omega)).2) (by omega) (by omega) ?_
  refine N_putR (c := 0) (f := 1) (z := 0) dX0_init_17 fl_RX0_15 (by omega) (SHb (o := 2) hb (by omega)) rfl rfl rfl fw_RX0_15 rfl ?_
  refine L_aload_n_0 dX0_init_20 ?_
  refine V_bipush (v := 6) (by decide) dX0_init_21 ?_
  refine N_arr (z := 6) (kd := 10) (kc' := 1) (ks' := 6) dX0_init_23 (Or.inl ⟨rfl, rfl⟩) ac_int rfl (by decide) (by omega) (SHb (o := 5) hb (by omega)) (fun f => (hf _ f (by omega)).1) (fun f => by rw [up2_nR (by omega), up2_nR (by omega)]; exact (hf _ f (by omega)).2) (by omega) (by omega) ?_
  refine N_putR (c := 0) (f := 2) (z := 0) dX0_init_25 fl_RX0_18 (by omega) (SHb (o := 2) hb (by omega)) rfl rfl rfl fw_RX0_18 rfl ?_
  refine L_aload_n_0 dX0_init_28 ?_
  refine V_bipush (v := 6) (by decide) dX0_init_29 ?_
  refine N_arr (z := 6) (kd := 10) (kc' := 0) (ks' := 0) dX0_init_31 (Or.inl ⟨rfl, rfl⟩) ac_int rfl (by decide) (by omega) (SHb (o := 6) hb (by omega)) (fun f => (hf _ f (by omega)).1) (fun f => by rw [up2_nR (by omega), up2_nR (by omega), up2_nR (by omega)]; exact (hf _ f (by omega)).2) (by omega) (by omega) ?_
  refine N_putR (c := 0) (f := 3) (z := 0) dX0_init_33 fl_RX0_21 (by omega) (SHb (o := 2) hb (by omega)) rfl rfl rfl fw_RX0_21 rfl ?_
  refine L_aload_n_0 dX0_init_36 ?_
  refine V_iconst (v := 3) (by decide) dX0_init_37 ?_
  refine V_putI (c := 0) (f := 4) (z := 0) dX0_init_38 fl_RX0_24 ((if_pos (by show b + 2 < b + 7; omega)).trans (SHb (o := 2) hb (by omega))) rfl rfl ?_
  exact V_vret dX0_init_41 rfl ⟨rfl, rfl⟩
theorem c_X3 {g : G0} (d : Nat) {i : Nat → Nat → Int32} {R : Nat → Nat → Option Nat} {b : Nat} (hb : blk b) (hf : fr (b + 1) i R) : C g m_X3_init (d + 2) 5 30 true [.ref (b + 1)] (wo (b + 2) i R) (rets none (wo (b + 7) (up2 i (b + 2) 4 3) (up2 (RD b R) (b + 1) 3 (some (b + 2))))) := by
  have h900 : b + 12 < 900 := by unfold blk at hb; omega
  refine C_of (L := [some (.ref (b + 1))]) rfl ?_
  refine L_aload_n_0 dX3_init_0 ?_
  refine V_objI dX3_init_1 ob_RX3 (by omega) (by decide) ?_
  refine L_aload_n_0 dX3_init_4 ?_
  refine N_new (kc' := 4) (ks' := 24) dX3_init_5 cf0 cl_RX3_9 is_RX0n in_RX0 df_0 (by omega) (SHb (o := 2) hb (by omega)) (fun f => (hf _ f (by omega)).1) (fun f => (hf _ f (by omega)).2) (by omega) (by show 24 + 6 ≤ 30; omega) ?_
  refine V_dup rfl dX3_init_8 ?_
  refine N_call (kc' := 0) (ks' := 0) (lkR_RX3_11 rfl dX3_init_9) (c_X0 _ hb (fun k f h => hf k f (by omega))) ⟨by decide, rfl, (Nat.le_of_ble_eq_true rfl), (Nat.le_of_ble_eq_true rfl), rfl⟩ (N_rcv (z := 0) (by omega) (SHb (o := 2) hb (by omega)) rfl) (cfS cf0) (by omega) (by omega) (Nat.le_of_ble_eq_true rfl) ?_
  refine N_putR (c := 3) (f := 3) (z := 0) dX3_init_12 fl_RX3_12 (by omega) (SHb (o := 1) hb (by omega)) rfl rfl rfl fw_RX3_12 rfl ?_
  exact V_vret dX3_init_15 rfl ⟨rfl, rfl⟩
def RPc (b : Nat) (R : Nat → Nat → Option Nat) : Nat → Nat → Option Nat := up2 (up2 (up2 (RD b R) (b + 1) 3 (some (b + 2))) b 0 (some (b + 1))) b 1 (some (b + 7))
def RF (b : Nat) (R : Nat → Nat → Option Nat) (m : Nat) : Nat → Nat → Option Nat := fun k f => if k = b + 7 ∧ f < m then some (b + 8 + f) else RPc b R k f
def RB (b : Nat) (R : Nat → Nat → Option Nat) : Nat → Nat → Option Nat := fun k f => if b ≤ k ∧ k < b + 12 then RR k f else R k f
theorem RPc_oth {b : Nat} {R : Nat → Nat → Option Nat} {k f : Nat} (h : b + 3 ≤ k) : RPc b R k f = R k f := by
  unfold RPc RD
  rw [up2_nR (by omega), up2_nR (by omega), up2_nR (by omega), up2_nR (by omega), up2_nR (by omega), up2_nR (by omega), up2_nR (by omega)]
theorem RF_B {b : Nat} {i : Nat → Nat → Int32} {R : Nat → Nat → Option Nat} (hb : blk b) (hf : fr b i R) : RF b R 4 = RB b R := by
  funext k f
  unfold RB
  by_cases hk : b ≤ k ∧ k < b + 12
  · rw [if_pos hk]
    obtain ⟨o, ho, rfl⟩ : ∃ o, o < 12 ∧ k = b + o := ⟨k - b, by omega, by omega⟩
    rw [RRb hb ho]
    have hn : ∀ q, R (b + q) f = none := fun q => (hf _ f (by omega)).2
    have h2 : o = 0 ∨ o = 1 ∨ o = 2 ∨ o = 7 ∨ (o = 3 ∨ o = 4 ∨ o = 5 ∨ o = 6 ∨ o = 8 ∨ o = 9 ∨ o = 10 ∨ o = 11) := by omega
    unfold RF
    rcases h2 with rfl | rfl | rfl | rfl | h2
    · rw [if_neg (by omega)]
      unfold RPc RD up2
      match f with
      | 0 => rw [if_neg (by omega), if_pos (by omega)]; rfl
      | 1 => rw [if_pos (by omega)]; rfl
      | f + 2 => 
        rw [if_neg (by omega), if_neg (by omega), if_neg (by omega), if_neg (by omega), if_neg (by omega), if_neg (by omega), if_neg (by omega)]
        exact hn 0
    · rw [if_neg (by omega)]
      unfold RPc RD up2
      match f with
      | 0 => rw [if_neg (by omega), if_neg (by omega), if_neg (by omega), if_neg (by omega), if_neg (by omega), if_neg (by omega), if_neg (by omega)]; exact hn 1
      | 1 => rw [if_neg (by omega), if_neg (by omega), if_neg (by omega), if_neg (by omega), if_neg (by omega), if_neg (by omega), if_neg (by omega)]; exact hn 1
      | 2 => rw [if_neg (by omega), if_neg (by omega), if_neg (by omega), if_neg (by omega), if_neg (by omega), if_neg (by omega), if_neg (by omega)]; exact hn 1
      | 3 => rw [if_neg (by omega), if_neg (by omega), if_pos (by omega)]; rfl
      | f + 4 => rw [if_neg (by omega), if_neg (by omega), if_neg (by omega), if_neg (by omega), if_neg (by omega), if_neg (by omega), if_neg (by omega)]; exact hn 1
    · rw [if_neg (by omega)]
      unfold RPc RD up2
      match f with
      | 0 => rw [if_neg (by omega), if_neg (by omega), if_neg (by omega), if_neg (by omega), if_neg (by omega), if_neg (by omega), if_pos (by omega)]; rfl
      | 1 => rw [if_neg (by omega), if_neg (by omega), if_neg (by omega), if_neg (by omega), if_neg (by omega), if_pos (by omega)]; rfl
      | 2 => rw [if_neg (by omega), if_neg (by omega), if_neg (by omega), if_neg (by omega), if_pos (by omega)]; rfl
      | 3 => rw [if_neg (by omega), if_neg (by omega), if_neg (by omega), if_pos (by omega)]; rfl
      | f + 4 => rw [if_neg (by omega), if_neg (by omega), if_neg (by omega), if_neg (by omega), if_neg (by omega), if_neg (by omega), if_neg (by omega)]; exact hn 2
    · show _ = if f < 4 then some (b + 7 + 1 + f) else none
      by_cases h4 : f < 4
      · rw [if_pos ⟨rfl, h4⟩, if_pos h4]
      · rw [if_neg (fun z => h4 z.2), if_neg h4, RPc_oth (by omega)]; exact hn 7
    · rw [if_neg (by omega), RPc_oth (by omega), hn o]
      rcases h2 with rfl | rfl | rfl | rfl | rfl | rfl | rfl | rfl <;> rfl
  · rw [if_neg hk]
    unfold RF RPc RD up2
    rw [if_neg (by omega), if_neg (by omega), if_neg (by omega), if_neg (by omega), if_neg (by omega), if_neg (by omega), if_neg (by omega), if_neg (by omega)]
theorem c_X5 {g : G0} (d : Nat) {i : Nat → Nat → Int32} {R : Nat → Nat → Option Nat} {b : Nat} (hb : blk b) (hf : fr b i R) : C g m_X5_init (d + 3) 11 66 true [.ref b] (wo (b + 1) i R) (rets none (wo (b + 12) (up2 i (b + 2) 4 3) (RB b R))) := by
  have h900 : b + 12 < 900 := by unfold blk at hb; omega
  have hSH : ∀ o, o < 12 → SH (b + o) = bl o := fun o ho => SHb hb ho
  refine C_of (L := [some (.ref b), none]) rfl ?_
  have loop : ∀ (n m : Nat), m + n = 4 → V g m_X5_init (d + 3) (4 - m) (28 - 7 * m) true (Kp g true (rets none (wo (b + 12) (up2 i (b + 2) 4 3) (RB b R)))) 25 [some (.ref b), some (.int (nI m))] [] (wo (b + 8 + m) (up2 i (b + 2) 4 3) (RF b R m)) := by
    intro n
    induction n with
    | zero =>
      intro m hm
      have hm0 : m = 4 := by omega
      subst hm0
      refine L_iload_n_1 dX5_init_25 ?_
      refine V_iconst (v := 4) (by decide) dX5_init_26 ?_
      refine V_icmp_ge (tgt := 49) dX5_init_27 (by decide) (fun h27 => ?_) (fun h27 => ?_)
      · exact V_vret dX5_init_49 rfl ⟨rfl, by rw [RF_B hb hf]⟩
      · exact absurd (by decide) h27
    | succ n ih =>
      intro m hm
      have hlt : m < 4 := by omega
      have hSF : SH (b + 8 + m) = (1, 0) := by
        have h5 := hSH (8 + m) (by omega)
        rw [← Nat.add_assoc] at h5
        rw [h5]
        have h4 : m = 0 ∨ m = 1 ∨ m = 2 ∨ m = 3 := by omega
        rcases h4 with rfl | rfl | rfl | rfl <;> rfl
      refine L_iload_n_1 dX5_init_25 ?_
      refine V_iconst (v := 4) (by decide) dX5_init_26 ?_
      refine V_icmp_ge (tgt := 49) dX5_init_27 (by decide) (fun h27 => ?_) (fun h27 => ?_)
      · exact absurd ((nI_leI (a := 4) (b := m) (by omega) (by omega)).mp h27) (by omega)
      · refine L_aload_n_0 dX5_init_30 ?_
        refine V_getR (r := b + 7) (c := 5) (f := 1) (z := 0) dX5_init_31 fl_RX5_20 ((if_pos (by show b < b + 8 + m; omega)).trans (hSH 0 (by omega))) rfl (by show RF b R m b 1 = _; unfold RF; rw [if_neg (by omega)]; unfold RPc; exact if_pos ⟨rfl, rfl⟩) ?_
        refine L_iload_n_1 dX5_init_34 ?_
        refine N_new (kc' := 3 - m) (ks' := 21 - 7 * m) dX5_init_35 cf1 cl_RX5_18 is_RX1n in_RX1 df_1 (by omega) (hSF) (fun f => by rw [up2_ne (by omega)]; exact (hf _ f (by omega)).1) (fun f => by unfold RF; rw [if_neg (by omega), RPc_oth (by omega)]; exact (hf _ f (by omega)).2) (by omega) (by show 21 - 7 * m + 7 ≤ 28 - 7 * m; omega) ?_
        refine V_dup rfl dX5_init_38 ?_
        refine N_call (kc' := 3 - m) (ks' := 21 - 7 * m) (lkR_RX5_24 rfl dX5_init_39) (c_X1 (d + 1)) ⟨by decide, rfl, (Nat.le_of_ble_eq_true rfl), (Nat.le_of_ble_eq_true rfl), rfl⟩ (N_rcv (z := 0) (c := 1) (by omega) (hSF) rfl) (cfS cf1) (by omega) (by omega) (Nat.le_of_ble_eq_true rfl) ?_
        refine V_aast (w := wo (b + 8 + m + 1) (up2 i (b + 2) 4 3) (RF b R m)) (kd := 13) (c := 1) (z := 4) (zc := 0) (i := m) dX5_init_42 ((if_pos (by show b + 7 < b + 8 + m + 1; omega)).trans (hSH 7 (by omega))) ((if_pos (by show b + 8 + m < b + 8 + m + 1; omega)).trans (hSF)) (Or.inr ⟨rfl, rfl⟩) rfl hlt (by decide) ?_
        refine V_iinc_1 (v := nI (m + 1)) dX5_init_43 (Nat.le_of_ble_eq_true rfl) rfl (nI_1 _) ?_
        refine V_goto (tgt := 25) dX5_init_46 (by decide) ?_
        have h9 := ih (m + 1) (by omega)
        rw [show 4 - (m + 1) = 3 - m by omega, show 28 - 7 * (m + 1) = 21 - 7 * m by omega, show RF b R (m + 1) = up2 (RF b R m) (b + 7) m (some (b + 8 + m)) from by
          funext k f
          unfold up2 RF
          by_cases h5 : k = b + 7 ∧ f = m
          · obtain ⟨rfl, rfl⟩ := h5
            rw [if_pos (by omega), if_pos ⟨rfl, rfl⟩]
          · rw [if_neg h5]
            by_cases h6 : k = b + 7 ∧ f < m
            · rw [if_pos h6, if_pos (by omega)]
            · rw [if_neg h6, if_neg (by omega)]] at h9
        exact h9
  refine L_aload_n_0 dX5_init_0 ?_
  refine V_objI dX5_init_1 ob_RX5 (by omega) (by decide) ?_
  refine L_aload_n_0 dX5_init_4 ?_
  refine N_new (kc' := 10) (ks' := 62) dX5_init_5 cf3 cl_RX5_9 is_RX3n in_RX3 df_3 (by omega) (hSH 1 (by omega)) (fun f => (hf _ f (by omega)).1) (fun f => (hf _ f (by omega)).2) (by omega) (by show 62 + 4 ≤ 66; omega) ?_
  refine V_dup rfl dX5_init_8 ?_
  refine N_call (kc' := 5) (ks' := 32) (lkR_RX5_11 rfl dX5_init_9) (c_X3 _ hb (fun k f h => hf k f (by omega))) ⟨by decide, rfl, (Nat.le_of_ble_eq_true rfl), (Nat.le_of_ble_eq_true rfl), rfl⟩ (N_rcv (z := 0) (c := 3) (by omega) (hSH 1 (by omega)) rfl) (cfS cf3) (by omega) (by omega) (Nat.le_of_ble_eq_true rfl) ?_
  refine N_putR (c := 5) (f := 0) (z := 0) dX5_init_12 fl_RX5_12 (by omega) (hSH 0 (by omega)) rfl rfl rfl fw_RX5_12 rfl ?_
  refine L_aload_n_0 dX5_init_15 ?_
  refine V_iconst (v := 4) (by decide) dX5_init_16 ?_
  refine N_anew (kc' := 4) (ks' := 28) (z := 4) dX5_init_17 (Or.inr ⟨rfl, rfl⟩) cl_RX5_18 ao_RX1 rfl (by decide) (by omega) (hSH 7 (by omega)) (fun f => by rw [up2_ne (by omega)]; exact (hf _ f (by omega)).1) (fun f => by unfold RD; rw [up2_nR (by omega), up2_nR (by omega), up2_nR (by omega), up2_nR (by omega), up2_nR (by omega), up2_nR (by omega)]; exact (hf _ f (by omega)).2) (by omega) (by omega) ?_
  refine N_putR (c := 5) (f := 1) (z := 0) dX5_init_20 fl_RX5_20 (by omega) (hSH 0 (by omega)) rfl rfl rfl fw_RX5_20 rfl ?_
  refine V_iconst (v := 0) (by decide) dX5_init_23 ?_
  refine V_istore_n_1 dX5_init_24 (Nat.le_of_ble_eq_true rfl) rfl ?_
  have h9 := loop 4 0 (by omega)
  rw [show RF b R 0 = RPc b R from by funext k f; unfold RF; rw [if_neg (by omega)]] at h9
  exact h9
