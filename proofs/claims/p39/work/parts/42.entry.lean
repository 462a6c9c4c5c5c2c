/-! THE CLAIM OUT OF ONE WALK OF THE LAW'S BODY. Your part is whole_start (and what it stands on); all else here is the same for every law, but numbers. -/
def R_law : String := "StreetEditionsLaw"
def lw_P (b : Addr) (xs : List Int32) (args : Array Value) (s : State) : Prop := args = #[.ref b] ∧ s.IntsAt b xs ∧ xs.length ≤ 260 ∧ (Jvm.Cond.and given_1 narrow_1).before args s = true
/-- what a walk over the start with the record d0 says of its end, said of the start itself -/
theorem lw_closed {s t : State} {o : Outcome} {d0 : Drawn} {L : List Loc} {k n : Nat} (hd0 : s.drawn.sameBut d0 lw_cs) (hv : ∃ v, o = .returned v) (hW : (s.setDrawn d0).WarmedH t.vm) (hs : (s.setDrawn d0).sameButNew ({ t with vm := s.vm } : State) L k n) : State.butDraws s t lw_cs (fun t1 => Framed s o t1 L k n) := by
  have h2 : t.drawn = d0 := congrArg State.drawn hs.1
  refine ⟨⟨hv, hW, State.sameButNew.setDrawn hs s.drawn⟩, ?_, by decide⟩
  rw [h2]
  exact hd0
def lw_Q (_ : Array Value) (s : State) (o : Outcome) (t : State) : Prop := o = .returned (some (.int 1)) ∧ State.butDraws s t lw_cs (fun t1 => Framed s o t1 [] 855672 6534166)
def lw_Z (below : List Frame) (a : Array Value) (s : State) : State → Prop := fun t => ∃ o, t.status = .running ∧ Ended t below o ∧ lw_Q a s o t
/-- the law's own end, with 1 on the stack, nothing written that was there before, its room as the claim has it; d0: the record of draws at this point (at the entry s.drawn: begin with 'refine W.base ?_' and 'have hd0 := Drawn.sameBut.refl s.drawn lw_cs') -/
theorem lw_ret {p : Program} {l : Launch} {e : Env} {s : State} {m : MethodId} {below : List Frame} {meth : Method} {c : Code} {b : Nat} {d0 : Drawn} (hd0 : s.drawn.sameBut d0 lw_cs) (hx : p.tables.exec = Jvm.exec) (hb : c.code = code) (hr : meth.sig.returnType = ret) (hlocks : meth.locks = false) {pc : Nat} {H : Heap} {ls : Array Slot} (hdg : decode code pc = .ok (.ireturn, 1)) : W p l e room_1 (s.setDrawn d0) m #[Value.ref b] below meth c H [] 855672 6534166 (lw_Z below #[Value.ref b] s) (F0 m pc ls [.int 1]) := by
  intro T hT X
  obtain ⟨fs, hret, hrun, hended, hW, hframe⟩ := X.leave (v := some (.int 1)) (hlocks := hlocks) (fun h => by rw [hr] at h; cases h)
  have hmeth' : T.vm.method? m = some meth := X.method'
  refine ⟨T.setFrames fs, ?_, .returned (some (.int 1)), hrun, hended, rfl, lw_closed hd0 ⟨_, rfl⟩ hW hframe⟩
  jvm_step X.here [X.here.top, hx, hb, hdg, hmeth', hr, ret, narrow_b1]
  (try refine ⟨rfl, ?_⟩); (try refine ⟨rfl, ?_⟩)
  first | (intro acts; rw [hret _ acts rfl rfl rfl]) | rw [hret _ _ rfl rfl rfl]
  exact Steps.refl _
/-- what holds at the law's entry: the machine, the code, the tables' words (any of lw_tbl by 'hts w (by decide +kernel)'), the script of L ints xs at the cell b, what the Statement gives of the start (any of its parts by flat_of_before) -/
def lw_At (p : Program) (s : State) (m : MethodId) (meth : Method) (c : Code) (b L : Nat) (xs : Nat → Int32) : Prop :=
  p.tables.exec = Jvm.exec ∧ c.code = code ∧ meth.sig.returnType = ret ∧ c.maxLocals = 14 ∧ s.vm.findClass R_law = some m.cls ∧ (∀ w ∈ lw_tbl, w.before #[Value.ref b] s = true) ∧ va_X b L xs s s.heap ∧ b < s.heap.size ∧ meth.locks = false ∧ (Jvm.Cond.and given_1 narrow_1).before #[Value.ref b] s = true
-- ===== YOUR PART BEGINS =====
theorem ex_ref {t : Term} {C : String} {A : Array Value} {s : State} (h : (Cond.exactly t C).before A s = true) : ∃ a, t.eval A s none [] s = some (.ref a) := by
  unfold Cond.before Cond.holds at h
  simp only [Cond.value] at h
  cases hv : t.eval A s none [] s with
  | none => rw [hv] at h; simp at h
  | some v => 
    cases v <;> first | exact ⟨_, rfl⟩ | (rw [hv] at h; cases hc : s.vm.findClass C <;> rw [hc] at h <;> simp at h)
theorem str_at {own tx : String} {k : Nat} {A : Array Value} {s : State} (hts : ∀ w ∈ lw_tbl, w.before A s = true) (hs : ∀ c ∈ flatC (Jvm.Cond.and given_1 narrow_1), c.before A s = true) (h1 : Cond.stringRef own k tx ∈ lw_tbl) (h2 : Cond.exactly (.string own k) "java/lang/String" ∈ flatC (Jvm.Cond.and given_1 narrow_1)) : ∃ sa : Nat, vk_R own k tx sa s := by
  obtain ⟨a, ha⟩ := ex_ref (hs _ h2)
  exact ⟨a, vk_R.of (hts _ h1) ha⟩
theorem arr_prim {s : State} {A : Array Value} {ty : FieldType} (hp : ty = .int ∨ ty = .long) (h : (Cond.arrayClass ty).before A s = true) : ∃ c : ClassId, ArrOfT s c ty ∧ va_RA s c ty := by
  obtain ⟨c, k, comp, h1, h2, h3⟩ := Cond.arrayClass_spec h
  refine ⟨c, fun n z => ⟨(fun q h => by cases h), k, h2, comp, h3⟩, ?_⟩
  rcases hp with rfl | rfl <;> exact h1
theorem arr_obj {s : State} {A : Array Value} {C : String} (h : (Cond.arrayOver (.object C)).before A s = true) : ∃ c : ClassId, ArrOfT s c (.object C) ∧ va_RA s c (.object C) := by
  obtain ⟨comp, c, k, h1, h2, h3, h4, h5⟩ := Cond.arrayOver_spec h
  exact ⟨c, fun n z => ⟨(fun q h => by cases h), k, h3, comp, h4⟩, k, comp, h3, h4, h1, h5⟩
theorem word_any {s : State} {A a : Array Value} {w : Cond} (ho : okW w = true) (h9 : w.before A s = true) : w.before a s = true := by
  have hW := State.WarmedH.refl s
  unfold okW at ho
  rw [Bool.or_eq_true] at ho
  rcases ho with ho | ho
  · exact word_at hW (good_of_word ho) h9
  · cases w <;> simp only [isNest] at ho <;> first | cases ho | skip
    all_goals first | exact va_Nw.use rfl (va_Nw.of rfl h9) | (rename_i t9; cases t9 <;> first | (cases ho; done) | exact va_AO.use (va_AO.of h9))
theorem str_all {A : Array Value} {s : State} (hts : ∀ w ∈ lw_tbl, w.before A s = true) (hs : ∀ c ∈ flatC (Jvm.Cond.and given_1 narrow_1), c.before A s = true) : ∀ q ∈ strs, ∃ sa : Nat, vk_R q.1 q.2.1 q.2.2 sa s := by
  have h1 : ∀ q ∈ strs, Cond.stringRef q.1 q.2.1 q.2.2 ∈ lw_tbl := by decide +kernel
  have h2 : ∀ q ∈ strs, Cond.exactly (.string q.1 q.2.1) "java/lang/String" ∈ flatC (Jvm.Cond.and given_1 narrow_1) := by decide +kernel
  intro q hq
  exact str_at hts hs (h1 q hq) (h2 q hq)
theorem nc_all {A : Array Value} {s : State} (hs : ∀ c ∈ flatC (Jvm.Cond.and given_1 narrow_1), c.before A s = true) : ∀ q ∈ ncs, va_Nc q.1 q.2 s := by
  have h2 : ∀ q ∈ ncs, Cond.not (.castable q.1 q.2) ∈ flatC (Jvm.Cond.and given_1 narrow_1) := by decide +kernel
  intro q hq
  exact va_Nc.of (hs _ (h2 q hq))
/-- what is known at the entry -/
theorem en_start {l : Launch} (hflags : l.flags = flags0) {s : State} {b L : Nat} {xs : Nat → Int32} (hts : ∀ w ∈ lw_tbl, w.before #[Value.ref b] s = true) (hX : va_X b L xs s s.heap) (hbl : b < s.heap.size) (hgv : (Jvm.Cond.and given_1 narrow_1).before #[Value.ref b] s = true) :
    ∃ (D : va_G) (cc : ClassId × ClassId × ClassId × ClassId), En (l, (s.heap.size, b, L, xs), D, cc) s s.heap := by
  have hs := flat_of_before _ hgv
  have hw : ∀ {w : Cond}, w ∈ TW → w.before #[Value.ref b] s = true := fun h => hts _ (List.mem_filter.mp h).1
  obtain ⟨c0, s0, k0⟩ := u_known (C := RX0) (T := TX0) (N := 6) (n := 6) hts inX0 (hw is_RX0n)
  obtain ⟨c1, s1, k1⟩ := u_known (C := RX1) (T := TX1) (N := 7) (n := 7) hts inX1 (hw is_RX1n)
  obtain ⟨c2, s2, k2⟩ := u_known (C := RX2) (T := TX2) (N := 2) (n := 2) hts inX2 (hw is_RX2n)
  obtain ⟨c3, s3, k3⟩ := u_known (C := RX3) (T := TX3) (N := 4) (n := 4) hts inX3 (hw is_RX3n)
  obtain ⟨c4, s4, k4⟩ := u_known (C := RX4) (T := TX4) (N := 3) (n := 3) hts inX4 (hw is_RX4n)
  obtain ⟨c5, s5, k5⟩ := u_known (C := RX5) (T := TX5) (N := 2) (n := 2) hts inX5 (hw is_RX5n)
  obtain ⟨c6, s6, k6⟩ := u_known (C := RX6) (T := TX6) (N := 3) (n := 3) hts inX6 (hw is_RX6n)
  obtain ⟨cI, aI, rI⟩ := arr_prim (Or.inl rfl) (hw ac_int)
  obtain ⟨cS, aS, rS⟩ := arr_obj (hw ao_RX5)
  obtain ⟨cF, aF, rF⟩ := arr_obj (hw ao_RX1)
  refine ⟨(fun k => if k = 0 then c0 else if k = 1 then c1 else if k = 2 then c2 else if k = 3 then c3 else if k = 4 then c4 else if k = 5 then c5 else c6,
    fun k => if k = 0 then s0 else if k = 1 then s1 else if k = 2 then s2 else if k = 3 then s3 else if k = 4 then s4 else if k = 5 then s5 else s6), (cI, cI, cS, cF), ⟨?_, ?_⟩, fun w hm a => word_any (List.mem_filter.mp hm).2 (hts _ (List.mem_filter.mp hm).1), str_all hts hs, nc_all hs, ?_, ?_, hX, hbl, Nat.le_refl _, ?_⟩
  · intro c q hq
    match c, hq with
    | 0, hq => cases hq; exact k0
    | 1, hq => cases hq; exact k1
    | 2, hq => cases hq; exact k2
    | 3, hq => cases hq; exact k3
    | 4, hq => cases hq; exact k4
    | 5, hq => cases hq; exact k5
    | 6, hq => cases hq; exact k6
    | c + 7, hq => simp [vwCl] at hq
  · intro k q hq
    match k, hq with
    | 0, hq => cases hq; exact ⟨aI, rI⟩
    | 1, hq => cases hq; exact ⟨aI, rI⟩
    | 2, hq => cases hq; exact ⟨aS, rS⟩
    | 3, hq => cases hq; exact ⟨aF, rF⟩
    | k + 4, hq => simp [gT] at hq
  · exact vx_Zqof (hts _ (by decide +kernel)) (hts _ (by decide +kernel)) (hs _ (by decide +kernel)) (fun a ha => Nat.not_le.mpr ha)
  · exact vx_Zqof (hts _ (by decide +kernel)) (hts _ (by decide +kernel)) (hs _ (by decide +kernel)) (fun a ha => Nat.not_le.mpr ha)
  · show l.stackTraces = false
    unfold Launch.stackTraces
    rw [hflags]
    decide
def tup (x : ExceptionTableEntry) : Nat × Nat × Nat × Nat := (x.startPc, x.endPc, x.handlerPc, x.catchType)
theorem tup_of (t : List ExceptionTableEntry) : t = tableOf (t.map tup) := by
  unfold tableOf
  rw [List.map_map]
  exact (List.map_id t).symm
def KZ (b0 n0 : Nat) : K0 := fun below args s mc ms t => (args = #[Value.ref b0] ∧ mc = 855672 ∧ ms = 6534166 ∧ s.heap.size = n0) → lw_Z below args s t
/-- more room does no harm -/
theorem W_room {p : Program} {l : Launch} {e : Env} {R R' : Room} {s : State} {m : MethodId} {args : Array Value} {below : List Frame} {meth : Method} {c : Code} {H : Heap} {locs : List Loc} {cells slots : Nat} {Q : State → Prop} {g : JFrame} (h1 : R'.frames ≤ R.frames) (h2 : R'.cells ≤ R.cells) (h3 : R'.slots ≤ R.slots) (h4 : R'.locals ≤ R.locals) (k : W p l e R' s m args below meth c H locs cells slots Q g) : W p l e R s m args below meth c H locs cells slots Q g := by
  intro T hT X
  have hr := X.room
  have hn : s.hasRoom e.platform R' = true := by
    simp only [State.hasRoom, Bool.and_eq_true, decide_eq_true_eq] at hr ⊢
    obtain ⟨⟨⟨⟨a, b1, b2, b3, b4, b5⟩, c1⟩, d1⟩, e1⟩ := hr
    exact ⟨⟨⟨⟨by omega, by omega, by omega, by omega, by omega, b5⟩, by omega⟩, by omega⟩, e1⟩
  exact k T hT { X with room := hn }
theorem lw_retR {p : Program} {l : Launch} {e : Env} {R : Room} {s : State} {m : MethodId} {below : List Frame} {meth : Method} {c : Code} {b : Nat} {d0 : Drawn} (hd0 : s.drawn.sameBut d0 lw_cs) (hx : p.tables.exec = Jvm.exec) (hb : c.code = code) (hr : meth.sig.returnType = ret) (hlocks : meth.locks = false) {pc : Nat} {H : Heap} {ls : Array Slot} (hdg : decode code pc = .ok (.ireturn, 1)) : W p l e R (s.setDrawn d0) m #[Value.ref b] below meth c H [] 855672 6534166 (lw_Z below #[Value.ref b] s) (F0 m pc ls [.int 1]) := by
  intro T hT X
  obtain ⟨fs, hret, hrun, hended, hW, hframe⟩ := X.leave (v := some (.int 1)) (hlocks := hlocks) (fun h => by rw [hr] at h; cases h)
  have hmeth' : T.vm.method? m = some meth := X.method'
  refine ⟨T.setFrames fs, ?_, .returned (some (.int 1)), hrun, hended, rfl, lw_closed hd0 ⟨_, rfl⟩ hW hframe⟩
  jvm_step X.here [X.here.top, hx, hb, hdg, hmeth', hr, ret, narrow_b1]
  (try refine ⟨rfl, ?_⟩); (try refine ⟨rfl, ?_⟩)
  first | (intro acts; rw [hret _ acts rfl rfl rfl]) | rw [hret _ _ rfl rfl rfl]
  exact Steps.refl _
theorem law_end {g : G0} {nm : String} {hh : List (Nat × Nat × Nat × Nat)} {b0 : Nat} {kc ks : Nat} {op : Bool} {L : List (Option Value)} {w : Wd} : V g (mL nm hh) 13 kc ks op (KZ b0 (gB g)) 399 L [] w := by
  refine V_iconst (v := 1) (by decide) dL_law_399 ?_
  intro p e s m args below meth c H locs cells slots ls mc ms A Z
  obtain ⟨hx, hb, hml, hr, hown, hlk, hnm, htb, hE⟩ := id A
  obtain ⟨hls, hH, hop, hS, hkc, hks⟩ := id Z
  by_cases hc : args = #[Value.ref b0] ∧ mc = 855672 ∧ ms = 6534166 ∧ s.heap.size = gB g
  · obtain ⟨rfl, rfl, rfl, hsz⟩ := hc
    have h9 := lw_retR (l := gl g) (R := { frames := 13, cells := 855672, slots := 6534166, locals := 36 * 13 }) (e := e) (m := m) (below := below) (meth := meth) (c := c) (b := b0) (H := H) (ls := ls) (pc := 400) (p := p) (s := s) (d0 := s.drawn) (Drawn.sameBut.refl s.drawn lw_cs) hx hb hr hlk dL_law_400
    refine va_forget (fun q hq => by rw [hsz]; exact hS.2.2 q hq) ?_
    refine W.widen (k := 855672) (n := 6534166) (by omega) (by omega) ?_
    intro T hT X
    obtain ⟨t, a1, b1⟩ := h9 T hT X
    exact ⟨t, a1, fun _ => b1⟩
  · intro T hT X
    exact ⟨T.setTop (F0 m 400 ls [.int 1]), Steps.refl _, fun z => absurd z hc⟩
theorem start_of {p : Program} {e : Env} {s : State} {m : MethodId} {below : List Frame} {meth : Method} {c : Code} (l : Launch) (hflags : l.flags = flags0) {b L : Nat} {xs : Nat → Int32} (hL : L ≤ 260) (C0 : lw_At p s m meth c b L xs) : W p l e room_1 s m #[Value.ref b] below meth c s.heap [] 0 0 (lw_Z below #[Value.ref b] s) (entryFrame m ([Value.ref b] : List Value).toArray 14) := by
  obtain ⟨hx, hb, hr, hml, hown, hts, hX, hbl, hlocks, hgv⟩ := id C0
  obtain ⟨D, cc, hE⟩ := en_start hflags hts hX hbl hgv
  have hV := law_start (g := (l, (s.heap.size, b, L, xs), D, cc)) (nm := meth.name) (hh := c.exceptionTable.toList.map tup) (K0' := KZ b s.heap.size) hL (fun kc ks i j L => law_end)
  have hl := lv_entry ([.ref b]) (n := 14) (Nat.le_of_ble_eq_true rfl)
  rw [lg_entry_eq]
  generalize (lg_sl ([.ref b]) ++ List.replicate (14 - (lg_sl ([.ref b])).length) Slot.unset).toArray = ls at hl ⊢
  have hl : lv_has ls 14 [(0, .ref b)] := hl
  have h9 := hV p e s m #[Value.ref b] below meth c s.heap [] 0 0 ls 855672 6534166 ⟨hx, hb, hml, hr, hown, hlocks, rfl, tup_of _, hE⟩ ⟨hl, ⟨fun k q h => by rw [show wl _ (wo 0 z0 q0) = [] from rfl] at h; simp at h, by show 0 ≤ 900; omega, by show s.heap.size + 0 ≤ s.heap.size; omega⟩, fun _ => rfl, va_S.rf, by omega, by omega⟩
  refine W_room (R' := { frames := 13, cells := 855672, slots := 6534166, locals := 36 * 13 }) (Nat.le_of_ble_eq_true rfl) (Nat.le_of_ble_eq_true rfl) (Nat.le_of_ble_eq_true rfl) (Nat.le_of_ble_eq_true rfl) ?_
  intro T hT X
  obtain ⟨t, a1, b1⟩ := h9 T hT X
  exact ⟨t, a1, b1 ⟨rfl, rfl, rfl, rfl⟩⟩
