/-! ===== the abstract world, and the judgement V over it ===== -/
abbrev G0 : Type := Launch × (Nat × Nat × Nat × (Nat → Int32)) × va_G × (ClassId × ClassId × ClassId × ClassId)
abbrev gl (g : G0) : Launch := g.1
abbrev gB (g : G0) : Nat := g.2.1.1
abbrev gb (g : G0) : Nat := g.2.1.2.1
abbrev gL (g : G0) : Nat := g.2.1.2.2.1
abbrev gx (g : G0) : Nat → Int32 := g.2.1.2.2.2
abbrev gD (g : G0) : va_G := g.2.2.1
abbrev gcI (g : G0) : ClassId := g.2.2.2.1
abbrev gcJ (g : G0) : ClassId := g.2.2.2.2.1
abbrev gcS (g : G0) : ClassId := g.2.2.2.2.2.1
abbrev gcF (g : G0) : ClassId := g.2.2.2.2.2.2
/-- the place 999 is the script; every other place is an offset from the heap's size at the law's entry -/
def ad (g : G0) (k : Nat) : Nat := if k = 999 then gb g else gB g + k
def cv (g : G0) (v : Value) : Value := match v with
  | .ref k => .ref (ad g k)
  | v => v
abbrev Wd : Type := Nat × (Nat → Nat × Nat) × (Nat → Nat → Int32) × (Nat → Nat → Int64) × (Nat → Nat → Option Nat)
abbrev wN (w : Wd) : Nat := w.1
abbrev wS (w : Wd) : Nat → Nat × Nat := w.2.1
abbrev wI (w : Wd) : Nat → Nat → Int32 := w.2.2.1
abbrev wJ (w : Wd) : Nat → Nat → Int64 := w.2.2.2.1
abbrev wR (w : Wd) : Nat → Nat → Option Nat := w.2.2.2.2
def up2 {α : Type} (f : Nat → Nat → α) (k i : Nat) (v : α) : Nat → Nat → α := fun a b => if a = k ∧ b = i then v else f a b
abbrev sI (w : Wd) (k i : Nat) (v : Int32) : Wd := (wN w, wS w, up2 (wI w) k i v, wJ w, wR w)
abbrev sJ (w : Wd) (k i : Nat) (v : Int64) : Wd := (wN w, wS w, wI w, up2 (wJ w) k i v, wR w)
abbrev sR (w : Wd) (k i : Nat) (v : Option Nat) : Wd := (wN w, wS w, wI w, wJ w, up2 (wR w) k i v)
def tX (c : Nat) : Nat → FieldType := match c with
  | 0 => tyX0
  | 1 => tyX1
  | 2 => tyX2
  | 3 => tyX3
  | 4 => tyX4
  | 5 => tyX5
  | 6 => tyX6
  | _ => tyX7
def nX (c : Nat) : Nat := match c with
  | 0 => 6
  | 1 => 7
  | 2 => 2
  | 3 => 4
  | 4 => 3
  | 5 => 2
  | 6 => 3
  | _ => 0
def TX (c : Nat) : u_T := match c with
  | 0 => TX0
  | 1 => TX1
  | 2 => TX2
  | 3 => TX3
  | 4 => TX4
  | 5 => TX5
  | 6 => TX6
  | _ => TX7
def RX (c : Nat) : String := match c with
  | 0 => RX0
  | 1 => RX1
  | 2 => RX2
  | 3 => RX3
  | 4 => RX4
  | 5 => RX5
  | 6 => RX6
  | _ => RX7
def fv (g : G0) (w : Wd) (k f : Nat) (t : FieldType) : Value := match t with
  | .long => .long (wJ w k f)
  | .object _ => va_rf ((wR w k f).map (ad g))
  | .array _ => va_rf ((wR w k f).map (ad g))
  | _ => .int (wI w k f)
def ce (g : G0) (w : Wd) (k : Nat) : va_E :=
  if (wS w k).1 = 10 then .inl (gcI g, (wS w k).2, .inl (wI w k))
  else if (wS w k).1 = 11 then .inl (gcJ g, (wS w k).2, .inr (.inl (wJ w k)))
  else if (wS w k).1 = 12 then .inl (gcS g, (wS w k).2, .inr (.inr (.inr (.inr (fun i => (wR w k i).map (ad g))))))
  else if (wS w k).1 = 13 then .inl (gcF g, (wS w k).2, .inr (.inr (.inr (.inr (fun i => (wR w k i).map (ad g))))))
  else .inr ((wS w k).1, (List.range (nX (wS w k).1)).map (fun f => fv g w k f (tX (wS w k).1 f)))
def wl (g : G0) (w : Wd) : va_W := (List.range (wN w)).map (fun k => (ad g k, ce g w k))
theorem wl_at {g : G0} {w : Wd} {k : Nat} (h : k < wN w) : (wl g w)[k]? = some (ad g k, ce g w k) := by
  unfold wl
  rw [List.getElem?_map, List.getElem?_range h]; rfl
theorem wl_len (g : G0) (w : Wd) : (wl g w).length = wN w := by unfold wl; simp
theorem wl_set {g : G0} {w w' : Wd} {k : Nat} (hn : wN w' = wN w) (hk : k < wN w) (ho : ∀ j, j ≠ k → ce g w' j = ce g w j) : (wl g w).set k (ad g k, ce g w' k) = wl g w' := by
  refine List.ext_getElem? fun j => ?_
  rcases Nat.lt_or_ge j (wN w) with hj | hj
  · rw [wl_at (w := w') (by omega)]
    by_cases h : j = k
    · subst h
      rw [List.getElem?_set_self (by rw [wl_len]; exact hk)]
    · rw [List.getElem?_set_ne (fun z => h z.symm), wl_at hj, ho j h]
  · rw [List.getElem?_eq_none (by rw [List.length_set, wl_len]; exact hj), List.getElem?_eq_none (by rw [wl_len, hn]; exact hj)]
theorem wl_push {g : G0} {w w' : Wd} (hn : wN w' = wN w + 1) (ho : ∀ j, j < wN w → ce g w' j = ce g w j) : wl g w ++ [(ad g (wN w), ce g w' (wN w))] = wl g w' := by
  unfold wl
  rw [hn, List.range_succ, List.map_append]
  congr 1
  refine List.map_congr_left fun j hj => ?_
  rw [ho j (List.mem_range.mp hj)]
theorem ad_lt {g : G0} {k : Nat} (h : k < 999) : ad g k = gB g + k := if_neg (by omega)
abbrev gA (g : G0) : Nat → Prop := fun q => gB g ≤ q
theorem wl_D {g : G0} {w : Wd} (h : wN w ≤ 900) : va_D (gA g) (wl g w) := by
  have key : ∀ (i : Nat) (p : Nat × va_E), (wl g w)[i]? = some p → i < wN w ∧ p.1 = gB g + i := by
    intro i p hi
    have hl : i < wN w := by rw [← wl_len g w]; exact (List.getElem?_eq_some_iff.mp hi).1
    rw [wl_at hl] at hi
    cases hi
    exact ⟨hl, ad_lt (by omega)⟩
  refine ⟨fun i j p q hi hj e => ?_, fun k q hk => ?_⟩
  · have a := key i p hi
    have b := key j q hj
    omega
  · have a := key k q hk
    show gB g ≤ q.1
    omega
/-- the world w stands in the heap H -/
def Hd (g : G0) (w : Wd) (H : Heap) : Prop := va_P (gD g) vwCl (wl g w) H ∧ wN w ≤ 900 ∧ gB g + wN w ≤ H.size
abbrev gT (g : G0) : List (ClassId × FieldType) := [(gcI g, .int), (gcI g, .int), (gcS g, .object RX5), (gcF g, .object RX1)]
def isNest (w : Cond) : Bool := match w with
  | .fieldLinkNest _ _ _ _ _ _ => true
  | .methodLinkNest _ _ _ _ => true
  | .castable _ _ => true
  | .declares _ => true
  | .arrayOver (.object _) => true
  | _ => false
def okW (w : Cond) : Bool := goodWord w || isNest w
def TW : List Cond := lw_tbl.filter okW
/-- the String constants of the class: owner, place -/
def strs : List (String × Nat × String) := [("StreetEditions", 234, "no state is saved"), ("StreetEditions", 266, "there is no such street"), ("StreetEditions", 46, "the street is in the draft"), ("StreetEditions", 65, "the street is not in the draft"), ("StreetEditions", 74, "the draft is the published list"), ("StreetEditions", 274, "there is no such follower"), ("StreetEditions", 276, "the follower is asleep"), ("StreetEditions", 172, "the follower is awake"), ("StreetEditions", 87, "the edition is out of range or the present one"), ("StreetEditions", 93, "the count is out of range"), ("StreetEditions", 269, "there is no such difference"), ("StreetEditions", 142, "an edition number is out of range")]
def ncs : List (String × String) := [("java/lang/IllegalStateException", "java/lang/IndexOutOfBoundsException"), ("java/lang/IllegalStateException", "java/lang/IllegalArgumentException")]
/-- what the walk knows of the tables and of the cells that are not its own -/
def En (g : G0) (s : State) (H : Heap) : Prop :=
  va_K (gD g) vwCl (gT g) s ∧ (∀ w ∈ TW, ∀ a : Array Value, w.before a s = true) ∧ (∀ q ∈ strs, ∃ sa : Nat, vk_R q.1 q.2.1 q.2.2 sa s) ∧ (∀ q ∈ ncs, va_Nc q.1 q.2 s) ∧
  vx_Zq Bundle.tN "UNASSIGNED_STACK" Bundle.steD (gA g) s H ∧ vx_Zq Bundle.tN "SUPPRESSED_SENTINEL" Bundle.listD (gA g) s H ∧ va_X (gb g) (gL g) (gx g) s H ∧ gb g < gB g ∧ gB g ≤ H.size ∧ (gl g).stackTraces = false
theorem En.moved {g : G0} {s U : State} {H : Heap} (hW : s.WarmedH U.vm) (h : En g s H) : En g U H := by
  obtain ⟨h1, h2, h3, h4, h5, h6, h7, h8⟩ := h
  refine ⟨va_K.moved hW.alike h1, fun w hw a => ?_, fun q hq => ?_, fun q hq => va_Nc.moved hW.alike (h4 q hq), vx_Zq.moved hW.alike h5, vx_Zq.moved hW.alike h6, va_X.moved hW.alike h7, h8⟩
  · have h9 := h2 w hw #[]
    have ho : okW w = true := (List.mem_filter.mp hw).2
    unfold okW at ho
    rw [Bool.or_eq_true] at ho
    rcases ho with ho | ho
    · exact word_at hW (good_of_word ho) h9
    · cases w <;> simp only [isNest] at ho <;> first | cases ho | skip
      all_goals first | exact va_Nw.use rfl (va_Nw.warmM hW h9) | exact va_Nw.use rfl (va_Nw.warmF hW h9) | exact va_Nw.use rfl (va_Nw.warmC hW h9) | exact va_Nw.use rfl (va_Nw.warmD hW h9) | (rename_i t9; cases t9 <;> first | (cases ho; done) | exact va_AO.use (va_AO.moved hW.alike (va_AO.of h9)))
  · obtain ⟨sa, h9⟩ := h3 q hq
    exact ⟨sa, vk_R.warm hW h9⟩
theorem En.kept {g : G0} {s : State} {H H1 : Heap} (h : En g s H) (hz : H.size ≤ H1.size) (hq : ∀ a : Nat, a < H.size → ¬ gA g a → H1[a]? = H[a]?) : En g s H1 := by
  obtain ⟨h1, h2, h3, h4, h5, h6, h7, h8, h9, h10⟩ := h
  exact ⟨h1, h2, h3, h4, h5.kept hq, h6.kept hq, h7.kept (hq _ (by omega) (by show ¬ gB g ≤ gb g; omega)), h8, Nat.le_trans h9 hz, h10⟩
theorem Hd.P {g : G0} {w : Wd} {H : Heap} (h : Hd g w H) : va_P (gD g) vwCl (wl g w) H := h.1
theorem Hd.D {g : G0} {w : Wd} {H : Heap} (h : Hd g w H) : va_D (gA g) (wl g w) := wl_D h.2.1
/-- a method: name, code, locals, result, handlers -/
abbrev M0 : Type := MethodName × ByteArray × Nat × Option FieldType × List (Nat × Nat × Nat × Nat)
abbrev M0.nm (M : M0) : MethodName := M.1
abbrev M0.co (M : M0) : ByteArray := M.2.1
abbrev M0.ml (M : M0) : Nat := M.2.2.1
abbrev M0.rt (M : M0) : Option FieldType := M.2.2.2.1
abbrev M0.hh (M : M0) : List (Nat × Nat × Nat × Nat) := M.2.2.2.2
def Am (g : G0) (M : M0) (p : Program) (s : State) (m : MethodId) (meth : Method) (c : Code) : Prop :=
  p.tables.exec = Jvm.exec ∧ c.code = M.co ∧ c.maxLocals = M.ml ∧ meth.sig.returnType = M.rt ∧ s.vm.findClass M.nm.cls = some m.cls ∧ meth.locks = false ∧ meth.name = M.nm.name ∧ c.exceptionTable.toList = tableOf M.hh ∧ En g s s.heap
def lcl (g : G0) : Nat → List (Option Value) → List (Nat × Value)
  | _, [] => []
  | i, none :: t => lcl g (i + 1) t
  | i, some v :: t => (i, cv g v) :: lcl g (i + 1) t
def At0 (g : G0) (M : M0) (op : Bool) (w : Wd) (s : State) (H : Heap) (locs : List Loc) (cells slots mc ms kc ks : Nat) (ls : Array Slot) (L : List (Option Value)) : Prop :=
  lv_has ls M.ml (lcl g 0 L) ∧ Hd g w H ∧ (op = true → H.size = gB g + wN w) ∧ va_S (gA g) s.heap H locs ∧ cells + kc ≤ mc ∧ slots + ks ≤ ms
abbrev K0 : Type := List Frame → Array Value → State → Nat → Nat → State → Prop
/-- from here the method M comes to K; d frames, kc cells, ks slots are left to it -/
def V (g : G0) (M : M0) (d kc ks : Nat) (op : Bool) (K : K0) (pc : Nat) (L : List (Option Value)) (S : List Value) (w : Wd) : Prop :=
  ∀ (p : Program) (e : Env) (s : State) (m : MethodId) (args : Array Value) (below : List Frame) (meth : Method) (c : Code) (H : Heap) (locs : List Loc) (cells slots : Nat) (ls : Array Slot) (mc ms : Nat),
    Am g M p s m meth c → At0 g M op w s H locs cells slots mc ms kc ks ls L →
    W p (gl g) e { frames := d, cells := mc, slots := ms, locals := 36 * d } s m args below meth c H locs cells slots (K below args s mc ms) (F0 m pc ls (S.map (cv g)))
abbrev Res : Type := Option Value ⊕ String
def QcR (g : G0) (op : Bool) (P : Res → Wd → Prop) : Array Value → State → Outcome → State → Prop := fun _ st o t =>
  ∃ (v : Option Value) (w' : Wd), o = .returned (v.map (cv g)) ∧ P (.inl v) w' ∧ Hd g w' t.heap ∧ (op = true → t.heap.size = gB g + wN w') ∧ va_F (gA g) st t
def XcR (g : G0) (P : Res → Wd → Prop) : String → State → State → Prop := fun E st t => ∃ w' : Wd, P (.inr E) w' ∧ Hd g w' t.heap ∧ va_F (gA g) st t
def Kp (g : G0) (op : Bool) (P : Res → Wd → Prop) : K0 := fun below args s mc ms => vx_MQ below (QcR g op P) (XcR g P) args s mc ms (gA g)
def ini : List Value → List (Option Value)
  | [] => []
  | .long x :: t => some (.long x) :: none :: ini t
  | .double x :: t => some (.double x) :: none :: ini t
  | v :: t => some v :: ini t
def PcR (g : G0) (op : Bool) (args : List Value) (w : Wd) : Array Value → State → Prop := fun a U => a = (args.map (cv g)).toArray ∧ En g U U.heap ∧ Hd g w U.heap ∧ (op = true → U.heap.size = gB g + wN w)
theorem PcR.blind (g : G0) (op : Bool) (args : List Value) (w : Wd) : FrameBlind (PcR g op args w) := by
  intro a U f mk h
  obtain ⟨h1, h2, h3, h4⟩ := h
  exact ⟨h1, En.moved (s := U) (U := U.calling f mk a) (State.WarmedH.refl U) h2, h3, h4⟩
theorem cv_cat (g : G0) (v : Value) : (cv g v).category = v.category := by cases v <;> rfl
theorem lcl_args (g : G0) : ∀ (args : List Value) (i : Nat) (n : Nat), lcl g i (ini args ++ List.replicate n none) = lv_args i (args.map (cv g)) := by
  have rep : ∀ (n i : Nat), lcl g i (List.replicate n none) = [] := by
    intro n
    induction n with
    | zero => intro i; rfl
    | succ n ih => intro i; rw [List.replicate_succ]; exact ih (i + 1)
  intro args
  induction args with
  | nil => intro i n; exact rep n i
  | cons v t ih =>
    intro i n
    cases v <;> simp [ini, lcl, lv_args, cv, Value.category, ih]
