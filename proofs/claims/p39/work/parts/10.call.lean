/-! ===== calls ===== -/
/-- the method M, called with args in the world w, comes to P -/
def C (g : G0) (M : M0) (d kc ks : Nat) (op : Bool) (args : List Value) (w : Wd) (P : Res → Wd → Prop) : Prop :=
  V g M d kc ks op (Kp g op P) 0 (ini args ++ List.replicate (M.ml - (ini args).length) none) [] w
theorem sl_ini (g : G0) : ∀ args : List Value, (lg_sl (args.map (cv g))).length = (ini args).length := by
  intro args
  induction args with
  | nil => rfl
  | cons v t ih =>
    have h : lg_sl ((v :: t).map (cv g)) = lg_sl [cv g v] ++ lg_sl (t.map (cv g)) := by simp [lg_sl]
    rw [h, List.length_append, ih]
    cases v <;> simp [lg_sl, ini, cv, Value.category] <;> omega
theorem met_vx {g : G0} {M : M0} {d kc ks : Nat} {op : Bool} {args : List Value} {w : Wd} {P : Res → Wd → Prop} (hn : plainName M.nm.cls = true) (hh : M.hh = []) (hl : (ini args).length ≤ M.ml) (h : C g M d kc ks op args w P) :
    vx_Met (gl g) M.nm [Cond.code M.nm M.co M.ml M.rt] { frames := d, cells := kc, slots := ks, locals := 36 * d } (PcR g op args w) (QcR g op P) (XcR g P) kc ks (gA g) := by
  refine vx_ofW (ws' := []) hn rfl ?_
  intro p e s m a below meth c s₁ B hml ht hv
  obtain ⟨rfl, hE, hH, hop⟩ := hv
  have hle := lv_entry (args.map (cv g)) (n := M.ml) (by rw [sl_ini]; exact hl)
  rw [lg_entry_eq]
  refine h p e s m _ below meth c s.heap [] 0 0 _ kc ks ⟨B.exec, B.bytes, hml, B.returns, findClass_of_methodNamed B.named, B.notSynchronized, (name_of_methodNamed B.named B.method).1, ?_, hE⟩ ⟨?_, hH, hop, va_S.rf, by omega, by omega⟩
  · rw [hh]
    exact List.eq_nil_iff_forall_not_mem.mpr ht
  · rw [lcl_args]
    exact hle
theorem met_vxW {g : G0} {M : M0} {d kc ks : Nat} {op : Bool} {args : List Value} {w : Wd} {P : Res → Wd → Prop} (hn : plainName M.nm.cls = true) (hl : (ini args).length ≤ M.ml) (h : C g M d kc ks op args w P) :
    vx_Met (gl g) M.nm [Cond.codeWith M.nm M.co M.ml M.rt M.hh] { frames := d, cells := kc, slots := ks, locals := 36 * d } (PcR g op args w) (QcR g op P) (XcR g P) kc ks (gA g) := by
  refine vx_ofWH (ws' := []) hn rfl ?_
  intro p e s m a below meth c s₁ B hml hv
  obtain ⟨rfl, hE, hH, hop⟩ := hv
  have hle := lv_entry (args.map (cv g)) (n := M.ml) (by rw [sl_ini]; exact hl)
  rw [lg_entry_eq]
  refine h p e s m _ below meth c s.heap [] 0 0 _ kc ks ⟨B.exec, B.bytes, hml, B.returns, findClass_of_methodNamed B.named, B.notSynchronized, (name_of_methodNamed B.named B.method).1, ?_, hE⟩ ⟨?_, hH, hop, va_S.rf, by omega, by omega⟩
  · exact vx_table (x := M.nm) B (atoms_spec (ws := [Cond.codeWith M.nm M.co M.ml M.rt M.hh]) B.pre _ List.mem_cons_self)
  · rw [lcl_args]
    exact hle
/-- it returns v in the world w' -/
abbrev rets (v : Option Value) (w' : Wd) : Res → Wd → Prop := fun r u => r = .inl v ∧ u = w'
abbrev thrs (E : String) (w' : Wd) : Res → Wd → Prop := fun r u => r = .inr E ∧ u = w'
theorem met_of_vx {l : Launch} {y : MethodName} {ws : List Cond} {rm : Room} {Pc : Array Value → State → Prop} {Qc : Array Value → State → Outcome → State → Prop} {XC : String → State → State → Prop} {mc ms : Nat} {free : Addr → Prop} (h : vx_Met l y ws rm Pc Qc XC mc ms free) (hx : ∀ E st t, ¬ XC E st t) : Met l y ws rm Pc Qc mc ms free := by
  intro p e ha hc hk s m args below hf happ hP hK
  obtain ⟨n, o, h1, h2, h3, h4⟩ := h p e ha hc hk s m args below hf happ hP hK
  refine ⟨n, o, h1, h2, h3, ?_⟩
  rcases h4 with h4 | ⟨q, _, E, ce, L, hX, _⟩
  · exact h4
  · exact absurd hX (hx _ _ _)
abbrev wsOf (M : M0) : List Cond := match M.hh with
  | [] => [Cond.code M.nm M.co M.ml M.rt]
  | _ => [Cond.codeWith M.nm M.co M.ml M.rt M.hh]
/-- what every call asks of the callee's name -/
def nameOk (M : M0) (n : Nat) : Prop := (M.nm.cls ≠ "java/lang/invoke/MethodHandle" ∧ M.nm.cls ≠ "java/lang/invoke/VarHandle") ∧ (parseMethodDescriptor M.nm.desc).map (fun d => d.parameters.length) = some n
/-- the instruction at pc calls M', with n values ahead of the stack (the receiver too), of whose class is what c says -/
def LkR (g : G0) (M : M0) (pc : Nat) (M' : M0) (n : Nat) (vc : Option Nat) : Prop :=
  ∀ (p : Program) (e : Env) (R : Room) (s : State) (m : MethodId) (args : Array Value) (below : List Frame) (meth : Method) (c : Code) (H : Heap) (locs : List Loc) (cells slots : Nat) (ls : Array Slot) (rm : Room) (mc ms : Nat) (Pc : Array Value → State → Prop) (Qc : Array Value → State → Outcome → State → Prop) (As rest : List Value),
    Am g M p s m meth c → Met (gl g) M'.nm [Cond.code M'.nm M'.co M'.ml M'.rt] rm Pc Qc mc ms (gA g) → rm.cells = mc → rm.slots = ms → rm.frames + 1 ≤ R.frames → 8 + (M'.ml + 11) + rm.locals ≤ R.locals → As.length = n → FrameBlind Pc → (∀ U : State, U.heap = H → s.WarmedH U.vm → Pc As.toArray U) →
    (∀ ci, vc = some ci → ∃ (a : Nat) (As' : List Value) (cellB : Cell), As = .ref a :: As' ∧ H[a]? = some cellB ∧ cellB.vm.isStatics = false ∧ s.vm.findClass M'.nm.cls = some cellB.cls) → ls.size = M.ml → (rest.map fun v => v.category).sum ≤ 8 → cells + mc ≤ R.cells ∧ slots + ms ≤ R.slots →
    va_Run p (gl g) e R s m args below meth c H locs cells slots mc ms (F0 m pc ls (As.reverse ++ rest)) rest (Qc As.toArray) (gA g)
def LkX (g : G0) (M : M0) (pc : Nat) (M' : M0) (n : Nat) (vc : Option Nat) : Prop :=
  ∀ (p : Program) (e : Env) (R : Room) (s : State) (m : MethodId) (args : Array Value) (below : List Frame) (meth : Method) (c : Code) (H : Heap) (locs : List Loc) (cells slots : Nat) (ls : Array Slot) (rm : Room) (mc ms : Nat) (Pc : Array Value → State → Prop) (Qc : Array Value → State → Outcome → State → Prop) (XC : String → State → State → Prop) (As rest : List Value),
    Am g M p s m meth c → vx_Met (gl g) M'.nm [Cond.code M'.nm M'.co M'.ml M'.rt] rm Pc Qc XC mc ms (gA g) → rm.cells = mc → rm.slots = ms → rm.frames + 1 ≤ R.frames → 8 + (M'.ml + 11) + rm.locals ≤ R.locals → As.length = n → FrameBlind Pc → (∀ U : State, U.heap = H → s.WarmedH U.vm → Pc As.toArray U) →
    (∀ ci, vc = some ci → ∃ (a : Nat) (As' : List Value) (cellB : Cell), As = .ref a :: As' ∧ H[a]? = some cellB ∧ cellB.vm.isStatics = false ∧ s.vm.findClass M'.nm.cls = some cellB.cls) → ls.size = M.ml → (rest.map fun v => v.category).sum ≤ 8 → cells + mc ≤ R.cells ∧ slots + ms ≤ R.slots →
    vx_Run p (gl g) e R s m args below meth c H locs cells slots mc ms (F0 m pc ls (As.reverse ++ rest)) rest (Qc As.toArray) XC (gA g)
theorem okW_code (y : MethodName) (b : ByteArray) (n : Nat) (r : Option FieldType) : goodWord (Cond.code y b n r) = true := rfl
theorem nameOk_len {M : M0} {n : Nat} (h : nameOk M n) : ∀ sig, parseMethodDescriptor M.nm.desc = some sig → n = sig.parameters.length := by
  intro sig h1
  have h2 := h.2
  rw [h1] at h2
  exact (Option.some.inj h2).symm
section LINKS
variable {g : G0} {M M' : M0} {pc n idx : Nat}
theorem code_pay {s : State} {args : Array Value} (hE : ∀ w ∈ TW, w.before args s = true) (hc : Cond.code M'.nm M'.co M'.ml M'.rt ∈ TW) : ∀ w ∈ [Cond.code M'.nm M'.co M'.ml M'.rt], ∀ (a' : Array Value) (U : State), s.WarmedH U.vm → w.before a' U = true := by
  intro w hw a' U hW
  rcases List.mem_singleton.mp hw with rfl
  exact word_at hW (good_of_word rfl) (hE _ hc)
theorem rs_cons (a : Value) (As rest : List Value) : (a :: As).reverse ++ rest = As.reverse ++ a :: rest := by simp
theorem callB_mk {R : Room} {s : State} {args : Array Value} {rm : Room} {mc ms : Nat} (hE : ∀ w ∈ TW, w.before args s = true) (hl : Cond.methodLink M.nm.cls idx M'.nm ∈ TW) (hini : Cond.initialized M'.nm.cls ∈ TW) (hc : Cond.code M'.nm M'.co M'.ml M'.rt ∈ TW) (hok : nameOk M' n) (h1 : rm.cells = mc) (h2 : rm.slots = ms) (h3 : rm.frames + 1 ≤ R.frames) (h4 : 8 + (M'.ml + 11) + rm.locals ≤ R.locals) :
    CallB R s args M.nm.cls idx M'.nm M'.co M'.ml M'.rt [Cond.code M'.nm M'.co M'.ml M'.rt] rm mc ms n :=
  ⟨h1, h2, h3, h4, code_pay hE hc, List.mem_cons_self, hE _ hc, hE _ hini, hok.1, nameOk_len hok, hE _ hl⟩
theorem LkR.V (hd : decode M.co pc = .ok (.invokevirtual idx, 3)) (hl : Cond.methodLink M.nm.cls idx M'.nm ∈ TW) (hin : Cond.instanceMethod M'.nm ∈ TW) (hse : Cond.selects M'.nm.cls M'.nm M'.nm ∈ TW) (hini : Cond.initialized M'.nm.cls ∈ TW) (hc : Cond.code M'.nm M'.co M'.ml M'.rt ∈ TW) (hok : nameOk M' n) (ci : Nat) : LkR g M pc M' (n + 1) (some ci) := by
  intro p e R s m args below meth c H locs cells slots ls rm mc ms Pc Qc As rest A hM h1 h2 h3 h4 h5 h6 h7 h8 h9 h10 h11
  obtain ⟨hx, hb, hml, hr, hown, hlk, hnm, htb, hE⟩ := id A
  have hts : ∀ w ∈ TW, w.before args s = true := fun w hw => hE.2.1 w hw args
  obtain ⟨a, As', cellB, rfl, hcB, hoB, hclB⟩ := h8 ci rfl
  rw [rs_cons]
  exact va_runV (Ts := TW) ⟨hx, hb, hml, hown, hts⟩ hM ⟨callB_mk hts hl hini hc hok h1 h2 h3 h4, hts _ hin, hts _ hse⟩ ⟨h6, ⟨cellB, hcB, hoB, hclB⟩, h7⟩ rfl (by simpa using h5) h9 rfl (lv_room (m := m) (pc := pc) (ls := ls) (rest := As'.reverse ++ Value.ref a :: rest) h10) hd h11
theorem LkX.V (hd : decode M.co pc = .ok (.invokevirtual idx, 3)) (hl : Cond.methodLink M.nm.cls idx M'.nm ∈ TW) (hin : Cond.instanceMethod M'.nm ∈ TW) (hse : Cond.selects M'.nm.cls M'.nm M'.nm ∈ TW) (hini : Cond.initialized M'.nm.cls ∈ TW) (hc : Cond.code M'.nm M'.co M'.ml M'.rt ∈ TW) (hok : nameOk M' n) (ci : Nat) : LkX g M pc M' (n + 1) (some ci) := by
  intro p e R s m args below meth c H locs cells slots ls rm mc ms Pc Qc XC As rest A hM h1 h2 h3 h4 h5 h6 h7 h8 h9 h10 h11
  obtain ⟨hx, hb, hml, hr, hown, hlk, hnm, htb, hE⟩ := id A
  have hts : ∀ w ∈ TW, w.before args s = true := fun w hw => hE.2.1 w hw args
  obtain ⟨a, As', cellB, rfl, hcB, hoB, hclB⟩ := h8 ci rfl
  rw [rs_cons]
  exact vx_runV (Ts := TW) ⟨hx, hb, hml, hown, hts⟩ hM ⟨callB_mk hts hl hini hc hok h1 h2 h3 h4, hts _ hin, hts _ hse⟩ ⟨h6, ⟨cellB, hcB, hoB, hclB⟩, h7⟩ rfl (by simpa using h5) h9 rfl (lv_room (m := m) (pc := pc) (ls := ls) (rest := As'.reverse ++ Value.ref a :: rest) h10) hd h11
theorem LkR.S (hd : decode M.co pc = .ok (.invokestatic idx, 3)) (hl : Cond.methodLink M.nm.cls idx M'.nm ∈ TW) (hst : Cond.static M'.nm ∈ TW) (hini : Cond.initialized M'.nm.cls ∈ TW) (hc : Cond.code M'.nm M'.co M'.ml M'.rt ∈ TW) (hok : nameOk M' n) : LkR g M pc M' n none := by
  intro p e R s m args below meth c H locs cells slots ls rm mc ms Pc Qc As rest A hM h1 h2 h3 h4 h5 h6 h7 h8 h9 h10 h11
  obtain ⟨hx, hb, hml, hr, hown, hlk, hnm, htb, hE⟩ := id A
  have hts : ∀ w ∈ TW, w.before args s = true := fun w hw => hE.2.1 w hw args
  exact va_runS (Ts := TW) ⟨hx, hb, hml, hown, hts⟩ hM ⟨callB_mk hts hl hini hc hok h1 h2 h3 h4, hts _ hst⟩ ⟨h6, h7⟩ rfl h5 h9 rfl (lv_room (m := m) (pc := pc) (ls := ls) (rest := As.reverse ++ rest) h10) hd h11
theorem LkX.S (hd : decode M.co pc = .ok (.invokestatic idx, 3)) (hl : Cond.methodLink M.nm.cls idx M'.nm ∈ TW) (hst : Cond.static M'.nm ∈ TW) (hini : Cond.initialized M'.nm.cls ∈ TW) (hc : Cond.code M'.nm M'.co M'.ml M'.rt ∈ TW) (hok : nameOk M' n) : LkX g M pc M' n none := by
  intro p e R s m args below meth c H locs cells slots ls rm mc ms Pc Qc XC As rest A hM h1 h2 h3 h4 h5 h6 h7 h8 h9 h10 h11
  obtain ⟨hx, hb, hml, hr, hown, hlk, hnm, htb, hE⟩ := id A
  have hts : ∀ w ∈ TW, w.before args s = true := fun w hw => hE.2.1 w hw args
  exact vx_runS (Ts := TW) ⟨hx, hb, hml, hown, hts⟩ hM ⟨callB_mk hts hl hini hc hok h1 h2 h3 h4, hts _ hst⟩ ⟨h6, h7⟩ rfl h5 h9 rfl (lv_room (m := m) (pc := pc) (ls := ls) (rest := As.reverse ++ rest) h10) hd h11
theorem CN_mk {R : Room} {s : State} {args : Array Value} {rm : Room} {mc ms : Nat} {host : String} (hE : ∀ w ∈ TW, w.before args s = true) (hl : Cond.methodLinkNest M.nm.cls idx M'.nm host ∈ TW) (hini : Cond.initialized M'.nm.cls ∈ TW) (hc : Cond.code M'.nm M'.co M'.ml M'.rt ∈ TW) (hok : nameOk M' n) (h1 : rm.cells = mc) (h2 : rm.slots = ms) (h3 : rm.frames + 1 ≤ R.frames) (h4 : 8 + (M'.ml + 11) + rm.locals ≤ R.locals) :
    va_CN R s args M.nm.cls idx M'.nm host M'.co M'.ml M'.rt [Cond.code M'.nm M'.co M'.ml M'.rt] rm mc ms n :=
  ⟨⟨h1, h2, h3, h4, code_pay hE hc, List.mem_cons_self⟩, hE _ hc, hE _ hini, hok.1, nameOk_len hok, hE _ hl⟩
theorem LkR.SN {host : String} (hd : decode M.co pc = .ok (.invokestatic idx, 3)) (hl : Cond.methodLinkNest M.nm.cls idx M'.nm host ∈ TW) (hst : Cond.static M'.nm ∈ TW) (hini : Cond.initialized M'.nm.cls ∈ TW) (hc : Cond.code M'.nm M'.co M'.ml M'.rt ∈ TW) (hok : nameOk M' n) : LkR g M pc M' n none := by
  intro p e R s m args below meth c H locs cells slots ls rm mc ms Pc Qc As rest A hM h1 h2 h3 h4 h5 h6 h7 h8 h9 h10 h11
  obtain ⟨hx, hb, hml, hr, hown, hlk, hnm, htb, hE⟩ := id A
  have hts : ∀ w ∈ TW, w.before args s = true := fun w hw => hE.2.1 w hw args
  exact va_runSN (Ts := TW) ⟨hx, hb, hml, hown, hts⟩ hM ⟨CN_mk hts hl hini hc hok h1 h2 h3 h4, hts _ hst, trivial⟩ ⟨h6, h7⟩ rfl h5 h9 rfl (lv_room (m := m) (pc := pc) (ls := ls) (rest := As.reverse ++ rest) h10) hd h11
theorem LkR.I (hd : decode M.co pc = .ok (.invokespecial idx, 3)) (hl : Cond.methodLink M.nm.cls idx M'.nm ∈ TW) (hin : Cond.instanceMethod M'.nm ∈ TW) (hini : Cond.initialized M'.nm.cls ∈ TW) (hc : Cond.code M'.nm M'.co M'.ml none ∈ TW) (hrt : M'.rt = none) (hn : M'.nm.name = "<init>") (hok : nameOk M' n) (ci : Nat) : LkR g M pc M' (n + 1) (some ci) := by
  intro p e R s m args below meth c H locs cells slots ls rm mc ms Pc Qc As rest A hM h1 h2 h3 h4 h5 h6 h7 h8 h9 h10 h11
  obtain ⟨hx, hb, hml, hr, hown, hlk, hnm, htb, hE⟩ := id A
  have hts : ∀ w ∈ TW, w.before args s = true := fun w hw => hE.2.1 w hw args
  obtain ⟨a, As', cellB, rfl, hcB, hoB, hclB⟩ := h8 ci rfl
  rw [rs_cons]
  have hcb := callB_mk (M := M) (M' := M') (idx := idx) (R := R) hts hl hini (by rw [hrt]; exact hc) hok h1 h2 h3 h4
  rw [hrt] at hcb hM
  exact va_runI (Ts := TW) ⟨hx, hb, hml, hown, hts⟩ hM ⟨hcb, hn, hts _ hin⟩ ⟨h6, h7⟩ rfl (by simpa using h5) h9 rfl (lv_room (m := m) (pc := pc) (ls := ls) (rest := As'.reverse ++ Value.ref a :: rest) h10) hd h11
theorem LkR.IN {host : String} (hd : decode M.co pc = .ok (.invokespecial idx, 3)) (hl : Cond.methodLinkNest M.nm.cls idx M'.nm host ∈ TW) (hin : Cond.instanceMethod M'.nm ∈ TW) (hini : Cond.initialized M'.nm.cls ∈ TW) (hc : Cond.code M'.nm M'.co M'.ml none ∈ TW) (hrt : M'.rt = none) (hn : M'.nm.name = "<init>") (hok : nameOk M' n) (ci : Nat) : LkR g M pc M' (n + 1) (some ci) := by
  intro p e R s m args below meth c H locs cells slots ls rm mc ms Pc Qc As rest A hM h1 h2 h3 h4 h5 h6 h7 h8 h9 h10 h11
  obtain ⟨hx, hb, hml, hr, hown, hlk, hnm, htb, hE⟩ := id A
  have hts : ∀ w ∈ TW, w.before args s = true := fun w hw => hE.2.1 w hw args
  obtain ⟨a, As', cellB, rfl, hcB, hoB, hclB⟩ := h8 ci rfl
  rw [rs_cons]
  have hcb := CN_mk (M := M) (M' := M') (idx := idx) (R := R) hts hl hini (by rw [hrt]; exact hc) hok h1 h2 h3 h4
  rw [hrt] at hcb hM
  exact va_runIN (Ts := TW) ⟨hx, hb, hml, hown, hts⟩ hM ⟨hcb, hn, hts _ hin⟩ ⟨h6, h7⟩ rfl (by simpa using h5) h9 rfl (lv_room (m := m) (pc := pc) (ls := ls) (rest := As'.reverse ++ Value.ref a :: rest) h10) hd h11
end LINKS

