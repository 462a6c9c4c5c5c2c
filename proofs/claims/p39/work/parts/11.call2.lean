section CALLS
variable {g : G0} {M M' : M0} {d d' kc ks kc' ks' : Nat} {op : Bool} {K : K0} {pc n : Nat} {vc : Option Nat} {L : List (Option Value)} {S : List Value} {w w' : Wd}
/-- the class of the receiver -/
def rcv (w : Wd) (M' : M0) (As : List Value) (vc : Option Nat) : Prop := match vc with
  | none => True
  | some ci => ∃ (k : Nat) (t : List Value), As = .ref k :: t ∧ (kz w k).1 = ci ∧ RX ci = M'.nm.cls
theorem rcv_of {s : State} {H : Heap} {As : List Value} (hE : En g s s.heap) (hH : Hd g w H) (h : rcv w M' As vc) (h8 : ∀ ci, vc = some ci → CF ci) : ∀ ci, vc = some ci → ∃ (a : Nat) (As' : List Value) (cellB : Cell), As.map (cv g) = .ref a :: As' ∧ H[a]? = some cellB ∧ cellB.vm.isStatics = false ∧ s.vm.findClass M'.nm.cls = some cellB.cls := by
  intro ci hci
  have hcf := h8 ci hci
  subst hci
  obtain ⟨k, t, rfl, hk, hnm⟩ := h
  have hc8 := hcf.2.2.2.2
  have hkz : kz w k = (ci, (kz w k).2) := by rw [← hk]
  obtain ⟨hk1, hk2⟩ := kz_lt hkz (by show ci ≠ 99; omega)
  have he : (wl g w)[k]? = some (ad g k, .inr (ci, (List.range (nX ci)).map (fun f => fv g w k f (tX ci f)))) := by rw [wl_at hk1, ce_obj hk2 hc8]
  obtain ⟨cell, g1, g2, g3⟩ := va_recv hE.1 hH.P hcf.1 he
  exact ⟨ad g k, t.map (cv g), cell, rfl, g1, g2, by rw [← hnm]; exact g3⟩
theorem QcR_ret {P : Res → Wd → Prop} {a : Array Value} {st t : State} {v : Option Value} {w1 : Wd} {v1 : Option Value} (h : QcR g op (rets v1 w1) a st (.returned v) t) : v = v1.map (cv g) ∧ Hd g w1 t.heap ∧ (op = true → t.heap.size = gB g + wN w1) ∧ va_F (gA g) st t := by
  obtain ⟨v', w', e1, ⟨e2, e3⟩, h1, h2, h3⟩ := h
  subst e3
  cases e2
  cases e1
  exact ⟨rfl, h1, h2, h3⟩
theorem map_toList (v : Option Value) : (v.map (cv g)).toList = v.toList.map (cv g) := by cases v <;> rfl
theorem cats (S : List Value) : ((S.map (cv g)).map fun v => v.category).sum = (S.map fun v => v.category).sum := by
  rw [List.map_map]
  congr 1
  exact List.map_congr_left fun v _ => cv_cat g v
theorem V_call {As : List Value} {v : Option Value} (hL : LkR g M pc M' n vc) (hC : C g M' d' kc' ks' op As w (rets v w')) (hn : plainName M'.nm.cls = true) (hh : M'.hh = []) (hml : M'.ml ≤ 17) (hl : (ini As).length ≤ M'.ml) (hlen : As.length = n) (hv : rcv w M' As vc) (h8 : ∀ ci, vc = some ci → CF ci) (hd : d' + 1 ≤ d) (hk : kc' ≤ kc) (hks : ks' ≤ ks) (hr : (S.map fun v => v.category).sum ≤ 8)
    (kk : V g M d (kc - kc') (ks - ks') op K (pc + 3) L (v.toList ++ S) w') : V g M d kc ks op K pc L (As.reverse ++ S) w := by
  intro p e s m args below meth c H locs cells slots ls mc ms A Z
  obtain ⟨hx, hb, hmL, hrt, hown, hlk, hnm, htb, hE⟩ := id A
  obtain ⟨hls, hH, hop, hS, hkc, hks0⟩ := id Z
  have hM := met_of_vx (met_vx hn hh hl hC) (fun E st t h => by obtain ⟨w9, ⟨h9, -⟩, -⟩ := h; cases h9)
  have hrun := hL p e { frames := d, cells := mc, slots := ms, locals := 36 * d } s m args below meth c H locs cells slots ls _ kc' ks' _ _ (As.map (cv g)) (S.map (cv g)) A hM rfl rfl hd (by show 8 + (M'.ml + 11) + 36 * d' ≤ 36 * d; omega) (by rw [List.length_map]; exact hlen) (PcR.blind g op As w) (fun U hU hW => ⟨rfl, by rw [hU]; exact En.moved hW (hE.kept hS.1 hS.2.1), by rw [hU]; exact hH, fun h => by rw [hU]; exact hop h⟩) (rcv_of hE hH hv h8) hls.1 (by rw [cats]; exact hr) ⟨by show cells + kc' ≤ mc; omega, by show slots + ks' ≤ ms; omega⟩
  intro T hT X
  obtain ⟨v0, st₀, t, T', L0, h0, X', hL0, e1, e2, hq, st⟩ := hrun T hT X
  obtain ⟨rfl, hH', hop', hF⟩ := QcR_ret (P := fun _ _ => True) hq
  obtain ⟨hz, hq1, hS'⟩ := vx_keep (A1 := gA g) (free := gA g) h0 e1 hS (fun q _ h => h) (fun q h => h) hL0 hF
  have h9 := kk p e s m args below meth c T'.heap (locs ++ L0) (cells + kc') (slots + ks') ls mc ms A ⟨hls, by rw [e1]; exact hH', fun h => by rw [e1]; exact hop' h, hS', by omega, by omega⟩ T' rfl X'
  obtain ⟨t2, a1, b1⟩ := h9
  refine ⟨t2, ?_, b1⟩
  have hst : (As.reverse ++ S).map (cv g) = (As.map (cv g)).reverse ++ S.map (cv g) := by rw [List.map_append, List.map_reverse]
  rw [hst]
  refine st t2 ?_
  rw [map_toList, ← List.map_append]
  exact a1
/-- the callee throws E; this method has no handlers -/
theorem V_callX {As : List Value} {E : String} {P : Res → Wd → Prop} (hL : LkX g M pc M' n vc) (hC : C g M' d' kc' ks' false As w (thrs E w')) (hn : plainName M'.nm.cls = true) (hh : M'.hh = []) (hml : M'.ml ≤ 17) (hl : (ini As).length ≤ M'.ml) (hlen : As.length = n) (hv : rcv w M' As vc) (h8 : ∀ ci, vc = some ci → CF ci) (hd : d' + 1 ≤ d) (hk : kc' ≤ kc) (hks : ks' ≤ ks) (hr : (S.map fun v => v.category).sum ≤ 8)
    (hnt : M.hh = []) (hP : P (.inr E) w') : V g M d kc ks false (Kp g false P) pc L (As.reverse ++ S) w := by
  intro p e s m args below meth c H locs cells slots ls mc ms A Z
  obtain ⟨hx, hb, hmL, hrt, hown, hlk, hnm, htb, hE⟩ := id A
  obtain ⟨hls, hH, hop, hS, hkc, hks0⟩ := id Z
  have hM := met_vx hn hh hl hC
  have hrun := hL p e { frames := d, cells := mc, slots := ms, locals := 36 * d } s m args below meth c H locs cells slots ls _ kc' ks' _ _ _ (As.map (cv g)) (S.map (cv g)) A hM rfl rfl hd (by show 8 + (M'.ml + 11) + 36 * d' ≤ 36 * d; omega) (by rw [List.length_map]; exact hlen) (PcR.blind g false As w) (fun U hU hW => ⟨rfl, by rw [hU]; exact En.moved hW (hE.kept hS.1 hS.2.1), by rw [hU]; exact hH, fun h => nomatch h⟩) (rcv_of hE hH hv h8) hls.1 (by rw [cats]; exact hr) ⟨by show cells + kc' ≤ mc; omega, by show slots + ks' ≤ ms; omega⟩
  intro T hT X
  have hst : (As.reverse ++ S).map (cv g) = (As.map (cv g)).reverse ++ S.map (cv g) := by rw [List.map_append, List.map_reverse]
  rw [hst]
  rcases hrun T hT X with ⟨v0, st₀, t, T', L0, h0, X', hL0, e1, e2, hq, st⟩ | ⟨q, st₀, t, T', L0, E0, ce, h0, X', hL0, e1, e2, hxc, hce, hcv, hcl, st⟩
  · obtain ⟨v', w9, -, ⟨h9, -⟩, -⟩ := hq
    cases h9
  · obtain ⟨w9, ⟨h9, rfl⟩, hH', hF⟩ := hxc
    cases h9
    obtain ⟨hz, hq1, hS'⟩ := vx_keep (A1 := gA g) (free := gA g) h0 e1 hS (fun q _ h => h) (fun q h => h) hL0 hF
    have h9 : vx_W p (gl g) e { frames := d, cells := mc, slots := ms, locals := 36 * d } s m args below meth c T'.heap (locs ++ L0) (cells + kc') (slots + ks') (Kp g false P below args s mc ms) (F0 m pc ls (S.map (cv g))) q := by
      refine vx_out (E := E) (ce := ce) (fun x hx => ?_) hlk (by rw [e1]; exact hce) hcv hcl (fun t' ht' hW => ⟨_, hP, by rw [ht', e1]; exact hH', hS'.F ht'⟩) hS'.2.2 (by omega) (by omega)
      rw [htb, hnt] at hx
      cases hx
    obtain ⟨t2, a1, b1⟩ := h9 T' rfl X'
    exact ⟨t2, st.trans a1, b1⟩
/-- the callee throws E; the row x of this method's table takes it, and its handler puts it away in a local -/
theorem V_callC {As : List Value} {E name : String} {pre suf : List ExceptionTableEntry} {x : ExceptionTableEntry} {kf : Fin 4} {j : Nat} (hL : LkX g M pc M' n vc) (hC : C g M' d' kc' ks' false As w (thrs E w')) (hn : plainName M'.nm.cls = true) (hh : M'.hh = []) (hml : M'.ml ≤ 17) (hl : (ini As).length ≤ M'.ml) (hlen : As.length = n) (hv : rcv w M' As vc) (h8 : ∀ ci, vc = some ci → CF ci) (hd : d' + 1 ≤ d) (hk : kc' ≤ kc) (hks : ks' ≤ ks) (hr : (S.map fun v => v.category).sum ≤ 8)
    (hsplit : tableOf M.hh = pre ++ x :: suf) (hpass : ∀ z ∈ pre, z.catchType ≠ 0 ∧ ∃ nm : String, Cond.classLink M.nm.cls z.catchType nm ∈ TW ∧ (E, nm) ∈ ncs) (hxp : covers x pc = true) (h0c : x.catchType ≠ 0) (hlink : Cond.classLink M.nm.cls x.catchType name ∈ TW) (hcast : Cond.castable E name ∈ TW)
    (hd2 : decode M.co x.handlerPc = .ok (.astore_n kf, 1)) (hj : (kf : Nat) = j) (hjn : j < M.ml) (hjc : c1 L j = true) (kk : V g M d (kc - kc') (ks - ks') false K (x.handlerPc + 1) (sv L j none) [] w') : V g M d kc ks false K pc L (As.reverse ++ S) w := by
  intro p e s m args below meth c H locs cells slots ls mc ms A Z
  obtain ⟨hx, hb, hmL, hrt, hown, hlk, hnm, htb, hE⟩ := id A
  obtain ⟨hls, hH, hop, hS, hkc, hks0⟩ := id Z
  have hts : ∀ w ∈ TW, w.before args s = true := fun w hw => hE.2.1 w hw args
  have hM := met_vx hn hh hl hC
  have hrun := hL p e { frames := d, cells := mc, slots := ms, locals := 36 * d } s m args below meth c H locs cells slots ls _ kc' ks' _ _ _ (As.map (cv g)) (S.map (cv g)) A hM rfl rfl hd (by show 8 + (M'.ml + 11) + 36 * d' ≤ 36 * d; omega) (by rw [List.length_map]; exact hlen) (PcR.blind g false As w) (fun U hU hW => ⟨rfl, by rw [hU]; exact En.moved hW (hE.kept hS.1 hS.2.1), by rw [hU]; exact hH, fun h => nomatch h⟩) (rcv_of hE hH hv h8) hls.1 (by rw [cats]; exact hr) ⟨by show cells + kc' ≤ mc; omega, by show slots + ks' ≤ ms; omega⟩
  intro T hT X
  have hst : (As.reverse ++ S).map (cv g) = (As.map (cv g)).reverse ++ S.map (cv g) := by rw [List.map_append, List.map_reverse]
  rw [hst]
  rcases hrun T hT X with ⟨v0, st₀, t, T', L0, h0, X', hL0, e1, e2, hq, st⟩ | ⟨q, st₀, t, T', L0, E0, ce, h0, X', hL0, e1, e2, hxc, hce, hcv, hcl, st⟩
  · obtain ⟨v', w9, -, ⟨h9, -⟩, -⟩ := hq
    cases h9
  · obtain ⟨w9, ⟨h9, rfl⟩, hH', hF⟩ := hxc
    cases h9
    obtain ⟨hz, hq1, hS'⟩ := vx_keep (A1 := gA g) (free := gA g) h0 e1 hS (fun q _ h => h) (fun q h => h) hL0 hF
    have h9 : vx_W p (gl g) e { frames := d, cells := mc, slots := ms, locals := 36 * d } s m args below meth c T'.heap (locs ++ L0) (cells + kc') (slots + ks') (K below args s mc ms) (F0 m pc ls (S.map (cv g))) q := by
      refine vx_catch (E := E) (ce := ce) (own := M.nm.cls) (name := name) hown pre x suf (by rw [htb]; exact hsplit) (fun z hz9 => ?_) hxp h0c (hts _ hlink) (hts _ hcast) (by rw [e1]; exact hce) hcv hcl ?_
      · obtain ⟨z1, nm, z2, z3⟩ := hpass z hz9
        exact Or.inr ⟨z1, nm, hts _ z2, hE.2.2.2.1 _ z3⟩
      · refine lv_astore_n (x := q) hx hb hd2 hj hls hjn rfl (fun ls9 hl9 => ?_)
        refine kk p e s m args below meth c T'.heap (locs ++ L0) (cells + kc') (slots + ks') ls9 mc ms A ⟨⟨hl9.1, hl9.2.1, fun q9 hq9 => hl9.2.2 q9 ?_⟩, by rw [e1]; exact hH', (fun h => nomatch h), hS', by omega, by omega⟩
        obtain ⟨z1, z2⟩ := lcl_none L 0 j q9 hq9
        rw [Nat.zero_add] at z2
        have z3 := (lcl_sv (g := g) L 0 j (.ref 0) hjc)
        refine List.mem_cons_of_mem _ (List.mem_filter.mpr ⟨z1, ?_⟩)
        simp only [Bool.and_eq_true, Bool.not_eq_true', beq_eq_false_iff_ne, ne_eq, Bool.and_eq_false_iff]
        refine ⟨z2, ?_⟩
        by_cases h5 : q9.1 + 1 = j
        · refine Or.inr fun h6 => ?_
          have z4 : ∀ (L : List (Option Value)) (i j : Nat), c1 L j = true → ∀ q ∈ lcl g i L, q.1 + 1 = i + j → ¬ q.2.category = 2 := by
            intro L
            induction L with
            | nil => intro i j _ q h; cases h
            | cons a t ih =>
              intro i j hc q hq hj2
              cases a with
              | none =>
                have h3 := lcl_ge t (i + 1) q hq
                cases j with
                | zero => omega
                | succ j => exact ih (i + 1) j (by cases j with
                  | zero => omega
                  | succ j => exact hc) q hq (by omega)
              | some a =>
                rcases List.mem_cons.mp hq with rfl | hq
                · have hj3 : j = 1 := by have : i + 1 = i + j := hj2; omega
                  subst hj3
                  intro h8
                  have h8 : (cv g a).category = 2 := h8
                  rw [cv_cat] at h8
                  cases a <;> first | cases hc | (simp [Value.category] at h8)
                · have h3 := lcl_ge t (i + 1) q hq
                  cases j with
                  | zero => omega
                  | succ j => exact ih (i + 1) j (by cases j with
                    | zero => omega
                    | succ j => cases a <;> exact hc) q hq (by omega)
          exact z4 L 0 j hjc q9 z1 (by omega) h6
        · exact Or.inl h5
    obtain ⟨t2, a1, b1⟩ := h9 T' rfl X'
    exact ⟨t2, st.trans a1, b1⟩
end CALLS
section ENDS
variable {g : G0} {M : M0} {d kc ks : Nat} {op : Bool} {pc : Nat} {L : List (Option Value)} {S : List Value} {w : Wd} {P : Res → Wd → Prop}
theorem V_iret {x : Int32} {ty : FieldType} (hd : decode M.co pc = .ok (.ireturn, 1)) (hrt : M.rt = some ty) (hn : narrow ty (.int x) = .int x) (hP : P (.inl (some (.int x))) w) : V g M d kc ks op (Kp g op P) pc L [.int x] w := by
  intro p e s m args below meth c H locs cells slots ls mc ms A Z
  obtain ⟨hx, hb, hmL, hr, hown, hlk, hnm, htb, hE⟩ := id A
  obtain ⟨hls, hH, hop, hS, hkc, hks0⟩ := id Z
  refine W.widen (k := mc) (n := ms) (by omega) (by omega) ?_
  exact vx_ret (W.zret (v := x) (ty := ty) hx hb (by rw [hr, hrt]) hn (fun t ht hW => ⟨some (.int x), w, rfl, hP, by rw [ht]; exact hH, fun h => by rw [ht]; exact hop h, hS.F ht⟩) hS.2.2 hd hlk)
theorem V_vret (hd : decode M.co pc = .ok (.return_, 1)) (hrt : M.rt = none) (hP : P (.inl none) w) : V g M d kc ks op (Kp g op P) pc L [] w := by
  intro p e s m args below meth c H locs cells slots ls mc ms A Z
  obtain ⟨hx, hb, hmL, hr, hown, hlk, hnm, htb, hE⟩ := id A
  obtain ⟨hls, hH, hop, hS, hkc, hks0⟩ := id Z
  refine W.widen (k := mc) (n := ms) (by omega) (by omega) ?_
  exact vx_ret (W.vret hx hb (by rw [hr, hrt]) (fun t ht hW => ⟨none, w, rfl, hP, by rw [ht]; exact hH, fun h => by rw [ht]; exact hop h, hS.F ht⟩) hS.2.2 hd hlk)
theorem V_lret {x : Int64} (hd : decode M.co pc = .ok (.lreturn, 1)) (hrt : M.rt = some .long) (hP : P (.inl (some (.long x))) w) : V g M d kc ks op (Kp g op P) pc L [.long x] w := by
  intro p e s m args below meth c H locs cells slots ls mc ms A Z
  obtain ⟨hx, hb, hmL, hr, hown, hlk, hnm, htb, hE⟩ := id A
  obtain ⟨hls, hH, hop, hS, hkc, hks0⟩ := id Z
  refine W.widen (k := mc) (n := ms) (by omega) (by omega) ?_
  exact vx_ret (W.lret (v := x) hx hb (by rw [hr, hrt]) (fun t ht hW => ⟨some (.long x), w, rfl, hP, by rw [ht]; exact hH, fun h => by rw [ht]; exact hop h, hS.F ht⟩) hS.2.2 hd hlk)
theorem V_dret {x : UInt64} (hd : decode M.co pc = .ok (.dreturn, 1)) (hrt : M.rt = some .double) (hP : P (.inl (some (.double x))) w) : V g M d kc ks op (Kp g op P) pc L [.double x] w := by
  intro p e s m args below meth c H locs cells slots ls mc ms A Z
  obtain ⟨hx, hb, hmL, hr, hown, hlk, hnm, htb, hE⟩ := id A
  obtain ⟨hls, hH, hop, hS, hkc, hks0⟩ := id Z
  refine W.widen (k := mc) (n := ms) (by omega) (by omega) ?_
  exact vx_ret (W.dret (v := x) hx hb (by rw [hr, hrt]) (fun t ht hW => ⟨some (.double x), w, rfl, hP, by rw [ht]; exact hH, fun h => by rw [ht]; exact hop h, hS.F ht⟩) hS.2.2 hd hlk)
theorem V_aret {k : Nat} {ty : FieldType} (hd : decode M.co pc = .ok (.areturn, 1)) (hrt : M.rt = some ty) (hty : isRefT ty = true) (hP : P (.inl (some (.ref k))) w) : V g M d kc ks op (Kp g op P) pc L [.ref k] w := by
  intro p e s m args below meth c H locs cells slots ls mc ms A Z
  obtain ⟨hx, hb, hmL, hr, hown, hlk, hnm, htb, hE⟩ := id A
  obtain ⟨hls, hH, hop, hS, hkc, hks0⟩ := id Z
  refine W.widen (k := mc) (n := ms) (by omega) (by omega) ?_
  have hn : (∃ n, ty = FieldType.object n) ∨ ∃ t, ty = FieldType.array t := by cases ty <;> first | exact Or.inl ⟨_, rfl⟩ | exact Or.inr ⟨_, rfl⟩ | cases hty
  exact vx_ret (W.aret (v := .ref (ad g k)) (rt := ty) hx hb (by rw [hr, hrt]) hn (Or.inr ⟨_, rfl⟩) (fun t ht hW => ⟨some (.ref k), w, rfl, hP, by rw [ht]; exact hH, fun h => by rw [ht]; exact hop h, hS.F ht⟩) hS.2.2 hd hlk)
abbrev xnames : List String := ["java/lang/RuntimeException", "java/lang/Exception"]
theorem V_throw {E text : String} {ik is ic : Nat} (hfit : Bundle.fit E = true) (hk : Cond.classLink M.nm.cls ik E ∈ TW) (hini : Cond.initialized E ∈ TW) (hstr : (M.nm.cls, is, text) ∈ strs) (hat : ∀ w ∈ vx_atS M.nm.cls ic E xnames, w ∈ TW) (hgood : ∀ w ∈ Cond.classLink M.nm.cls ik E :: Cond.initialized E :: vx_atS M.nm.cls ic E xnames, vx_ot w = true)
    (d0 : decode M.co pc = .ok (.new ik, 3)) (d3 : decode M.co (pc + 3) = .ok (.dup, 1)) (d4 : decode M.co (pc + 4) = .ok (.ldc is, 2)) (d6 : decode M.co (pc + 6) = .ok (.invokespecial ic, 3)) (d9 : decode M.co (pc + 9) = .ok (.athrow, 1))
    (hnt : M.hh = []) (hd : 6 ≤ d) (hS8 : (S.map fun v => v.category).sum ≤ 8) (hP : P (.inr E) w) : V g M d (kc + 1) (ks + 6) false (Kp g false P) pc L S w := by
  intro p e s m args below meth c H locs cells slots ls mc ms A Z
  obtain ⟨hx, hb, hmL, hr, hown, hlk, hnm, htb, hE⟩ := id A
  obtain ⟨hls, hH, hop, hS, hkc, hks0⟩ := id Z
  have hts : ∀ w ∈ TW, w.before args s = true := fun w hw => hE.2.1 w hw args
  obtain ⟨sa, hsa⟩ := hE.2.2.1 _ hstr
  obtain ⟨-, -, -, -, hU, hN, -, -, hsz, hst⟩ := id hE
  refine vx_throwS (names := xnames) (A := gA g) (own := M.nm.cls) (cls := E) (text := text) (sa := sa) (mc := mc) (ms := ms) (XC := XcR g P) hx hb hst hown hfit (by decide) (hts _ hk) (hts _ hini) hsa (fun w hw => hts _ (hat w hw)) hgood hU hN hS (by rw [hls.1, hmL]) d0 d3 d4 d6 d9 (fun x hx => ?_) (by show 2 + 3 < d; omega) (by rw [cats]; show _ + (13 * (2 + 1) + 43) ≤ 36 * d; omega) (by show cells + 1 ≤ mc; omega) (by show slots + 6 ≤ ms; omega) hlk (fun t hW hz hq => ⟨w, hP, ⟨hH.1.kept (fun k q hq9 => hq _ ((hH.1 k q hq9).lt)), hH.2.1, Nat.le_trans hH.2.2 hz⟩, ?_⟩) hS.2.2 (by omega) (by omega)
  · rw [htb, hnt] at hx
    cases hx
  · exact ⟨Nat.le_trans hS.1 hz, fun q h1 h2 => (hq q (Nat.lt_of_lt_of_le h1 hS.1)).trans (hS.2.1 q h1 h2)⟩
theorem V_throwW {E text : String} {ik is ic : Nat} (hfit : Bundle.fit E = true) (hk : Cond.classLink M.nm.cls ik E ∈ TW) (hini : Cond.initialized E ∈ TW) (hstr : (M.nm.cls, is, text) ∈ strs) (hat : ∀ w ∈ vx_atS M.nm.cls ic E xnames, w ∈ TW) (hgood : ∀ w ∈ Cond.classLink M.nm.cls ik E :: Cond.initialized E :: vx_atS M.nm.cls ic E xnames, vx_ot w = true)
    (d0 : decode M.co pc = .ok (.new ik, 3)) (d3 : decode M.co (pc + 3) = .ok (.dup, 1)) (d4 : decode M.co (pc + 4) = .ok (.ldc_w is, 3)) (d7 : decode M.co (pc + 7) = .ok (.invokespecial ic, 3)) (d10 : decode M.co (pc + 10) = .ok (.athrow, 1))
    (hnt : M.hh = []) (hd : 6 ≤ d) (hS8 : (S.map fun v => v.category).sum ≤ 8) (hP : P (.inr E) w) : V g M d (kc + 1) (ks + 6) false (Kp g false P) pc L S w := by
  intro p e s m args below meth c H locs cells slots ls mc ms A Z
  obtain ⟨hx, hb, hmL, hr, hown, hlk, hnm, htb, hE⟩ := id A
  obtain ⟨hls, hH, hop, hS, hkc, hks0⟩ := id Z
  have hts : ∀ w ∈ TW, w.before args s = true := fun w hw => hE.2.1 w hw args
  obtain ⟨sa, hsa⟩ := hE.2.2.1 _ hstr
  obtain ⟨-, -, -, -, hU, hN, -, -, hsz, hst⟩ := id hE
  refine vx_throwSW (names := xnames) (A := gA g) (own := M.nm.cls) (cls := E) (text := text) (sa := sa) (mc := mc) (ms := ms) (XC := XcR g P) hx hb hst hown hfit (by decide) (hts _ hk) (hts _ hini) hsa (fun w hw => hts _ (hat w hw)) hgood hU hN hS (by rw [hls.1, hmL]) d0 d3 d4 d7 d10 (fun x hx => ?_) (by show 2 + 3 < d; omega) (by rw [cats]; show _ + (13 * (2 + 1) + 43) ≤ 36 * d; omega) (by show cells + 1 ≤ mc; omega) (by show slots + 6 ≤ ms; omega) hlk (fun t hW hz hq => ⟨w, hP, ⟨hH.1.kept (fun k q hq9 => hq _ ((hH.1 k q hq9).lt)), hH.2.1, Nat.le_trans hH.2.2 hz⟩, ?_⟩) hS.2.2 (by omega) (by omega)
  · rw [htb, hnt] at hx
    cases hx
  · exact ⟨Nat.le_trans hS.1 hz, fun q h1 h2 => (hq q (Nat.lt_of_lt_of_le h1 hS.1)).trans (hS.2.1 q h1 h2)⟩
end ENDS
/-- a static call of a method with a table of its own, that returns -/
def LkW (g : G0) (M : M0) (pc : Nat) (M' : M0) (n : Nat) : Prop :=
  ∀ (p : Program) (e : Env) (R : Room) (s : State) (m : MethodId) (args : Array Value) (below : List Frame) (meth : Method) (c : Code) (H : Heap) (locs : List Loc) (cells slots : Nat) (ls : Array Slot) (rm : Room) (mc ms : Nat) (Pc : Array Value → State → Prop) (Qc : Array Value → State → Outcome → State → Prop) (As rest : List Value),
    Am g M p s m meth c → Met (gl g) M'.nm [Cond.codeWith M'.nm M'.co M'.ml M'.rt M'.hh] rm Pc Qc mc ms (gA g) → rm.cells = mc → rm.slots = ms → rm.frames + 1 ≤ R.frames → 8 + (M'.ml + 11) + rm.locals ≤ R.locals → As.length = n → FrameBlind Pc → (∀ U : State, U.heap = H → s.WarmedH U.vm → Pc As.toArray U) →
    ls.size = M.ml → (rest.map fun v => v.category).sum ≤ 8 → cells + mc ≤ R.cells ∧ slots + ms ≤ R.slots →
    va_Run p (gl g) e R s m args below meth c H locs cells slots mc ms (F0 m pc ls (As.reverse ++ rest)) rest (Qc As.toArray) (gA g)
theorem LkW.S {g : G0} {M M' : M0} {pc n idx : Nat} (hd : decode M.co pc = .ok (.invokestatic idx, 3)) (hl : Cond.methodLink M.nm.cls idx M'.nm ∈ TW) (hst : Cond.static M'.nm ∈ TW) (hini : Cond.initialized M'.nm.cls ∈ TW) (hc : Cond.codeWith M'.nm M'.co M'.ml M'.rt M'.hh ∈ TW) (hok : nameOk M' n) : LkW g M pc M' n := by
  intro p e R s m args below meth c H locs cells slots ls rm mc ms Pc Qc As rest A hM h1 h2 h3 h4 h5 h6 h7 h9 h10 h11
  obtain ⟨hx, hb, hml, hr, hown, hlk, hnm, htb, hE⟩ := id A
  have hts : ∀ w ∈ TW, w.before args s = true := fun w hw => hE.2.1 w hw args
  exact vx_runSW (Ts := TW) ⟨hx, hb, hml, hown, hts⟩ hM ⟨⟨h1, h2, h3, h4, fun w hw a' U hW => by
    rcases List.mem_singleton.mp hw with rfl
    exact word_at hW (good_of_word rfl) (hts _ hc), List.mem_cons_self⟩, hts _ hc, hts _ hini, hok.1, nameOk_len hok, hts _ hl, hts _ hst⟩ ⟨h6, h7⟩ rfl h5 h9 rfl (lv_room (m := m) (pc := pc) (ls := ls) (rest := As.reverse ++ rest) h10) hd h11
theorem V_callW {g : G0} {M M' : M0} {d d' kc ks kc' ks' : Nat} {K : K0} {pc n : Nat} {L : List (Option Value)} {S : List Value} {w w' : Wd} {As : List Value} {v : Option Value} (hL : LkW g M pc M' n) (hC : C g M' d' kc' ks' false As w (rets v w')) (hn : plainName M'.nm.cls = true) (hml : M'.ml ≤ 17) (hl : (ini As).length ≤ M'.ml) (hlen : As.length = n) (hd : d' + 1 ≤ d) (hk : kc' ≤ kc) (hks : ks' ≤ ks) (hr : (S.map fun v => v.category).sum ≤ 8)
    (kk : V g M d (kc - kc') (ks - ks') false K (pc + 3) L (v.toList ++ S) w') : V g M d kc ks false K pc L (As.reverse ++ S) w := by
  intro p e s m args below meth c H locs cells slots ls mc ms A Z
  obtain ⟨hx, hb, hmL, hrt, hown, hlk, hnm, htb, hE⟩ := id A
  obtain ⟨hls, hH, hop, hS, hkc, hks0⟩ := id Z
  have hM := met_of_vx (met_vxW hn hl hC) (fun E st t h => by obtain ⟨w9, ⟨h9, -⟩, -⟩ := h; cases h9)
  have hrun := hL p e { frames := d, cells := mc, slots := ms, locals := 36 * d } s m args below meth c H locs cells slots ls _ kc' ks' _ _ (As.map (cv g)) (S.map (cv g)) A hM rfl rfl hd (by show 8 + (M'.ml + 11) + 36 * d' ≤ 36 * d; omega) (by rw [List.length_map]; exact hlen) (PcR.blind g false As w) (fun U hU hW => ⟨rfl, by rw [hU]; exact En.moved hW (hE.kept hS.1 hS.2.1), by rw [hU]; exact hH, fun h => by rw [hU]; exact hop h⟩) hls.1 (by rw [cats]; exact hr) ⟨by show cells + kc' ≤ mc; omega, by show slots + ks' ≤ ms; omega⟩
  intro T hT X
  obtain ⟨v0, st₀, t, T', L0, h0, X', hL0, e1, e2, hq, st⟩ := hrun T hT X
  obtain ⟨rfl, hH', hop', hF⟩ := QcR_ret (P := fun _ _ => True) hq
  obtain ⟨hz, hq1, hS'⟩ := vx_keep (A1 := gA g) (free := gA g) h0 e1 hS (fun q _ h => h) (fun q h => h) hL0 hF
  have h9 := kk p e s m args below meth c T'.heap (locs ++ L0) (cells + kc') (slots + ks') ls mc ms A ⟨hls, by rw [e1]; exact hH', fun h => by rw [e1]; exact hop' h, hS', by omega, by omega⟩ T' rfl X'
  obtain ⟨t2, a1, b1⟩ := h9
  refine ⟨t2, ?_, b1⟩
  have hst : (As.reverse ++ S).map (cv g) = (As.map (cv g)).reverse ++ S.map (cv g) := by rw [List.map_append, List.map_reverse]
  rw [hst]
  refine st t2 ?_
  rw [map_toList, ← List.map_append]
  exact a1

