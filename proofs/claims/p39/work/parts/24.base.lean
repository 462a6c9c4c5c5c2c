section CALLS
variable {g : G0} {M M' : M0} {d d' kc ks kc' ks' : Nat} {op : Bool} {K : K0} {pc n : Nat} {vc : Option Nat} {L : List (Option Value)} {S : List Value} {w w' : Wd}
theorem V_callC4 {As : List Value} {E name : String} {pre suf : List ExceptionTableEntry} {x : ExceptionTableEntry} {j : Nat} (hL : LkX g M pc M' n vc) (hC : C g M' d' kc' ks' false As w (thrs E w')) (hn : plainName M'.nm.cls = true) (hh : M'.hh = []) (hml : M'.ml ≤ 17) (hl : (ini As).length ≤ M'.ml) (hlen : As.length = n) (hv : rcv w M' As vc) (h8 : ∀ ci, vc = some ci → CF ci) (hd : d' + 1 ≤ d) (hk : kc' ≤ kc) (hks : ks' ≤ ks) (hr : (S.map fun v => v.category).sum ≤ 8)
    (hsplit : tableOf M.hh = pre ++ x :: suf) (hpass : ∀ z ∈ pre, z.catchType ≠ 0 ∧ ∃ nm : String, Cond.classLink M.nm.cls z.catchType nm ∈ TW ∧ (E, nm) ∈ ncs) (hxp : covers x pc = true) (h0c : x.catchType ≠ 0) (hlink : Cond.classLink M.nm.cls x.catchType name ∈ TW) (hcast : Cond.castable E name ∈ TW)
    (hd2 : decode M.co x.handlerPc = .ok (.astore j, 2)) (hjn : j < M.ml) (hjc : c1 L j = true) (kk : V g M d (kc - kc') (ks - ks') false K (x.handlerPc + 2) (sv L j none) [] w') : V g M d kc ks false K pc L (As.reverse ++ S) w := by
  intro p e s m args below meth c H locs cells slots ls mc ms A Z
  obtain ⟨hx, hb, hmL, hrt, hown, hlk, hnm, htb, hE⟩ := id A
  obtain ⟨hls, hH, hop, hS, hkc, hks0⟩ := id Z
  have hts : ∀ w ∈ TW, w.before args s = true := fun w hw => hE.2.1 w hw args
  have hM := met_vx hn hh hl hC
  have hrun := hL p e { frames := d, cells := mc, slots := ms, locals := 36 * d } s m args below meth c H locs cells slots ls _ kc' ks' _ _ _ (As.map (cv g)) (S.map (cv g)) A hM rfl rfl hd (by show 8 + (M'.ml + 11) + 36 * d' ≤ 36 * d; omega) (by rw [List.length_map]; exact hlen) (PcR.blind g false As w) (fun U hU hW => ⟨rfl, by rw [hU]; exact En.moved hW (hE.kept hS.1 hS.2.1), by rw [hU]; exact hH, fun h => nomatch h⟩) (rcv_of hE hH hv h8) hls.1 (by rw [cats]; exact hr) ⟨by show cells + kc' ≤ mc; omega, by show slots + ks' ≤ ms; omega⟩
  intro T hT X
  have hst : (As.reverse ++ S).map (cv g) = (As.map (cv g)).reverse ++ S.map (cv g) := by rw [List.map_append, List.map_reverse]
  rw [hst]
  rcases hrun T hT X with ⟨v0, st₀, t, T', L0, h0, X', hL0, e1, e2, hq, st⟩ | ⟨q, st₀, t, T', L0, E0, ce, h0, X', hL0, e1, e2, hxc, hce, hcv, hcl, st⟩
  · obtain ⟨v', w9, -, ⟨h9, -⟩, -⟩ := hq
    cases h9
  · obtain ⟨w9, ⟨h9, rfl⟩, hH', hF⟩ := hxc
    cases h9
    obtain ⟨hz, hq1, hS'⟩ := vx_keep (A1 := gA g) (free := gA g) h0 e1 hS (fun q _ h => h) (fun q h => h) hL0 hF
    have h9 : vx_W p (gl g) e { frames := d, cells := mc, slots := ms, locals := 36 * d } s m args below meth c T'.heap (locs ++ L0) (cells + kc') (slots + ks') (K below args s mc ms) (F0 m pc ls (S.map (cv g))) q := by
      refine vx_catch (E := E) (ce := ce) (own := M.nm.cls) (name := name) hown pre x suf (by rw [htb]; exact hsplit) (fun z hz9 => ?_) hxp h0c (hts _ hlink) (hts _ hcast) (by rw [e1]; exact hce) hcv hcl ?_
      · obtain ⟨z1, nm, z2, z3⟩ := hpass z hz9
        exact Or.inr ⟨z1, nm, hts _ z2, hE.2.2.2.1 _ z3⟩
      · refine lv_astore (x := q) hx hb hd2 hls hjn rfl (fun ls9 hl9 => ?_)
        refine kk p e s m args below meth c T'.heap (locs ++ L0) (cells + kc') (slots + ks') ls9 mc ms A ⟨⟨hl9.1, hl9.2.1, fun q9 hq9 => hl9.2.2 q9 ?_⟩, by rw [e1]; exact hH', (fun h => nomatch h), hS', by omega, by omega⟩
        obtain ⟨z1, z2⟩ := lcl_none L 0 j q9 hq9
        rw [Nat.zero_add] at z2
        have z3 := (lcl_sv (g := g) L 0 j (.ref 0) hjc)
        refine List.mem_cons_of_mem _ (List.mem_filter.mpr ⟨z1, ?_⟩)
        simp only [Bool.and_eq_true, Bool.not_eq_true', beq_eq_false_iff_ne, ne_eq, Bool.and_eq_false_iff]
        refine ⟨z2, ?_⟩
        by_cases h5 : q9.1 + 1 = j
        · refine Or.inr fun h6 => ?_
          have z4 : ∀ (L : List (Option Value)) (i j : Nat), c1 L j = true → ∀ q ∈ lcl g i L, q.1 + 1 = i + j → ¬ q.2.category = 2 := by
            intro L
            induction L with
            | nil => intro i j _ q h; cases h
            | cons a t ih =>
              intro i j hc q hq hj2
              cases a with
              | none =>
                have h3 := lcl_ge t (i + 1) q hq
                cases j with
                | zero => omega
                | succ j => exact ih (i + 1) j (by cases j with
                  | zero => omega
                  | succ j => exact hc) q hq (by omega)
              | some a =>
                rcases List.mem_cons.mp hq with rfl | hq
                · have hj3 : j = 1 := by have : i + 1 = i + j := hj2; omega
                  subst hj3
                  intro h8
                  have h8 : (cv g a).category = 2 := h8
                  rw [cv_cat] at h8
                  cases a <;> first | cases hc | (simp [Value.category] at h8)
                · have h3 := lcl_ge t (i + 1) q hq
                  cases j with
                  | zero => omega
                  | succ j => exact ih (i + 1) j (by cases j with
                    | zero => omega
                    | succ j => cases a <;> exact hc) q hq (by omega)
          exact z4 L 0 j hjc q9 z1 (by omega) h6
        · exact Or.inl h5
    obtain ⟨t2, a1, b1⟩ := h9 T' rfl X'
    exact ⟨t2, st.trans a1, b1⟩
end CALLS
def onF (x : Int32) : Nat → Int32
  | 0 => 0
  | m + 1 => onF x m + (x >>> (nI m &&& 31) &&& 1)
abbrev one (x : Int32) : Int32 := onF x 30
abbrev mbt (l s : Int32) : Int32 := l >>> (s &&& 31) &&& 1
theorem nI_nm1 (k : Nat) (h : k < 2 ^ 31) : ¬ nI k = -1 := fun z => by
  have h2 := nI_pos h
  rw [z] at h2
  exact h2 (by decide)
section QC
variable {g : G0} {M M' : M0} {d d' kc ks kc' ks' : Nat} {K : K0} {pc n : Nat} {vc : Option Nat} {L : List (Option Value)} {S : List Value} {w w' : Wd}
theorem Q_v0 {v : Value} (hL : LkR g M pc M' n vc) (hC : C g M' d' 0 0 false [] w (rets (some v) w')) (hm : MK M' n []) (hv : rcv w M' [] vc) (h8 : CFs vc) (hd : d' + 1 ≤ d) (hr : (S.map fun v => v.category).sum ≤ 8) (kk : V g M d kc ks false K (pc + 3) L (v :: S) w') : V g M d kc ks false K pc L (S) w := V_call (As := []) hL hC hm.1 hm.2.1 hm.2.2.1 hm.2.2.2.1 hm.2.2.2.2 hv h8 hd (by omega) (by omega) hr kk
theorem Q_V0 (hL : LkR g M pc M' n vc) (hC : C g M' d' 0 0 false [] w (rets none w')) (hm : MK M' n []) (hv : rcv w M' [] vc) (h8 : CFs vc) (hd : d' + 1 ≤ d) (hr : (S.map fun v => v.category).sum ≤ 8) (kk : V g M d kc ks false K (pc + 3) L S w') : V g M d kc ks false K pc L (S) w := V_call (As := []) hL hC hm.1 hm.2.1 hm.2.2.1 hm.2.2.2.1 hm.2.2.2.2 hv h8 hd (by omega) (by omega) hr kk
theorem Q_k0 {v : Value} (hL : LkR g M pc M' n vc) (hC : C g M' d' kc' ks' false [] w (rets (some v) w')) (hm : MK M' n []) (hv : rcv w M' [] vc) (h8 : CFs vc) (hd : d' + 1 ≤ d) (hr : (S.map fun v => v.category).sum ≤ 8) (kk : V g M d kc ks false K (pc + 3) L (v :: S) w') : V g M d (kc + kc') (ks + ks') false K pc L (S) w := V_call (As := []) hL hC hm.1 hm.2.1 hm.2.2.1 hm.2.2.2.1 hm.2.2.2.2 hv h8 hd (by omega) (by omega) hr (by rw [Nat.add_sub_cancel, Nat.add_sub_cancel]; exact kk)
theorem Q_v1 {a0 : Value} {v : Value} (hL : LkR g M pc M' n vc) (hC : C g M' d' 0 0 false [a0] w (rets (some v) w')) (hm : MK M' n [a0]) (hv : rcv w M' [a0] vc) (h8 : CFs vc) (hd : d' + 1 ≤ d) (hr : (S.map fun v => v.category).sum ≤ 8) (kk : V g M d kc ks false K (pc + 3) L (v :: S) w') : V g M d kc ks false K pc L (a0 :: S) w := V_call (As := [a0]) hL hC hm.1 hm.2.1 hm.2.2.1 hm.2.2.2.1 hm.2.2.2.2 hv h8 hd (by omega) (by omega) hr kk
theorem Q_V1 {a0 : Value} (hL : LkR g M pc M' n vc) (hC : C g M' d' 0 0 false [a0] w (rets none w')) (hm : MK M' n [a0]) (hv : rcv w M' [a0] vc) (h8 : CFs vc) (hd : d' + 1 ≤ d) (hr : (S.map fun v => v.category).sum ≤ 8) (kk : V g M d kc ks false K (pc + 3) L S w') : V g M d kc ks false K pc L (a0 :: S) w := V_call (As := [a0]) hL hC hm.1 hm.2.1 hm.2.2.1 hm.2.2.2.1 hm.2.2.2.2 hv h8 hd (by omega) (by omega) hr kk
theorem Q_w1 {a0 : Value} {v : Value} (hL : LkW g M pc M' n) (hC : C g M' d' kc' ks' false [a0] w (rets (some v) w')) (hn : plainName M'.nm.cls = true) (hml : M'.ml ≤ 17) (hl : (ini [a0]).length ≤ M'.ml) (hlen : [a0].length = n) (hd : d' + 1 ≤ d) (hr : (S.map fun v => v.category).sum ≤ 8) (kk : V g M d kc ks false K (pc + 3) L (v :: S) w') : V g M d (kc + kc') (ks + ks') false K pc L (a0 :: S) w := V_callW (As := [a0]) hL hC hn hml hl hlen hd (by omega) (by omega) hr (by rw [Nat.add_sub_cancel, Nat.add_sub_cancel]; exact kk)
theorem Q_k1 {a0 : Value} {v : Value} (hL : LkR g M pc M' n vc) (hC : C g M' d' kc' ks' false [a0] w (rets (some v) w')) (hm : MK M' n [a0]) (hv : rcv w M' [a0] vc) (h8 : CFs vc) (hd : d' + 1 ≤ d) (hr : (S.map fun v => v.category).sum ≤ 8) (kk : V g M d kc ks false K (pc + 3) L (v :: S) w') : V g M d (kc + kc') (ks + ks') false K pc L (a0 :: S) w := V_call (As := [a0]) hL hC hm.1 hm.2.1 hm.2.2.1 hm.2.2.2.1 hm.2.2.2.2 hv h8 hd (by omega) (by omega) hr (by rw [Nat.add_sub_cancel, Nat.add_sub_cancel]; exact kk)
theorem Q_v2 {a0 a1 : Value} {v : Value} (hL : LkR g M pc M' n vc) (hC : C g M' d' 0 0 false [a0, a1] w (rets (some v) w')) (hm : MK M' n [a0, a1]) (hv : rcv w M' [a0, a1] vc) (h8 : CFs vc) (hd : d' + 1 ≤ d) (hr : (S.map fun v => v.category).sum ≤ 8) (kk : V g M d kc ks false K (pc + 3) L (v :: S) w') : V g M d kc ks false K pc L (a1 :: a0 :: S) w := V_call (As := [a0, a1]) hL hC hm.1 hm.2.1 hm.2.2.1 hm.2.2.2.1 hm.2.2.2.2 hv h8 hd (by omega) (by omega) hr kk
theorem Q_V2 {a0 a1 : Value} (hL : LkR g M pc M' n vc) (hC : C g M' d' 0 0 false [a0, a1] w (rets none w')) (hm : MK M' n [a0, a1]) (hv : rcv w M' [a0, a1] vc) (h8 : CFs vc) (hd : d' + 1 ≤ d) (hr : (S.map fun v => v.category).sum ≤ 8) (kk : V g M d kc ks false K (pc + 3) L S w') : V g M d kc ks false K pc L (a1 :: a0 :: S) w := V_call (As := [a0, a1]) hL hC hm.1 hm.2.1 hm.2.2.1 hm.2.2.2.1 hm.2.2.2.2 hv h8 hd (by omega) (by omega) hr kk
theorem Q_w2 {a0 a1 : Value} {v : Value} (hL : LkW g M pc M' n) (hC : C g M' d' kc' ks' false [a0, a1] w (rets (some v) w')) (hn : plainName M'.nm.cls = true) (hml : M'.ml ≤ 17) (hl : (ini [a0, a1]).length ≤ M'.ml) (hlen : [a0, a1].length = n) (hd : d' + 1 ≤ d) (hr : (S.map fun v => v.category).sum ≤ 8) (kk : V g M d kc ks false K (pc + 3) L (v :: S) w') : V g M d (kc + kc') (ks + ks') false K pc L (a1 :: a0 :: S) w := V_callW (As := [a0, a1]) hL hC hn hml hl hlen hd (by omega) (by omega) hr (by rw [Nat.add_sub_cancel, Nat.add_sub_cancel]; exact kk)
theorem Q_k2 {a0 a1 : Value} {v : Value} (hL : LkR g M pc M' n vc) (hC : C g M' d' kc' ks' false [a0, a1] w (rets (some v) w')) (hm : MK M' n [a0, a1]) (hv : rcv w M' [a0, a1] vc) (h8 : CFs vc) (hd : d' + 1 ≤ d) (hr : (S.map fun v => v.category).sum ≤ 8) (kk : V g M d kc ks false K (pc + 3) L (v :: S) w') : V g M d (kc + kc') (ks + ks') false K pc L (a1 :: a0 :: S) w := V_call (As := [a0, a1]) hL hC hm.1 hm.2.1 hm.2.2.1 hm.2.2.2.1 hm.2.2.2.2 hv h8 hd (by omega) (by omega) hr (by rw [Nat.add_sub_cancel, Nat.add_sub_cancel]; exact kk)
theorem Q_v3 {a0 a1 a2 : Value} {v : Value} (hL : LkR g M pc M' n vc) (hC : C g M' d' 0 0 false [a0, a1, a2] w (rets (some v) w')) (hm : MK M' n [a0, a1, a2]) (hv : rcv w M' [a0, a1, a2] vc) (h8 : CFs vc) (hd : d' + 1 ≤ d) (hr : (S.map fun v => v.category).sum ≤ 8) (kk : V g M d kc ks false K (pc + 3) L (v :: S) w') : V g M d kc ks false K pc L (a2 :: a1 :: a0 :: S) w := V_call (As := [a0, a1, a2]) hL hC hm.1 hm.2.1 hm.2.2.1 hm.2.2.2.1 hm.2.2.2.2 hv h8 hd (by omega) (by omega) hr kk
theorem Q_V3 {a0 a1 a2 : Value} (hL : LkR g M pc M' n vc) (hC : C g M' d' 0 0 false [a0, a1, a2] w (rets none w')) (hm : MK M' n [a0, a1, a2]) (hv : rcv w M' [a0, a1, a2] vc) (h8 : CFs vc) (hd : d' + 1 ≤ d) (hr : (S.map fun v => v.category).sum ≤ 8) (kk : V g M d kc ks false K (pc + 3) L S w') : V g M d kc ks false K pc L (a2 :: a1 :: a0 :: S) w := V_call (As := [a0, a1, a2]) hL hC hm.1 hm.2.1 hm.2.2.1 hm.2.2.2.1 hm.2.2.2.2 hv h8 hd (by omega) (by omega) hr kk
theorem Q_w3 {a0 a1 a2 : Value} {v : Value} (hL : LkW g M pc M' n) (hC : C g M' d' kc' ks' false [a0, a1, a2] w (rets (some v) w')) (hn : plainName M'.nm.cls = true) (hml : M'.ml ≤ 17) (hl : (ini [a0, a1, a2]).length ≤ M'.ml) (hlen : [a0, a1, a2].length = n) (hd : d' + 1 ≤ d) (hr : (S.map fun v => v.category).sum ≤ 8) (kk : V g M d kc ks false K (pc + 3) L (v :: S) w') : V g M d (kc + kc') (ks + ks') false K pc L (a2 :: a1 :: a0 :: S) w := V_callW (As := [a0, a1, a2]) hL hC hn hml hl hlen hd (by omega) (by omega) hr (by rw [Nat.add_sub_cancel, Nat.add_sub_cancel]; exact kk)
theorem Q_k3 {a0 a1 a2 : Value} {v : Value} (hL : LkR g M pc M' n vc) (hC : C g M' d' kc' ks' false [a0, a1, a2] w (rets (some v) w')) (hm : MK M' n [a0, a1, a2]) (hv : rcv w M' [a0, a1, a2] vc) (h8 : CFs vc) (hd : d' + 1 ≤ d) (hr : (S.map fun v => v.category).sum ≤ 8) (kk : V g M d kc ks false K (pc + 3) L (v :: S) w') : V g M d (kc + kc') (ks + ks') false K pc L (a2 :: a1 :: a0 :: S) w := V_call (As := [a0, a1, a2]) hL hC hm.1 hm.2.1 hm.2.2.1 hm.2.2.2.1 hm.2.2.2.2 hv h8 hd (by omega) (by omega) hr (by rw [Nat.add_sub_cancel, Nat.add_sub_cancel]; exact kk)
theorem Q_v4 {a0 a1 a2 a3 : Value} {v : Value} (hL : LkR g M pc M' n vc) (hC : C g M' d' 0 0 false [a0, a1, a2, a3] w (rets (some v) w')) (hm : MK M' n [a0, a1, a2, a3]) (hv : rcv w M' [a0, a1, a2, a3] vc) (h8 : CFs vc) (hd : d' + 1 ≤ d) (hr : (S.map fun v => v.category).sum ≤ 8) (kk : V g M d kc ks false K (pc + 3) L (v :: S) w') : V g M d kc ks false K pc L (a3 :: a2 :: a1 :: a0 :: S) w := V_call (As := [a0, a1, a2, a3]) hL hC hm.1 hm.2.1 hm.2.2.1 hm.2.2.2.1 hm.2.2.2.2 hv h8 hd (by omega) (by omega) hr kk
theorem Q_V4 {a0 a1 a2 a3 : Value} (hL : LkR g M pc M' n vc) (hC : C g M' d' 0 0 false [a0, a1, a2, a3] w (rets none w')) (hm : MK M' n [a0, a1, a2, a3]) (hv : rcv w M' [a0, a1, a2, a3] vc) (h8 : CFs vc) (hd : d' + 1 ≤ d) (hr : (S.map fun v => v.category).sum ≤ 8) (kk : V g M d kc ks false K (pc + 3) L S w') : V g M d kc ks false K pc L (a3 :: a2 :: a1 :: a0 :: S) w := V_call (As := [a0, a1, a2, a3]) hL hC hm.1 hm.2.1 hm.2.2.1 hm.2.2.2.1 hm.2.2.2.2 hv h8 hd (by omega) (by omega) hr kk
theorem Q_w4 {a0 a1 a2 a3 : Value} {v : Value} (hL : LkW g M pc M' n) (hC : C g M' d' kc' ks' false [a0, a1, a2, a3] w (rets (some v) w')) (hn : plainName M'.nm.cls = true) (hml : M'.ml ≤ 17) (hl : (ini [a0, a1, a2, a3]).length ≤ M'.ml) (hlen : [a0, a1, a2, a3].length = n) (hd : d' + 1 ≤ d) (hr : (S.map fun v => v.category).sum ≤ 8) (kk : V g M d kc ks false K (pc + 3) L (v :: S) w') : V g M d (kc + kc') (ks + ks') false K pc L (a3 :: a2 :: a1 :: a0 :: S) w := V_callW (As := [a0, a1, a2, a3]) hL hC hn hml hl hlen hd (by omega) (by omega) hr (by rw [Nat.add_sub_cancel, Nat.add_sub_cancel]; exact kk)
theorem Q_k4 {a0 a1 a2 a3 : Value} {v : Value} (hL : LkR g M pc M' n vc) (hC : C g M' d' kc' ks' false [a0, a1, a2, a3] w (rets (some v) w')) (hm : MK M' n [a0, a1, a2, a3]) (hv : rcv w M' [a0, a1, a2, a3] vc) (h8 : CFs vc) (hd : d' + 1 ≤ d) (hr : (S.map fun v => v.category).sum ≤ 8) (kk : V g M d kc ks false K (pc + 3) L (v :: S) w') : V g M d (kc + kc') (ks + ks') false K pc L (a3 :: a2 :: a1 :: a0 :: S) w := V_call (As := [a0, a1, a2, a3]) hL hC hm.1 hm.2.1 hm.2.2.1 hm.2.2.2.1 hm.2.2.2.2 hv h8 hd (by omega) (by omega) hr (by rw [Nat.add_sub_cancel, Nat.add_sub_cancel]; exact kk)
theorem Q_v5 {a0 a1 a2 a3 a4 : Value} {v : Value} (hL : LkR g M pc M' n vc) (hC : C g M' d' 0 0 false [a0, a1, a2, a3, a4] w (rets (some v) w')) (hm : MK M' n [a0, a1, a2, a3, a4]) (hv : rcv w M' [a0, a1, a2, a3, a4] vc) (h8 : CFs vc) (hd : d' + 1 ≤ d) (hr : (S.map fun v => v.category).sum ≤ 8) (kk : V g M d kc ks false K (pc + 3) L (v :: S) w') : V g M d kc ks false K pc L (a4 :: a3 :: a2 :: a1 :: a0 :: S) w := V_call (As := [a0, a1, a2, a3, a4]) hL hC hm.1 hm.2.1 hm.2.2.1 hm.2.2.2.1 hm.2.2.2.2 hv h8 hd (by omega) (by omega) hr kk
theorem Q_V5 {a0 a1 a2 a3 a4 : Value} (hL : LkR g M pc M' n vc) (hC : C g M' d' 0 0 false [a0, a1, a2, a3, a4] w (rets none w')) (hm : MK M' n [a0, a1, a2, a3, a4]) (hv : rcv w M' [a0, a1, a2, a3, a4] vc) (h8 : CFs vc) (hd : d' + 1 ≤ d) (hr : (S.map fun v => v.category).sum ≤ 8) (kk : V g M d kc ks false K (pc + 3) L S w') : V g M d kc ks false K pc L (a4 :: a3 :: a2 :: a1 :: a0 :: S) w := V_call (As := [a0, a1, a2, a3, a4]) hL hC hm.1 hm.2.1 hm.2.2.1 hm.2.2.2.1 hm.2.2.2.2 hv h8 hd (by omega) (by omega) hr kk
theorem Q_w5 {a0 a1 a2 a3 a4 : Value} {v : Value} (hL : LkW g M pc M' n) (hC : C g M' d' kc' ks' false [a0, a1, a2, a3, a4] w (rets (some v) w')) (hn : plainName M'.nm.cls = true) (hml : M'.ml ≤ 17) (hl : (ini [a0, a1, a2, a3, a4]).length ≤ M'.ml) (hlen : [a0, a1, a2, a3, a4].length = n) (hd : d' + 1 ≤ d) (hr : (S.map fun v => v.category).sum ≤ 8) (kk : V g M d kc ks false K (pc + 3) L (v :: S) w') : V g M d (kc + kc') (ks + ks') false K pc L (a4 :: a3 :: a2 :: a1 :: a0 :: S) w := V_callW (As := [a0, a1, a2, a3, a4]) hL hC hn hml hl hlen hd (by omega) (by omega) hr (by rw [Nat.add_sub_cancel, Nat.add_sub_cancel]; exact kk)
theorem Q_k5 {a0 a1 a2 a3 a4 : Value} {v : Value} (hL : LkR g M pc M' n vc) (hC : C g M' d' kc' ks' false [a0, a1, a2, a3, a4] w (rets (some v) w')) (hm : MK M' n [a0, a1, a2, a3, a4]) (hv : rcv w M' [a0, a1, a2, a3, a4] vc) (h8 : CFs vc) (hd : d' + 1 ≤ d) (hr : (S.map fun v => v.category).sum ≤ 8) (kk : V g M d kc ks false K (pc + 3) L (v :: S) w') : V g M d (kc + kc') (ks + ks') false K pc L (a4 :: a3 :: a2 :: a1 :: a0 :: S) w := V_call (As := [a0, a1, a2, a3, a4]) hL hC hm.1 hm.2.1 hm.2.2.1 hm.2.2.2.1 hm.2.2.2.2 hv h8 hd (by omega) (by omega) hr (by rw [Nat.add_sub_cancel, Nat.add_sub_cancel]; exact kk)
theorem Q_v6 {a0 a1 a2 a3 a4 a5 : Value} {v : Value} (hL : LkR g M pc M' n vc) (hC : C g M' d' 0 0 false [a0, a1, a2, a3, a4, a5] w (rets (some v) w')) (hm : MK M' n [a0, a1, a2, a3, a4, a5]) (hv : rcv w M' [a0, a1, a2, a3, a4, a5] vc) (h8 : CFs vc) (hd : d' + 1 ≤ d) (hr : (S.map fun v => v.category).sum ≤ 8) (kk : V g M d kc ks false K (pc + 3) L (v :: S) w') : V g M d kc ks false K pc L (a5 :: a4 :: a3 :: a2 :: a1 :: a0 :: S) w := V_call (As := [a0, a1, a2, a3, a4, a5]) hL hC hm.1 hm.2.1 hm.2.2.1 hm.2.2.2.1 hm.2.2.2.2 hv h8 hd (by omega) (by omega) hr kk
theorem Q_V6 {a0 a1 a2 a3 a4 a5 : Value} (hL : LkR g M pc M' n vc) (hC : C g M' d' 0 0 false [a0, a1, a2, a3, a4, a5] w (rets none w')) (hm : MK M' n [a0, a1, a2, a3, a4, a5]) (hv : rcv w M' [a0, a1, a2, a3, a4, a5] vc) (h8 : CFs vc) (hd : d' + 1 ≤ d) (hr : (S.map fun v => v.category).sum ≤ 8) (kk : V g M d kc ks false K (pc + 3) L S w') : V g M d kc ks false K pc L (a5 :: a4 :: a3 :: a2 :: a1 :: a0 :: S) w := V_call (As := [a0, a1, a2, a3, a4, a5]) hL hC hm.1 hm.2.1 hm.2.2.1 hm.2.2.2.1 hm.2.2.2.2 hv h8 hd (by omega) (by omega) hr kk
theorem Q_w6 {a0 a1 a2 a3 a4 a5 : Value} {v : Value} (hL : LkW g M pc M' n) (hC : C g M' d' kc' ks' false [a0, a1, a2, a3, a4, a5] w (rets (some v) w')) (hn : plainName M'.nm.cls = true) (hml : M'.ml ≤ 17) (hl : (ini [a0, a1, a2, a3, a4, a5]).length ≤ M'.ml) (hlen : [a0, a1, a2, a3, a4, a5].length = n) (hd : d' + 1 ≤ d) (hr : (S.map fun v => v.category).sum ≤ 8) (kk : V g M d kc ks false K (pc + 3) L (v :: S) w') : V g M d (kc + kc') (ks + ks') false K pc L (a5 :: a4 :: a3 :: a2 :: a1 :: a0 :: S) w := V_callW (As := [a0, a1, a2, a3, a4, a5]) hL hC hn hml hl hlen hd (by omega) (by omega) hr (by rw [Nat.add_sub_cancel, Nat.add_sub_cancel]; exact kk)
theorem Q_k6 {a0 a1 a2 a3 a4 a5 : Value} {v : Value} (hL : LkR g M pc M' n vc) (hC : C g M' d' kc' ks' false [a0, a1, a2, a3, a4, a5] w (rets (some v) w')) (hm : MK M' n [a0, a1, a2, a3, a4, a5]) (hv : rcv w M' [a0, a1, a2, a3, a4, a5] vc) (h8 : CFs vc) (hd : d' + 1 ≤ d) (hr : (S.map fun v => v.category).sum ≤ 8) (kk : V g M d kc ks false K (pc + 3) L (v :: S) w') : V g M d (kc + kc') (ks + ks') false K pc L (a5 :: a4 :: a3 :: a2 :: a1 :: a0 :: S) w := V_call (As := [a0, a1, a2, a3, a4, a5]) hL hC hm.1 hm.2.1 hm.2.2.1 hm.2.2.2.1 hm.2.2.2.2 hv h8 hd (by omega) (by omega) hr (by rw [Nat.add_sub_cancel, Nat.add_sub_cancel]; exact kk)
end QC
theorem C_less {g : G0} {M : M0} {d kc ks kc' ks' : Nat} {op : Bool} {As : List Value} {w : Wd} {P : Res → Wd → Prop} (h1 : kc ≤ kc') (h2 : ks ≤ ks') (h : C g M d kc ks op As w P) : C g M d kc' ks' op As w P := V_less h1 h2 h
theorem cmp_self (x : Int64) : lg_cmp x x = 0 := by unfold lg_cmp; simp
theorem nI_ne {a b : Nat} (ha : a < 2 ^ 31) (hb : b < 2 ^ 31) (h : a ≠ b) : ¬ nI a = nI b := fun z => h ((nI_eq ha hb).mp z)
theorem up2_up2 {i : Nat → Nat → Int32} {k f : Nat} {u v : Int32} : up2 (up2 i k f u) k f v = up2 i k f v := by
  refine up2_ext fun a b => ?_
  unfold up2
  by_cases h : a = k ∧ b = f
  · rw [if_pos h, if_pos h]
  · rw [if_neg h, if_neg h, if_neg h]
theorem up2_same {i : Nat → Nat → Int32} {k f : Nat} : up2 i k f (i k f) = i := by
  refine up2_ext fun a b => ?_
  unfold up2
  by_cases h : a = k ∧ b = f
  · rw [if_pos h, h.1, h.2]
  · rw [if_neg h]
theorem mdx5 {x y : Int32} {f w : Nat} (hx : x = nI f) (hy : y = nI w) : 5 * x + y = nI (5 * f + w) := by
  rw [hx, hy, show (5 : Int32) * nI f = nI (5 * f) from pk_mul 5 f, nI_add]
theorem md3 {x y : Int32} {f w : Nat} (hx : x = nI f) (hy : y = nI w) : 3 * x + y = nI (3 * f + w) := by
  rw [hx, hy, show (3 : Int32) * nI f = nI (3 * f) from pk_mul 3 f, nI_add]
theorem and31 (x : Int32) : ∃ c, c < 2 ^ 31 ∧ x &&& 2147483647 = nI c := by
  have h : (x &&& 2147483647).toUInt32.toNat = x.toUInt32.toNat % 2 ^ 31 := by
    show (x.toUInt32 &&& 2147483647).toNat = _
    rw [UInt32.toNat_and]
    exact Nat.and_two_pow_sub_one_eq_mod _ 31
  refine ⟨x.toUInt32.toNat % 2 ^ 31, Nat.mod_lt _ (by decide), ?_⟩
  refine congrArg Int32.ofUInt32 (a₁ := (x &&& 2147483647).toUInt32) (a₂ := (nI (x.toUInt32.toNat % 2 ^ 31)).toUInt32) (UInt32.toNat_inj.mp ?_)
  rw [h]
  show _ = (UInt32.ofNat _).toNat
  rw [UInt32.toNat_ofNat']
  omega
def b01 (x : Int32) : Prop := x = 0 ∨ x = 1
