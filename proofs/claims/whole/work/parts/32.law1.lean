section CALLS
variable {g : G0} {M M' : M0} {d d' kc ks kc' ks' : Nat} {op : Bool} {K : K0} {pc n : Nat} {vc : Option Nat} {L : List (Option Value)} {S : List Value} {w w' : Wd}
theorem V_callC4 {As : List Value} {E name : String} {pre suf : List ExceptionTableEntry} {x : ExceptionTableEntry} {j : Nat} (hL : LkX g M pc M' n vc) (hC : C g M' d' kc' ks' false As w (thrs E w')) (hn : plainName M'.nm.cls = true) (hh : M'.hh = []) (hml : M'.ml ≤ 17) (hl : (ini As).length ≤ M'.ml) (hlen : As.length = n) (hv : rcv w M' As vc) (h8 : ∀ ci, vc = some ci → CF ci) (hd : d' + 1 ≤ d) (hk : kc' ≤ kc) (hks : ks' ≤ ks) (hr : (S.map fun v => v.category).sum ≤ 8)
    (hsplit : tableOf M.hh = pre ++ x :: suf) (hpass : ∀ z ∈ pre, z.catchType ≠ 0 ∧ ∃ nm : String, Cond.classLink M.nm.cls z.catchType nm ∈ TW ∧ (E, nm) ∈ ncs) (hxp : covers x pc = true) (h0c : x.catchType ≠ 0) (hlink : Cond.classLink M.nm.cls x.catchType name ∈ TW) (hcast : Cond.castable E name ∈ TW)
    (hd2 : decode M.co x.handlerPc = .ok (.astore j, 2)) (hjn : j < M.ml) (hjc : c1 L j = true) (kk : V g M d (kc - kc') (ks - ks') false K (x.handlerPc + 2) (sv L j none) [] w') : V g M d kc ks false K pc L (As.reverse ++ S) w := by
  intro p e s m args below meth c H locs cells slots ls mc ms A Z
  obtain ⟨hx, hb, hmL, hrt, hown, hlk, hnm, htb, hE⟩ := id A
  obtain ⟨hls, hH, hop, hS, hkc, hks0⟩ := id Z
  have hts : ∀ w ∈ TW, w.before args s = true := fun w hw => hE.2.1 w hw args
  have hM := met_vx hn hh hl hC
  have hrun := hL p e { frames := d, cells := mc, slots := ms, locals := 36 * d } s m args below meth c H locs cells slots ls _ kc' ks' _ _ _ (As.map (cv g)) (S.map (cv g)) A hM rfl rfl hd (by show 8 + (M'.ml + 11) + 36 * d' ≤ 36 * d; omega) (by rw [List.length_map]; exact hlen) (PcR.blind g false As w) (fun U hU hW => ⟨rfl, by rw [hU]; exact En.moved hW (hE.kept hS.1 hS.2.1), by rw [hU]; exact hH, fun h => nomatch h⟩) (rcv_of hE hH hv h8) hls.1 (by rw [cats]; exact hr) ⟨by show cells + kc' ≤ mc; omega, by show slots + ks' ≤ ms; omega⟩
  intro T hT X
  have hst : (As.reverse ++ S).map (cv g) = (As.map (cv g)).reverse ++ S.map (cv g) := by rw [List.map_append, List.map_reverse]
  rw [hst]
  rcases hrun T hT X with ⟨v0, st₀, t, T', L0, h0, X', hL0, e1, e2, hq, st⟩ | ⟨q, st₀, t, T', L0, E0, ce, h0, X', hL0, e1, e2, hxc, hce, hcv, hcl, st⟩
  · obtain ⟨v', w9, -, ⟨h9, -⟩, -⟩ := hq
    cases h9
  · obtain ⟨w9, ⟨h9, rfl⟩, hH', hF⟩ := hxc
    cases h9
    obtain ⟨hz, hq1, hS'⟩ := vx_keep (A1 := gA g) (free := gA g) h0 e1 hS (fun q _ h => h) (fun q h => h) hL0 hF
    have h9 : vx_W p (gl g) e { frames := d, cells := mc, slots := ms, locals := 36 * d } s m args below meth c T'.heap (locs ++ L0) (cells + kc') (slots + ks') (K below args s mc ms) (F0 m pc ls (S.map (cv g))) q := by
      refine vx_catch (E := E) (ce := ce) (own := M.nm.cls) (name := name) hown pre x suf (by rw [htb]; exact hsplit) (fun z hz9 => ?_) hxp h0c (hts _ hlink) (hts _ hcast) (by rw [e1]; exact hce) hcv hcl ?_
      · obtain ⟨z1, nm, z2, z3⟩ := hpass z hz9
        exact Or.inr ⟨z1, nm, hts _ z2, hE.2.2.2.1 _ z3⟩
      · refine lv_astore (x := q) hx hb hd2 hls hjn rfl (fun ls9 hl9 => ?_)
        refine kk p e s m args below meth c T'.heap (locs ++ L0) (cells + kc') (slots + ks') ls9 mc ms A ⟨⟨hl9.1, hl9.2.1, fun q9 hq9 => hl9.2.2 q9 ?_⟩, by rw [e1]; exact hH', (fun h => nomatch h), hS', by omega, by omega⟩
        obtain ⟨z1, z2⟩ := lcl_none L 0 j q9 hq9
        rw [Nat.zero_add] at z2
        have z3 := (lcl_sv (g := g) L 0 j (.ref 0) hjc)
        refine List.mem_cons_of_mem _ (List.mem_filter.mpr ⟨z1, ?_⟩)
        simp only [Bool.and_eq_true, Bool.not_eq_true', beq_eq_false_iff_ne, ne_eq, Bool.and_eq_false_iff]
        refine ⟨z2, ?_⟩
        by_cases h5 : q9.1 + 1 = j
        · refine Or.inr fun h6 => ?_
          have z4 : ∀ (L : List (Option Value)) (i j : Nat), c1 L j = true → ∀ q ∈ lcl g i L, q.1 + 1 = i + j → ¬ q.2.category = 2 := by
            intro L
            induction L with
            | nil => intro i j _ q h; cases h
            | cons a t ih =>
              intro i j hc q hq hj2
              cases a with
              | none =>
                have h3 := lcl_ge t (i + 1) q hq
                cases j with
                | zero => omega
                | succ j => exact ih (i + 1) j (by cases j with
                  | zero => omega
                  | succ j => exact hc) q hq (by omega)
              | some a =>
                rcases List.mem_cons.mp hq with rfl | hq
                · have hj3 : j = 1 := by have : i + 1 = i + j := hj2; omega
                  subst hj3
                  intro h8
                  have h8 : (cv g a).category = 2 := h8
                  rw [cv_cat] at h8
                  cases a <;> first | cases hc | (simp [Value.category] at h8)
                · have h3 := lcl_ge t (i + 1) q hq
                  cases j with
                  | zero => omega
                  | succ j => exact ih (i + 1) j (by cases j with
                    | zero => omega
                    | succ j => cases a <;> exact hc) q hq (by omega)
          exact z4 L 0 j hjc q9 z1 (by omega) h6
        · exact Or.inl h5
    obtain ⟨t2, a1, b1⟩ := h9 T' rfl X'
    exact ⟨t2, st.trans a1, b1⟩
end CALLS
theorem w_add {g : G0} {j : Nat → Nat → Int64} (d : Nat) {i i' : Nat → Nat → Int32} {x : Int32} {v : Int32} (hC : C g m_X6_add d 0 0 false [.ref 0, .int x] (mk i j) (rets (some (.int v)) (mk i' j)))  : C g m_L_add (d + 1) 0 0 false [.ref 0, .int x, .ref 93] (mk i j) (rets (some (.int 0)) (mk i' (up2 j 93 0 v.toInt64))) := by
  refine C_of (L := [some (.ref 0), some (.int x), some (.ref 93), none]) rfl ?_
  refine L_aload_n_2 dL_add_0 ?_
  refine V_iconst (v := 0) (by decide) dL_add_1 ?_
  refine L_aload_n_0 dL_add_2 ?_
  refine L_iload_n_1 dL_add_3 ?_
  refine U_cv2 (d := d + 0) (lkR_RL_7 rfl dL_add_4) (hC) ⟨pn_X6_add, rfl, (Nat.le_of_ble_eq_true rfl), (Nat.le_of_ble_eq_true rfl), rfl⟩ (⟨_, _, rfl, rfl, rfl⟩) (cfS cf6) (Nat.le_of_ble_eq_true rfl) ?_
  refine V_i2l dL_add_7 ?_
  refine U_last (n := 0) dL_add_8 rfl (rfl) (by decide) (by decide) ?_
  refine V_goto (tgt := 18) dL_add_9 (by decide) ?_
  refine V_iconst (v := 0) (by decide) dL_add_18 ?_
  exact V_iret dL_add_19 rfl rfl (⟨rfl, rfl⟩)
theorem w_add_x1 {g : G0} {j : Nat → Nat → Int64} (d : Nat) {i : Nat → Nat → Int32} {x : Int32} (hC : C g m_X6_add d 1 6 false [.ref 0, .int x] (mk i j) (thrs "java/lang/IndexOutOfBoundsException" (mk i j)))  : C g m_L_add (d + 1) 1 6 false [.ref 0, .int x, .ref 93] (mk i j) (rets (some (.int 1)) (mk i j)) := by
  refine C_of (L := [some (.ref 0), some (.int x), some (.ref 93), none]) rfl ?_
  refine L_aload_n_2 dL_add_0 ?_
  refine V_iconst (v := 0) (by decide) dL_add_1 ?_
  refine L_aload_n_0 dL_add_2 ?_
  refine L_iload_n_1 dL_add_3 ?_
  refine V_callC (As := [.ref 0, .int x]) (E := "java/lang/IndexOutOfBoundsException") (name := "java/lang/IndexOutOfBoundsException") (pre := []) (suf := [⟨0, 9, 15, 15⟩]) (x := ⟨0, 9, 12, 13⟩) (kf := 3) (j := 3) (lkX_RL_7 rfl dL_add_4) hC pn_X6_add rfl (Nat.le_of_ble_eq_true rfl) (Nat.le_of_ble_eq_true rfl) rfl (⟨_, _, rfl, rfl, rfl⟩) (cfS cf6) (Nat.le_refl _) (Nat.le_refl _) (Nat.le_refl _) (by decide) rfl (fun z hz => by cases hz) (by decide) (by decide) cl_RL_13 ca_IndexOutOfBoundsException dL_add_12 rfl (Nat.le_of_ble_eq_true rfl) rfl ?_
  refine V_iconst (v := 1) (by decide) dL_add_13 ?_
  exact V_iret dL_add_14 rfl rfl (⟨rfl, rfl⟩)
theorem w_add_x2 {g : G0} {j : Nat → Nat → Int64} (d : Nat) {i : Nat → Nat → Int32} {x : Int32} (hC : C g m_X6_add d 1 6 false [.ref 0, .int x] (mk i j) (thrs "java/lang/IllegalStateException" (mk i j)))  : C g m_L_add (d + 1) 1 6 false [.ref 0, .int x, .ref 93] (mk i j) (rets (some (.int 2)) (mk i j)) := by
  refine C_of (L := [some (.ref 0), some (.int x), some (.ref 93), none]) rfl ?_
  refine L_aload_n_2 dL_add_0 ?_
  refine V_iconst (v := 0) (by decide) dL_add_1 ?_
  refine L_aload_n_0 dL_add_2 ?_
  refine L_iload_n_1 dL_add_3 ?_
  refine V_callC (As := [.ref 0, .int x]) (E := "java/lang/IllegalStateException") (name := "java/lang/IllegalStateException") (pre := [⟨0, 9, 12, 13⟩]) (suf := []) (x := ⟨0, 9, 15, 15⟩) (kf := 3) (j := 3) (lkX_RL_7 rfl dL_add_4) hC pn_X6_add rfl (Nat.le_of_ble_eq_true rfl) (Nat.le_of_ble_eq_true rfl) rfl (⟨_, _, rfl, rfl, rfl⟩) (cfS cf6) (Nat.le_refl _) (Nat.le_refl _) (Nat.le_refl _) (by decide) rfl (fun z hz => by rcases List.mem_singleton.mp hz with rfl; exact ⟨by decide, "java/lang/IndexOutOfBoundsException", cl_RL_13, by decide⟩) (by decide) (by decide) cl_RL_15 ca_IllegalStateException dL_add_15 rfl (Nat.le_of_ble_eq_true rfl) rfl ?_
  refine V_iconst (v := 2) (by decide) dL_add_16 ?_
  exact V_iret dL_add_17 rfl rfl (⟨rfl, rfl⟩)
theorem w_crossOut {g : G0} {j : Nat → Nat → Int64} (d : Nat) {i i' : Nat → Nat → Int32} {x : Int32} {v : Int32} (hC : C g m_X6_crossOut d 0 0 false [.ref 0, .int x] (mk i j) (rets (some (.int v)) (mk i' j)))  : C g m_L_crossOut (d + 1) 0 0 false [.ref 0, .int x, .ref 93] (mk i j) (rets (some (.int 0)) (mk i' (up2 j 93 0 v.toInt64))) := by
  refine C_of (L := [some (.ref 0), some (.int x), some (.ref 93), none]) rfl ?_
  refine L_aload_n_2 dL_crossOut_0 ?_
  refine V_iconst (v := 0) (by decide) dL_crossOut_1 ?_
  refine L_aload_n_0 dL_crossOut_2 ?_
  refine L_iload_n_1 dL_crossOut_3 ?_
  refine U_cv2 (d := d + 0) (lkR_RL_17 rfl dL_crossOut_4) (hC) ⟨pn_X6_crossOut, rfl, (Nat.le_of_ble_eq_true rfl), (Nat.le_of_ble_eq_true rfl), rfl⟩ (⟨_, _, rfl, rfl, rfl⟩) (cfS cf6) (Nat.le_of_ble_eq_true rfl) ?_
  refine V_i2l dL_crossOut_7 ?_
  refine U_last (n := 0) dL_crossOut_8 rfl (rfl) (by decide) (by decide) ?_
  refine V_goto (tgt := 18) dL_crossOut_9 (by decide) ?_
  refine V_iconst (v := 0) (by decide) dL_crossOut_18 ?_
  exact V_iret dL_crossOut_19 rfl rfl (⟨rfl, rfl⟩)
theorem w_crossOut_x1 {g : G0} {j : Nat → Nat → Int64} (d : Nat) {i : Nat → Nat → Int32} {x : Int32} (hC : C g m_X6_crossOut d 1 6 false [.ref 0, .int x] (mk i j) (thrs "java/lang/IndexOutOfBoundsException" (mk i j)))  : C g m_L_crossOut (d + 1) 1 6 false [.ref 0, .int x, .ref 93] (mk i j) (rets (some (.int 1)) (mk i j)) := by
  refine C_of (L := [some (.ref 0), some (.int x), some (.ref 93), none]) rfl ?_
  refine L_aload_n_2 dL_crossOut_0 ?_
  refine V_iconst (v := 0) (by decide) dL_crossOut_1 ?_
  refine L_aload_n_0 dL_crossOut_2 ?_
  refine L_iload_n_1 dL_crossOut_3 ?_
  refine V_callC (As := [.ref 0, .int x]) (E := "java/lang/IndexOutOfBoundsException") (name := "java/lang/IndexOutOfBoundsException") (pre := []) (suf := [⟨0, 9, 15, 15⟩]) (x := ⟨0, 9, 12, 13⟩) (kf := 3) (j := 3) (lkX_RL_17 rfl dL_crossOut_4) hC pn_X6_crossOut rfl (Nat.le_of_ble_eq_true rfl) (Nat.le_of_ble_eq_true rfl) rfl (⟨_, _, rfl, rfl, rfl⟩) (cfS cf6) (Nat.le_refl _) (Nat.le_refl _) (Nat.le_refl _) (by decide) rfl (fun z hz => by cases hz) (by decide) (by decide) cl_RL_13 ca_IndexOutOfBoundsException dL_crossOut_12 rfl (Nat.le_of_ble_eq_true rfl) rfl ?_
  refine V_iconst (v := 1) (by decide) dL_crossOut_13 ?_
  exact V_iret dL_crossOut_14 rfl rfl (⟨rfl, rfl⟩)
theorem w_crossOut_x2 {g : G0} {j : Nat → Nat → Int64} (d : Nat) {i : Nat → Nat → Int32} {x : Int32} (hC : C g m_X6_crossOut d 1 6 false [.ref 0, .int x] (mk i j) (thrs "java/lang/IllegalStateException" (mk i j)))  : C g m_L_crossOut (d + 1) 1 6 false [.ref 0, .int x, .ref 93] (mk i j) (rets (some (.int 2)) (mk i j)) := by
  refine C_of (L := [some (.ref 0), some (.int x), some (.ref 93), none]) rfl ?_
  refine L_aload_n_2 dL_crossOut_0 ?_
  refine V_iconst (v := 0) (by decide) dL_crossOut_1 ?_
  refine L_aload_n_0 dL_crossOut_2 ?_
  refine L_iload_n_1 dL_crossOut_3 ?_
  refine V_callC (As := [.ref 0, .int x]) (E := "java/lang/IllegalStateException") (name := "java/lang/IllegalStateException") (pre := [⟨0, 9, 12, 13⟩]) (suf := []) (x := ⟨0, 9, 15, 15⟩) (kf := 3) (j := 3) (lkX_RL_17 rfl dL_crossOut_4) hC pn_X6_crossOut rfl (Nat.le_of_ble_eq_true rfl) (Nat.le_of_ble_eq_true rfl) rfl (⟨_, _, rfl, rfl, rfl⟩) (cfS cf6) (Nat.le_refl _) (Nat.le_refl _) (Nat.le_refl _) (by decide) rfl (fun z hz => by rcases List.mem_singleton.mp hz with rfl; exact ⟨by decide, "java/lang/IndexOutOfBoundsException", cl_RL_13, by decide⟩) (by decide) (by decide) cl_RL_15 ca_IllegalStateException dL_crossOut_15 rfl (Nat.le_of_ble_eq_true rfl) rfl ?_
  refine V_iconst (v := 2) (by decide) dL_crossOut_16 ?_
  exact V_iret dL_crossOut_17 rfl rfl (⟨rfl, rfl⟩)
theorem w_publish {g : G0} {j : Nat → Nat → Int64} (d : Nat) {i i' : Nat → Nat → Int32} {v : Int32} (hC : C g m_X6_publish d 0 0 false [.ref 0] (mk i j) (rets (some (.int v)) (mk i' j)))  : C g m_L_publish (d + 1) 0 0 false [.ref 0, .ref 93] (mk i j) (rets (some (.int 0)) (mk i' (up2 j 93 0 v.toInt64))) := by
  refine C_of (L := [some (.ref 0), some (.ref 93), none]) rfl ?_
  refine L_aload_n_1 dL_publish_0 ?_
  refine V_iconst (v := 0) (by decide) dL_publish_1 ?_
  refine L_aload_n_0 dL_publish_2 ?_
  refine U_cv1 (d := d + 0) (lkR_RL_20 rfl dL_publish_3) (hC) ⟨pn_X6_publish, rfl, (Nat.le_of_ble_eq_true rfl), (Nat.le_of_ble_eq_true rfl), rfl⟩ (⟨_, _, rfl, rfl, rfl⟩) (cfS cf6) (Nat.le_of_ble_eq_true rfl) ?_
  refine V_i2l dL_publish_6 ?_
  refine U_last (n := 0) dL_publish_7 rfl (rfl) (by decide) (by decide) ?_
  refine V_goto (tgt := 14) dL_publish_8 (by decide) ?_
  refine V_iconst (v := 0) (by decide) dL_publish_14 ?_
  exact V_iret dL_publish_15 rfl rfl (⟨rfl, rfl⟩)
theorem w_publish_x1 {g : G0} {j : Nat → Nat → Int64} (d : Nat) {i : Nat → Nat → Int32} (hC : C g m_X6_publish d 1 6 false [.ref 0] (mk i j) (thrs "java/lang/IllegalStateException" (mk i j)))  : C g m_L_publish (d + 1) 1 6 false [.ref 0, .ref 93] (mk i j) (rets (some (.int 1)) (mk i j)) := by
  refine C_of (L := [some (.ref 0), some (.ref 93), none]) rfl ?_
  refine L_aload_n_1 dL_publish_0 ?_
  refine V_iconst (v := 0) (by decide) dL_publish_1 ?_
  refine L_aload_n_0 dL_publish_2 ?_
  refine V_callC (As := [.ref 0]) (E := "java/lang/IllegalStateException") (name := "java/lang/IllegalStateException") (pre := []) (suf := []) (x := ⟨0, 8, 11, 15⟩) (kf := 2) (j := 2) (lkX_RL_20 rfl dL_publish_3) hC pn_X6_publish rfl (Nat.le_of_ble_eq_true rfl) (Nat.le_of_ble_eq_true rfl) rfl (⟨_, _, rfl, rfl, rfl⟩) (cfS cf6) (Nat.le_refl _) (Nat.le_refl _) (Nat.le_refl _) (by decide) rfl (fun z hz => by cases hz) (by decide) (by decide) cl_RL_15 ca_IllegalStateException dL_publish_11 rfl (Nat.le_of_ble_eq_true rfl) rfl ?_
  refine V_iconst (v := 1) (by decide) dL_publish_12 ?_
  exact V_iret dL_publish_13 rfl rfl (⟨rfl, rfl⟩)
theorem w_renumber {g : G0} {j : Nat → Nat → Int64} (d : Nat) {i i' : Nat → Nat → Int32} {x : Int32} {v : Int32} (hC : C g m_X6_renumber d 0 0 false [.ref 0, .int x] (mk i j) (rets (some (.int v)) (mk i' j)))  : C g m_L_renumber (d + 1) 0 0 false [.ref 0, .int x, .ref 93] (mk i j) (rets (some (.int 0)) (mk i' (up2 j 93 0 v.toInt64))) := by
  refine C_of (L := [some (.ref 0), some (.int x), some (.ref 93), none]) rfl ?_
  refine L_aload_n_2 dL_renumber_0 ?_
  refine V_iconst (v := 0) (by decide) dL_renumber_1 ?_
  refine L_aload_n_0 dL_renumber_2 ?_
  refine L_iload_n_1 dL_renumber_3 ?_
  refine U_cv2 (d := d + 0) (lkR_RL_24 rfl dL_renumber_4) (hC) ⟨pn_X6_renumber, rfl, (Nat.le_of_ble_eq_true rfl), (Nat.le_of_ble_eq_true rfl), rfl⟩ (⟨_, _, rfl, rfl, rfl⟩) (cfS cf6) (Nat.le_of_ble_eq_true rfl) ?_
  refine V_i2l dL_renumber_7 ?_
  refine U_last (n := 0) dL_renumber_8 rfl (rfl) (by decide) (by decide) ?_
  refine V_goto (tgt := 15) dL_renumber_9 (by decide) ?_
  refine V_iconst (v := 0) (by decide) dL_renumber_15 ?_
  exact V_iret dL_renumber_16 rfl rfl (⟨rfl, rfl⟩)
theorem w_renumber_x1 {g : G0} {j : Nat → Nat → Int64} (d : Nat) {i : Nat → Nat → Int32} {x : Int32} (hC : C g m_X6_renumber d 1 6 false [.ref 0, .int x] (mk i j) (thrs "java/lang/IllegalArgumentException" (mk i j)))  : C g m_L_renumber (d + 1) 1 6 false [.ref 0, .int x, .ref 93] (mk i j) (rets (some (.int 1)) (mk i j)) := by
  refine C_of (L := [some (.ref 0), some (.int x), some (.ref 93), none]) rfl ?_
  refine L_aload_n_2 dL_renumber_0 ?_
  refine V_iconst (v := 0) (by decide) dL_renumber_1 ?_
  refine L_aload_n_0 dL_renumber_2 ?_
  refine L_iload_n_1 dL_renumber_3 ?_
  refine V_callC (As := [.ref 0, .int x]) (E := "java/lang/IllegalArgumentException") (name := "java/lang/IllegalArgumentException") (pre := []) (suf := []) (x := ⟨0, 9, 12, 27⟩) (kf := 3) (j := 3) (lkX_RL_24 rfl dL_renumber_4) hC pn_X6_renumber rfl (Nat.le_of_ble_eq_true rfl) (Nat.le_of_ble_eq_true rfl) rfl (⟨_, _, rfl, rfl, rfl⟩) (cfS cf6) (Nat.le_refl _) (Nat.le_refl _) (Nat.le_refl _) (by decide) rfl (fun z hz => by cases hz) (by decide) (by decide) cl_RL_27 ca_IllegalArgumentException dL_renumber_12 rfl (Nat.le_of_ble_eq_true rfl) rfl ?_
  refine V_iconst (v := 1) (by decide) dL_renumber_13 ?_
  exact V_iret dL_renumber_14 rfl rfl (⟨rfl, rfl⟩)
theorem w_setKeep {g : G0} {j : Nat → Nat → Int64} (d : Nat) {i i' : Nat → Nat → Int32} {x : Int32} {v : Int32} (hC : C g m_X6_setKeep d 0 0 false [.ref 0, .int x] (mk i j) (rets (some (.int v)) (mk i' j)))  : C g m_L_setKeep (d + 1) 0 0 false [.ref 0, .int x, .ref 93] (mk i j) (rets (some (.int 0)) (mk i' (up2 j 93 0 v.toInt64))) := by
  refine C_of (L := [some (.ref 0), some (.int x), some (.ref 93), none]) rfl ?_
  refine L_aload_n_2 dL_setKeep_0 ?_
  refine V_iconst (v := 0) (by decide) dL_setKeep_1 ?_
  refine L_aload_n_0 dL_setKeep_2 ?_
  refine L_iload_n_1 dL_setKeep_3 ?_
  refine U_cv2 (d := d + 0) (lkR_RL_29 rfl dL_setKeep_4) (hC) ⟨pn_X6_setKeep, rfl, (Nat.le_of_ble_eq_true rfl), (Nat.le_of_ble_eq_true rfl), rfl⟩ (⟨_, _, rfl, rfl, rfl⟩) (cfS cf6) (Nat.le_of_ble_eq_true rfl) ?_
  refine V_i2l dL_setKeep_7 ?_
  refine U_last (n := 0) dL_setKeep_8 rfl (rfl) (by decide) (by decide) ?_
  refine V_goto (tgt := 15) dL_setKeep_9 (by decide) ?_
  refine V_iconst (v := 0) (by decide) dL_setKeep_15 ?_
  exact V_iret dL_setKeep_16 rfl rfl (⟨rfl, rfl⟩)
theorem w_setKeep_x1 {g : G0} {j : Nat → Nat → Int64} (d : Nat) {i : Nat → Nat → Int32} {x : Int32} (hC : C g m_X6_setKeep d 1 6 false [.ref 0, .int x] (mk i j) (thrs "java/lang/IllegalArgumentException" (mk i j)))  : C g m_L_setKeep (d + 1) 1 6 false [.ref 0, .int x, .ref 93] (mk i j) (rets (some (.int 1)) (mk i j)) := by
  refine C_of (L := [some (.ref 0), some (.int x), some (.ref 93), none]) rfl ?_
  refine L_aload_n_2 dL_setKeep_0 ?_
  refine V_iconst (v := 0) (by decide) dL_setKeep_1 ?_
  refine L_aload_n_0 dL_setKeep_2 ?_
  refine L_iload_n_1 dL_setKeep_3 ?_
  refine V_callC (As := [.ref 0, .int x]) (E := "java/lang/IllegalArgumentException") (name := "java/lang/IllegalArgumentException") (pre := []) (suf := []) (x := ⟨0, 9, 12, 27⟩) (kf := 3) (j := 3) (lkX_RL_29 rfl dL_setKeep_4) hC pn_X6_setKeep rfl (Nat.le_of_ble_eq_true rfl) (Nat.le_of_ble_eq_true rfl) rfl (⟨_, _, rfl, rfl, rfl⟩) (cfS cf6) (Nat.le_refl _) (Nat.le_refl _) (Nat.le_refl _) (by decide) rfl (fun z hz => by cases hz) (by decide) (by decide) cl_RL_27 ca_IllegalArgumentException dL_setKeep_12 rfl (Nat.le_of_ble_eq_true rfl) rfl ?_
  refine V_iconst (v := 1) (by decide) dL_setKeep_13 ?_
  exact V_iret dL_setKeep_14 rfl rfl (⟨rfl, rfl⟩)
theorem w_where {g : G0} {j : Nat → Nat → Int64} (d : Nat) {i i' : Nat → Nat → Int32} {x : Int32} {v : Int32} (hC : C g m_X6_where d 0 0 false [.ref 0, .int x] (mk i j) (rets (some (.int v)) (mk i' j)))  : C g m_L_where (d + 1) 0 0 false [.ref 0, .int x, .ref 93] (mk i j) (rets (some (.int 0)) (mk i' (up2 j 93 0 v.toInt64))) := by
  refine C_of (L := [some (.ref 0), some (.int x), some (.ref 93), none]) rfl ?_
  refine L_aload_n_2 dL_where_0 ?_
  refine V_iconst (v := 0) (by decide) dL_where_1 ?_
  refine L_aload_n_0 dL_where_2 ?_
  refine L_iload_n_1 dL_where_3 ?_
  refine U_cv2 (d := d + 0) (lkR_RL_32 rfl dL_where_4) (hC) ⟨pn_X6_where, rfl, (Nat.le_of_ble_eq_true rfl), (Nat.le_of_ble_eq_true rfl), rfl⟩ (⟨_, _, rfl, rfl, rfl⟩) (cfS cf6) (Nat.le_of_ble_eq_true rfl) ?_
  refine V_i2l dL_where_7 ?_
  refine U_last (n := 0) dL_where_8 rfl (rfl) (by decide) (by decide) ?_
  refine V_goto (tgt := 15) dL_where_9 (by decide) ?_
  refine V_iconst (v := 0) (by decide) dL_where_15 ?_
  exact V_iret dL_where_16 rfl rfl (⟨rfl, rfl⟩)
theorem w_where_x1 {g : G0} {j : Nat → Nat → Int64} (d : Nat) {i : Nat → Nat → Int32} {x : Int32} (hC : C g m_X6_where d 1 6 false [.ref 0, .int x] (mk i j) (thrs "java/lang/IndexOutOfBoundsException" (mk i j)))  : C g m_L_where (d + 1) 1 6 false [.ref 0, .int x, .ref 93] (mk i j) (rets (some (.int 1)) (mk i j)) := by
  refine C_of (L := [some (.ref 0), some (.int x), some (.ref 93), none]) rfl ?_
  refine L_aload_n_2 dL_where_0 ?_
  refine V_iconst (v := 0) (by decide) dL_where_1 ?_
  refine L_aload_n_0 dL_where_2 ?_
  refine L_iload_n_1 dL_where_3 ?_
  refine V_callC (As := [.ref 0, .int x]) (E := "java/lang/IndexOutOfBoundsException") (name := "java/lang/IndexOutOfBoundsException") (pre := []) (suf := []) (x := ⟨0, 9, 12, 13⟩) (kf := 3) (j := 3) (lkX_RL_32 rfl dL_where_4) hC pn_X6_where rfl (Nat.le_of_ble_eq_true rfl) (Nat.le_of_ble_eq_true rfl) rfl (⟨_, _, rfl, rfl, rfl⟩) (cfS cf6) (Nat.le_refl _) (Nat.le_refl _) (Nat.le_refl _) (by decide) rfl (fun z hz => by cases hz) (by decide) (by decide) cl_RL_13 ca_IndexOutOfBoundsException dL_where_12 rfl (Nat.le_of_ble_eq_true rfl) rfl ?_
  refine V_iconst (v := 1) (by decide) dL_where_13 ?_
  exact V_iret dL_where_14 rfl rfl (⟨rfl, rfl⟩)
theorem w_from {g : G0} {j : Nat → Nat → Int64} (d : Nat) {i i' : Nat → Nat → Int32} {x : Int32} {v : Int32} (hC : C g m_X6_from d 0 0 false [.ref 0, .int x] (mk i j) (rets (some (.int v)) (mk i' j)))  : C g m_L_from (d + 1) 0 0 false [.ref 0, .int x, .ref 93] (mk i j) (rets (some (.int 0)) (mk i' (up2 j 93 0 v.toInt64))) := by
  refine C_of (L := [some (.ref 0), some (.int x), some (.ref 93), none]) rfl ?_
  refine L_aload_n_2 dL_from_0 ?_
  refine V_iconst (v := 0) (by decide) dL_from_1 ?_
  refine L_aload_n_0 dL_from_2 ?_
  refine L_iload_n_1 dL_from_3 ?_
  refine U_cv2 (d := d + 0) (lkR_RL_35 rfl dL_from_4) (hC) ⟨pn_X6_from, rfl, (Nat.le_of_ble_eq_true rfl), (Nat.le_of_ble_eq_true rfl), rfl⟩ (⟨_, _, rfl, rfl, rfl⟩) (cfS cf6) (Nat.le_of_ble_eq_true rfl) ?_
  refine V_i2l dL_from_7 ?_
  refine U_last (n := 0) dL_from_8 rfl (rfl) (by decide) (by decide) ?_
  refine V_goto (tgt := 15) dL_from_9 (by decide) ?_
  refine V_iconst (v := 0) (by decide) dL_from_15 ?_
  exact V_iret dL_from_16 rfl rfl (⟨rfl, rfl⟩)
theorem w_from_x1 {g : G0} {j : Nat → Nat → Int64} (d : Nat) {i : Nat → Nat → Int32} {x : Int32} (hC : C g m_X6_from d 1 6 false [.ref 0, .int x] (mk i j) (thrs "java/lang/IndexOutOfBoundsException" (mk i j)))  : C g m_L_from (d + 1) 1 6 false [.ref 0, .int x, .ref 93] (mk i j) (rets (some (.int 1)) (mk i j)) := by
  refine C_of (L := [some (.ref 0), some (.int x), some (.ref 93), none]) rfl ?_
  refine L_aload_n_2 dL_from_0 ?_
  refine V_iconst (v := 0) (by decide) dL_from_1 ?_
  refine L_aload_n_0 dL_from_2 ?_
  refine L_iload_n_1 dL_from_3 ?_
  refine V_callC (As := [.ref 0, .int x]) (E := "java/lang/IndexOutOfBoundsException") (name := "java/lang/IndexOutOfBoundsException") (pre := []) (suf := []) (x := ⟨0, 9, 12, 13⟩) (kf := 3) (j := 3) (lkX_RL_35 rfl dL_from_4) hC pn_X6_from rfl (Nat.le_of_ble_eq_true rfl) (Nat.le_of_ble_eq_true rfl) rfl (⟨_, _, rfl, rfl, rfl⟩) (cfS cf6) (Nat.le_refl _) (Nat.le_refl _) (Nat.le_refl _) (by decide) rfl (fun z hz => by cases hz) (by decide) (by decide) cl_RL_13 ca_IndexOutOfBoundsException dL_from_12 rfl (Nat.le_of_ble_eq_true rfl) rfl ?_
  refine V_iconst (v := 1) (by decide) dL_from_13 ?_
  exact V_iret dL_from_14 rfl rfl (⟨rfl, rfl⟩)
theorem w_cost {g : G0} {j : Nat → Nat → Int64} (d : Nat) {i i' : Nat → Nat → Int32} {x : Int32} {v : Int32} (hC : C g m_X6_cost d 0 0 false [.ref 0, .int x] (mk i j) (rets (some (.int v)) (mk i' j)))  : C g m_L_cost (d + 1) 0 0 false [.ref 0, .int x, .ref 93] (mk i j) (rets (some (.int 0)) (mk i' (up2 j 93 0 v.toInt64))) := by
  refine C_of (L := [some (.ref 0), some (.int x), some (.ref 93), none]) rfl ?_
  refine L_aload_n_2 dL_cost_0 ?_
  refine V_iconst (v := 0) (by decide) dL_cost_1 ?_
  refine L_aload_n_0 dL_cost_2 ?_
  refine L_iload_n_1 dL_cost_3 ?_
  refine U_cv2 (d := d + 0) (lkR_RL_38 rfl dL_cost_4) (hC) ⟨pn_X6_cost, rfl, (Nat.le_of_ble_eq_true rfl), (Nat.le_of_ble_eq_true rfl), rfl⟩ (⟨_, _, rfl, rfl, rfl⟩) (cfS cf6) (Nat.le_of_ble_eq_true rfl) ?_
  refine V_i2l dL_cost_7 ?_
  refine U_last (n := 0) dL_cost_8 rfl (rfl) (by decide) (by decide) ?_
  refine V_goto (tgt := 15) dL_cost_9 (by decide) ?_
  refine V_iconst (v := 0) (by decide) dL_cost_15 ?_
  exact V_iret dL_cost_16 rfl rfl (⟨rfl, rfl⟩)
theorem w_cost_x1 {g : G0} {j : Nat → Nat → Int64} (d : Nat) {i : Nat → Nat → Int32} {x : Int32} (hC : C g m_X6_cost d 1 6 false [.ref 0, .int x] (mk i j) (thrs "java/lang/IndexOutOfBoundsException" (mk i j)))  : C g m_L_cost (d + 1) 1 6 false [.ref 0, .int x, .ref 93] (mk i j) (rets (some (.int 1)) (mk i j)) := by
  refine C_of (L := [some (.ref 0), some (.int x), some (.ref 93), none]) rfl ?_
  refine L_aload_n_2 dL_cost_0 ?_
  refine V_iconst (v := 0) (by decide) dL_cost_1 ?_
  refine L_aload_n_0 dL_cost_2 ?_
  refine L_iload_n_1 dL_cost_3 ?_
  refine V_callC (As := [.ref 0, .int x]) (E := "java/lang/IndexOutOfBoundsException") (name := "java/lang/IndexOutOfBoundsException") (pre := []) (suf := []) (x := ⟨0, 9, 12, 13⟩) (kf := 3) (j := 3) (lkX_RL_38 rfl dL_cost_4) hC pn_X6_cost rfl (Nat.le_of_ble_eq_true rfl) (Nat.le_of_ble_eq_true rfl) rfl (⟨_, _, rfl, rfl, rfl⟩) (cfS cf6) (Nat.le_refl _) (Nat.le_refl _) (Nat.le_refl _) (by decide) rfl (fun z hz => by cases hz) (by decide) (by decide) cl_RL_13 ca_IndexOutOfBoundsException dL_cost_12 rfl (Nat.le_of_ble_eq_true rfl) rfl ?_
  refine V_iconst (v := 1) (by decide) dL_cost_13 ?_
  exact V_iret dL_cost_14 rfl rfl (⟨rfl, rfl⟩)
theorem w_compare {g : G0} {j : Nat → Nat → Int64} (d : Nat) {i i' : Nat → Nat → Int32} {x y : Int32} {v : Int32} (hC : C g m_X6_compare d 0 0 false [.ref 0, .int x, .int y] (mk i j) (rets (some (.int v)) (mk i' j)))  : C g m_L_compare (d + 1) 0 0 false [.ref 0, .int x, .int y, .ref 93] (mk i j) (rets (some (.int 0)) (mk i' (up2 j 93 0 v.toInt64))) := by
  refine C_of (L := [some (.ref 0), some (.int x), some (.int y), some (.ref 93), none]) rfl ?_
  refine L_aload_n_3 dL_compare_0 ?_
  refine V_iconst (v := 0) (by decide) dL_compare_1 ?_
  refine L_aload_n_0 dL_compare_2 ?_
  refine L_iload_n_1 dL_compare_3 ?_
  refine L_iload_n_2 dL_compare_4 ?_
  refine U_cv3 (d := d + 0) (lkR_RL_41 rfl dL_compare_5) (hC) ⟨pn_X6_compare, rfl, (Nat.le_of_ble_eq_true rfl), (Nat.le_of_ble_eq_true rfl), rfl⟩ (⟨_, _, rfl, rfl, rfl⟩) (cfS cf6) (Nat.le_of_ble_eq_true rfl) ?_
  refine V_i2l dL_compare_8 ?_
  refine U_last (n := 0) dL_compare_9 rfl (rfl) (by decide) (by decide) ?_
  refine V_goto (tgt := 17) dL_compare_10 (by decide) ?_
  refine V_iconst (v := 0) (by decide) dL_compare_17 ?_
  exact V_iret dL_compare_18 rfl rfl (⟨rfl, rfl⟩)
theorem w_compare_x1 {g : G0} {j : Nat → Nat → Int64} (d : Nat) {i : Nat → Nat → Int32} {x y : Int32} (hC : C g m_X6_compare d 1 6 false [.ref 0, .int x, .int y] (mk i j) (thrs "java/lang/IllegalArgumentException" (mk i j)))  : C g m_L_compare (d + 1) 1 6 false [.ref 0, .int x, .int y, .ref 93] (mk i j) (rets (some (.int 1)) (mk i j)) := by
  refine C_of (L := [some (.ref 0), some (.int x), some (.int y), some (.ref 93), none]) rfl ?_
  refine L_aload_n_3 dL_compare_0 ?_
  refine V_iconst (v := 0) (by decide) dL_compare_1 ?_
  refine L_aload_n_0 dL_compare_2 ?_
  refine L_iload_n_1 dL_compare_3 ?_
  refine L_iload_n_2 dL_compare_4 ?_
  refine V_callC4 (As := [.ref 0, .int x, .int y]) (E := "java/lang/IllegalArgumentException") (name := "java/lang/IllegalArgumentException") (pre := []) (suf := []) (x := ⟨0, 10, 13, 27⟩) (j := 4) (lkX_RL_41 rfl dL_compare_5) hC pn_X6_compare rfl (Nat.le_of_ble_eq_true rfl) (Nat.le_of_ble_eq_true rfl) rfl (⟨_, _, rfl, rfl, rfl⟩) (cfS cf6) (Nat.le_refl _) (Nat.le_refl _) (Nat.le_refl _) (by decide) rfl (fun z hz => by cases hz) (by decide) (by decide) cl_RL_27 ca_IllegalArgumentException dL_compare_13 (Nat.le_of_ble_eq_true rfl) rfl ?_
  refine V_iconst (v := 1) (by decide) dL_compare_15 ?_
  exact V_iret dL_compare_16 rfl rfl (⟨rfl, rfl⟩)
theorem w_refresh {g : G0} {j : Nat → Nat → Int64} (d : Nat) {i i' : Nat → Nat → Int32} {x : Int32} {v : Int32} (hC : C g m_X6_refresh d 0 0 false [.ref 0, .int x] (mk i j) (rets (some (.int v)) (mk i' j)))  : C g m_L_refresh (d + 1) 0 0 false [.ref 0, .int x, .ref 93] (mk i j) (rets (some (.int 0)) (mk i' (up2 j 93 0 v.toInt64))) := by
  refine C_of (L := [some (.ref 0), some (.int x), some (.ref 93), none]) rfl ?_
  refine L_aload_n_2 dL_refresh_0 ?_
  refine V_iconst (v := 0) (by decide) dL_refresh_1 ?_
  refine L_aload_n_0 dL_refresh_2 ?_
  refine L_iload_n_1 dL_refresh_3 ?_
  refine U_cv2 (d := d + 0) (lkR_RL_45 rfl dL_refresh_4) (hC) ⟨pn_X6_refresh, rfl, (Nat.le_of_ble_eq_true rfl), (Nat.le_of_ble_eq_true rfl), rfl⟩ (⟨_, _, rfl, rfl, rfl⟩) (cfS cf6) (Nat.le_of_ble_eq_true rfl) ?_
  refine V_i2l dL_refresh_7 ?_
  refine U_last (n := 0) dL_refresh_8 rfl (rfl) (by decide) (by decide) ?_
  refine V_goto (tgt := 18) dL_refresh_9 (by decide) ?_
  refine V_iconst (v := 0) (by decide) dL_refresh_18 ?_
  exact V_iret dL_refresh_19 rfl rfl (⟨rfl, rfl⟩)
theorem w_refresh_x1 {g : G0} {j : Nat → Nat → Int64} (d : Nat) {i : Nat → Nat → Int32} {x : Int32} (hC : C g m_X6_refresh d 1 6 false [.ref 0, .int x] (mk i j) (thrs "java/lang/IndexOutOfBoundsException" (mk i j)))  : C g m_L_refresh (d + 1) 1 6 false [.ref 0, .int x, .ref 93] (mk i j) (rets (some (.int 1)) (mk i j)) := by
  refine C_of (L := [some (.ref 0), some (.int x), some (.ref 93), none]) rfl ?_
  refine L_aload_n_2 dL_refresh_0 ?_
  refine V_iconst (v := 0) (by decide) dL_refresh_1 ?_
  refine L_aload_n_0 dL_refresh_2 ?_
  refine L_iload_n_1 dL_refresh_3 ?_
  refine V_callC (As := [.ref 0, .int x]) (E := "java/lang/IndexOutOfBoundsException") (name := "java/lang/IndexOutOfBoundsException") (pre := []) (suf := [⟨0, 9, 15, 15⟩]) (x := ⟨0, 9, 12, 13⟩) (kf := 3) (j := 3) (lkX_RL_45 rfl dL_refresh_4) hC pn_X6_refresh rfl (Nat.le_of_ble_eq_true rfl) (Nat.le_of_ble_eq_true rfl) rfl (⟨_, _, rfl, rfl, rfl⟩) (cfS cf6) (Nat.le_refl _) (Nat.le_refl _) (Nat.le_refl _) (by decide) rfl (fun z hz => by cases hz) (by decide) (by decide) cl_RL_13 ca_IndexOutOfBoundsException dL_refresh_12 rfl (Nat.le_of_ble_eq_true rfl) rfl ?_
  refine V_iconst (v := 1) (by decide) dL_refresh_13 ?_
  exact V_iret dL_refresh_14 rfl rfl (⟨rfl, rfl⟩)
theorem w_refresh_x2 {g : G0} {j : Nat → Nat → Int64} (d : Nat) {i : Nat → Nat → Int32} {x : Int32} (hC : C g m_X6_refresh d 1 6 false [.ref 0, .int x] (mk i j) (thrs "java/lang/IllegalStateException" (mk i j)))  : C g m_L_refresh (d + 1) 1 6 false [.ref 0, .int x, .ref 93] (mk i j) (rets (some (.int 2)) (mk i j)) := by
  refine C_of (L := [some (.ref 0), some (.int x), some (.ref 93), none]) rfl ?_
  refine L_aload_n_2 dL_refresh_0 ?_
  refine V_iconst (v := 0) (by decide) dL_refresh_1 ?_
  refine L_aload_n_0 dL_refresh_2 ?_
  refine L_iload_n_1 dL_refresh_3 ?_
  refine V_callC (As := [.ref 0, .int x]) (E := "java/lang/IllegalStateException") (name := "java/lang/IllegalStateException") (pre := [⟨0, 9, 12, 13⟩]) (suf := []) (x := ⟨0, 9, 15, 15⟩) (kf := 3) (j := 3) (lkX_RL_45 rfl dL_refresh_4) hC pn_X6_refresh rfl (Nat.le_of_ble_eq_true rfl) (Nat.le_of_ble_eq_true rfl) rfl (⟨_, _, rfl, rfl, rfl⟩) (cfS cf6) (Nat.le_refl _) (Nat.le_refl _) (Nat.le_refl _) (by decide) rfl (fun z hz => by rcases List.mem_singleton.mp hz with rfl; exact ⟨by decide, "java/lang/IndexOutOfBoundsException", cl_RL_13, by decide⟩) (by decide) (by decide) cl_RL_15 ca_IllegalStateException dL_refresh_15 rfl (Nat.le_of_ble_eq_true rfl) rfl ?_
  refine V_iconst (v := 2) (by decide) dL_refresh_16 ?_
  exact V_iret dL_refresh_17 rfl rfl (⟨rfl, rfl⟩)
theorem w_sleep {g : G0} {j : Nat → Nat → Int64} (d : Nat) {i i' : Nat → Nat → Int32} {x : Int32} {v : Int32} (hC : C g m_X6_sleep d 0 0 false [.ref 0, .int x] (mk i j) (rets (some (.int v)) (mk i' j)))  : C g m_L_sleep (d + 1) 0 0 false [.ref 0, .int x, .ref 93] (mk i j) (rets (some (.int 0)) (mk i' (up2 j 93 0 v.toInt64))) := by
  refine C_of (L := [some (.ref 0), some (.int x), some (.ref 93), none]) rfl ?_
  refine L_aload_n_2 dL_sleep_0 ?_
  refine V_iconst (v := 0) (by decide) dL_sleep_1 ?_
  refine L_aload_n_0 dL_sleep_2 ?_
  refine L_iload_n_1 dL_sleep_3 ?_
  refine U_cv2 (d := d + 0) (lkR_RL_48 rfl dL_sleep_4) (hC) ⟨pn_X6_sleep, rfl, (Nat.le_of_ble_eq_true rfl), (Nat.le_of_ble_eq_true rfl), rfl⟩ (⟨_, _, rfl, rfl, rfl⟩) (cfS cf6) (Nat.le_of_ble_eq_true rfl) ?_
  refine V_i2l dL_sleep_7 ?_
  refine U_last (n := 0) dL_sleep_8 rfl (rfl) (by decide) (by decide) ?_
  refine V_goto (tgt := 18) dL_sleep_9 (by decide) ?_
  refine V_iconst (v := 0) (by decide) dL_sleep_18 ?_
  exact V_iret dL_sleep_19 rfl rfl (⟨rfl, rfl⟩)
theorem w_sleep_x1 {g : G0} {j : Nat → Nat → Int64} (d : Nat) {i : Nat → Nat → Int32} {x : Int32} (hC : C g m_X6_sleep d 1 6 false [.ref 0, .int x] (mk i j) (thrs "java/lang/IndexOutOfBoundsException" (mk i j)))  : C g m_L_sleep (d + 1) 1 6 false [.ref 0, .int x, .ref 93] (mk i j) (rets (some (.int 1)) (mk i j)) := by
  refine C_of (L := [some (.ref 0), some (.int x), some (.ref 93), none]) rfl ?_
  refine L_aload_n_2 dL_sleep_0 ?_
  refine V_iconst (v := 0) (by decide) dL_sleep_1 ?_
  refine L_aload_n_0 dL_sleep_2 ?_
  refine L_iload_n_1 dL_sleep_3 ?_
  refine V_callC (As := [.ref 0, .int x]) (E := "java/lang/IndexOutOfBoundsException") (name := "java/lang/IndexOutOfBoundsException") (pre := []) (suf := [⟨0, 9, 15, 15⟩]) (x := ⟨0, 9, 12, 13⟩) (kf := 3) (j := 3) (lkX_RL_48 rfl dL_sleep_4) hC pn_X6_sleep rfl (Nat.le_of_ble_eq_true rfl) (Nat.le_of_ble_eq_true rfl) rfl (⟨_, _, rfl, rfl, rfl⟩) (cfS cf6) (Nat.le_refl _) (Nat.le_refl _) (Nat.le_refl _) (by decide) rfl (fun z hz => by cases hz) (by decide) (by decide) cl_RL_13 ca_IndexOutOfBoundsException dL_sleep_12 rfl (Nat.le_of_ble_eq_true rfl) rfl ?_
  refine V_iconst (v := 1) (by decide) dL_sleep_13 ?_
  exact V_iret dL_sleep_14 rfl rfl (⟨rfl, rfl⟩)
theorem w_sleep_x2 {g : G0} {j : Nat → Nat → Int64} (d : Nat) {i : Nat → Nat → Int32} {x : Int32} (hC : C g m_X6_sleep d 1 6 false [.ref 0, .int x] (mk i j) (thrs "java/lang/IllegalStateException" (mk i j)))  : C g m_L_sleep (d + 1) 1 6 false [.ref 0, .int x, .ref 93] (mk i j) (rets (some (.int 2)) (mk i j)) := by
  refine C_of (L := [some (.ref 0), some (.int x), some (.ref 93), none]) rfl ?_
  refine L_aload_n_2 dL_sleep_0 ?_
  refine V_iconst (v := 0) (by decide) dL_sleep_1 ?_
  refine L_aload_n_0 dL_sleep_2 ?_
  refine L_iload_n_1 dL_sleep_3 ?_
  refine V_callC (As := [.ref 0, .int x]) (E := "java/lang/IllegalStateException") (name := "java/lang/IllegalStateException") (pre := [⟨0, 9, 12, 13⟩]) (suf := []) (x := ⟨0, 9, 15, 15⟩) (kf := 3) (j := 3) (lkX_RL_48 rfl dL_sleep_4) hC pn_X6_sleep rfl (Nat.le_of_ble_eq_true rfl) (Nat.le_of_ble_eq_true rfl) rfl (⟨_, _, rfl, rfl, rfl⟩) (cfS cf6) (Nat.le_refl _) (Nat.le_refl _) (Nat.le_refl _) (by decide) rfl (fun z hz => by rcases List.mem_singleton.mp hz with rfl; exact ⟨by decide, "java/lang/IndexOutOfBoundsException", cl_RL_13, by decide⟩) (by decide) (by decide) cl_RL_15 ca_IllegalStateException dL_sleep_15 rfl (Nat.le_of_ble_eq_true rfl) rfl ?_
  refine V_iconst (v := 2) (by decide) dL_sleep_16 ?_
  exact V_iret dL_sleep_17 rfl rfl (⟨rfl, rfl⟩)
theorem w_wake {g : G0} {j : Nat → Nat → Int64} (d : Nat) {i i' : Nat → Nat → Int32} {x : Int32} {v : Int32} (hC : C g m_X6_wake d 0 0 false [.ref 0, .int x] (mk i j) (rets (some (.int v)) (mk i' j)))  : C g m_L_wake (d + 1) 0 0 false [.ref 0, .int x, .ref 93] (mk i j) (rets (some (.int 0)) (mk i' (up2 j 93 0 v.toInt64))) := by
  refine C_of (L := [some (.ref 0), some (.int x), some (.ref 93), none]) rfl ?_
  refine L_aload_n_2 dL_wake_0 ?_
  refine V_iconst (v := 0) (by decide) dL_wake_1 ?_
  refine L_aload_n_0 dL_wake_2 ?_
  refine L_iload_n_1 dL_wake_3 ?_
  refine U_cv2 (d := d + 0) (lkR_RL_51 rfl dL_wake_4) (hC) ⟨pn_X6_wake, rfl, (Nat.le_of_ble_eq_true rfl), (Nat.le_of_ble_eq_true rfl), rfl⟩ (⟨_, _, rfl, rfl, rfl⟩) (cfS cf6) (Nat.le_of_ble_eq_true rfl) ?_
  refine V_i2l dL_wake_7 ?_
  refine U_last (n := 0) dL_wake_8 rfl (rfl) (by decide) (by decide) ?_
  refine V_goto (tgt := 18) dL_wake_9 (by decide) ?_
  refine V_iconst (v := 0) (by decide) dL_wake_18 ?_
  exact V_iret dL_wake_19 rfl rfl (⟨rfl, rfl⟩)
theorem w_wake_x1 {g : G0} {j : Nat → Nat → Int64} (d : Nat) {i : Nat → Nat → Int32} {x : Int32} (hC : C g m_X6_wake d 1 6 false [.ref 0, .int x] (mk i j) (thrs "java/lang/IndexOutOfBoundsException" (mk i j)))  : C g m_L_wake (d + 1) 1 6 false [.ref 0, .int x, .ref 93] (mk i j) (rets (some (.int 1)) (mk i j)) := by
  refine C_of (L := [some (.ref 0), some (.int x), some (.ref 93), none]) rfl ?_
  refine L_aload_n_2 dL_wake_0 ?_
  refine V_iconst (v := 0) (by decide) dL_wake_1 ?_
  refine L_aload_n_0 dL_wake_2 ?_
  refine L_iload_n_1 dL_wake_3 ?_
  refine V_callC (As := [.ref 0, .int x]) (E := "java/lang/IndexOutOfBoundsException") (name := "java/lang/IndexOutOfBoundsException") (pre := []) (suf := [⟨0, 9, 15, 15⟩]) (x := ⟨0, 9, 12, 13⟩) (kf := 3) (j := 3) (lkX_RL_51 rfl dL_wake_4) hC pn_X6_wake rfl (Nat.le_of_ble_eq_true rfl) (Nat.le_of_ble_eq_true rfl) rfl (⟨_, _, rfl, rfl, rfl⟩) (cfS cf6) (Nat.le_refl _) (Nat.le_refl _) (Nat.le_refl _) (by decide) rfl (fun z hz => by cases hz) (by decide) (by decide) cl_RL_13 ca_IndexOutOfBoundsException dL_wake_12 rfl (Nat.le_of_ble_eq_true rfl) rfl ?_
  refine V_iconst (v := 1) (by decide) dL_wake_13 ?_
  exact V_iret dL_wake_14 rfl rfl (⟨rfl, rfl⟩)
theorem w_wake_x2 {g : G0} {j : Nat → Nat → Int64} (d : Nat) {i : Nat → Nat → Int32} {x : Int32} (hC : C g m_X6_wake d 1 6 false [.ref 0, .int x] (mk i j) (thrs "java/lang/IllegalStateException" (mk i j)))  : C g m_L_wake (d + 1) 1 6 false [.ref 0, .int x, .ref 93] (mk i j) (rets (some (.int 2)) (mk i j)) := by
  refine C_of (L := [some (.ref 0), some (.int x), some (.ref 93), none]) rfl ?_
  refine L_aload_n_2 dL_wake_0 ?_
  refine V_iconst (v := 0) (by decide) dL_wake_1 ?_
  refine L_aload_n_0 dL_wake_2 ?_
  refine L_iload_n_1 dL_wake_3 ?_
  refine V_callC (As := [.ref 0, .int x]) (E := "java/lang/IllegalStateException") (name := "java/lang/IllegalStateException") (pre := [⟨0, 9, 12, 13⟩]) (suf := []) (x := ⟨0, 9, 15, 15⟩) (kf := 3) (j := 3) (lkX_RL_51 rfl dL_wake_4) hC pn_X6_wake rfl (Nat.le_of_ble_eq_true rfl) (Nat.le_of_ble_eq_true rfl) rfl (⟨_, _, rfl, rfl, rfl⟩) (cfS cf6) (Nat.le_refl _) (Nat.le_refl _) (Nat.le_refl _) (by decide) rfl (fun z hz => by rcases List.mem_singleton.mp hz with rfl; exact ⟨by decide, "java/lang/IndexOutOfBoundsException", cl_RL_13, by decide⟩) (by decide) (by decide) cl_RL_15 ca_IllegalStateException dL_wake_15 rfl (Nat.le_of_ble_eq_true rfl) rfl ?_
  refine V_iconst (v := 2) (by decide) dL_wake_16 ?_
  exact V_iret dL_wake_17 rfl rfl (⟨rfl, rfl⟩)
theorem w_throwAway {g : G0} {j : Nat → Nat → Int64} (d : Nat) {i i' : Nat → Nat → Int32} {x : Int32} {v : Int32} (hC : C g m_X6_throwAway d 0 0 false [.ref 0, .int x] (mk i j) (rets (some (.int v)) (mk i' j)))  : C g m_L_throwAway (d + 1) 0 0 false [.ref 0, .int x, .ref 93] (mk i j) (rets (some (.int 0)) (mk i' (up2 j 93 0 v.toInt64))) := by
  refine C_of (L := [some (.ref 0), some (.int x), some (.ref 93), none]) rfl ?_
  refine L_aload_n_2 dL_throwAway_0 ?_
  refine V_iconst (v := 0) (by decide) dL_throwAway_1 ?_
  refine L_aload_n_0 dL_throwAway_2 ?_
  refine L_iload_n_1 dL_throwAway_3 ?_
  refine U_cv2 (d := d + 0) (lkR_RL_54 rfl dL_throwAway_4) (hC) ⟨pn_X6_throwAway, rfl, (Nat.le_of_ble_eq_true rfl), (Nat.le_of_ble_eq_true rfl), rfl⟩ (⟨_, _, rfl, rfl, rfl⟩) (cfS cf6) (Nat.le_of_ble_eq_true rfl) ?_
  refine V_i2l dL_throwAway_7 ?_
  refine U_last (n := 0) dL_throwAway_8 rfl (rfl) (by decide) (by decide) ?_
  refine V_goto (tgt := 15) dL_throwAway_9 (by decide) ?_
  refine V_iconst (v := 0) (by decide) dL_throwAway_15 ?_
  exact V_iret dL_throwAway_16 rfl rfl (⟨rfl, rfl⟩)
theorem w_throwAway_x1 {g : G0} {j : Nat → Nat → Int64} (d : Nat) {i : Nat → Nat → Int32} {x : Int32} (hC : C g m_X6_throwAway d 1 6 false [.ref 0, .int x] (mk i j) (thrs "java/lang/IndexOutOfBoundsException" (mk i j)))  : C g m_L_throwAway (d + 1) 1 6 false [.ref 0, .int x, .ref 93] (mk i j) (rets (some (.int 1)) (mk i j)) := by
  refine C_of (L := [some (.ref 0), some (.int x), some (.ref 93), none]) rfl ?_
  refine L_aload_n_2 dL_throwAway_0 ?_
  refine V_iconst (v := 0) (by decide) dL_throwAway_1 ?_
  refine L_aload_n_0 dL_throwAway_2 ?_
  refine L_iload_n_1 dL_throwAway_3 ?_
  refine V_callC (As := [.ref 0, .int x]) (E := "java/lang/IndexOutOfBoundsException") (name := "java/lang/IndexOutOfBoundsException") (pre := []) (suf := []) (x := ⟨0, 9, 12, 13⟩) (kf := 3) (j := 3) (lkX_RL_54 rfl dL_throwAway_4) hC pn_X6_throwAway rfl (Nat.le_of_ble_eq_true rfl) (Nat.le_of_ble_eq_true rfl) rfl (⟨_, _, rfl, rfl, rfl⟩) (cfS cf6) (Nat.le_refl _) (Nat.le_refl _) (Nat.le_refl _) (by decide) rfl (fun z hz => by cases hz) (by decide) (by decide) cl_RL_13 ca_IndexOutOfBoundsException dL_throwAway_12 rfl (Nat.le_of_ble_eq_true rfl) rfl ?_
  refine V_iconst (v := 1) (by decide) dL_throwAway_13 ?_
  exact V_iret dL_throwAway_14 rfl rfl (⟨rfl, rfl⟩)
theorem w_editionOf {g : G0} {j : Nat → Nat → Int64} (d : Nat) {i i' : Nat → Nat → Int32} {x : Int32} {v : Int32} (hC : C g m_X6_editionOf d 0 0 false [.ref 0, .int x] (mk i j) (rets (some (.int v)) (mk i' j)))  : C g m_L_editionOf (d + 1) 0 0 false [.ref 0, .int x, .ref 93] (mk i j) (rets (some (.int 0)) (mk i' (up2 j 93 0 v.toInt64))) := by
  refine C_of (L := [some (.ref 0), some (.int x), some (.ref 93), none]) rfl ?_
  refine L_aload_n_2 dL_editionOf_0 ?_
  refine V_iconst (v := 0) (by decide) dL_editionOf_1 ?_
  refine L_aload_n_0 dL_editionOf_2 ?_
  refine L_iload_n_1 dL_editionOf_3 ?_
  refine U_cv2 (d := d + 0) (lkR_RL_57 rfl dL_editionOf_4) (hC) ⟨pn_X6_editionOf, rfl, (Nat.le_of_ble_eq_true rfl), (Nat.le_of_ble_eq_true rfl), rfl⟩ (⟨_, _, rfl, rfl, rfl⟩) (cfS cf6) (Nat.le_of_ble_eq_true rfl) ?_
  refine V_i2l dL_editionOf_7 ?_
  refine U_last (n := 0) dL_editionOf_8 rfl (rfl) (by decide) (by decide) ?_
  refine V_goto (tgt := 15) dL_editionOf_9 (by decide) ?_
  refine V_iconst (v := 0) (by decide) dL_editionOf_15 ?_
  exact V_iret dL_editionOf_16 rfl rfl (⟨rfl, rfl⟩)
theorem w_editionOf_x1 {g : G0} {j : Nat → Nat → Int64} (d : Nat) {i : Nat → Nat → Int32} {x : Int32} (hC : C g m_X6_editionOf d 1 6 false [.ref 0, .int x] (mk i j) (thrs "java/lang/IndexOutOfBoundsException" (mk i j)))  : C g m_L_editionOf (d + 1) 1 6 false [.ref 0, .int x, .ref 93] (mk i j) (rets (some (.int 1)) (mk i j)) := by
  refine C_of (L := [some (.ref 0), some (.int x), some (.ref 93), none]) rfl ?_
  refine L_aload_n_2 dL_editionOf_0 ?_
  refine V_iconst (v := 0) (by decide) dL_editionOf_1 ?_
  refine L_aload_n_0 dL_editionOf_2 ?_
  refine L_iload_n_1 dL_editionOf_3 ?_
  refine V_callC (As := [.ref 0, .int x]) (E := "java/lang/IndexOutOfBoundsException") (name := "java/lang/IndexOutOfBoundsException") (pre := []) (suf := []) (x := ⟨0, 9, 12, 13⟩) (kf := 3) (j := 3) (lkX_RL_57 rfl dL_editionOf_4) hC pn_X6_editionOf rfl (Nat.le_of_ble_eq_true rfl) (Nat.le_of_ble_eq_true rfl) rfl (⟨_, _, rfl, rfl, rfl⟩) (cfS cf6) (Nat.le_refl _) (Nat.le_refl _) (Nat.le_refl _) (by decide) rfl (fun z hz => by cases hz) (by decide) (by decide) cl_RL_13 ca_IndexOutOfBoundsException dL_editionOf_12 rfl (Nat.le_of_ble_eq_true rfl) rfl ?_
  refine V_iconst (v := 1) (by decide) dL_editionOf_13 ?_
  exact V_iret dL_editionOf_14 rfl rfl (⟨rfl, rfl⟩)
theorem w_streets {g : G0} {j : Nat → Nat → Int64} (d : Nat) {i i' : Nat → Nat → Int32} {x : Int32} {v : Int32} (hC : C g m_X6_streets d 0 0 false [.ref 0, .int x] (mk i j) (rets (some (.int v)) (mk i' j)))  : C g m_L_streets (d + 1) 0 0 false [.ref 0, .int x, .ref 93] (mk i j) (rets (some (.int 0)) (mk i' (up2 j 93 0 v.toInt64))) := by
  refine C_of (L := [some (.ref 0), some (.int x), some (.ref 93), none]) rfl ?_
  refine L_aload_n_2 dL_streets_0 ?_
  refine V_iconst (v := 0) (by decide) dL_streets_1 ?_
  refine L_aload_n_0 dL_streets_2 ?_
  refine L_iload_n_1 dL_streets_3 ?_
  refine U_cv2 (d := d + 0) (lkR_RL_60 rfl dL_streets_4) (hC) ⟨pn_X6_streets, rfl, (Nat.le_of_ble_eq_true rfl), (Nat.le_of_ble_eq_true rfl), rfl⟩ (⟨_, _, rfl, rfl, rfl⟩) (cfS cf6) (Nat.le_of_ble_eq_true rfl) ?_
  refine V_i2l dL_streets_7 ?_
  refine U_last (n := 0) dL_streets_8 rfl (rfl) (by decide) (by decide) ?_
  refine V_goto (tgt := 15) dL_streets_9 (by decide) ?_
  refine V_iconst (v := 0) (by decide) dL_streets_15 ?_
  exact V_iret dL_streets_16 rfl rfl (⟨rfl, rfl⟩)
theorem w_streets_x1 {g : G0} {j : Nat → Nat → Int64} (d : Nat) {i : Nat → Nat → Int32} {x : Int32} (hC : C g m_X6_streets d 1 6 false [.ref 0, .int x] (mk i j) (thrs "java/lang/IndexOutOfBoundsException" (mk i j)))  : C g m_L_streets (d + 1) 1 6 false [.ref 0, .int x, .ref 93] (mk i j) (rets (some (.int 1)) (mk i j)) := by
  refine C_of (L := [some (.ref 0), some (.int x), some (.ref 93), none]) rfl ?_
  refine L_aload_n_2 dL_streets_0 ?_
  refine V_iconst (v := 0) (by decide) dL_streets_1 ?_
  refine L_aload_n_0 dL_streets_2 ?_
  refine L_iload_n_1 dL_streets_3 ?_
  refine V_callC (As := [.ref 0, .int x]) (E := "java/lang/IndexOutOfBoundsException") (name := "java/lang/IndexOutOfBoundsException") (pre := []) (suf := []) (x := ⟨0, 9, 12, 13⟩) (kf := 3) (j := 3) (lkX_RL_60 rfl dL_streets_4) hC pn_X6_streets rfl (Nat.le_of_ble_eq_true rfl) (Nat.le_of_ble_eq_true rfl) rfl (⟨_, _, rfl, rfl, rfl⟩) (cfS cf6) (Nat.le_refl _) (Nat.le_refl _) (Nat.le_refl _) (by decide) rfl (fun z hz => by cases hz) (by decide) (by decide) cl_RL_13 ca_IndexOutOfBoundsException dL_streets_12 rfl (Nat.le_of_ble_eq_true rfl) rfl ?_
  refine V_iconst (v := 1) (by decide) dL_streets_13 ?_
  exact V_iret dL_streets_14 rfl rfl (⟨rfl, rfl⟩)
theorem w_has {g : G0} {j : Nat → Nat → Int64} (d : Nat) {i i' : Nat → Nat → Int32} {x y : Int32} {p : Prop} [Decidable p] (hC : C g m_X6_has d 0 0 false [.ref 0, .int x, .int y] (mk i j) (rets (some (.int (b2i p))) (mk i' j)))  : C g m_L_has (d + 1) 0 0 false [.ref 0, .int x, .int y, .ref 93] (mk i j) (rets (some (.int 0)) (mk i' (up2 j 93 0 (b2i p).toInt64))) := by
  refine C_of (L := [some (.ref 0), some (.int x), some (.int y), some (.ref 93), none]) rfl ?_
  refine L_aload_n_3 dL_has_0 ?_
  refine V_iconst (v := 0) (by decide) dL_has_1 ?_
  refine L_aload_n_0 dL_has_2 ?_
  refine L_iload_n_1 dL_has_3 ?_
  refine L_iload_n_2 dL_has_4 ?_
  refine U_cv3 (d := d + 0) (lkR_RL_63 rfl dL_has_5) (hC) ⟨pn_X6_has, rfl, (Nat.le_of_ble_eq_true rfl), (Nat.le_of_ble_eq_true rfl), rfl⟩ (⟨_, _, rfl, rfl, rfl⟩) (cfS cf6) (Nat.le_of_ble_eq_true rfl) ?_
  refine V_ifx_eq (tgt := 15) dL_has_8 (by decide) (fun h8 => ?_) (fun h8 => ?_)
  · refine V_lconst (v := 0) (by decide) dL_has_15 ?_
    refine U_last (n := 0) dL_has_16 rfl (rfl) (by decide) (by decide) ?_
    refine V_goto (tgt := 24) dL_has_17 (by decide) ?_
    refine V_iconst (v := 0) (by decide) dL_has_24 ?_
    exact V_iret dL_has_25 rfl rfl (by rw [show (b2i p).toInt64 = 0 from by rw [b2f (b2z.mp h8)]; rfl]; exact ⟨rfl, rfl⟩)
  · refine V_lconst (v := 1) (by decide) dL_has_11 ?_
    refine V_goto (tgt := 16) dL_has_12 (by decide) ?_
    refine U_last (n := 0) dL_has_16 rfl (rfl) (by decide) (by decide) ?_
    refine V_goto (tgt := 24) dL_has_17 (by decide) ?_
    refine V_iconst (v := 0) (by decide) dL_has_24 ?_
    exact V_iret dL_has_25 rfl rfl (by rw [show (b2i p).toInt64 = 1 from by rw [b2t (b2p h8)]; rfl]; exact ⟨rfl, rfl⟩)
theorem w_has_x1 {g : G0} {j : Nat → Nat → Int64} (d : Nat) {i : Nat → Nat → Int32} {x y : Int32} (hC : C g m_X6_has d 1 6 false [.ref 0, .int x, .int y] (mk i j) (thrs "java/lang/IndexOutOfBoundsException" (mk i j)))  : C g m_L_has (d + 1) 1 6 false [.ref 0, .int x, .int y, .ref 93] (mk i j) (rets (some (.int 1)) (mk i j)) := by
  refine C_of (L := [some (.ref 0), some (.int x), some (.int y), some (.ref 93), none]) rfl ?_
  refine L_aload_n_3 dL_has_0 ?_
  refine V_iconst (v := 0) (by decide) dL_has_1 ?_
  refine L_aload_n_0 dL_has_2 ?_
  refine L_iload_n_1 dL_has_3 ?_
  refine L_iload_n_2 dL_has_4 ?_
  refine V_callC4 (As := [.ref 0, .int x, .int y]) (E := "java/lang/IndexOutOfBoundsException") (name := "java/lang/IndexOutOfBoundsException") (pre := []) (suf := []) (x := ⟨0, 17, 20, 13⟩) (j := 4) (lkX_RL_63 rfl dL_has_5) hC pn_X6_has rfl (Nat.le_of_ble_eq_true rfl) (Nat.le_of_ble_eq_true rfl) rfl (⟨_, _, rfl, rfl, rfl⟩) (cfS cf6) (Nat.le_refl _) (Nat.le_refl _) (Nat.le_refl _) (by decide) rfl (fun z hz => by cases hz) (by decide) (by decide) cl_RL_13 ca_IndexOutOfBoundsException dL_has_20 (Nat.le_of_ble_eq_true rfl) rfl ?_
  refine V_iconst (v := 1) (by decide) dL_has_22 ?_
  exact V_iret dL_has_23 rfl rfl (⟨rfl, rfl⟩)
theorem w_isRight {g : G0} {j : Nat → Nat → Int64} (d : Nat) {i i' : Nat → Nat → Int32} {x : Int32} {p : Prop} [Decidable p] (hC : C g m_X6_isRight d 0 0 false [.ref 0, .int x] (mk i j) (rets (some (.int (b2i p))) (mk i' j)))  : C g m_L_isRight (d + 1) 0 0 false [.ref 0, .int x, .ref 93] (mk i j) (rets (some (.int 0)) (mk i' (up2 j 93 0 (b2i p).toInt64))) := by
  refine C_of (L := [some (.ref 0), some (.int x), some (.ref 93), none]) rfl ?_
  refine L_aload_n_2 dL_isRight_0 ?_
  refine V_iconst (v := 0) (by decide) dL_isRight_1 ?_
  refine L_aload_n_0 dL_isRight_2 ?_
  refine L_iload_n_1 dL_isRight_3 ?_
  refine U_cv2 (d := d + 0) (lkR_RL_67 rfl dL_isRight_4) (hC) ⟨pn_X6_isRight, rfl, (Nat.le_of_ble_eq_true rfl), (Nat.le_of_ble_eq_true rfl), rfl⟩ (⟨_, _, rfl, rfl, rfl⟩) (cfS cf6) (Nat.le_of_ble_eq_true rfl) ?_
  refine V_ifx_eq (tgt := 14) dL_isRight_7 (by decide) (fun h7 => ?_) (fun h7 => ?_)
  · refine V_lconst (v := 0) (by decide) dL_isRight_14 ?_
    refine U_last (n := 0) dL_isRight_15 rfl (rfl) (by decide) (by decide) ?_
    refine V_goto (tgt := 22) dL_isRight_16 (by decide) ?_
    refine V_iconst (v := 0) (by decide) dL_isRight_22 ?_
    exact V_iret dL_isRight_23 rfl rfl (by rw [show (b2i p).toInt64 = 0 from by rw [b2f (b2z.mp h7)]; rfl]; exact ⟨rfl, rfl⟩)
  · refine V_lconst (v := 1) (by decide) dL_isRight_10 ?_
    refine V_goto (tgt := 15) dL_isRight_11 (by decide) ?_
    refine U_last (n := 0) dL_isRight_15 rfl (rfl) (by decide) (by decide) ?_
    refine V_goto (tgt := 22) dL_isRight_16 (by decide) ?_
    refine V_iconst (v := 0) (by decide) dL_isRight_22 ?_
    exact V_iret dL_isRight_23 rfl rfl (by rw [show (b2i p).toInt64 = 1 from by rw [b2t (b2p h7)]; rfl]; exact ⟨rfl, rfl⟩)
theorem w_isRight_x1 {g : G0} {j : Nat → Nat → Int64} (d : Nat) {i : Nat → Nat → Int32} {x : Int32} (hC : C g m_X6_isRight d 1 6 false [.ref 0, .int x] (mk i j) (thrs "java/lang/IndexOutOfBoundsException" (mk i j)))  : C g m_L_isRight (d + 1) 1 6 false [.ref 0, .int x, .ref 93] (mk i j) (rets (some (.int 1)) (mk i j)) := by
  refine C_of (L := [some (.ref 0), some (.int x), some (.ref 93), none]) rfl ?_
  refine L_aload_n_2 dL_isRight_0 ?_
  refine V_iconst (v := 0) (by decide) dL_isRight_1 ?_
  refine L_aload_n_0 dL_isRight_2 ?_
  refine L_iload_n_1 dL_isRight_3 ?_
  refine V_callC (As := [.ref 0, .int x]) (E := "java/lang/IndexOutOfBoundsException") (name := "java/lang/IndexOutOfBoundsException") (pre := []) (suf := []) (x := ⟨0, 16, 19, 13⟩) (kf := 3) (j := 3) (lkX_RL_67 rfl dL_isRight_4) hC pn_X6_isRight rfl (Nat.le_of_ble_eq_true rfl) (Nat.le_of_ble_eq_true rfl) rfl (⟨_, _, rfl, rfl, rfl⟩) (cfS cf6) (Nat.le_refl _) (Nat.le_refl _) (Nat.le_refl _) (by decide) rfl (fun z hz => by cases hz) (by decide) (by decide) cl_RL_13 ca_IndexOutOfBoundsException dL_isRight_19 rfl (Nat.le_of_ble_eq_true rfl) rfl ?_
  refine V_iconst (v := 1) (by decide) dL_isRight_20 ?_
  exact V_iret dL_isRight_21 rfl rfl (⟨rfl, rfl⟩)
theorem w_attention {g : G0} {j : Nat → Nat → Int64} (d : Nat) {i i' : Nat → Nat → Int32} {x : Int32} {v : Int32} (hC : C g m_X6_attention d 0 0 false [.ref 0, .int x] (mk i j) (rets (some (.int v)) (mk i' j)))  : C g m_L_attention (d + 1) 0 0 false [.ref 0, .int x, .ref 93] (mk i j) (rets (some (.int 0)) (mk i' (up2 j 93 0 v.toInt64))) := by
  refine C_of (L := [some (.ref 0), some (.int x), some (.ref 93), none]) rfl ?_
  refine L_aload_n_2 dL_attention_0 ?_
  refine V_iconst (v := 0) (by decide) dL_attention_1 ?_
  refine L_aload_n_0 dL_attention_2 ?_
  refine L_iload_n_1 dL_attention_3 ?_
  refine U_cv2 (d := d + 0) (lkR_RL_71 rfl dL_attention_4) (hC) ⟨pn_X6_attention, rfl, (Nat.le_of_ble_eq_true rfl), (Nat.le_of_ble_eq_true rfl), rfl⟩ (⟨_, _, rfl, rfl, rfl⟩) (cfS cf6) (Nat.le_of_ble_eq_true rfl) ?_
  refine V_i2l dL_attention_7 ?_
  refine U_last (n := 0) dL_attention_8 rfl (rfl) (by decide) (by decide) ?_
  refine V_goto (tgt := 15) dL_attention_9 (by decide) ?_
  refine V_iconst (v := 0) (by decide) dL_attention_15 ?_
  exact V_iret dL_attention_16 rfl rfl (⟨rfl, rfl⟩)
theorem w_attention_x1 {g : G0} {j : Nat → Nat → Int64} (d : Nat) {i : Nat → Nat → Int32} {x : Int32} (hC : C g m_X6_attention d 1 6 false [.ref 0, .int x] (mk i j) (thrs "java/lang/IndexOutOfBoundsException" (mk i j)))  : C g m_L_attention (d + 1) 1 6 false [.ref 0, .int x, .ref 93] (mk i j) (rets (some (.int 1)) (mk i j)) := by
  refine C_of (L := [some (.ref 0), some (.int x), some (.ref 93), none]) rfl ?_
  refine L_aload_n_2 dL_attention_0 ?_
  refine V_iconst (v := 0) (by decide) dL_attention_1 ?_
  refine L_aload_n_0 dL_attention_2 ?_
  refine L_iload_n_1 dL_attention_3 ?_
  refine V_callC (As := [.ref 0, .int x]) (E := "java/lang/IndexOutOfBoundsException") (name := "java/lang/IndexOutOfBoundsException") (pre := []) (suf := []) (x := ⟨0, 9, 12, 13⟩) (kf := 3) (j := 3) (lkX_RL_71 rfl dL_attention_4) hC pn_X6_attention rfl (Nat.le_of_ble_eq_true rfl) (Nat.le_of_ble_eq_true rfl) rfl (⟨_, _, rfl, rfl, rfl⟩) (cfS cf6) (Nat.le_refl _) (Nat.le_refl _) (Nat.le_refl _) (by decide) rfl (fun z hz => by cases hz) (by decide) (by decide) cl_RL_13 ca_IndexOutOfBoundsException dL_attention_12 rfl (Nat.le_of_ble_eq_true rfl) rfl ?_
  refine V_iconst (v := 1) (by decide) dL_attention_13 ?_
  exact V_iret dL_attention_14 rfl rfl (⟨rfl, rfl⟩)
theorem w_costs {g : G0} {j : Nat → Nat → Int64} (d : Nat) {i i' : Nat → Nat → Int32} {x : Int32} {v : Int32} (hC : C g m_X6_costs d 0 0 false [.ref 0, .int x] (mk i j) (rets (some (.int v)) (mk i' j)))  : C g m_L_costs (d + 1) 0 0 false [.ref 0, .int x, .ref 93] (mk i j) (rets (some (.int 0)) (mk i' (up2 j 93 0 v.toInt64))) := by
  refine C_of (L := [some (.ref 0), some (.int x), some (.ref 93), none]) rfl ?_
  refine L_aload_n_2 dL_costs_0 ?_
  refine V_iconst (v := 0) (by decide) dL_costs_1 ?_
  refine L_aload_n_0 dL_costs_2 ?_
  refine L_iload_n_1 dL_costs_3 ?_
  refine U_cv2 (d := d + 0) (lkR_RL_74 rfl dL_costs_4) (hC) ⟨pn_X6_costs, rfl, (Nat.le_of_ble_eq_true rfl), (Nat.le_of_ble_eq_true rfl), rfl⟩ (⟨_, _, rfl, rfl, rfl⟩) (cfS cf6) (Nat.le_of_ble_eq_true rfl) ?_
  refine V_i2l dL_costs_7 ?_
  refine U_last (n := 0) dL_costs_8 rfl (rfl) (by decide) (by decide) ?_
  refine V_goto (tgt := 15) dL_costs_9 (by decide) ?_
  refine V_iconst (v := 0) (by decide) dL_costs_15 ?_
  exact V_iret dL_costs_16 rfl rfl (⟨rfl, rfl⟩)
theorem w_costs_x1 {g : G0} {j : Nat → Nat → Int64} (d : Nat) {i : Nat → Nat → Int32} {x : Int32} (hC : C g m_X6_costs d 1 6 false [.ref 0, .int x] (mk i j) (thrs "java/lang/IndexOutOfBoundsException" (mk i j)))  : C g m_L_costs (d + 1) 1 6 false [.ref 0, .int x, .ref 93] (mk i j) (rets (some (.int 1)) (mk i j)) := by
  refine C_of (L := [some (.ref 0), some (.int x), some (.ref 93), none]) rfl ?_
  refine L_aload_n_2 dL_costs_0 ?_
  refine V_iconst (v := 0) (by decide) dL_costs_1 ?_
  refine L_aload_n_0 dL_costs_2 ?_
  refine L_iload_n_1 dL_costs_3 ?_
  refine V_callC (As := [.ref 0, .int x]) (E := "java/lang/IndexOutOfBoundsException") (name := "java/lang/IndexOutOfBoundsException") (pre := []) (suf := []) (x := ⟨0, 9, 12, 13⟩) (kf := 3) (j := 3) (lkX_RL_74 rfl dL_costs_4) hC pn_X6_costs rfl (Nat.le_of_ble_eq_true rfl) (Nat.le_of_ble_eq_true rfl) rfl (⟨_, _, rfl, rfl, rfl⟩) (cfS cf6) (Nat.le_refl _) (Nat.le_refl _) (Nat.le_refl _) (by decide) rfl (fun z hz => by cases hz) (by decide) (by decide) cl_RL_13 ca_IndexOutOfBoundsException dL_costs_12 rfl (Nat.le_of_ble_eq_true rfl) rfl ?_
  refine V_iconst (v := 1) (by decide) dL_costs_13 ?_
  exact V_iret dL_costs_14 rfl rfl (⟨rfl, rfl⟩)
theorem w_answer {g : G0} {j : Nat → Nat → Int64} (d : Nat) {i i' : Nat → Nat → Int32} {x : Int32} {v : Int32} (hC : C g m_X6_answer d 0 0 false [.ref 0, .int x] (mk i j) (rets (some (.int v)) (mk i' j)))  : C g m_L_answer (d + 1) 0 0 false [.ref 0, .int x, .ref 93] (mk i j) (rets (some (.int 0)) (mk i' (up2 j 93 0 v.toInt64))) := by
  refine C_of (L := [some (.ref 0), some (.int x), some (.ref 93), none]) rfl ?_
  refine L_aload_n_2 dL_answer_0 ?_
  refine V_iconst (v := 0) (by decide) dL_answer_1 ?_
  refine L_aload_n_0 dL_answer_2 ?_
  refine L_iload_n_1 dL_answer_3 ?_
  refine U_cv2 (d := d + 0) (lkR_RL_77 rfl dL_answer_4) (hC) ⟨pn_X6_answer, rfl, (Nat.le_of_ble_eq_true rfl), (Nat.le_of_ble_eq_true rfl), rfl⟩ (⟨_, _, rfl, rfl, rfl⟩) (cfS cf6) (Nat.le_of_ble_eq_true rfl) ?_
  refine V_i2l dL_answer_7 ?_
  refine U_last (n := 0) dL_answer_8 rfl (rfl) (by decide) (by decide) ?_
  refine V_goto (tgt := 15) dL_answer_9 (by decide) ?_
  refine V_iconst (v := 0) (by decide) dL_answer_15 ?_
  exact V_iret dL_answer_16 rfl rfl (⟨rfl, rfl⟩)
theorem w_answer_x1 {g : G0} {j : Nat → Nat → Int64} (d : Nat) {i : Nat → Nat → Int32} {x : Int32} (hC : C g m_X6_answer d 1 6 false [.ref 0, .int x] (mk i j) (thrs "java/lang/IndexOutOfBoundsException" (mk i j)))  : C g m_L_answer (d + 1) 1 6 false [.ref 0, .int x, .ref 93] (mk i j) (rets (some (.int 1)) (mk i j)) := by
  refine C_of (L := [some (.ref 0), some (.int x), some (.ref 93), none]) rfl ?_
  refine L_aload_n_2 dL_answer_0 ?_
  refine V_iconst (v := 0) (by decide) dL_answer_1 ?_
  refine L_aload_n_0 dL_answer_2 ?_
  refine L_iload_n_1 dL_answer_3 ?_
  refine V_callC (As := [.ref 0, .int x]) (E := "java/lang/IndexOutOfBoundsException") (name := "java/lang/IndexOutOfBoundsException") (pre := []) (suf := []) (x := ⟨0, 9, 12, 13⟩) (kf := 3) (j := 3) (lkX_RL_77 rfl dL_answer_4) hC pn_X6_answer rfl (Nat.le_of_ble_eq_true rfl) (Nat.le_of_ble_eq_true rfl) rfl (⟨_, _, rfl, rfl, rfl⟩) (cfS cf6) (Nat.le_refl _) (Nat.le_refl _) (Nat.le_refl _) (by decide) rfl (fun z hz => by cases hz) (by decide) (by decide) cl_RL_13 ca_IndexOutOfBoundsException dL_answer_12 rfl (Nat.le_of_ble_eq_true rfl) rfl ?_
  refine V_iconst (v := 1) (by decide) dL_answer_13 ?_
  exact V_iret dL_answer_14 rfl rfl (⟨rfl, rfl⟩)
theorem w_costToCome {g : G0} {j : Nat → Nat → Int64} (d : Nat) {i i' : Nat → Nat → Int32} {x : Int32} {v : Int32} (hC : C g m_X6_costToCome d 0 0 false [.ref 0, .int x] (mk i j) (rets (some (.int v)) (mk i' j)))  : C g m_L_costToCome (d + 1) 0 0 false [.ref 0, .int x, .ref 93] (mk i j) (rets (some (.int 0)) (mk i' (up2 j 93 0 v.toInt64))) := by
  refine C_of (L := [some (.ref 0), some (.int x), some (.ref 93), none]) rfl ?_
  refine L_aload_n_2 dL_costToCome_0 ?_
  refine V_iconst (v := 0) (by decide) dL_costToCome_1 ?_
  refine L_aload_n_0 dL_costToCome_2 ?_
  refine L_iload_n_1 dL_costToCome_3 ?_
  refine U_cv2 (d := d + 0) (lkR_RL_80 rfl dL_costToCome_4) (hC) ⟨pn_X6_costToCome, rfl, (Nat.le_of_ble_eq_true rfl), (Nat.le_of_ble_eq_true rfl), rfl⟩ (⟨_, _, rfl, rfl, rfl⟩) (cfS cf6) (Nat.le_of_ble_eq_true rfl) ?_
  refine V_i2l dL_costToCome_7 ?_
  refine U_last (n := 0) dL_costToCome_8 rfl (rfl) (by decide) (by decide) ?_
  refine V_goto (tgt := 15) dL_costToCome_9 (by decide) ?_
  refine V_iconst (v := 0) (by decide) dL_costToCome_15 ?_
  exact V_iret dL_costToCome_16 rfl rfl (⟨rfl, rfl⟩)
theorem w_costToCome_x1 {g : G0} {j : Nat → Nat → Int64} (d : Nat) {i : Nat → Nat → Int32} {x : Int32} (hC : C g m_X6_costToCome d 1 6 false [.ref 0, .int x] (mk i j) (thrs "java/lang/IndexOutOfBoundsException" (mk i j)))  : C g m_L_costToCome (d + 1) 1 6 false [.ref 0, .int x, .ref 93] (mk i j) (rets (some (.int 1)) (mk i j)) := by
  refine C_of (L := [some (.ref 0), some (.int x), some (.ref 93), none]) rfl ?_
  refine L_aload_n_2 dL_costToCome_0 ?_
  refine V_iconst (v := 0) (by decide) dL_costToCome_1 ?_
  refine L_aload_n_0 dL_costToCome_2 ?_
  refine L_iload_n_1 dL_costToCome_3 ?_
  refine V_callC (As := [.ref 0, .int x]) (E := "java/lang/IndexOutOfBoundsException") (name := "java/lang/IndexOutOfBoundsException") (pre := []) (suf := []) (x := ⟨0, 9, 12, 13⟩) (kf := 3) (j := 3) (lkX_RL_80 rfl dL_costToCome_4) hC pn_X6_costToCome rfl (Nat.le_of_ble_eq_true rfl) (Nat.le_of_ble_eq_true rfl) rfl (⟨_, _, rfl, rfl, rfl⟩) (cfS cf6) (Nat.le_refl _) (Nat.le_refl _) (Nat.le_refl _) (by decide) rfl (fun z hz => by cases hz) (by decide) (by decide) cl_RL_13 ca_IndexOutOfBoundsException dL_costToCome_12 rfl (Nat.le_of_ble_eq_true rfl) rfl ?_
  refine V_iconst (v := 1) (by decide) dL_costToCome_13 ?_
  exact V_iret dL_costToCome_14 rfl rfl (⟨rfl, rfl⟩)
theorem w_wrong {g : G0} {j : Nat → Nat → Int64} (d : Nat) {i i' : Nat → Nat → Int32} {x : Int32} {v : Int32} (hC : C g m_X6_wrong d 0 0 false [.ref 0, .int x] (mk i j) (rets (some (.int v)) (mk i' j)))  : C g m_L_wrong (d + 1) 0 0 false [.ref 0, .int x, .ref 93] (mk i j) (rets (some (.int 0)) (mk i' (up2 j 93 0 v.toInt64))) := by
  refine C_of (L := [some (.ref 0), some (.int x), some (.ref 93), none]) rfl ?_
  refine L_aload_n_2 dL_wrong_0 ?_
  refine V_iconst (v := 0) (by decide) dL_wrong_1 ?_
  refine L_aload_n_0 dL_wrong_2 ?_
  refine L_iload_n_1 dL_wrong_3 ?_
  refine U_cv2 (d := d + 0) (lkR_RL_83 rfl dL_wrong_4) (hC) ⟨pn_X6_wrong, rfl, (Nat.le_of_ble_eq_true rfl), (Nat.le_of_ble_eq_true rfl), rfl⟩ (⟨_, _, rfl, rfl, rfl⟩) (cfS cf6) (Nat.le_of_ble_eq_true rfl) ?_
  refine V_i2l dL_wrong_7 ?_
  refine U_last (n := 0) dL_wrong_8 rfl (rfl) (by decide) (by decide) ?_
  refine V_goto (tgt := 15) dL_wrong_9 (by decide) ?_
  refine V_iconst (v := 0) (by decide) dL_wrong_15 ?_
  exact V_iret dL_wrong_16 rfl rfl (⟨rfl, rfl⟩)
theorem w_wrong_x1 {g : G0} {j : Nat → Nat → Int64} (d : Nat) {i : Nat → Nat → Int32} {x : Int32} (hC : C g m_X6_wrong d 1 6 false [.ref 0, .int x] (mk i j) (thrs "java/lang/IndexOutOfBoundsException" (mk i j)))  : C g m_L_wrong (d + 1) 1 6 false [.ref 0, .int x, .ref 93] (mk i j) (rets (some (.int 1)) (mk i j)) := by
  refine C_of (L := [some (.ref 0), some (.int x), some (.ref 93), none]) rfl ?_
  refine L_aload_n_2 dL_wrong_0 ?_
  refine V_iconst (v := 0) (by decide) dL_wrong_1 ?_
  refine L_aload_n_0 dL_wrong_2 ?_
  refine L_iload_n_1 dL_wrong_3 ?_
  refine V_callC (As := [.ref 0, .int x]) (E := "java/lang/IndexOutOfBoundsException") (name := "java/lang/IndexOutOfBoundsException") (pre := []) (suf := []) (x := ⟨0, 9, 12, 13⟩) (kf := 3) (j := 3) (lkX_RL_83 rfl dL_wrong_4) hC pn_X6_wrong rfl (Nat.le_of_ble_eq_true rfl) (Nat.le_of_ble_eq_true rfl) rfl (⟨_, _, rfl, rfl, rfl⟩) (cfS cf6) (Nat.le_refl _) (Nat.le_refl _) (Nat.le_refl _) (by decide) rfl (fun z hz => by cases hz) (by decide) (by decide) cl_RL_13 ca_IndexOutOfBoundsException dL_wrong_12 rfl (Nat.le_of_ble_eq_true rfl) rfl ?_
  refine V_iconst (v := 1) (by decide) dL_wrong_13 ?_
  exact V_iret dL_wrong_14 rfl rfl (⟨rfl, rfl⟩)
theorem w_append {g : G0} {j : Nat → Nat → Int64} (d : Nat) {i i' : Nat → Nat → Int32} {x : Int32} {v : Int32} (hC : C g m_X6_append d 0 0 false [.ref 0, .int x] (mk i j) (rets (some (.int v)) (mk i' j)))  : C g m_L_append (d + 1) 0 0 false [.ref 0, .int x, .ref 93] (mk i j) (rets (some (.int 0)) (mk i' (up2 j 93 0 v.toInt64))) := by
  refine C_of (L := [some (.ref 0), some (.int x), some (.ref 93), none]) rfl ?_
  refine L_aload_n_2 dL_append_0 ?_
  refine V_iconst (v := 0) (by decide) dL_append_1 ?_
  refine L_aload_n_0 dL_append_2 ?_
  refine L_iload_n_1 dL_append_3 ?_
  refine U_cv2 (d := d + 0) (lkR_RL_86 rfl dL_append_4) (hC) ⟨pn_X6_append, rfl, (Nat.le_of_ble_eq_true rfl), (Nat.le_of_ble_eq_true rfl), rfl⟩ (⟨_, _, rfl, rfl, rfl⟩) (cfS cf6) (Nat.le_of_ble_eq_true rfl) ?_
  refine V_i2l dL_append_7 ?_
  refine U_last (n := 0) dL_append_8 rfl (rfl) (by decide) (by decide) ?_
  refine V_goto (tgt := 18) dL_append_9 (by decide) ?_
  refine V_iconst (v := 0) (by decide) dL_append_18 ?_
  exact V_iret dL_append_19 rfl rfl (⟨rfl, rfl⟩)
theorem w_append_x1 {g : G0} {j : Nat → Nat → Int64} (d : Nat) {i : Nat → Nat → Int32} {x : Int32} (hC : C g m_X6_append d 1 6 false [.ref 0, .int x] (mk i j) (thrs "java/lang/IllegalArgumentException" (mk i j)))  : C g m_L_append (d + 1) 1 6 false [.ref 0, .int x, .ref 93] (mk i j) (rets (some (.int 1)) (mk i j)) := by
  refine C_of (L := [some (.ref 0), some (.int x), some (.ref 93), none]) rfl ?_
  refine L_aload_n_2 dL_append_0 ?_
  refine V_iconst (v := 0) (by decide) dL_append_1 ?_
  refine L_aload_n_0 dL_append_2 ?_
  refine L_iload_n_1 dL_append_3 ?_
  refine V_callC (As := [.ref 0, .int x]) (E := "java/lang/IllegalArgumentException") (name := "java/lang/IllegalArgumentException") (pre := []) (suf := [⟨0, 9, 15, 15⟩]) (x := ⟨0, 9, 12, 27⟩) (kf := 3) (j := 3) (lkX_RL_86 rfl dL_append_4) hC pn_X6_append rfl (Nat.le_of_ble_eq_true rfl) (Nat.le_of_ble_eq_true rfl) rfl (⟨_, _, rfl, rfl, rfl⟩) (cfS cf6) (Nat.le_refl _) (Nat.le_refl _) (Nat.le_refl _) (by decide) rfl (fun z hz => by cases hz) (by decide) (by decide) cl_RL_27 ca_IllegalArgumentException dL_append_12 rfl (Nat.le_of_ble_eq_true rfl) rfl ?_
  refine V_iconst (v := 1) (by decide) dL_append_13 ?_
  exact V_iret dL_append_14 rfl rfl (⟨rfl, rfl⟩)
theorem w_append_x2 {g : G0} {j : Nat → Nat → Int64} (d : Nat) {i : Nat → Nat → Int32} {x : Int32} (hC : C g m_X6_append d 1 6 false [.ref 0, .int x] (mk i j) (thrs "java/lang/IllegalStateException" (mk i j)))  : C g m_L_append (d + 1) 1 6 false [.ref 0, .int x, .ref 93] (mk i j) (rets (some (.int 2)) (mk i j)) := by
  refine C_of (L := [some (.ref 0), some (.int x), some (.ref 93), none]) rfl ?_
  refine L_aload_n_2 dL_append_0 ?_
  refine V_iconst (v := 0) (by decide) dL_append_1 ?_
  refine L_aload_n_0 dL_append_2 ?_
  refine L_iload_n_1 dL_append_3 ?_
  refine V_callC (As := [.ref 0, .int x]) (E := "java/lang/IllegalStateException") (name := "java/lang/IllegalStateException") (pre := [⟨0, 9, 12, 27⟩]) (suf := []) (x := ⟨0, 9, 15, 15⟩) (kf := 3) (j := 3) (lkX_RL_86 rfl dL_append_4) hC pn_X6_append rfl (Nat.le_of_ble_eq_true rfl) (Nat.le_of_ble_eq_true rfl) rfl (⟨_, _, rfl, rfl, rfl⟩) (cfS cf6) (Nat.le_refl _) (Nat.le_refl _) (Nat.le_refl _) (by decide) rfl (fun z hz => by rcases List.mem_singleton.mp hz with rfl; exact ⟨by decide, "java/lang/IllegalArgumentException", cl_RL_27, by decide⟩) (by decide) (by decide) cl_RL_15 ca_IllegalStateException dL_append_15 rfl (Nat.le_of_ble_eq_true rfl) rfl ?_
  refine V_iconst (v := 2) (by decide) dL_append_16 ?_
  exact V_iret dL_append_17 rfl rfl (⟨rfl, rfl⟩)
theorem w_run {g : G0} {j : Nat → Nat → Int64} (d : Nat) {i i' : Nat → Nat → Int32} {v : Int32} (hC : C g m_X6_run d 0 0 false [.ref 0] (mk i j) (rets (some (.int v)) (mk i' j)))  : C g m_L_run (d + 1) 0 0 false [.ref 0, .ref 93] (mk i j) (rets (some (.int 0)) (mk i' (up2 j 93 0 v.toInt64))) := by
  refine C_of (L := [some (.ref 0), some (.ref 93), none]) rfl ?_
  refine L_aload_n_1 dL_run_0 ?_
  refine V_iconst (v := 0) (by decide) dL_run_1 ?_
  refine L_aload_n_0 dL_run_2 ?_
  refine U_cv1 (d := d + 0) (lkR_RL_89 rfl dL_run_3) (hC) ⟨pn_X6_run, rfl, (Nat.le_of_ble_eq_true rfl), (Nat.le_of_ble_eq_true rfl), rfl⟩ (⟨_, _, rfl, rfl, rfl⟩) (cfS cf6) (Nat.le_of_ble_eq_true rfl) ?_
  refine V_i2l dL_run_6 ?_
  refine U_last (n := 0) dL_run_7 rfl (rfl) (by decide) (by decide) ?_
  refine V_goto (tgt := 14) dL_run_8 (by decide) ?_
  refine V_iconst (v := 0) (by decide) dL_run_14 ?_
  exact V_iret dL_run_15 rfl rfl (⟨rfl, rfl⟩)
theorem w_run_x1 {g : G0} {j : Nat → Nat → Int64} (d : Nat) {i : Nat → Nat → Int32} (hC : C g m_X6_run d 1 6 false [.ref 0] (mk i j) (thrs "java/lang/IllegalArgumentException" (mk i j)))  : C g m_L_run (d + 1) 1 6 false [.ref 0, .ref 93] (mk i j) (rets (some (.int 1)) (mk i j)) := by
  refine C_of (L := [some (.ref 0), some (.ref 93), none]) rfl ?_
  refine L_aload_n_1 dL_run_0 ?_
  refine V_iconst (v := 0) (by decide) dL_run_1 ?_
  refine L_aload_n_0 dL_run_2 ?_
  refine V_callC (As := [.ref 0]) (E := "java/lang/IllegalArgumentException") (name := "java/lang/IllegalArgumentException") (pre := []) (suf := []) (x := ⟨0, 8, 11, 27⟩) (kf := 2) (j := 2) (lkX_RL_89 rfl dL_run_3) hC pn_X6_run rfl (Nat.le_of_ble_eq_true rfl) (Nat.le_of_ble_eq_true rfl) rfl (⟨_, _, rfl, rfl, rfl⟩) (cfS cf6) (Nat.le_refl _) (Nat.le_refl _) (Nat.le_refl _) (by decide) rfl (fun z hz => by cases hz) (by decide) (by decide) cl_RL_27 ca_IllegalArgumentException dL_run_11 rfl (Nat.le_of_ble_eq_true rfl) rfl ?_
  refine V_iconst (v := 1) (by decide) dL_run_12 ?_
  exact V_iret dL_run_13 rfl rfl (⟨rfl, rfl⟩)
theorem w_undo {g : G0} {j : Nat → Nat → Int64} (d : Nat) {i i' : Nat → Nat → Int32} {v : Int32} (hC : C g m_X6_undo d 0 0 false [.ref 0] (mk i j) (rets (some (.int v)) (mk i' j)))  : C g m_L_undo (d + 1) 0 0 false [.ref 0, .ref 93] (mk i j) (rets (some (.int 0)) (mk i' (up2 j 93 0 v.toInt64))) := by
  refine C_of (L := [some (.ref 0), some (.ref 93), none]) rfl ?_
  refine L_aload_n_1 dL_undo_0 ?_
  refine V_iconst (v := 0) (by decide) dL_undo_1 ?_
  refine L_aload_n_0 dL_undo_2 ?_
  refine U_cv1 (d := d + 0) (lkR_RL_92 rfl dL_undo_3) (hC) ⟨pn_X6_undo, rfl, (Nat.le_of_ble_eq_true rfl), (Nat.le_of_ble_eq_true rfl), rfl⟩ (⟨_, _, rfl, rfl, rfl⟩) (cfS cf6) (Nat.le_of_ble_eq_true rfl) ?_
  refine V_i2l dL_undo_6 ?_
  refine U_last (n := 0) dL_undo_7 rfl (rfl) (by decide) (by decide) ?_
  refine V_goto (tgt := 14) dL_undo_8 (by decide) ?_
  refine V_iconst (v := 0) (by decide) dL_undo_14 ?_
  exact V_iret dL_undo_15 rfl rfl (⟨rfl, rfl⟩)
theorem w_undo_x1 {g : G0} {j : Nat → Nat → Int64} (d : Nat) {i : Nat → Nat → Int32} (hC : C g m_X6_undo d 1 6 false [.ref 0] (mk i j) (thrs "java/lang/IllegalStateException" (mk i j)))  : C g m_L_undo (d + 1) 1 6 false [.ref 0, .ref 93] (mk i j) (rets (some (.int 1)) (mk i j)) := by
  refine C_of (L := [some (.ref 0), some (.ref 93), none]) rfl ?_
  refine L_aload_n_1 dL_undo_0 ?_
  refine V_iconst (v := 0) (by decide) dL_undo_1 ?_
  refine L_aload_n_0 dL_undo_2 ?_
  refine V_callC (As := [.ref 0]) (E := "java/lang/IllegalStateException") (name := "java/lang/IllegalStateException") (pre := []) (suf := []) (x := ⟨0, 8, 11, 15⟩) (kf := 2) (j := 2) (lkX_RL_92 rfl dL_undo_3) hC pn_X6_undo rfl (Nat.le_of_ble_eq_true rfl) (Nat.le_of_ble_eq_true rfl) rfl (⟨_, _, rfl, rfl, rfl⟩) (cfS cf6) (Nat.le_refl _) (Nat.le_refl _) (Nat.le_refl _) (by decide) rfl (fun z hz => by cases hz) (by decide) (by decide) cl_RL_15 ca_IllegalStateException dL_undo_11 rfl (Nat.le_of_ble_eq_true rfl) rfl ?_
  refine V_iconst (v := 1) (by decide) dL_undo_12 ?_
  exact V_iret dL_undo_13 rfl rfl (⟨rfl, rfl⟩)
