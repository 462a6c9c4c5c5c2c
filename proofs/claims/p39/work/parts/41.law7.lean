theorem i6_0 {k f : Nat} (h1 : ¬ (f = 4 ∧ (k = 3 ∨ 17 ≤ k ∧ k < 89))) : i6 k f = 0 := by
  unfold i6 iL
  rw [if_neg (by omega)]
  unfold up2
  rw [if_neg (by omega)]
/-- the rows at the start -/
def i8 (m : Nat) : Nat → Nat → Int32 := fun a f => if a = 91 ∧ f < 5 * m ∧ f % 5 = 0 then -1 else up2 i6 89 3 3 a f
theorem i8_0 {m a f : Nat} (h1 : ¬ (f = 4 ∧ (a = 3 ∨ 17 ≤ a ∧ a < 89))) (h2 : ¬ (a = 89 ∧ f = 3)) (h3 : ¬ (a = 91 ∧ f % 5 = 0)) : i8 m a f = 0 := by
  unfold i8 up2
  rw [if_neg (by omega), if_neg h2]
  exact i6_0 h1
theorem IV_0 : IV (i8 4) 0 := by
  refine ⟨⟨0, 0, i8_0 (by omega) (by omega) (by omega), by omega, i8_0 (by omega) (by omega) (by omega), by omega⟩, 0, 3, 0, ⟨?_, ?_, ?_, ?_⟩, ⟨?_, ?_, by omega, ?_, ?_, by omega, by omega, ?_, ?_, by omega⟩, fun d hd => by omega, fun f hf => ?_, ⟨fun _ => 0, fun _ => 0, fun f hf => ⟨?_, ?_, Nat.le_refl _, fun _ => rfl⟩, ?_, Nat.le_refl _⟩⟩
  · rw [i8_0 (by omega) (by omega) (by omega), i8_0 (by omega) (by omega) (by omega)]
  · rw [i8_0 (by omega) (by omega) (by omega), i8_0 (by omega) (by omega) (by omega)]
  · rw [i8_0 (by omega) (by omega) (by omega)]; exact L30_0
  · rw [i8_0 (by omega) (by omega) (by omega)]; exact L30_0
  · exact i8_0 (by omega) (by omega) (by omega)
  · exact i8_0 (by omega) (by omega) (by omega)
  · rfl
  · rfl
  · exact i8_0 (by omega) (by omega) (by omega)
  · exact i8_0 (by omega) (by omega) (by omega)
  · have h0 : i8 4 91 (5 * f) = -1 := if_pos ⟨rfl, by omega, by omega⟩
    unfold FR
    rw [h0, i8_0 (m := 4) (a := 9 + f) (f := 0) (by omega) (by omega) (by omega), i8_0 (m := 4) (a := 9 + f) (f := 1) (by omega) (by omega) (by omega), i8_0 (m := 4) (a := 9 + f) (f := 3) (by omega) (by omega) (by omega), i8_0 (m := 4) (a := 9 + f) (f := 4) (by omega) (by omega) (by omega), i8_0 (m := 4) (a := 9 + f) (f := 5) (by omega) (by omega) (by omega), i8_0 (m := 4) (a := 91) (f := 5 * f + 2) (by omega) (by omega) (by omega), i8_0 (m := 4) (a := 91) (f := 5 * f + 3) (by omega) (by omega) (by omega), i8_0 (m := 4) (a := 91) (f := 5 * f + 4) (by omega) (by omega) (by omega)]
    exact ⟨Or.inl ⟨rfl, rfl, rfl⟩, rfl, Or.inl rfl, rfl, Or.inl rfl, rfl⟩
  · exact i8_0 (by omega) (by omega) (by omega)
  · exact i8_0 (by omega) (by omega) (by omega)
  · exact i8_0 (by omega) (by omega) (by omega)
theorem law_start {g : G0} {nm : String} {hh : List (Nat × Nat × Nat × Nat)} {K0' : K0} (hg : gL g ≤ 260)
    (hfin : ∀ (kc ks : Nat) (i : Nat → Nat → Int32) (j : Nat → Nat → Int64) (L : List (Option Value)), V g (mL nm hh) 13 kc ks false K0' 399 L [] (mk i j)) :
    V g (mL nm hh) 13 855672 6534166 true K0' 0 [some (.ref 999), none, none, none, none, none, none, none, none, none, none, none, none, none] [] (wo 0 z0 q0) := by
  refine N_new (kc' := 855671) (ks' := 6534163) dL_law_0 cf6 cl_RL_11 is_RX6n in_RX6 df_6 (by omega) rfl (fun f => rfl) (fun f => rfl) (by omega) (by show 6534163 + 3 ≤ 6534166; omega) ?_
  refine V_dup rfl dL_law_3 ?_
  refine N_call (kc' := 855583) (ks' := 6533616) (lkR_RL_210 rfl dL_law_4) (c_X6 7) ⟨by decide, rfl, (Nat.le_of_ble_eq_true rfl), (Nat.le_of_ble_eq_true rfl), rfl⟩ (N_rcv (z := 0) (c := 6) (by omega) rfl rfl) (cfS cf6) (by omega) (by omega) (Nat.le_of_ble_eq_true rfl) ?_
  refine V_astore_n_1 dL_law_7 (Nat.le_of_ble_eq_true rfl) rfl ?_
  refine V_bipush (v := 6) (by decide) dL_law_8 ?_
  refine N_arr (z := 6) (kd := 10) (kc' := 855582) (ks' := 6533610) dL_law_10 (Or.inl ⟨rfl, rfl⟩) ac_int rfl (by decide) (by omega) rfl (fun f => i6_z (by omega)) (fun f => R6_z (by omega)) (by omega) (by omega) ?_
  refine V_astore_n_2 dL_law_12 (Nat.le_of_ble_eq_true rfl) rfl ?_
  refine V_bipush (v := 18) (by decide) dL_law_13 ?_
  refine N_arr (z := 18) (kd := 10) (kc' := 855581) (ks' := 6533592) dL_law_15 (Or.inl ⟨rfl, rfl⟩) ac_int rfl (by decide) (by omega) rfl (fun f => i6_z (by omega)) (fun f => R6_z (by omega)) (by omega) (by omega) ?_
  refine V_astore_n_3 dL_law_17 (Nat.le_of_ble_eq_true rfl) rfl ?_
  refine V_bipush (v := 20) (by decide) dL_law_18 ?_
  refine N_arr (z := 20) (kd := 10) (kc' := 855580) (ks' := 6533572) dL_law_20 (Or.inl ⟨rfl, rfl⟩) ac_int rfl (by decide) (by omega) rfl (fun f => i6_z (by omega)) (fun f => R6_z (by omega)) (by omega) (by omega) ?_
  refine V_astore_4 dL_law_22 (Nat.le_of_ble_eq_true rfl) rfl ?_
  refine V_world (w' := mk i6 j0) rfl (fun k hk => wo_mk k hk) ?_
  refine V_shut ?_
  refine V_less (kc' := 17 * 60) (ks' := 102 * 60) (by omega) (by omega) ?_
  have loop : ∀ (n m : Nat), m + n = 4 → V g (mL nm hh) 13 (17 * 60) (102 * 60) false K0' 31 [some (.ref 999), some (.ref 0), some (.ref 89), some (.ref 90), some (.ref 91), some (.int (nI m)), none, none, none, none, none, none, none, none] [] (mk (i8 m) j0) := by
    intro n
    induction n with
    | zero =>
      intro m hm
      have hm0 : m = 4 := by omega
      subst hm0
      refine L_iload_5 dL_law_31 ?_
      refine V_iconst (v := 4) (by decide) dL_law_33 ?_
      refine V_icmp_ge (tgt := 51) dL_law_34 (by decide) (fun h34 => ?_) (fun h34 => ?_)
      · refine V_iconst (v := 0) (by decide) dL_law_51 ?_
        refine V_istore_5 dL_law_52 (Nat.le_of_ble_eq_true rfl) rfl ?_
        exact law_loop hg hfin 60 0 (i8 4) j0 (by omega) IV_0
      · exact absurd (by decide) h34
    | succ n ih =>
      intro m hm
      refine L_iload_5 dL_law_31 ?_
      refine V_iconst (v := 4) (by decide) dL_law_33 ?_
      refine V_icmp_ge (tgt := 51) dL_law_34 (by decide) (fun h34 => ?_) (fun h34 => ?_)
      · exact absurd ((nI_leI (a := 4) (b := m) (by omega) (by omega)).mp h34) (by omega)
      · refine L_aload_4 dL_law_37 ?_
        refine V_iconst (v := 5) (by decide) dL_law_39 ?_
        refine L_iload_5 dL_law_40 ?_
        refine V_imul dL_law_42 ?_
        refine V_iconst (v := (-1)) (by decide) dL_law_43 ?_
        refine U_iast (n := (5 * m)) dL_law_44 rfl (pk_mul 5 m) (by omega) (by decide) ?_
        refine V_iinc_5 (v := nI (m + 1)) dL_law_45 (Nat.le_of_ble_eq_true rfl) rfl (nI_1 _) ?_
        refine V_goto (tgt := 31) dL_law_48 (by decide) ?_
        refine V_eqI (i' := i8 (m + 1)) (up2_ext fun a9 f9 => ?_) (ih (m + 1) (by omega))
        unfold i8
        by_cases h1 : a9 = 91 ∧ f9 = 5 * m
        · obtain ⟨rfl, rfl⟩ := h1
          rw [up2_eq, if_pos ⟨rfl, by omega, by omega⟩]
        · rw [show ∀ (z : Nat → Nat → Int32) (b : Int32), up2 z 91 (5 * m) b a9 f9 = z a9 f9 from fun z b => if_neg h1]
          have e9 : (a9 = 91 ∧ f9 < 5 * m ∧ f9 % 5 = 0) ↔ (a9 = 91 ∧ f9 < 5 * (m + 1) ∧ f9 % 5 = 0) := ⟨fun z => ⟨z.1, by omega, z.2.2⟩, fun z => ⟨z.1, by omega, z.2.2⟩⟩
          simp only [e9]
  refine L_aload_n_2 dL_law_24 ?_
  refine V_iconst (v := 3) (by decide) dL_law_25 ?_
  refine V_iconst (v := 3) (by decide) dL_law_26 ?_
  refine U_iast (n := 3) dL_law_27 rfl (rfl) (by decide) (by decide) ?_
  refine V_iconst (v := 0) (by decide) dL_law_28 ?_
  refine V_istore_5 dL_law_29 (Nat.le_of_ble_eq_true rfl) rfl ?_
  refine V_eqI (i' := i8 0) (up2_ext fun a9 f9 => ?_) (loop 4 0 (by omega))
  unfold i8
  rw [if_neg (by omega)]
