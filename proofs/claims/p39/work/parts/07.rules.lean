section RULES
variable {g : G0} {M : M0} {d kc ks : Nat} {op : Bool} {K : K0} {pc : Nat} {L : List (Option Value)} {S : List Value} {w : Wd}
theorem V_iconst {n : Int} {v : Int32} (hv : Int32.ofInt n = v) (hd : decode M.co pc = .ok (.iconst n, 1)) (kk : V g M d kc ks op K (pc + 1) L (.int v :: S) w) : V g M d kc ks op K pc L S w := by
  intro p e s m args below meth c H locs cells slots ls mc ms A Z
  obtain ⟨hx, hb, hml, hr, hown, hlk, hnm, htb, hE⟩ := id A
  obtain ⟨hl, hH, hop, hS, hkc, hks⟩ := id Z
  exact lv_iconst hx hb hd hv (kk p e s m args below meth c H locs cells slots ls mc ms A Z)
theorem V_bipush {n : Int} {v : Int32} (hv : (Int8.ofInt n).toInt32 = v) (hd : decode M.co pc = .ok (.bipush n, 2)) (kk : V g M d kc ks op K (pc + 2) L (.int v :: S) w) : V g M d kc ks op K pc L S w := by
  intro p e s m args below meth c H locs cells slots ls mc ms A Z
  obtain ⟨hx, hb, hml, hr, hown, hlk, hnm, htb, hE⟩ := id A
  obtain ⟨hl, hH, hop, hS, hkc, hks⟩ := id Z
  exact lv_bipush hx hb hd hv (kk p e s m args below meth c H locs cells slots ls mc ms A Z)
theorem V_sipush {n : Int} {v : Int32} (hv : (Int16.ofInt n).toInt32 = v) (hd : decode M.co pc = .ok (.sipush n, 3)) (kk : V g M d kc ks op K (pc + 3) L (.int v :: S) w) : V g M d kc ks op K pc L S w := by
  intro p e s m args below meth c H locs cells slots ls mc ms A Z
  obtain ⟨hx, hb, hml, hr, hown, hlk, hnm, htb, hE⟩ := id A
  obtain ⟨hl, hH, hop, hS, hkc, hks⟩ := id Z
  exact lv_sipush hx hb hd hv (kk p e s m args below meth c H locs cells slots ls mc ms A Z)
theorem V_lconst {n : Fin 2} {v : Int64} (hv : Int64.ofNat (n : Nat) = v) (hd : decode M.co pc = .ok (.lconst n, 1)) (kk : V g M d kc ks op K (pc + 1) L (.long v :: S) w) : V g M d kc ks op K pc L S w := by
  intro p e s m args below meth c H locs cells slots ls mc ms A Z
  obtain ⟨hx, hb, hml, hr, hown, hlk, hnm, htb, hE⟩ := id A
  obtain ⟨hl, hH, hop, hS, hkc, hks⟩ := id Z
  exact lv_lconst hx hb hd hv (kk p e s m args below meth c H locs cells slots ls mc ms A Z)
theorem V_dconst0  (hd : decode M.co pc = .ok (.dconst 0, 1)) (kk : V g M d kc ks op K (pc + 1) L (.double 0 :: S) w) : V g M d kc ks op K pc L S w := by
  intro p e s m args below meth c H locs cells slots ls mc ms A Z
  obtain ⟨hx, hb, hml, hr, hown, hlk, hnm, htb, hE⟩ := id A
  obtain ⟨hl, hH, hop, hS, hkc, hks⟩ := id Z
  exact lv_dconst0 hx hb hd (kk p e s m args below meth c H locs cells slots ls mc ms A Z)
theorem V_dconst1  (hd : decode M.co pc = .ok (.dconst 1, 1)) (kk : V g M d kc ks op K (pc + 1) L (.double 4607182418800017408 :: S) w) : V g M d kc ks op K pc L S w := by
  intro p e s m args below meth c H locs cells slots ls mc ms A Z
  obtain ⟨hx, hb, hml, hr, hown, hlk, hnm, htb, hE⟩ := id A
  obtain ⟨hl, hH, hop, hS, hkc, hks⟩ := id Z
  exact lv_dconst1 hx hb hd (kk p e s m args below meth c H locs cells slots ls mc ms A Z)
theorem V_iadd {x y : Int32} (hd : decode M.co pc = .ok (.iadd, 1)) (kk : V g M d kc ks op K (pc + 1) L (.int (x + y) :: S) w) : V g M d kc ks op K pc L (.int y :: .int x :: S) w := by
  intro p e s m args below meth c H locs cells slots ls mc ms A Z
  obtain ⟨hx, hb, hml, hr, hown, hlk, hnm, htb, hE⟩ := id A
  obtain ⟨hl, hH, hop, hS, hkc, hks⟩ := id Z
  exact lv_iadd hx hb hd (kk p e s m args below meth c H locs cells slots ls mc ms A Z)
theorem V_isub {x y : Int32} (hd : decode M.co pc = .ok (.isub, 1)) (kk : V g M d kc ks op K (pc + 1) L (.int (x - y) :: S) w) : V g M d kc ks op K pc L (.int y :: .int x :: S) w := by
  intro p e s m args below meth c H locs cells slots ls mc ms A Z
  obtain ⟨hx, hb, hml, hr, hown, hlk, hnm, htb, hE⟩ := id A
  obtain ⟨hl, hH, hop, hS, hkc, hks⟩ := id Z
  exact lv_isub hx hb hd (kk p e s m args below meth c H locs cells slots ls mc ms A Z)
theorem V_imul {x y : Int32} (hd : decode M.co pc = .ok (.imul, 1)) (kk : V g M d kc ks op K (pc + 1) L (.int (x * y) :: S) w) : V g M d kc ks op K pc L (.int y :: .int x :: S) w := by
  intro p e s m args below meth c H locs cells slots ls mc ms A Z
  obtain ⟨hx, hb, hml, hr, hown, hlk, hnm, htb, hE⟩ := id A
  obtain ⟨hl, hH, hop, hS, hkc, hks⟩ := id Z
  exact lv_imul hx hb hd (kk p e s m args below meth c H locs cells slots ls mc ms A Z)
theorem V_iand {x y : Int32} (hd : decode M.co pc = .ok (.iand, 1)) (kk : V g M d kc ks op K (pc + 1) L (.int (x &&& y) :: S) w) : V g M d kc ks op K pc L (.int y :: .int x :: S) w := by
  intro p e s m args below meth c H locs cells slots ls mc ms A Z
  obtain ⟨hx, hb, hml, hr, hown, hlk, hnm, htb, hE⟩ := id A
  obtain ⟨hl, hH, hop, hS, hkc, hks⟩ := id Z
  exact lv_iand hx hb hd (kk p e s m args below meth c H locs cells slots ls mc ms A Z)
theorem V_ior {x y : Int32} (hd : decode M.co pc = .ok (.ior, 1)) (kk : V g M d kc ks op K (pc + 1) L (.int (x ||| y) :: S) w) : V g M d kc ks op K pc L (.int y :: .int x :: S) w := by
  intro p e s m args below meth c H locs cells slots ls mc ms A Z
  obtain ⟨hx, hb, hml, hr, hown, hlk, hnm, htb, hE⟩ := id A
  obtain ⟨hl, hH, hop, hS, hkc, hks⟩ := id Z
  exact lv_ior hx hb hd (kk p e s m args below meth c H locs cells slots ls mc ms A Z)
theorem V_ixor {x y : Int32} (hd : decode M.co pc = .ok (.ixor, 1)) (kk : V g M d kc ks op K (pc + 1) L (.int (x ^^^ y) :: S) w) : V g M d kc ks op K pc L (.int y :: .int x :: S) w := by
  intro p e s m args below meth c H locs cells slots ls mc ms A Z
  obtain ⟨hx, hb, hml, hr, hown, hlk, hnm, htb, hE⟩ := id A
  obtain ⟨hl, hH, hop, hS, hkc, hks⟩ := id Z
  exact lv_ixor hx hb hd (kk p e s m args below meth c H locs cells slots ls mc ms A Z)
theorem V_irem {x y : Int32} (hne : ¬ y = 0) (hd : decode M.co pc = .ok (.irem, 1)) (kk : V g M d kc ks op K (pc + 1) L (.int (x - x / y * y) :: S) w) : V g M d kc ks op K pc L (.int y :: .int x :: S) w := by
  intro p e s m args below meth c H locs cells slots ls mc ms A Z
  obtain ⟨hx, hb, hml, hr, hown, hlk, hnm, htb, hE⟩ := id A
  obtain ⟨hl, hH, hop, hS, hkc, hks⟩ := id Z
  exact lv_irem hx hb hd hne (kk p e s m args below meth c H locs cells slots ls mc ms A Z)
theorem V_ishl {x y : Int32} (hd : decode M.co pc = .ok (.ishl, 1)) (kk : V g M d kc ks op K (pc + 1) L (.int (x <<< (y &&& 31)) :: S) w) : V g M d kc ks op K pc L (.int y :: .int x :: S) w := by
  intro p e s m args below meth c H locs cells slots ls mc ms A Z
  obtain ⟨hx, hb, hml, hr, hown, hlk, hnm, htb, hE⟩ := id A
  obtain ⟨hl, hH, hop, hS, hkc, hks⟩ := id Z
  exact lv_ishl hx hb hd (kk p e s m args below meth c H locs cells slots ls mc ms A Z)
theorem V_ishr {x y : Int32} (hd : decode M.co pc = .ok (.ishr, 1)) (kk : V g M d kc ks op K (pc + 1) L (.int (x >>> (y &&& 31)) :: S) w) : V g M d kc ks op K pc L (.int y :: .int x :: S) w := by
  intro p e s m args below meth c H locs cells slots ls mc ms A Z
  obtain ⟨hx, hb, hml, hr, hown, hlk, hnm, htb, hE⟩ := id A
  obtain ⟨hl, hH, hop, hS, hkc, hks⟩ := id Z
  exact lv_ishr hx hb hd (kk p e s m args below meth c H locs cells slots ls mc ms A Z)
theorem V_iushr {x y : Int32} (hd : decode M.co pc = .ok (.iushr, 1)) (kk : V g M d kc ks op K (pc + 1) L (.int ((x.toUInt32 >>> (y.toUInt32 &&& Int32.toUInt32 31)).toInt32) :: S) w) : V g M d kc ks op K pc L (.int y :: .int x :: S) w := by
  intro p e s m args below meth c H locs cells slots ls mc ms A Z
  obtain ⟨hx, hb, hml, hr, hown, hlk, hnm, htb, hE⟩ := id A
  obtain ⟨hl, hH, hop, hS, hkc, hks⟩ := id Z
  exact lv_iushr hx hb hd rfl (kk p e s m args below meth c H locs cells slots ls mc ms A Z)
theorem V_ladd {x y : Int64} (hd : decode M.co pc = .ok (.ladd, 1)) (kk : V g M d kc ks op K (pc + 1) L (.long (x + y) :: S) w) : V g M d kc ks op K pc L (.long y :: .long x :: S) w := by
  intro p e s m args below meth c H locs cells slots ls mc ms A Z
  obtain ⟨hx, hb, hml, hr, hown, hlk, hnm, htb, hE⟩ := id A
  obtain ⟨hl, hH, hop, hS, hkc, hks⟩ := id Z
  exact lv_ladd hx hb hd (kk p e s m args below meth c H locs cells slots ls mc ms A Z)
theorem V_lmul {x y : Int64} (hd : decode M.co pc = .ok (.lmul, 1)) (kk : V g M d kc ks op K (pc + 1) L (.long (x * y) :: S) w) : V g M d kc ks op K pc L (.long y :: .long x :: S) w := by
  intro p e s m args below meth c H locs cells slots ls mc ms A Z
  obtain ⟨hx, hb, hml, hr, hown, hlk, hnm, htb, hE⟩ := id A
  obtain ⟨hl, hH, hop, hS, hkc, hks⟩ := id Z
  exact lv_lmul hx hb hd (kk p e s m args below meth c H locs cells slots ls mc ms A Z)
theorem V_i2l {x : Int32} (hd : decode M.co pc = .ok (.i2l, 1)) (kk : V g M d kc ks op K (pc + 1) L (.long x.toInt64 :: S) w) : V g M d kc ks op K pc L (.int x :: S) w := by
  intro p e s m args below meth c H locs cells slots ls mc ms A Z
  obtain ⟨hx, hb, hml, hr, hown, hlk, hnm, htb, hE⟩ := id A
  obtain ⟨hl, hH, hop, hS, hkc, hks⟩ := id Z
  exact lv_i2l hx hb hd rfl (kk p e s m args below meth c H locs cells slots ls mc ms A Z)
theorem V_lcmp {x y : Int64} (hd : decode M.co pc = .ok (.lcmp, 1)) (kk : V g M d kc ks op K (pc + 1) L (.int (lg_cmp x y) :: S) w) : V g M d kc ks op K pc L (.long y :: .long x :: S) w := by
  intro p e s m args below meth c H locs cells slots ls mc ms A Z
  obtain ⟨hx, hb, hml, hr, hown, hlk, hnm, htb, hE⟩ := id A
  obtain ⟨hl, hH, hop, hS, hkc, hks⟩ := id Z
  exact W.lcmp hx hb hd (kk p e s m args below meth c H locs cells slots ls mc ms A Z)
theorem V_i2d {x : Int32} (hd : decode M.co pc = .ok (.i2d, 1)) (kk : V g M d kc ks op K (pc + 1) L (.double (FP.i2d x) :: S) w) : V g M d kc ks op K pc L (.int x :: S) w := by
  intro p e s m args below meth c H locs cells slots ls mc ms A Z
  obtain ⟨hx, hb, hml, hr, hown, hlk, hnm, htb, hE⟩ := id A
  obtain ⟨hl, hH, hop, hS, hkc, hks⟩ := id Z
  exact lv_i2d hx hb hd (kk p e s m args below meth c H locs cells slots ls mc ms A Z)
theorem V_dsub {x y : UInt64} (hne : vf_n64 (FP.dsub x y)) (hd : decode M.co pc = .ok (.dsub, 1)) (kk : V g M d kc ks op K (pc + 1) L (.double (FP.dsub x y) :: S) w) : V g M d kc ks op K pc L (.double y :: .double x :: S) w := by
  intro p e s m args below meth c H locs cells slots ls mc ms A Z
  obtain ⟨hx, hb, hml, hr, hown, hlk, hnm, htb, hE⟩ := id A
  obtain ⟨hl, hH, hop, hS, hkc, hks⟩ := id Z
  exact lv_dsub hx hb hd hne (kk p e s m args below meth c H locs cells slots ls mc ms A Z)
theorem V_ddiv {x y : UInt64} (hne : vf_n64 (FP.ddiv x y)) (hd : decode M.co pc = .ok (.ddiv, 1)) (kk : V g M d kc ks op K (pc + 1) L (.double (FP.ddiv x y) :: S) w) : V g M d kc ks op K pc L (.double y :: .double x :: S) w := by
  intro p e s m args below meth c H locs cells slots ls mc ms A Z
  obtain ⟨hx, hb, hml, hr, hown, hlk, hnm, htb, hE⟩ := id A
  obtain ⟨hl, hH, hop, hS, hkc, hks⟩ := id Z
  exact lv_ddiv hx hb hd hne (kk p e s m args below meth c H locs cells slots ls mc ms A Z)
theorem V_dcmp {x y : UInt64} {o : CmpOp} (hd : decode M.co pc = .ok (.dcmp o, 1)) (kk : V g M d kc ks op K (pc + 1) L (.int (Op.cmpValue (FP.dcmp x y) o) :: S) w) : V g M d kc ks op K pc L (.double y :: .double x :: S) w := by
  intro p e s m args below meth c H locs cells slots ls mc ms A Z
  obtain ⟨hx, hb, hml, hr, hown, hlk, hnm, htb, hE⟩ := id A
  obtain ⟨hl, hH, hop, hS, hkc, hks⟩ := id Z
  exact lv_dcmp hx hb hd (kk p e s m args below meth c H locs cells slots ls mc ms A Z)
theorem V_dup {v : Value} (hv : v.category = 1) (hd : decode M.co pc = .ok (.dup, 1)) (kk : V g M d kc ks op K (pc + 1) L (v :: v :: S) w) : V g M d kc ks op K pc L (v :: S) w := by
  intro p e s m args below meth c H locs cells slots ls mc ms A Z
  obtain ⟨hx, hb, hml, hr, hown, hlk, hnm, htb, hE⟩ := id A
  obtain ⟨hl, hH, hop, hS, hkc, hks⟩ := id Z
  exact lv_dup hx hb hd (by rw [cv_cat]; exact hv) (kk p e s m args below meth c H locs cells slots ls mc ms A Z)
theorem V_pop {v : Value} (hv : v.category = 1) (hd : decode M.co pc = .ok (.pop, 1)) (kk : V g M d kc ks op K (pc + 1) L S w) : V g M d kc ks op K pc L (v :: S) w := by
  intro p e s m args below meth c H locs cells slots ls mc ms A Z
  obtain ⟨hx, hb, hml, hr, hown, hlk, hnm, htb, hE⟩ := id A
  obtain ⟨hl, hH, hop, hS, hkc, hks⟩ := id Z
  exact lv_pop hx hb hd (by rw [cv_cat]; exact hv) (kk p e s m args below meth c H locs cells slots ls mc ms A Z)
theorem V_dup2 {v u : Value} (hv : v.category = 1) (hu : u.category = 1) (hd : decode M.co pc = .ok (.dup2, 1)) (kk : V g M d kc ks op K (pc + 1) L (v :: u :: v :: u :: S) w) : V g M d kc ks op K pc L (v :: u :: S) w := by
  intro p e s m args below meth c H locs cells slots ls mc ms A Z
  obtain ⟨hx, hb, hml, hr, hown, hlk, hnm, htb, hE⟩ := id A
  obtain ⟨hl, hH, hop, hS, hkc, hks⟩ := id Z
  exact lv_dup2_11 hx hb hd (by rw [cv_cat]; exact hv) (by rw [cv_cat]; exact hu) (kk p e s m args below meth c H locs cells slots ls mc ms A Z)
theorem V_goto {off : Int} {tgt : Nat} (hd : decode M.co pc = .ok (.goto off, 3)) (ht : (pc : Int) + off = (tgt : Int)) (kk : V g M d kc ks op K tgt L S w) : V g M d kc ks op K pc L S w := by
  intro p e s m args below meth c H locs cells slots ls mc ms A Z
  obtain ⟨hx, hb, hml, hr, hown, hlk, hnm, htb, hE⟩ := id A
  obtain ⟨hl, hH, hop, hS, hkc, hks⟩ := id Z
  exact lv_goto hx hb hd ht (kk p e s m args below meth c H locs cells slots ls mc ms A Z)
theorem V_if_eq {x y : Int32} {off : Int} {tgt : Nat} (hd : decode M.co pc = .ok (.ifCond .eq off, 3)) (ht : (pc : Int) + off = (tgt : Int)) (kt : x = 0 → V g M d kc ks op K tgt L S w) (kf : ¬ x = 0 → V g M d kc ks op K (pc + 3) L S w) : V g M d kc ks op K pc L (.int x :: S) w := by
  intro p e s m args below meth c H locs cells slots ls mc ms A Z
  obtain ⟨hx, hb, hml, hr, hown, hlk, hnm, htb, hE⟩ := id A
  obtain ⟨hl, hH, hop, hS, hkc, hks⟩ := id Z
  exact lv_if_eq hx hb hd ht (fun h => kt h p e s m args below meth c H locs cells slots ls mc ms A Z) (fun h => kf h p e s m args below meth c H locs cells slots ls mc ms A Z)
theorem V_if_ne {x y : Int32} {off : Int} {tgt : Nat} (hd : decode M.co pc = .ok (.ifCond .ne off, 3)) (ht : (pc : Int) + off = (tgt : Int)) (kt : ¬ x = 0 → V g M d kc ks op K tgt L S w) (kf : x = 0 → V g M d kc ks op K (pc + 3) L S w) : V g M d kc ks op K pc L (.int x :: S) w := by
  intro p e s m args below meth c H locs cells slots ls mc ms A Z
  obtain ⟨hx, hb, hml, hr, hown, hlk, hnm, htb, hE⟩ := id A
  obtain ⟨hl, hH, hop, hS, hkc, hks⟩ := id Z
  exact lv_if_ne hx hb hd ht (fun h => kt h p e s m args below meth c H locs cells slots ls mc ms A Z) (fun h => kf h p e s m args below meth c H locs cells slots ls mc ms A Z)
theorem V_if_lt {x y : Int32} {off : Int} {tgt : Nat} (hd : decode M.co pc = .ok (.ifCond .lt off, 3)) (ht : (pc : Int) + off = (tgt : Int)) (kt : x < 0 → V g M d kc ks op K tgt L S w) (kf : ¬ x < 0 → V g M d kc ks op K (pc + 3) L S w) : V g M d kc ks op K pc L (.int x :: S) w := by
  intro p e s m args below meth c H locs cells slots ls mc ms A Z
  obtain ⟨hx, hb, hml, hr, hown, hlk, hnm, htb, hE⟩ := id A
  obtain ⟨hl, hH, hop, hS, hkc, hks⟩ := id Z
  exact lv_if_lt hx hb hd ht (fun h => kt h p e s m args below meth c H locs cells slots ls mc ms A Z) (fun h => kf h p e s m args below meth c H locs cells slots ls mc ms A Z)
theorem V_if_ge {x y : Int32} {off : Int} {tgt : Nat} (hd : decode M.co pc = .ok (.ifCond .ge off, 3)) (ht : (pc : Int) + off = (tgt : Int)) (kt : 0 ≤ x → V g M d kc ks op K tgt L S w) (kf : ¬ 0 ≤ x → V g M d kc ks op K (pc + 3) L S w) : V g M d kc ks op K pc L (.int x :: S) w := by
  intro p e s m args below meth c H locs cells slots ls mc ms A Z
  obtain ⟨hx, hb, hml, hr, hown, hlk, hnm, htb, hE⟩ := id A
  obtain ⟨hl, hH, hop, hS, hkc, hks⟩ := id Z
  exact lv_if_ge hx hb hd ht (fun h => kt h p e s m args below meth c H locs cells slots ls mc ms A Z) (fun h => kf h p e s m args below meth c H locs cells slots ls mc ms A Z)
theorem V_if_gt {x y : Int32} {off : Int} {tgt : Nat} (hd : decode M.co pc = .ok (.ifCond .gt off, 3)) (ht : (pc : Int) + off = (tgt : Int)) (kt : 0 < x → V g M d kc ks op K tgt L S w) (kf : ¬ 0 < x → V g M d kc ks op K (pc + 3) L S w) : V g M d kc ks op K pc L (.int x :: S) w := by
  intro p e s m args below meth c H locs cells slots ls mc ms A Z
  obtain ⟨hx, hb, hml, hr, hown, hlk, hnm, htb, hE⟩ := id A
  obtain ⟨hl, hH, hop, hS, hkc, hks⟩ := id Z
  exact lv_if_gt hx hb hd ht (fun h => kt h p e s m args below meth c H locs cells slots ls mc ms A Z) (fun h => kf h p e s m args below meth c H locs cells slots ls mc ms A Z)
theorem V_if_le {x y : Int32} {off : Int} {tgt : Nat} (hd : decode M.co pc = .ok (.ifCond .le off, 3)) (ht : (pc : Int) + off = (tgt : Int)) (kt : x ≤ 0 → V g M d kc ks op K tgt L S w) (kf : ¬ x ≤ 0 → V g M d kc ks op K (pc + 3) L S w) : V g M d kc ks op K pc L (.int x :: S) w := by
  intro p e s m args below meth c H locs cells slots ls mc ms A Z
  obtain ⟨hx, hb, hml, hr, hown, hlk, hnm, htb, hE⟩ := id A
  obtain ⟨hl, hH, hop, hS, hkc, hks⟩ := id Z
  exact lv_if_le hx hb hd ht (fun h => kt h p e s m args below meth c H locs cells slots ls mc ms A Z) (fun h => kf h p e s m args below meth c H locs cells slots ls mc ms A Z)
theorem V_icmp_eq {x y : Int32} {off : Int} {tgt : Nat} (hd : decode M.co pc = .ok (.if_icmp .eq off, 3)) (ht : (pc : Int) + off = (tgt : Int)) (kt : x = y → V g M d kc ks op K tgt L S w) (kf : ¬ x = y → V g M d kc ks op K (pc + 3) L S w) : V g M d kc ks op K pc L (.int y :: .int x :: S) w := by
  intro p e s m args below meth c H locs cells slots ls mc ms A Z
  obtain ⟨hx, hb, hml, hr, hown, hlk, hnm, htb, hE⟩ := id A
  obtain ⟨hl, hH, hop, hS, hkc, hks⟩ := id Z
  exact lv_icmp_eq hx hb hd ht (fun h => kt h p e s m args below meth c H locs cells slots ls mc ms A Z) (fun h => kf h p e s m args below meth c H locs cells slots ls mc ms A Z)
theorem V_icmp_ne {x y : Int32} {off : Int} {tgt : Nat} (hd : decode M.co pc = .ok (.if_icmp .ne off, 3)) (ht : (pc : Int) + off = (tgt : Int)) (kt : ¬ x = y → V g M d kc ks op K tgt L S w) (kf : x = y → V g M d kc ks op K (pc + 3) L S w) : V g M d kc ks op K pc L (.int y :: .int x :: S) w := by
  intro p e s m args below meth c H locs cells slots ls mc ms A Z
  obtain ⟨hx, hb, hml, hr, hown, hlk, hnm, htb, hE⟩ := id A
  obtain ⟨hl, hH, hop, hS, hkc, hks⟩ := id Z
  exact lv_icmp_ne hx hb hd ht (fun h => kt h p e s m args below meth c H locs cells slots ls mc ms A Z) (fun h => kf h p e s m args below meth c H locs cells slots ls mc ms A Z)
theorem V_icmp_lt {x y : Int32} {off : Int} {tgt : Nat} (hd : decode M.co pc = .ok (.if_icmp .lt off, 3)) (ht : (pc : Int) + off = (tgt : Int)) (kt : x < y → V g M d kc ks op K tgt L S w) (kf : ¬ x < y → V g M d kc ks op K (pc + 3) L S w) : V g M d kc ks op K pc L (.int y :: .int x :: S) w := by
  intro p e s m args below meth c H locs cells slots ls mc ms A Z
  obtain ⟨hx, hb, hml, hr, hown, hlk, hnm, htb, hE⟩ := id A
  obtain ⟨hl, hH, hop, hS, hkc, hks⟩ := id Z
  exact lv_icmp_lt hx hb hd ht (fun h => kt h p e s m args below meth c H locs cells slots ls mc ms A Z) (fun h => kf h p e s m args below meth c H locs cells slots ls mc ms A Z)
theorem V_icmp_ge {x y : Int32} {off : Int} {tgt : Nat} (hd : decode M.co pc = .ok (.if_icmp .ge off, 3)) (ht : (pc : Int) + off = (tgt : Int)) (kt : y ≤ x → V g M d kc ks op K tgt L S w) (kf : ¬ y ≤ x → V g M d kc ks op K (pc + 3) L S w) : V g M d kc ks op K pc L (.int y :: .int x :: S) w := by
  intro p e s m args below meth c H locs cells slots ls mc ms A Z
  obtain ⟨hx, hb, hml, hr, hown, hlk, hnm, htb, hE⟩ := id A
  obtain ⟨hl, hH, hop, hS, hkc, hks⟩ := id Z
  exact lv_icmp_ge hx hb hd ht (fun h => kt h p e s m args below meth c H locs cells slots ls mc ms A Z) (fun h => kf h p e s m args below meth c H locs cells slots ls mc ms A Z)
theorem V_icmp_gt {x y : Int32} {off : Int} {tgt : Nat} (hd : decode M.co pc = .ok (.if_icmp .gt off, 3)) (ht : (pc : Int) + off = (tgt : Int)) (kt : y < x → V g M d kc ks op K tgt L S w) (kf : ¬ y < x → V g M d kc ks op K (pc + 3) L S w) : V g M d kc ks op K pc L (.int y :: .int x :: S) w := by
  intro p e s m args below meth c H locs cells slots ls mc ms A Z
  obtain ⟨hx, hb, hml, hr, hown, hlk, hnm, htb, hE⟩ := id A
  obtain ⟨hl, hH, hop, hS, hkc, hks⟩ := id Z
  exact lv_icmp_gt hx hb hd ht (fun h => kt h p e s m args below meth c H locs cells slots ls mc ms A Z) (fun h => kf h p e s m args below meth c H locs cells slots ls mc ms A Z)
theorem V_icmp_le {x y : Int32} {off : Int} {tgt : Nat} (hd : decode M.co pc = .ok (.if_icmp .le off, 3)) (ht : (pc : Int) + off = (tgt : Int)) (kt : x ≤ y → V g M d kc ks op K tgt L S w) (kf : ¬ x ≤ y → V g M d kc ks op K (pc + 3) L S w) : V g M d kc ks op K pc L (.int y :: .int x :: S) w := by
  intro p e s m args below meth c H locs cells slots ls mc ms A Z
  obtain ⟨hx, hb, hml, hr, hown, hlk, hnm, htb, hE⟩ := id A
  obtain ⟨hl, hH, hop, hS, hkc, hks⟩ := id Z
  exact lv_icmp_le hx hb hd ht (fun h => kt h p e s m args below meth c H locs cells slots ls mc ms A Z) (fun h => kf h p e s m args below meth c H locs cells slots ls mc ms A Z)
def nth : List (Option Value) → Nat → Option Value
  | [], _ => none
  | a :: _, 0 => a
  | _ :: t, n + 1 => nth t n
theorem lcl_mem {g : G0} : ∀ (L : List (Option Value)) (i j : Nat) (v : Value), nth L j = some v → (i + j, cv g v) ∈ lcl g i L := by
  intro L
  induction L with
  | nil => intro i j v h; cases h
  | cons a t ih =>
    intro i j v h
    cases j with
    | zero =>
      have h : a = some v := h
      subst h
      exact List.mem_cons_self
    | succ j =>
      have h : nth t j = some v := h
      have h2 := ih (i + 1) j v h
      rw [show i + 1 + j = i + (j + 1) by omega] at h2
      cases a with
      | none => exact h2
      | some a => exact List.mem_cons_of_mem _ h2
theorem lcl_at {g : G0} {ls : Array Slot} {n : Nat} {L : List (Option Value)} (h : lv_has ls n (lcl g 0 L)) {j : Nat} {v : Value} (hv : nth L j = some v) : ls[j]? = some (.val (cv g v)) := by
  have h2 := h.2.2 _ (lcl_mem (g := g) L 0 j v hv)
  simpa using h2
def sv : List (Option Value) → Nat → Option Value → List (Option Value)
  | [], _, _ => []
  | _ :: t, 0, v => v :: t
  | a :: t, n + 1, v => a :: sv t n v
/-- no value of two slots stands at the place ahead -/
def c1 : List (Option Value) → Nat → Bool
  | [], _ => true
  | some (.long _) :: _, 1 => false
  | some (.double _) :: _, 1 => false
  | _ :: t, n + 1 => c1 t n
  | _, 0 => true
theorem lcl_ge {g : G0} : ∀ (L : List (Option Value)) (i : Nat) (q : Nat × Value), q ∈ lcl g i L → i ≤ q.1 := by
  intro L
  induction L with
  | nil => intro i q h; cases h
  | cons a t ih =>
    intro i q h
    cases a with
    | none => have := ih (i + 1) q h; omega
    | some a =>
      rcases List.mem_cons.mp h with rfl | h
      · exact Nat.le_refl _
      · have := ih (i + 1) q h; omega
theorem lcl_sv {g : G0} : ∀ (L : List (Option Value)) (i j : Nat) (v : Value), c1 L j = true → ∀ q ∈ lcl g i (sv L j (some v)), q = (i + j, cv g v) ∨ (q ∈ lcl g i L ∧ q.1 ≠ i + j ∧ ¬ (q.1 + 1 = i + j ∧ q.2.category = 2)) := by
  intro L
  induction L with
  | nil => intro i j v _ q h; cases h
  | cons a t ih =>
    intro i j v hc q h
    cases j with
    | zero =>
      have h : q ∈ (i, cv g v) :: lcl g (i + 1) t := h
      rcases List.mem_cons.mp h with h7 | h7
      · exact Or.inl h7
      · have h3 := lcl_ge t (i + 1) q h7
        refine Or.inr ⟨?_, by omega, fun z => by omega⟩
        cases a with
        | none => exact h7
        | some a => exact List.mem_cons_of_mem _ h7
    | succ j =>
      have hc2 : c1 t j = true := by
        cases j with
        | zero =>
          cases t with
          | nil => rfl
          | cons b t => cases b with
            | none => rfl
            | some b => cases b <;> rfl
        | succ j => cases a with
          | none => exact hc
          | some a => cases a <;> exact hc
      have key : ∀ q ∈ lcl g (i + 1) (sv t j (some v)), q = (i + (j + 1), cv g v) ∨ (q ∈ lcl g (i + 1) t ∧ q.1 ≠ i + (j + 1) ∧ ¬ (q.1 + 1 = i + (j + 1) ∧ q.2.category = 2)) := by
        intro q hq
        have := ih (i + 1) j v hc2 q hq
        rw [show i + 1 + j = i + (j + 1) by omega] at this
        exact this
      cases a with
      | none => exact key q h
      | some a =>
        have h : q ∈ (i, cv g a) :: lcl g (i + 1) (sv t j (some v)) := h
        rcases List.mem_cons.mp h with rfl | h
        · refine Or.inr ⟨List.mem_cons_self, by show i ≠ i + (j + 1); omega, fun z => ?_⟩
          have hj : j = 0 := by have := z.1; omega
          subst hj
          have h5 := z.2
          have h5 : (cv g a).category = 2 := h5
          rw [cv_cat] at h5
          cases a <;> first | cases hc | (simp [Value.category] at h5)
        · rcases key q h with h | ⟨h1, h2⟩
          · exact Or.inl h
          · exact Or.inr ⟨List.mem_cons_of_mem _ h1, h2⟩
theorem lcl_st1 {g : G0} {ls : Array Slot} {n : Nat} {L : List (Option Value)} {j : Nat} {v : Value} (hc : c1 L j = true) (h : lv_has ls n ((j, cv g v) :: (lcl g 0 L).filter (fun q => !(q.1 == j) && !(q.1 + 1 == j && q.2.category == 2)))) : lv_has ls n (lcl g 0 (sv L j (some v))) := by
  refine ⟨h.1, h.2.1, fun q hq => h.2.2 q ?_⟩
  have h2 := lcl_sv L 0 j v hc q hq
  rw [Nat.zero_add] at h2
  rcases h2 with h2 | ⟨h2, h3, h4⟩
  · rw [h2]; exact List.mem_cons_self
  · refine List.mem_cons_of_mem _ (List.mem_filter.mpr ⟨h2, ?_⟩)
    simp only [Bool.and_eq_true, Bool.not_eq_true', beq_eq_false_iff_ne, ne_eq, Bool.and_eq_false_iff]
    refine ⟨h3, ?_⟩
    by_cases h5 : q.1 + 1 = j
    · exact Or.inr fun h6 => h4 ⟨h5, h6⟩
    · exact Or.inl h5
theorem lcl_none {g : G0} : ∀ (L : List (Option Value)) (i j : Nat), ∀ q ∈ lcl g i (sv L j none), q ∈ lcl g i L ∧ q.1 ≠ i + j := by
  intro L
  induction L with
  | nil => intro i j q h; cases h
  | cons a t ih =>
    intro i j q h
    cases j with
    | zero =>
      have h : q ∈ lcl g (i + 1) t := h
      have h3 := lcl_ge t (i + 1) q h
      refine ⟨?_, by omega⟩
      cases a with
      | none => exact h
      | some a => exact List.mem_cons_of_mem _ h
    | succ j =>
      cases a with
      | none =>
        have h2 := ih (i + 1) j q h
        exact ⟨h2.1, by have := h2.2; omega⟩
      | some a =>
        have h : q ∈ (i, cv g a) :: lcl g (i + 1) (sv t j none) := h
        rcases List.mem_cons.mp h with rfl | h
        · exact ⟨List.mem_cons_self, by show i ≠ i + (j + 1); omega⟩
        · have h2 := ih (i + 1) j q h
          exact ⟨List.mem_cons_of_mem _ h2.1, by have := h2.2; omega⟩
theorem lcl_st2 {g : G0} {ls : Array Slot} {n : Nat} {L : List (Option Value)} {j : Nat} {v : Value} (hc : c1 L j = true) (h : lv_has ls n ((j, cv g v) :: (lcl g 0 L).filter (fun q => !(q.1 == j) && (!(q.1 == j + 1) && !(q.1 + 1 == j && q.2.category == 2))))) : lv_has ls n (lcl g 0 (sv (sv L j (some v)) (j + 1) none)) := by
  refine ⟨h.1, h.2.1, fun q hq => h.2.2 q ?_⟩
  obtain ⟨hq, hj⟩ := lcl_none _ 0 (j + 1) q hq
  rw [Nat.zero_add] at hj
  have h2 := lcl_sv L 0 j v hc q hq
  rw [Nat.zero_add] at h2
  rcases h2 with h2 | ⟨h2, h3, h4⟩
  · rw [h2]; exact List.mem_cons_self
  · refine List.mem_cons_of_mem _ (List.mem_filter.mpr ⟨h2, ?_⟩)
    simp only [Bool.and_eq_true, Bool.not_eq_true', beq_eq_false_iff_ne, ne_eq, Bool.and_eq_false_iff]
    refine ⟨h3, hj, ?_⟩
    by_cases h5 : q.1 + 1 = j
    · exact Or.inr fun h6 => h4 ⟨h5, h6⟩
    · exact Or.inl h5
theorem V_iload_n {k : Fin 4} {x : Int32} (hd : decode M.co pc = .ok (.iload_n k, 1)) (hv : nth L (k : Nat) = some (.int x)) (kk : V g M d kc ks op K (pc + 1) L (.int x :: S) w) : V g M d kc ks op K pc L S w := by
  intro p e s m args below meth c H locs cells slots ls mc ms A Z
  obtain ⟨hx, hb, hml, hr, hown, hlk, hnm, htb, hE⟩ := id A
  obtain ⟨hl, hH, hop, hS, hkc, hks⟩ := id Z
  exact lv_iload_n hx hb hd rfl (lcl_at hl hv) (kk p e s m args below meth c H locs cells slots ls mc ms A Z)
theorem V_iload {k : Nat} {x : Int32} (hd : decode M.co pc = .ok (.iload k, 2)) (hv : nth L k = some (.int x)) (kk : V g M d kc ks op K (pc + 2) L (.int x :: S) w) : V g M d kc ks op K pc L S w := by
  intro p e s m args below meth c H locs cells slots ls mc ms A Z
  obtain ⟨hx, hb, hml, hr, hown, hlk, hnm, htb, hE⟩ := id A
  obtain ⟨hl, hH, hop, hS, hkc, hks⟩ := id Z
  exact lv_iload hx hb hd (lcl_at hl hv) (kk p e s m args below meth c H locs cells slots ls mc ms A Z)
theorem V_lload_n {k : Fin 4} {x : Int64} (hd : decode M.co pc = .ok (.lload_n k, 1)) (hv : nth L (k : Nat) = some (.long x)) (kk : V g M d kc ks op K (pc + 1) L (.long x :: S) w) : V g M d kc ks op K pc L S w := by
  intro p e s m args below meth c H locs cells slots ls mc ms A Z
  obtain ⟨hx, hb, hml, hr, hown, hlk, hnm, htb, hE⟩ := id A
  obtain ⟨hl, hH, hop, hS, hkc, hks⟩ := id Z
  exact lv_lload_n hx hb hd rfl (lcl_at hl hv) (kk p e s m args below meth c H locs cells slots ls mc ms A Z)
theorem V_lload {k : Nat} {x : Int64} (hd : decode M.co pc = .ok (.lload k, 2)) (hv : nth L k = some (.long x)) (kk : V g M d kc ks op K (pc + 2) L (.long x :: S) w) : V g M d kc ks op K pc L S w := by
  intro p e s m args below meth c H locs cells slots ls mc ms A Z
  obtain ⟨hx, hb, hml, hr, hown, hlk, hnm, htb, hE⟩ := id A
  obtain ⟨hl, hH, hop, hS, hkc, hks⟩ := id Z
  exact lv_lload hx hb hd (lcl_at hl hv) (kk p e s m args below meth c H locs cells slots ls mc ms A Z)
theorem V_dload_n {k : Fin 4} {x : UInt64} (hd : decode M.co pc = .ok (.dload_n k, 1)) (hv : nth L (k : Nat) = some (.double x)) (kk : V g M d kc ks op K (pc + 1) L (.double x :: S) w) : V g M d kc ks op K pc L S w := by
  intro p e s m args below meth c H locs cells slots ls mc ms A Z
  obtain ⟨hx, hb, hml, hr, hown, hlk, hnm, htb, hE⟩ := id A
  obtain ⟨hl, hH, hop, hS, hkc, hks⟩ := id Z
  exact lv_dload_n hx hb hd rfl (lcl_at hl hv) (kk p e s m args below meth c H locs cells slots ls mc ms A Z)
theorem V_dload {k : Nat} {x : UInt64} (hd : decode M.co pc = .ok (.dload k, 2)) (hv : nth L k = some (.double x)) (kk : V g M d kc ks op K (pc + 2) L (.double x :: S) w) : V g M d kc ks op K pc L S w := by
  intro p e s m args below meth c H locs cells slots ls mc ms A Z
  obtain ⟨hx, hb, hml, hr, hown, hlk, hnm, htb, hE⟩ := id A
  obtain ⟨hl, hH, hop, hS, hkc, hks⟩ := id Z
  exact lv_dload hx hb hd (lcl_at hl hv) (kk p e s m args below meth c H locs cells slots ls mc ms A Z)
theorem V_aload_n {k : Fin 4} {x : Nat} (hd : decode M.co pc = .ok (.aload_n k, 1)) (hv : nth L (k : Nat) = some (.ref x)) (kk : V g M d kc ks op K (pc + 1) L (.ref x :: S) w) : V g M d kc ks op K pc L S w := by
  intro p e s m args below meth c H locs cells slots ls mc ms A Z
  obtain ⟨hx, hb, hml, hr, hown, hlk, hnm, htb, hE⟩ := id A
  obtain ⟨hl, hH, hop, hS, hkc, hks⟩ := id Z
  exact lv_aload_n hx hb hd rfl (lcl_at hl hv) (kk p e s m args below meth c H locs cells slots ls mc ms A Z)
theorem V_aload {k : Nat} {x : Nat} (hd : decode M.co pc = .ok (.aload k, 2)) (hv : nth L k = some (.ref x)) (kk : V g M d kc ks op K (pc + 2) L (.ref x :: S) w) : V g M d kc ks op K pc L S w := by
  intro p e s m args below meth c H locs cells slots ls mc ms A Z
  obtain ⟨hx, hb, hml, hr, hown, hlk, hnm, htb, hE⟩ := id A
  obtain ⟨hl, hH, hop, hS, hkc, hks⟩ := id Z
  exact lv_aload hx hb hd (lcl_at hl hv) (kk p e s m args below meth c H locs cells slots ls mc ms A Z)
theorem V_istore_n0 {k : Fin 4} {j : Nat} (hj : (k : Nat) = j) {x : Int32} (hd : decode M.co pc = .ok (.istore_n k, 1)) (hn : j < M.ml) (hc : c1 L j = true) (kk : V g M d kc ks op K (pc + 1) (sv L j (some (.int x))) S w) : V g M d kc ks op K pc L (.int x :: S) w := by
  intro p e s m args below meth c H locs cells slots ls mc ms A Z
  obtain ⟨hx, hb, hml, hr, hown, hlk, hnm, htb, hE⟩ := id A
  obtain ⟨hl, hH, hop, hS, hkc, hks⟩ := id Z
  exact lv_istore_n hx hb hd hj hl hn rfl (fun ls hl => (kk p e s m args below meth c H locs cells slots ls mc ms A ⟨lcl_st1 hc hl, hH, hop, hS, hkc, hks⟩))
theorem V_istore_n_0 {a0 : Option Value} {x : Int32} (hd : decode M.co pc = .ok (.istore_n 0, 1)) (hn : 0 < M.ml) (hc : c1 (a0 :: L) 0 = true) (kk : V g M d kc ks op K (pc + 1) (some (.int x) :: L) S w) : V g M d kc ks op K pc (a0 :: L) (.int x :: S) w := V_istore_n0 rfl hd hn hc kk
theorem V_istore_n_1 {a0 a1 : Option Value} {x : Int32} (hd : decode M.co pc = .ok (.istore_n 1, 1)) (hn : 1 < M.ml) (hc : c1 (a0 :: a1 :: L) 1 = true) (kk : V g M d kc ks op K (pc + 1) (a0 :: some (.int x) :: L) S w) : V g M d kc ks op K pc (a0 :: a1 :: L) (.int x :: S) w := V_istore_n0 rfl hd hn hc kk
theorem V_istore_n_2 {a0 a1 a2 : Option Value} {x : Int32} (hd : decode M.co pc = .ok (.istore_n 2, 1)) (hn : 2 < M.ml) (hc : c1 (a0 :: a1 :: a2 :: L) 2 = true) (kk : V g M d kc ks op K (pc + 1) (a0 :: a1 :: some (.int x) :: L) S w) : V g M d kc ks op K pc (a0 :: a1 :: a2 :: L) (.int x :: S) w := V_istore_n0 rfl hd hn hc kk
theorem V_istore_n_3 {a0 a1 a2 a3 : Option Value} {x : Int32} (hd : decode M.co pc = .ok (.istore_n 3, 1)) (hn : 3 < M.ml) (hc : c1 (a0 :: a1 :: a2 :: a3 :: L) 3 = true) (kk : V g M d kc ks op K (pc + 1) (a0 :: a1 :: a2 :: some (.int x) :: L) S w) : V g M d kc ks op K pc (a0 :: a1 :: a2 :: a3 :: L) (.int x :: S) w := V_istore_n0 rfl hd hn hc kk
theorem V_istore0 {j : Nat} {x : Int32} (hd : decode M.co pc = .ok (.istore j, 2)) (hn : j < M.ml) (hc : c1 L j = true) (kk : V g M d kc ks op K (pc + 2) (sv L j (some (.int x))) S w) : V g M d kc ks op K pc L (.int x :: S) w := by
  intro p e s m args below meth c H locs cells slots ls mc ms A Z
  obtain ⟨hx, hb, hml, hr, hown, hlk, hnm, htb, hE⟩ := id A
  obtain ⟨hl, hH, hop, hS, hkc, hks⟩ := id Z
  exact lv_istore hx hb hd hl hn rfl (fun ls hl => (kk p e s m args below meth c H locs cells slots ls mc ms A ⟨lcl_st1 hc hl, hH, hop, hS, hkc, hks⟩))
theorem V_istore_0 {a0 : Option Value} {x : Int32} (hd : decode M.co pc = .ok (.istore 0, 2)) (hn : 0 < M.ml) (hc : c1 (a0 :: L) 0 = true) (kk : V g M d kc ks op K (pc + 2) (some (.int x) :: L) S w) : V g M d kc ks op K pc (a0 :: L) (.int x :: S) w := V_istore0 hd hn hc kk
theorem V_istore_1 {a0 a1 : Option Value} {x : Int32} (hd : decode M.co pc = .ok (.istore 1, 2)) (hn : 1 < M.ml) (hc : c1 (a0 :: a1 :: L) 1 = true) (kk : V g M d kc ks op K (pc + 2) (a0 :: some (.int x) :: L) S w) : V g M d kc ks op K pc (a0 :: a1 :: L) (.int x :: S) w := V_istore0 hd hn hc kk
theorem V_istore_2 {a0 a1 a2 : Option Value} {x : Int32} (hd : decode M.co pc = .ok (.istore 2, 2)) (hn : 2 < M.ml) (hc : c1 (a0 :: a1 :: a2 :: L) 2 = true) (kk : V g M d kc ks op K (pc + 2) (a0 :: a1 :: some (.int x) :: L) S w) : V g M d kc ks op K pc (a0 :: a1 :: a2 :: L) (.int x :: S) w := V_istore0 hd hn hc kk
theorem V_istore_3 {a0 a1 a2 a3 : Option Value} {x : Int32} (hd : decode M.co pc = .ok (.istore 3, 2)) (hn : 3 < M.ml) (hc : c1 (a0 :: a1 :: a2 :: a3 :: L) 3 = true) (kk : V g M d kc ks op K (pc + 2) (a0 :: a1 :: a2 :: some (.int x) :: L) S w) : V g M d kc ks op K pc (a0 :: a1 :: a2 :: a3 :: L) (.int x :: S) w := V_istore0 hd hn hc kk
theorem V_istore_4 {a0 a1 a2 a3 a4 : Option Value} {x : Int32} (hd : decode M.co pc = .ok (.istore 4, 2)) (hn : 4 < M.ml) (hc : c1 (a0 :: a1 :: a2 :: a3 :: a4 :: L) 4 = true) (kk : V g M d kc ks op K (pc + 2) (a0 :: a1 :: a2 :: a3 :: some (.int x) :: L) S w) : V g M d kc ks op K pc (a0 :: a1 :: a2 :: a3 :: a4 :: L) (.int x :: S) w := V_istore0 hd hn hc kk
theorem V_istore_5 {a0 a1 a2 a3 a4 a5 : Option Value} {x : Int32} (hd : decode M.co pc = .ok (.istore 5, 2)) (hn : 5 < M.ml) (hc : c1 (a0 :: a1 :: a2 :: a3 :: a4 :: a5 :: L) 5 = true) (kk : V g M d kc ks op K (pc + 2) (a0 :: a1 :: a2 :: a3 :: a4 :: some (.int x) :: L) S w) : V g M d kc ks op K pc (a0 :: a1 :: a2 :: a3 :: a4 :: a5 :: L) (.int x :: S) w := V_istore0 hd hn hc kk
theorem V_istore_6 {a0 a1 a2 a3 a4 a5 a6 : Option Value} {x : Int32} (hd : decode M.co pc = .ok (.istore 6, 2)) (hn : 6 < M.ml) (hc : c1 (a0 :: a1 :: a2 :: a3 :: a4 :: a5 :: a6 :: L) 6 = true) (kk : V g M d kc ks op K (pc + 2) (a0 :: a1 :: a2 :: a3 :: a4 :: a5 :: some (.int x) :: L) S w) : V g M d kc ks op K pc (a0 :: a1 :: a2 :: a3 :: a4 :: a5 :: a6 :: L) (.int x :: S) w := V_istore0 hd hn hc kk
theorem V_istore_7 {a0 a1 a2 a3 a4 a5 a6 a7 : Option Value} {x : Int32} (hd : decode M.co pc = .ok (.istore 7, 2)) (hn : 7 < M.ml) (hc : c1 (a0 :: a1 :: a2 :: a3 :: a4 :: a5 :: a6 :: a7 :: L) 7 = true) (kk : V g M d kc ks op K (pc + 2) (a0 :: a1 :: a2 :: a3 :: a4 :: a5 :: a6 :: some (.int x) :: L) S w) : V g M d kc ks op K pc (a0 :: a1 :: a2 :: a3 :: a4 :: a5 :: a6 :: a7 :: L) (.int x :: S) w := V_istore0 hd hn hc kk
theorem V_istore_8 {a0 a1 a2 a3 a4 a5 a6 a7 a8 : Option Value} {x : Int32} (hd : decode M.co pc = .ok (.istore 8, 2)) (hn : 8 < M.ml) (hc : c1 (a0 :: a1 :: a2 :: a3 :: a4 :: a5 :: a6 :: a7 :: a8 :: L) 8 = true) (kk : V g M d kc ks op K (pc + 2) (a0 :: a1 :: a2 :: a3 :: a4 :: a5 :: a6 :: a7 :: some (.int x) :: L) S w) : V g M d kc ks op K pc (a0 :: a1 :: a2 :: a3 :: a4 :: a5 :: a6 :: a7 :: a8 :: L) (.int x :: S) w := V_istore0 hd hn hc kk
theorem V_istore_9 {a0 a1 a2 a3 a4 a5 a6 a7 a8 a9 : Option Value} {x : Int32} (hd : decode M.co pc = .ok (.istore 9, 2)) (hn : 9 < M.ml) (hc : c1 (a0 :: a1 :: a2 :: a3 :: a4 :: a5 :: a6 :: a7 :: a8 :: a9 :: L) 9 = true) (kk : V g M d kc ks op K (pc + 2) (a0 :: a1 :: a2 :: a3 :: a4 :: a5 :: a6 :: a7 :: a8 :: some (.int x) :: L) S w) : V g M d kc ks op K pc (a0 :: a1 :: a2 :: a3 :: a4 :: a5 :: a6 :: a7 :: a8 :: a9 :: L) (.int x :: S) w := V_istore0 hd hn hc kk
theorem V_istore_10 {a0 a1 a2 a3 a4 a5 a6 a7 a8 a9 a10 : Option Value} {x : Int32} (hd : decode M.co pc = .ok (.istore 10, 2)) (hn : 10 < M.ml) (hc : c1 (a0 :: a1 :: a2 :: a3 :: a4 :: a5 :: a6 :: a7 :: a8 :: a9 :: a10 :: L) 10 = true) (kk : V g M d kc ks op K (pc + 2) (a0 :: a1 :: a2 :: a3 :: a4 :: a5 :: a6 :: a7 :: a8 :: a9 :: some (.int x) :: L) S w) : V g M d kc ks op K pc (a0 :: a1 :: a2 :: a3 :: a4 :: a5 :: a6 :: a7 :: a8 :: a9 :: a10 :: L) (.int x :: S) w := V_istore0 hd hn hc kk
theorem V_istore_11 {a0 a1 a2 a3 a4 a5 a6 a7 a8 a9 a10 a11 : Option Value} {x : Int32} (hd : decode M.co pc = .ok (.istore 11, 2)) (hn : 11 < M.ml) (hc : c1 (a0 :: a1 :: a2 :: a3 :: a4 :: a5 :: a6 :: a7 :: a8 :: a9 :: a10 :: a11 :: L) 11 = true) (kk : V g M d kc ks op K (pc + 2) (a0 :: a1 :: a2 :: a3 :: a4 :: a5 :: a6 :: a7 :: a8 :: a9 :: a10 :: some (.int x) :: L) S w) : V g M d kc ks op K pc (a0 :: a1 :: a2 :: a3 :: a4 :: a5 :: a6 :: a7 :: a8 :: a9 :: a10 :: a11 :: L) (.int x :: S) w := V_istore0 hd hn hc kk
theorem V_istore_12 {a0 a1 a2 a3 a4 a5 a6 a7 a8 a9 a10 a11 a12 : Option Value} {x : Int32} (hd : decode M.co pc = .ok (.istore 12, 2)) (hn : 12 < M.ml) (hc : c1 (a0 :: a1 :: a2 :: a3 :: a4 :: a5 :: a6 :: a7 :: a8 :: a9 :: a10 :: a11 :: a12 :: L) 12 = true) (kk : V g M d kc ks op K (pc + 2) (a0 :: a1 :: a2 :: a3 :: a4 :: a5 :: a6 :: a7 :: a8 :: a9 :: a10 :: a11 :: some (.int x) :: L) S w) : V g M d kc ks op K pc (a0 :: a1 :: a2 :: a3 :: a4 :: a5 :: a6 :: a7 :: a8 :: a9 :: a10 :: a11 :: a12 :: L) (.int x :: S) w := V_istore0 hd hn hc kk
theorem V_istore_13 {a0 a1 a2 a3 a4 a5 a6 a7 a8 a9 a10 a11 a12 a13 : Option Value} {x : Int32} (hd : decode M.co pc = .ok (.istore 13, 2)) (hn : 13 < M.ml) (hc : c1 (a0 :: a1 :: a2 :: a3 :: a4 :: a5 :: a6 :: a7 :: a8 :: a9 :: a10 :: a11 :: a12 :: a13 :: L) 13 = true) (kk : V g M d kc ks op K (pc + 2) (a0 :: a1 :: a2 :: a3 :: a4 :: a5 :: a6 :: a7 :: a8 :: a9 :: a10 :: a11 :: a12 :: some (.int x) :: L) S w) : V g M d kc ks op K pc (a0 :: a1 :: a2 :: a3 :: a4 :: a5 :: a6 :: a7 :: a8 :: a9 :: a10 :: a11 :: a12 :: a13 :: L) (.int x :: S) w := V_istore0 hd hn hc kk
theorem V_astore_n0 {k : Fin 4} {j : Nat} (hj : (k : Nat) = j) {x : Nat} (hd : decode M.co pc = .ok (.astore_n k, 1)) (hn : j < M.ml) (hc : c1 L j = true) (kk : V g M d kc ks op K (pc + 1) (sv L j (some (.ref x))) S w) : V g M d kc ks op K pc L (.ref x :: S) w := by
  intro p e s m args below meth c H locs cells slots ls mc ms A Z
  obtain ⟨hx, hb, hml, hr, hown, hlk, hnm, htb, hE⟩ := id A
  obtain ⟨hl, hH, hop, hS, hkc, hks⟩ := id Z
  exact lv_astore_n hx hb hd hj hl hn rfl (fun ls hl => (kk p e s m args below meth c H locs cells slots ls mc ms A ⟨lcl_st1 hc hl, hH, hop, hS, hkc, hks⟩))
theorem V_astore_n_0 {a0 : Option Value} {x : Nat} (hd : decode M.co pc = .ok (.astore_n 0, 1)) (hn : 0 < M.ml) (hc : c1 (a0 :: L) 0 = true) (kk : V g M d kc ks op K (pc + 1) (some (.ref x) :: L) S w) : V g M d kc ks op K pc (a0 :: L) (.ref x :: S) w := V_astore_n0 rfl hd hn hc kk
theorem V_astore_n_1 {a0 a1 : Option Value} {x : Nat} (hd : decode M.co pc = .ok (.astore_n 1, 1)) (hn : 1 < M.ml) (hc : c1 (a0 :: a1 :: L) 1 = true) (kk : V g M d kc ks op K (pc + 1) (a0 :: some (.ref x) :: L) S w) : V g M d kc ks op K pc (a0 :: a1 :: L) (.ref x :: S) w := V_astore_n0 rfl hd hn hc kk
theorem V_astore_n_2 {a0 a1 a2 : Option Value} {x : Nat} (hd : decode M.co pc = .ok (.astore_n 2, 1)) (hn : 2 < M.ml) (hc : c1 (a0 :: a1 :: a2 :: L) 2 = true) (kk : V g M d kc ks op K (pc + 1) (a0 :: a1 :: some (.ref x) :: L) S w) : V g M d kc ks op K pc (a0 :: a1 :: a2 :: L) (.ref x :: S) w := V_astore_n0 rfl hd hn hc kk
theorem V_astore_n_3 {a0 a1 a2 a3 : Option Value} {x : Nat} (hd : decode M.co pc = .ok (.astore_n 3, 1)) (hn : 3 < M.ml) (hc : c1 (a0 :: a1 :: a2 :: a3 :: L) 3 = true) (kk : V g M d kc ks op K (pc + 1) (a0 :: a1 :: a2 :: some (.ref x) :: L) S w) : V g M d kc ks op K pc (a0 :: a1 :: a2 :: a3 :: L) (.ref x :: S) w := V_astore_n0 rfl hd hn hc kk
theorem V_astore0 {j : Nat} {x : Nat} (hd : decode M.co pc = .ok (.astore j, 2)) (hn : j < M.ml) (hc : c1 L j = true) (kk : V g M d kc ks op K (pc + 2) (sv L j (some (.ref x))) S w) : V g M d kc ks op K pc L (.ref x :: S) w := by
  intro p e s m args below meth c H locs cells slots ls mc ms A Z
  obtain ⟨hx, hb, hml, hr, hown, hlk, hnm, htb, hE⟩ := id A
  obtain ⟨hl, hH, hop, hS, hkc, hks⟩ := id Z
  exact lv_astore hx hb hd hl hn rfl (fun ls hl => (kk p e s m args below meth c H locs cells slots ls mc ms A ⟨lcl_st1 hc hl, hH, hop, hS, hkc, hks⟩))
theorem V_astore_0 {a0 : Option Value} {x : Nat} (hd : decode M.co pc = .ok (.astore 0, 2)) (hn : 0 < M.ml) (hc : c1 (a0 :: L) 0 = true) (kk : V g M d kc ks op K (pc + 2) (some (.ref x) :: L) S w) : V g M d kc ks op K pc (a0 :: L) (.ref x :: S) w := V_astore0 hd hn hc kk
theorem V_astore_1 {a0 a1 : Option Value} {x : Nat} (hd : decode M.co pc = .ok (.astore 1, 2)) (hn : 1 < M.ml) (hc : c1 (a0 :: a1 :: L) 1 = true) (kk : V g M d kc ks op K (pc + 2) (a0 :: some (.ref x) :: L) S w) : V g M d kc ks op K pc (a0 :: a1 :: L) (.ref x :: S) w := V_astore0 hd hn hc kk
theorem V_astore_2 {a0 a1 a2 : Option Value} {x : Nat} (hd : decode M.co pc = .ok (.astore 2, 2)) (hn : 2 < M.ml) (hc : c1 (a0 :: a1 :: a2 :: L) 2 = true) (kk : V g M d kc ks op K (pc + 2) (a0 :: a1 :: some (.ref x) :: L) S w) : V g M d kc ks op K pc (a0 :: a1 :: a2 :: L) (.ref x :: S) w := V_astore0 hd hn hc kk
theorem V_astore_3 {a0 a1 a2 a3 : Option Value} {x : Nat} (hd : decode M.co pc = .ok (.astore 3, 2)) (hn : 3 < M.ml) (hc : c1 (a0 :: a1 :: a2 :: a3 :: L) 3 = true) (kk : V g M d kc ks op K (pc + 2) (a0 :: a1 :: a2 :: some (.ref x) :: L) S w) : V g M d kc ks op K pc (a0 :: a1 :: a2 :: a3 :: L) (.ref x :: S) w := V_astore0 hd hn hc kk
theorem V_astore_4 {a0 a1 a2 a3 a4 : Option Value} {x : Nat} (hd : decode M.co pc = .ok (.astore 4, 2)) (hn : 4 < M.ml) (hc : c1 (a0 :: a1 :: a2 :: a3 :: a4 :: L) 4 = true) (kk : V g M d kc ks op K (pc + 2) (a0 :: a1 :: a2 :: a3 :: some (.ref x) :: L) S w) : V g M d kc ks op K pc (a0 :: a1 :: a2 :: a3 :: a4 :: L) (.ref x :: S) w := V_astore0 hd hn hc kk
theorem V_astore_5 {a0 a1 a2 a3 a4 a5 : Option Value} {x : Nat} (hd : decode M.co pc = .ok (.astore 5, 2)) (hn : 5 < M.ml) (hc : c1 (a0 :: a1 :: a2 :: a3 :: a4 :: a5 :: L) 5 = true) (kk : V g M d kc ks op K (pc + 2) (a0 :: a1 :: a2 :: a3 :: a4 :: some (.ref x) :: L) S w) : V g M d kc ks op K pc (a0 :: a1 :: a2 :: a3 :: a4 :: a5 :: L) (.ref x :: S) w := V_astore0 hd hn hc kk
theorem V_astore_6 {a0 a1 a2 a3 a4 a5 a6 : Option Value} {x : Nat} (hd : decode M.co pc = .ok (.astore 6, 2)) (hn : 6 < M.ml) (hc : c1 (a0 :: a1 :: a2 :: a3 :: a4 :: a5 :: a6 :: L) 6 = true) (kk : V g M d kc ks op K (pc + 2) (a0 :: a1 :: a2 :: a3 :: a4 :: a5 :: some (.ref x) :: L) S w) : V g M d kc ks op K pc (a0 :: a1 :: a2 :: a3 :: a4 :: a5 :: a6 :: L) (.ref x :: S) w := V_astore0 hd hn hc kk
theorem V_astore_7 {a0 a1 a2 a3 a4 a5 a6 a7 : Option Value} {x : Nat} (hd : decode M.co pc = .ok (.astore 7, 2)) (hn : 7 < M.ml) (hc : c1 (a0 :: a1 :: a2 :: a3 :: a4 :: a5 :: a6 :: a7 :: L) 7 = true) (kk : V g M d kc ks op K (pc + 2) (a0 :: a1 :: a2 :: a3 :: a4 :: a5 :: a6 :: some (.ref x) :: L) S w) : V g M d kc ks op K pc (a0 :: a1 :: a2 :: a3 :: a4 :: a5 :: a6 :: a7 :: L) (.ref x :: S) w := V_astore0 hd hn hc kk
theorem V_astore_8 {a0 a1 a2 a3 a4 a5 a6 a7 a8 : Option Value} {x : Nat} (hd : decode M.co pc = .ok (.astore 8, 2)) (hn : 8 < M.ml) (hc : c1 (a0 :: a1 :: a2 :: a3 :: a4 :: a5 :: a6 :: a7 :: a8 :: L) 8 = true) (kk : V g M d kc ks op K (pc + 2) (a0 :: a1 :: a2 :: a3 :: a4 :: a5 :: a6 :: a7 :: some (.ref x) :: L) S w) : V g M d kc ks op K pc (a0 :: a1 :: a2 :: a3 :: a4 :: a5 :: a6 :: a7 :: a8 :: L) (.ref x :: S) w := V_astore0 hd hn hc kk
theorem V_astore_9 {a0 a1 a2 a3 a4 a5 a6 a7 a8 a9 : Option Value} {x : Nat} (hd : decode M.co pc = .ok (.astore 9, 2)) (hn : 9 < M.ml) (hc : c1 (a0 :: a1 :: a2 :: a3 :: a4 :: a5 :: a6 :: a7 :: a8 :: a9 :: L) 9 = true) (kk : V g M d kc ks op K (pc + 2) (a0 :: a1 :: a2 :: a3 :: a4 :: a5 :: a6 :: a7 :: a8 :: some (.ref x) :: L) S w) : V g M d kc ks op K pc (a0 :: a1 :: a2 :: a3 :: a4 :: a5 :: a6 :: a7 :: a8 :: a9 :: L) (.ref x :: S) w := V_astore0 hd hn hc kk
theorem V_astore_10 {a0 a1 a2 a3 a4 a5 a6 a7 a8 a9 a10 : Option Value} {x : Nat} (hd : decode M.co pc = .ok (.astore 10, 2)) (hn : 10 < M.ml) (hc : c1 (a0 :: a1 :: a2 :: a3 :: a4 :: a5 :: a6 :: a7 :: a8 :: a9 :: a10 :: L) 10 = true) (kk : V g M d kc ks op K (pc + 2) (a0 :: a1 :: a2 :: a3 :: a4 :: a5 :: a6 :: a7 :: a8 :: a9 :: some (.ref x) :: L) S w) : V g M d kc ks op K pc (a0 :: a1 :: a2 :: a3 :: a4 :: a5 :: a6 :: a7 :: a8 :: a9 :: a10 :: L) (.ref x :: S) w := V_astore0 hd hn hc kk
theorem V_astore_11 {a0 a1 a2 a3 a4 a5 a6 a7 a8 a9 a10 a11 : Option Value} {x : Nat} (hd : decode M.co pc = .ok (.astore 11, 2)) (hn : 11 < M.ml) (hc : c1 (a0 :: a1 :: a2 :: a3 :: a4 :: a5 :: a6 :: a7 :: a8 :: a9 :: a10 :: a11 :: L) 11 = true) (kk : V g M d kc ks op K (pc + 2) (a0 :: a1 :: a2 :: a3 :: a4 :: a5 :: a6 :: a7 :: a8 :: a9 :: a10 :: some (.ref x) :: L) S w) : V g M d kc ks op K pc (a0 :: a1 :: a2 :: a3 :: a4 :: a5 :: a6 :: a7 :: a8 :: a9 :: a10 :: a11 :: L) (.ref x :: S) w := V_astore0 hd hn hc kk
theorem V_astore_12 {a0 a1 a2 a3 a4 a5 a6 a7 a8 a9 a10 a11 a12 : Option Value} {x : Nat} (hd : decode M.co pc = .ok (.astore 12, 2)) (hn : 12 < M.ml) (hc : c1 (a0 :: a1 :: a2 :: a3 :: a4 :: a5 :: a6 :: a7 :: a8 :: a9 :: a10 :: a11 :: a12 :: L) 12 = true) (kk : V g M d kc ks op K (pc + 2) (a0 :: a1 :: a2 :: a3 :: a4 :: a5 :: a6 :: a7 :: a8 :: a9 :: a10 :: a11 :: some (.ref x) :: L) S w) : V g M d kc ks op K pc (a0 :: a1 :: a2 :: a3 :: a4 :: a5 :: a6 :: a7 :: a8 :: a9 :: a10 :: a11 :: a12 :: L) (.ref x :: S) w := V_astore0 hd hn hc kk
theorem V_astore_13 {a0 a1 a2 a3 a4 a5 a6 a7 a8 a9 a10 a11 a12 a13 : Option Value} {x : Nat} (hd : decode M.co pc = .ok (.astore 13, 2)) (hn : 13 < M.ml) (hc : c1 (a0 :: a1 :: a2 :: a3 :: a4 :: a5 :: a6 :: a7 :: a8 :: a9 :: a10 :: a11 :: a12 :: a13 :: L) 13 = true) (kk : V g M d kc ks op K (pc + 2) (a0 :: a1 :: a2 :: a3 :: a4 :: a5 :: a6 :: a7 :: a8 :: a9 :: a10 :: a11 :: a12 :: some (.ref x) :: L) S w) : V g M d kc ks op K pc (a0 :: a1 :: a2 :: a3 :: a4 :: a5 :: a6 :: a7 :: a8 :: a9 :: a10 :: a11 :: a12 :: a13 :: L) (.ref x :: S) w := V_astore0 hd hn hc kk
theorem V_lstore_n0 {k : Fin 4} {j : Nat} (hj : (k : Nat) = j) {x : Int64} (hd : decode M.co pc = .ok (.lstore_n k, 1)) (hn : j + 1 < M.ml) (hc : c1 L j = true) (kk : V g M d kc ks op K (pc + 1) (sv (sv L j (some (.long x))) (j + 1) none) S w) : V g M d kc ks op K pc L (.long x :: S) w := by
  intro p e s m args below meth c H locs cells slots ls mc ms A Z
  obtain ⟨hx, hb, hml, hr, hown, hlk, hnm, htb, hE⟩ := id A
  obtain ⟨hl, hH, hop, hS, hkc, hks⟩ := id Z
  exact lv_lstore_n hx hb hd hj hl hn rfl (fun ls hl => (kk p e s m args below meth c H locs cells slots ls mc ms A ⟨lcl_st2 hc hl, hH, hop, hS, hkc, hks⟩))
theorem V_lstore_n_0 {a0 a1 : Option Value} {x : Int64} (hd : decode M.co pc = .ok (.lstore_n 0, 1)) (hn : 1 < M.ml) (hc : c1 (a0 :: a1 :: L) 0 = true) (kk : V g M d kc ks op K (pc + 1) (some (.long x) :: none :: L) S w) : V g M d kc ks op K pc (a0 :: a1 :: L) (.long x :: S) w := V_lstore_n0 rfl hd hn hc kk
theorem V_lstore_n_1 {a0 a1 a2 : Option Value} {x : Int64} (hd : decode M.co pc = .ok (.lstore_n 1, 1)) (hn : 2 < M.ml) (hc : c1 (a0 :: a1 :: a2 :: L) 1 = true) (kk : V g M d kc ks op K (pc + 1) (a0 :: some (.long x) :: none :: L) S w) : V g M d kc ks op K pc (a0 :: a1 :: a2 :: L) (.long x :: S) w := V_lstore_n0 rfl hd hn hc kk
theorem V_lstore_n_2 {a0 a1 a2 a3 : Option Value} {x : Int64} (hd : decode M.co pc = .ok (.lstore_n 2, 1)) (hn : 3 < M.ml) (hc : c1 (a0 :: a1 :: a2 :: a3 :: L) 2 = true) (kk : V g M d kc ks op K (pc + 1) (a0 :: a1 :: some (.long x) :: none :: L) S w) : V g M d kc ks op K pc (a0 :: a1 :: a2 :: a3 :: L) (.long x :: S) w := V_lstore_n0 rfl hd hn hc kk
theorem V_lstore_n_3 {a0 a1 a2 a3 a4 : Option Value} {x : Int64} (hd : decode M.co pc = .ok (.lstore_n 3, 1)) (hn : 4 < M.ml) (hc : c1 (a0 :: a1 :: a2 :: a3 :: a4 :: L) 3 = true) (kk : V g M d kc ks op K (pc + 1) (a0 :: a1 :: a2 :: some (.long x) :: none :: L) S w) : V g M d kc ks op K pc (a0 :: a1 :: a2 :: a3 :: a4 :: L) (.long x :: S) w := V_lstore_n0 rfl hd hn hc kk
theorem V_lstore0 {j : Nat} {x : Int64} (hd : decode M.co pc = .ok (.lstore j, 2)) (hn : j + 1 < M.ml) (hc : c1 L j = true) (kk : V g M d kc ks op K (pc + 2) (sv (sv L j (some (.long x))) (j + 1) none) S w) : V g M d kc ks op K pc L (.long x :: S) w := by
  intro p e s m args below meth c H locs cells slots ls mc ms A Z
  obtain ⟨hx, hb, hml, hr, hown, hlk, hnm, htb, hE⟩ := id A
  obtain ⟨hl, hH, hop, hS, hkc, hks⟩ := id Z
  exact lv_lstore hx hb hd hl hn rfl (fun ls hl => (kk p e s m args below meth c H locs cells slots ls mc ms A ⟨lcl_st2 hc hl, hH, hop, hS, hkc, hks⟩))
theorem V_lstore_0 {a0 a1 : Option Value} {x : Int64} (hd : decode M.co pc = .ok (.lstore 0, 2)) (hn : 1 < M.ml) (hc : c1 (a0 :: a1 :: L) 0 = true) (kk : V g M d kc ks op K (pc + 2) (some (.long x) :: none :: L) S w) : V g M d kc ks op K pc (a0 :: a1 :: L) (.long x :: S) w := V_lstore0 hd hn hc kk
theorem V_lstore_1 {a0 a1 a2 : Option Value} {x : Int64} (hd : decode M.co pc = .ok (.lstore 1, 2)) (hn : 2 < M.ml) (hc : c1 (a0 :: a1 :: a2 :: L) 1 = true) (kk : V g M d kc ks op K (pc + 2) (a0 :: some (.long x) :: none :: L) S w) : V g M d kc ks op K pc (a0 :: a1 :: a2 :: L) (.long x :: S) w := V_lstore0 hd hn hc kk
theorem V_lstore_2 {a0 a1 a2 a3 : Option Value} {x : Int64} (hd : decode M.co pc = .ok (.lstore 2, 2)) (hn : 3 < M.ml) (hc : c1 (a0 :: a1 :: a2 :: a3 :: L) 2 = true) (kk : V g M d kc ks op K (pc + 2) (a0 :: a1 :: some (.long x) :: none :: L) S w) : V g M d kc ks op K pc (a0 :: a1 :: a2 :: a3 :: L) (.long x :: S) w := V_lstore0 hd hn hc kk
theorem V_lstore_3 {a0 a1 a2 a3 a4 : Option Value} {x : Int64} (hd : decode M.co pc = .ok (.lstore 3, 2)) (hn : 4 < M.ml) (hc : c1 (a0 :: a1 :: a2 :: a3 :: a4 :: L) 3 = true) (kk : V g M d kc ks op K (pc + 2) (a0 :: a1 :: a2 :: some (.long x) :: none :: L) S w) : V g M d kc ks op K pc (a0 :: a1 :: a2 :: a3 :: a4 :: L) (.long x :: S) w := V_lstore0 hd hn hc kk
theorem V_lstore_4 {a0 a1 a2 a3 a4 a5 : Option Value} {x : Int64} (hd : decode M.co pc = .ok (.lstore 4, 2)) (hn : 5 < M.ml) (hc : c1 (a0 :: a1 :: a2 :: a3 :: a4 :: a5 :: L) 4 = true) (kk : V g M d kc ks op K (pc + 2) (a0 :: a1 :: a2 :: a3 :: some (.long x) :: none :: L) S w) : V g M d kc ks op K pc (a0 :: a1 :: a2 :: a3 :: a4 :: a5 :: L) (.long x :: S) w := V_lstore0 hd hn hc kk
theorem V_lstore_5 {a0 a1 a2 a3 a4 a5 a6 : Option Value} {x : Int64} (hd : decode M.co pc = .ok (.lstore 5, 2)) (hn : 6 < M.ml) (hc : c1 (a0 :: a1 :: a2 :: a3 :: a4 :: a5 :: a6 :: L) 5 = true) (kk : V g M d kc ks op K (pc + 2) (a0 :: a1 :: a2 :: a3 :: a4 :: some (.long x) :: none :: L) S w) : V g M d kc ks op K pc (a0 :: a1 :: a2 :: a3 :: a4 :: a5 :: a6 :: L) (.long x :: S) w := V_lstore0 hd hn hc kk
theorem V_lstore_6 {a0 a1 a2 a3 a4 a5 a6 a7 : Option Value} {x : Int64} (hd : decode M.co pc = .ok (.lstore 6, 2)) (hn : 7 < M.ml) (hc : c1 (a0 :: a1 :: a2 :: a3 :: a4 :: a5 :: a6 :: a7 :: L) 6 = true) (kk : V g M d kc ks op K (pc + 2) (a0 :: a1 :: a2 :: a3 :: a4 :: a5 :: some (.long x) :: none :: L) S w) : V g M d kc ks op K pc (a0 :: a1 :: a2 :: a3 :: a4 :: a5 :: a6 :: a7 :: L) (.long x :: S) w := V_lstore0 hd hn hc kk
theorem V_lstore_7 {a0 a1 a2 a3 a4 a5 a6 a7 a8 : Option Value} {x : Int64} (hd : decode M.co pc = .ok (.lstore 7, 2)) (hn : 8 < M.ml) (hc : c1 (a0 :: a1 :: a2 :: a3 :: a4 :: a5 :: a6 :: a7 :: a8 :: L) 7 = true) (kk : V g M d kc ks op K (pc + 2) (a0 :: a1 :: a2 :: a3 :: a4 :: a5 :: a6 :: some (.long x) :: none :: L) S w) : V g M d kc ks op K pc (a0 :: a1 :: a2 :: a3 :: a4 :: a5 :: a6 :: a7 :: a8 :: L) (.long x :: S) w := V_lstore0 hd hn hc kk
theorem V_lstore_8 {a0 a1 a2 a3 a4 a5 a6 a7 a8 a9 : Option Value} {x : Int64} (hd : decode M.co pc = .ok (.lstore 8, 2)) (hn : 9 < M.ml) (hc : c1 (a0 :: a1 :: a2 :: a3 :: a4 :: a5 :: a6 :: a7 :: a8 :: a9 :: L) 8 = true) (kk : V g M d kc ks op K (pc + 2) (a0 :: a1 :: a2 :: a3 :: a4 :: a5 :: a6 :: a7 :: some (.long x) :: none :: L) S w) : V g M d kc ks op K pc (a0 :: a1 :: a2 :: a3 :: a4 :: a5 :: a6 :: a7 :: a8 :: a9 :: L) (.long x :: S) w := V_lstore0 hd hn hc kk
theorem V_lstore_9 {a0 a1 a2 a3 a4 a5 a6 a7 a8 a9 a10 : Option Value} {x : Int64} (hd : decode M.co pc = .ok (.lstore 9, 2)) (hn : 10 < M.ml) (hc : c1 (a0 :: a1 :: a2 :: a3 :: a4 :: a5 :: a6 :: a7 :: a8 :: a9 :: a10 :: L) 9 = true) (kk : V g M d kc ks op K (pc + 2) (a0 :: a1 :: a2 :: a3 :: a4 :: a5 :: a6 :: a7 :: a8 :: some (.long x) :: none :: L) S w) : V g M d kc ks op K pc (a0 :: a1 :: a2 :: a3 :: a4 :: a5 :: a6 :: a7 :: a8 :: a9 :: a10 :: L) (.long x :: S) w := V_lstore0 hd hn hc kk
theorem V_lstore_10 {a0 a1 a2 a3 a4 a5 a6 a7 a8 a9 a10 a11 : Option Value} {x : Int64} (hd : decode M.co pc = .ok (.lstore 10, 2)) (hn : 11 < M.ml) (hc : c1 (a0 :: a1 :: a2 :: a3 :: a4 :: a5 :: a6 :: a7 :: a8 :: a9 :: a10 :: a11 :: L) 10 = true) (kk : V g M d kc ks op K (pc + 2) (a0 :: a1 :: a2 :: a3 :: a4 :: a5 :: a6 :: a7 :: a8 :: a9 :: some (.long x) :: none :: L) S w) : V g M d kc ks op K pc (a0 :: a1 :: a2 :: a3 :: a4 :: a5 :: a6 :: a7 :: a8 :: a9 :: a10 :: a11 :: L) (.long x :: S) w := V_lstore0 hd hn hc kk
theorem V_lstore_11 {a0 a1 a2 a3 a4 a5 a6 a7 a8 a9 a10 a11 a12 : Option Value} {x : Int64} (hd : decode M.co pc = .ok (.lstore 11, 2)) (hn : 12 < M.ml) (hc : c1 (a0 :: a1 :: a2 :: a3 :: a4 :: a5 :: a6 :: a7 :: a8 :: a9 :: a10 :: a11 :: a12 :: L) 11 = true) (kk : V g M d kc ks op K (pc + 2) (a0 :: a1 :: a2 :: a3 :: a4 :: a5 :: a6 :: a7 :: a8 :: a9 :: a10 :: some (.long x) :: none :: L) S w) : V g M d kc ks op K pc (a0 :: a1 :: a2 :: a3 :: a4 :: a5 :: a6 :: a7 :: a8 :: a9 :: a10 :: a11 :: a12 :: L) (.long x :: S) w := V_lstore0 hd hn hc kk
theorem V_lstore_12 {a0 a1 a2 a3 a4 a5 a6 a7 a8 a9 a10 a11 a12 a13 : Option Value} {x : Int64} (hd : decode M.co pc = .ok (.lstore 12, 2)) (hn : 13 < M.ml) (hc : c1 (a0 :: a1 :: a2 :: a3 :: a4 :: a5 :: a6 :: a7 :: a8 :: a9 :: a10 :: a11 :: a12 :: a13 :: L) 12 = true) (kk : V g M d kc ks op K (pc + 2) (a0 :: a1 :: a2 :: a3 :: a4 :: a5 :: a6 :: a7 :: a8 :: a9 :: a10 :: a11 :: some (.long x) :: none :: L) S w) : V g M d kc ks op K pc (a0 :: a1 :: a2 :: a3 :: a4 :: a5 :: a6 :: a7 :: a8 :: a9 :: a10 :: a11 :: a12 :: a13 :: L) (.long x :: S) w := V_lstore0 hd hn hc kk
theorem V_lstore_13 {a0 a1 a2 a3 a4 a5 a6 a7 a8 a9 a10 a11 a12 a13 a14 : Option Value} {x : Int64} (hd : decode M.co pc = .ok (.lstore 13, 2)) (hn : 14 < M.ml) (hc : c1 (a0 :: a1 :: a2 :: a3 :: a4 :: a5 :: a6 :: a7 :: a8 :: a9 :: a10 :: a11 :: a12 :: a13 :: a14 :: L) 13 = true) (kk : V g M d kc ks op K (pc + 2) (a0 :: a1 :: a2 :: a3 :: a4 :: a5 :: a6 :: a7 :: a8 :: a9 :: a10 :: a11 :: a12 :: some (.long x) :: none :: L) S w) : V g M d kc ks op K pc (a0 :: a1 :: a2 :: a3 :: a4 :: a5 :: a6 :: a7 :: a8 :: a9 :: a10 :: a11 :: a12 :: a13 :: a14 :: L) (.long x :: S) w := V_lstore0 hd hn hc kk
theorem V_dstore_n0 {k : Fin 4} {j : Nat} (hj : (k : Nat) = j) {x : UInt64} (hd : decode M.co pc = .ok (.dstore_n k, 1)) (hn : j + 1 < M.ml) (hc : c1 L j = true) (kk : V g M d kc ks op K (pc + 1) (sv (sv L j (some (.double x))) (j + 1) none) S w) : V g M d kc ks op K pc L (.double x :: S) w := by
  intro p e s m args below meth c H locs cells slots ls mc ms A Z
  obtain ⟨hx, hb, hml, hr, hown, hlk, hnm, htb, hE⟩ := id A
  obtain ⟨hl, hH, hop, hS, hkc, hks⟩ := id Z
  exact lv_dstore_n hx hb hd hj hl hn rfl (fun ls hl => (kk p e s m args below meth c H locs cells slots ls mc ms A ⟨lcl_st2 hc hl, hH, hop, hS, hkc, hks⟩))
theorem V_dstore_n_0 {a0 a1 : Option Value} {x : UInt64} (hd : decode M.co pc = .ok (.dstore_n 0, 1)) (hn : 1 < M.ml) (hc : c1 (a0 :: a1 :: L) 0 = true) (kk : V g M d kc ks op K (pc + 1) (some (.double x) :: none :: L) S w) : V g M d kc ks op K pc (a0 :: a1 :: L) (.double x :: S) w := V_dstore_n0 rfl hd hn hc kk
theorem V_dstore_n_1 {a0 a1 a2 : Option Value} {x : UInt64} (hd : decode M.co pc = .ok (.dstore_n 1, 1)) (hn : 2 < M.ml) (hc : c1 (a0 :: a1 :: a2 :: L) 1 = true) (kk : V g M d kc ks op K (pc + 1) (a0 :: some (.double x) :: none :: L) S w) : V g M d kc ks op K pc (a0 :: a1 :: a2 :: L) (.double x :: S) w := V_dstore_n0 rfl hd hn hc kk
theorem V_dstore_n_2 {a0 a1 a2 a3 : Option Value} {x : UInt64} (hd : decode M.co pc = .ok (.dstore_n 2, 1)) (hn : 3 < M.ml) (hc : c1 (a0 :: a1 :: a2 :: a3 :: L) 2 = true) (kk : V g M d kc ks op K (pc + 1) (a0 :: a1 :: some (.double x) :: none :: L) S w) : V g M d kc ks op K pc (a0 :: a1 :: a2 :: a3 :: L) (.double x :: S) w := V_dstore_n0 rfl hd hn hc kk
theorem V_dstore_n_3 {a0 a1 a2 a3 a4 : Option Value} {x : UInt64} (hd : decode M.co pc = .ok (.dstore_n 3, 1)) (hn : 4 < M.ml) (hc : c1 (a0 :: a1 :: a2 :: a3 :: a4 :: L) 3 = true) (kk : V g M d kc ks op K (pc + 1) (a0 :: a1 :: a2 :: some (.double x) :: none :: L) S w) : V g M d kc ks op K pc (a0 :: a1 :: a2 :: a3 :: a4 :: L) (.double x :: S) w := V_dstore_n0 rfl hd hn hc kk
theorem V_dstore0 {j : Nat} {x : UInt64} (hd : decode M.co pc = .ok (.dstore j, 2)) (hn : j + 1 < M.ml) (hc : c1 L j = true) (kk : V g M d kc ks op K (pc + 2) (sv (sv L j (some (.double x))) (j + 1) none) S w) : V g M d kc ks op K pc L (.double x :: S) w := by
  intro p e s m args below meth c H locs cells slots ls mc ms A Z
  obtain ⟨hx, hb, hml, hr, hown, hlk, hnm, htb, hE⟩ := id A
  obtain ⟨hl, hH, hop, hS, hkc, hks⟩ := id Z
  exact lv_dstore hx hb hd hl hn rfl (fun ls hl => (kk p e s m args below meth c H locs cells slots ls mc ms A ⟨lcl_st2 hc hl, hH, hop, hS, hkc, hks⟩))
theorem V_dstore_0 {a0 a1 : Option Value} {x : UInt64} (hd : decode M.co pc = .ok (.dstore 0, 2)) (hn : 1 < M.ml) (hc : c1 (a0 :: a1 :: L) 0 = true) (kk : V g M d kc ks op K (pc + 2) (some (.double x) :: none :: L) S w) : V g M d kc ks op K pc (a0 :: a1 :: L) (.double x :: S) w := V_dstore0 hd hn hc kk
theorem V_dstore_1 {a0 a1 a2 : Option Value} {x : UInt64} (hd : decode M.co pc = .ok (.dstore 1, 2)) (hn : 2 < M.ml) (hc : c1 (a0 :: a1 :: a2 :: L) 1 = true) (kk : V g M d kc ks op K (pc + 2) (a0 :: some (.double x) :: none :: L) S w) : V g M d kc ks op K pc (a0 :: a1 :: a2 :: L) (.double x :: S) w := V_dstore0 hd hn hc kk
theorem V_dstore_2 {a0 a1 a2 a3 : Option Value} {x : UInt64} (hd : decode M.co pc = .ok (.dstore 2, 2)) (hn : 3 < M.ml) (hc : c1 (a0 :: a1 :: a2 :: a3 :: L) 2 = true) (kk : V g M d kc ks op K (pc + 2) (a0 :: a1 :: some (.double x) :: none :: L) S w) : V g M d kc ks op K pc (a0 :: a1 :: a2 :: a3 :: L) (.double x :: S) w := V_dstore0 hd hn hc kk
theorem V_dstore_3 {a0 a1 a2 a3 a4 : Option Value} {x : UInt64} (hd : decode M.co pc = .ok (.dstore 3, 2)) (hn : 4 < M.ml) (hc : c1 (a0 :: a1 :: a2 :: a3 :: a4 :: L) 3 = true) (kk : V g M d kc ks op K (pc + 2) (a0 :: a1 :: a2 :: some (.double x) :: none :: L) S w) : V g M d kc ks op K pc (a0 :: a1 :: a2 :: a3 :: a4 :: L) (.double x :: S) w := V_dstore0 hd hn hc kk
theorem V_dstore_4 {a0 a1 a2 a3 a4 a5 : Option Value} {x : UInt64} (hd : decode M.co pc = .ok (.dstore 4, 2)) (hn : 5 < M.ml) (hc : c1 (a0 :: a1 :: a2 :: a3 :: a4 :: a5 :: L) 4 = true) (kk : V g M d kc ks op K (pc + 2) (a0 :: a1 :: a2 :: a3 :: some (.double x) :: none :: L) S w) : V g M d kc ks op K pc (a0 :: a1 :: a2 :: a3 :: a4 :: a5 :: L) (.double x :: S) w := V_dstore0 hd hn hc kk
theorem V_dstore_5 {a0 a1 a2 a3 a4 a5 a6 : Option Value} {x : UInt64} (hd : decode M.co pc = .ok (.dstore 5, 2)) (hn : 6 < M.ml) (hc : c1 (a0 :: a1 :: a2 :: a3 :: a4 :: a5 :: a6 :: L) 5 = true) (kk : V g M d kc ks op K (pc + 2) (a0 :: a1 :: a2 :: a3 :: a4 :: some (.double x) :: none :: L) S w) : V g M d kc ks op K pc (a0 :: a1 :: a2 :: a3 :: a4 :: a5 :: a6 :: L) (.double x :: S) w := V_dstore0 hd hn hc kk
theorem V_dstore_6 {a0 a1 a2 a3 a4 a5 a6 a7 : Option Value} {x : UInt64} (hd : decode M.co pc = .ok (.dstore 6, 2)) (hn : 7 < M.ml) (hc : c1 (a0 :: a1 :: a2 :: a3 :: a4 :: a5 :: a6 :: a7 :: L) 6 = true) (kk : V g M d kc ks op K (pc + 2) (a0 :: a1 :: a2 :: a3 :: a4 :: a5 :: some (.double x) :: none :: L) S w) : V g M d kc ks op K pc (a0 :: a1 :: a2 :: a3 :: a4 :: a5 :: a6 :: a7 :: L) (.double x :: S) w := V_dstore0 hd hn hc kk
theorem V_dstore_7 {a0 a1 a2 a3 a4 a5 a6 a7 a8 : Option Value} {x : UInt64} (hd : decode M.co pc = .ok (.dstore 7, 2)) (hn : 8 < M.ml) (hc : c1 (a0 :: a1 :: a2 :: a3 :: a4 :: a5 :: a6 :: a7 :: a8 :: L) 7 = true) (kk : V g M d kc ks op K (pc + 2) (a0 :: a1 :: a2 :: a3 :: a4 :: a5 :: a6 :: some (.double x) :: none :: L) S w) : V g M d kc ks op K pc (a0 :: a1 :: a2 :: a3 :: a4 :: a5 :: a6 :: a7 :: a8 :: L) (.double x :: S) w := V_dstore0 hd hn hc kk
theorem V_dstore_8 {a0 a1 a2 a3 a4 a5 a6 a7 a8 a9 : Option Value} {x : UInt64} (hd : decode M.co pc = .ok (.dstore 8, 2)) (hn : 9 < M.ml) (hc : c1 (a0 :: a1 :: a2 :: a3 :: a4 :: a5 :: a6 :: a7 :: a8 :: a9 :: L) 8 = true) (kk : V g M d kc ks op K (pc + 2) (a0 :: a1 :: a2 :: a3 :: a4 :: a5 :: a6 :: a7 :: some (.double x) :: none :: L) S w) : V g M d kc ks op K pc (a0 :: a1 :: a2 :: a3 :: a4 :: a5 :: a6 :: a7 :: a8 :: a9 :: L) (.double x :: S) w := V_dstore0 hd hn hc kk
theorem V_dstore_9 {a0 a1 a2 a3 a4 a5 a6 a7 a8 a9 a10 : Option Value} {x : UInt64} (hd : decode M.co pc = .ok (.dstore 9, 2)) (hn : 10 < M.ml) (hc : c1 (a0 :: a1 :: a2 :: a3 :: a4 :: a5 :: a6 :: a7 :: a8 :: a9 :: a10 :: L) 9 = true) (kk : V g M d kc ks op K (pc + 2) (a0 :: a1 :: a2 :: a3 :: a4 :: a5 :: a6 :: a7 :: a8 :: some (.double x) :: none :: L) S w) : V g M d kc ks op K pc (a0 :: a1 :: a2 :: a3 :: a4 :: a5 :: a6 :: a7 :: a8 :: a9 :: a10 :: L) (.double x :: S) w := V_dstore0 hd hn hc kk
theorem V_dstore_10 {a0 a1 a2 a3 a4 a5 a6 a7 a8 a9 a10 a11 : Option Value} {x : UInt64} (hd : decode M.co pc = .ok (.dstore 10, 2)) (hn : 11 < M.ml) (hc : c1 (a0 :: a1 :: a2 :: a3 :: a4 :: a5 :: a6 :: a7 :: a8 :: a9 :: a10 :: a11 :: L) 10 = true) (kk : V g M d kc ks op K (pc + 2) (a0 :: a1 :: a2 :: a3 :: a4 :: a5 :: a6 :: a7 :: a8 :: a9 :: some (.double x) :: none :: L) S w) : V g M d kc ks op K pc (a0 :: a1 :: a2 :: a3 :: a4 :: a5 :: a6 :: a7 :: a8 :: a9 :: a10 :: a11 :: L) (.double x :: S) w := V_dstore0 hd hn hc kk
theorem V_dstore_11 {a0 a1 a2 a3 a4 a5 a6 a7 a8 a9 a10 a11 a12 : Option Value} {x : UInt64} (hd : decode M.co pc = .ok (.dstore 11, 2)) (hn : 12 < M.ml) (hc : c1 (a0 :: a1 :: a2 :: a3 :: a4 :: a5 :: a6 :: a7 :: a8 :: a9 :: a10 :: a11 :: a12 :: L) 11 = true) (kk : V g M d kc ks op K (pc + 2) (a0 :: a1 :: a2 :: a3 :: a4 :: a5 :: a6 :: a7 :: a8 :: a9 :: a10 :: some (.double x) :: none :: L) S w) : V g M d kc ks op K pc (a0 :: a1 :: a2 :: a3 :: a4 :: a5 :: a6 :: a7 :: a8 :: a9 :: a10 :: a11 :: a12 :: L) (.double x :: S) w := V_dstore0 hd hn hc kk
theorem V_dstore_12 {a0 a1 a2 a3 a4 a5 a6 a7 a8 a9 a10 a11 a12 a13 : Option Value} {x : UInt64} (hd : decode M.co pc = .ok (.dstore 12, 2)) (hn : 13 < M.ml) (hc : c1 (a0 :: a1 :: a2 :: a3 :: a4 :: a5 :: a6 :: a7 :: a8 :: a9 :: a10 :: a11 :: a12 :: a13 :: L) 12 = true) (kk : V g M d kc ks op K (pc + 2) (a0 :: a1 :: a2 :: a3 :: a4 :: a5 :: a6 :: a7 :: a8 :: a9 :: a10 :: a11 :: some (.double x) :: none :: L) S w) : V g M d kc ks op K pc (a0 :: a1 :: a2 :: a3 :: a4 :: a5 :: a6 :: a7 :: a8 :: a9 :: a10 :: a11 :: a12 :: a13 :: L) (.double x :: S) w := V_dstore0 hd hn hc kk
theorem V_dstore_13 {a0 a1 a2 a3 a4 a5 a6 a7 a8 a9 a10 a11 a12 a13 a14 : Option Value} {x : UInt64} (hd : decode M.co pc = .ok (.dstore 13, 2)) (hn : 14 < M.ml) (hc : c1 (a0 :: a1 :: a2 :: a3 :: a4 :: a5 :: a6 :: a7 :: a8 :: a9 :: a10 :: a11 :: a12 :: a13 :: a14 :: L) 13 = true) (kk : V g M d kc ks op K (pc + 2) (a0 :: a1 :: a2 :: a3 :: a4 :: a5 :: a6 :: a7 :: a8 :: a9 :: a10 :: a11 :: a12 :: some (.double x) :: none :: L) S w) : V g M d kc ks op K pc (a0 :: a1 :: a2 :: a3 :: a4 :: a5 :: a6 :: a7 :: a8 :: a9 :: a10 :: a11 :: a12 :: a13 :: a14 :: L) (.double x :: S) w := V_dstore0 hd hn hc kk
theorem V_iinc0 {j : Nat} {n : Int} {x v : Int32} (hd : decode M.co pc = .ok (.iinc j n, 3)) (hn : j < M.ml) (hc : c1 L j = true) (hv : nth L j = some (.int x)) (he : x + Int32.ofInt n = v) (kk : V g M d kc ks op K (pc + 3) (sv L j (some (.int v))) S w) : V g M d kc ks op K pc L S w := by
  intro p e s m args below meth c H locs cells slots ls mc ms A Z
  obtain ⟨hx, hb, hml, hr, hown, hlk, hnm, htb, hE⟩ := id A
  obtain ⟨hl, hH, hop, hS, hkc, hks⟩ := id Z
  obtain ⟨k9, hk9⟩ := List.getElem?_of_mem (lcl_mem (g := g) L 0 j _ hv)
  rw [Nat.zero_add] at hk9
  exact lv_iinc (k := k9) hx hb hd hl hk9 he hn rfl (fun ls hl => (kk p e s m args below meth c H locs cells slots ls mc ms A ⟨lcl_st1 hc hl, hH, hop, hS, hkc, hks⟩))
theorem V_iinc_0 {n : Int} {x v : Int32} (hd : decode M.co pc = .ok (.iinc 0 n, 3)) (hn : 0 < M.ml) (hc : c1 (some (.int x) :: L) 0 = true) (he : x + Int32.ofInt n = v) (kk : V g M d kc ks op K (pc + 3) (some (.int v) :: L) S w) : V g M d kc ks op K pc (some (.int x) :: L) S w := V_iinc0 hd hn hc rfl he kk
theorem V_iinc_1 {a0 : Option Value} {n : Int} {x v : Int32} (hd : decode M.co pc = .ok (.iinc 1 n, 3)) (hn : 1 < M.ml) (hc : c1 (a0 :: some (.int x) :: L) 1 = true) (he : x + Int32.ofInt n = v) (kk : V g M d kc ks op K (pc + 3) (a0 :: some (.int v) :: L) S w) : V g M d kc ks op K pc (a0 :: some (.int x) :: L) S w := V_iinc0 hd hn hc rfl he kk
theorem V_iinc_2 {a0 a1 : Option Value} {n : Int} {x v : Int32} (hd : decode M.co pc = .ok (.iinc 2 n, 3)) (hn : 2 < M.ml) (hc : c1 (a0 :: a1 :: some (.int x) :: L) 2 = true) (he : x + Int32.ofInt n = v) (kk : V g M d kc ks op K (pc + 3) (a0 :: a1 :: some (.int v) :: L) S w) : V g M d kc ks op K pc (a0 :: a1 :: some (.int x) :: L) S w := V_iinc0 hd hn hc rfl he kk
theorem V_iinc_3 {a0 a1 a2 : Option Value} {n : Int} {x v : Int32} (hd : decode M.co pc = .ok (.iinc 3 n, 3)) (hn : 3 < M.ml) (hc : c1 (a0 :: a1 :: a2 :: some (.int x) :: L) 3 = true) (he : x + Int32.ofInt n = v) (kk : V g M d kc ks op K (pc + 3) (a0 :: a1 :: a2 :: some (.int v) :: L) S w) : V g M d kc ks op K pc (a0 :: a1 :: a2 :: some (.int x) :: L) S w := V_iinc0 hd hn hc rfl he kk
theorem V_iinc_4 {a0 a1 a2 a3 : Option Value} {n : Int} {x v : Int32} (hd : decode M.co pc = .ok (.iinc 4 n, 3)) (hn : 4 < M.ml) (hc : c1 (a0 :: a1 :: a2 :: a3 :: some (.int x) :: L) 4 = true) (he : x + Int32.ofInt n = v) (kk : V g M d kc ks op K (pc + 3) (a0 :: a1 :: a2 :: a3 :: some (.int v) :: L) S w) : V g M d kc ks op K pc (a0 :: a1 :: a2 :: a3 :: some (.int x) :: L) S w := V_iinc0 hd hn hc rfl he kk
theorem V_iinc_5 {a0 a1 a2 a3 a4 : Option Value} {n : Int} {x v : Int32} (hd : decode M.co pc = .ok (.iinc 5 n, 3)) (hn : 5 < M.ml) (hc : c1 (a0 :: a1 :: a2 :: a3 :: a4 :: some (.int x) :: L) 5 = true) (he : x + Int32.ofInt n = v) (kk : V g M d kc ks op K (pc + 3) (a0 :: a1 :: a2 :: a3 :: a4 :: some (.int v) :: L) S w) : V g M d kc ks op K pc (a0 :: a1 :: a2 :: a3 :: a4 :: some (.int x) :: L) S w := V_iinc0 hd hn hc rfl he kk
theorem V_iinc_6 {a0 a1 a2 a3 a4 a5 : Option Value} {n : Int} {x v : Int32} (hd : decode M.co pc = .ok (.iinc 6 n, 3)) (hn : 6 < M.ml) (hc : c1 (a0 :: a1 :: a2 :: a3 :: a4 :: a5 :: some (.int x) :: L) 6 = true) (he : x + Int32.ofInt n = v) (kk : V g M d kc ks op K (pc + 3) (a0 :: a1 :: a2 :: a3 :: a4 :: a5 :: some (.int v) :: L) S w) : V g M d kc ks op K pc (a0 :: a1 :: a2 :: a3 :: a4 :: a5 :: some (.int x) :: L) S w := V_iinc0 hd hn hc rfl he kk
theorem V_iinc_7 {a0 a1 a2 a3 a4 a5 a6 : Option Value} {n : Int} {x v : Int32} (hd : decode M.co pc = .ok (.iinc 7 n, 3)) (hn : 7 < M.ml) (hc : c1 (a0 :: a1 :: a2 :: a3 :: a4 :: a5 :: a6 :: some (.int x) :: L) 7 = true) (he : x + Int32.ofInt n = v) (kk : V g M d kc ks op K (pc + 3) (a0 :: a1 :: a2 :: a3 :: a4 :: a5 :: a6 :: some (.int v) :: L) S w) : V g M d kc ks op K pc (a0 :: a1 :: a2 :: a3 :: a4 :: a5 :: a6 :: some (.int x) :: L) S w := V_iinc0 hd hn hc rfl he kk
theorem V_iinc_8 {a0 a1 a2 a3 a4 a5 a6 a7 : Option Value} {n : Int} {x v : Int32} (hd : decode M.co pc = .ok (.iinc 8 n, 3)) (hn : 8 < M.ml) (hc : c1 (a0 :: a1 :: a2 :: a3 :: a4 :: a5 :: a6 :: a7 :: some (.int x) :: L) 8 = true) (he : x + Int32.ofInt n = v) (kk : V g M d kc ks op K (pc + 3) (a0 :: a1 :: a2 :: a3 :: a4 :: a5 :: a6 :: a7 :: some (.int v) :: L) S w) : V g M d kc ks op K pc (a0 :: a1 :: a2 :: a3 :: a4 :: a5 :: a6 :: a7 :: some (.int x) :: L) S w := V_iinc0 hd hn hc rfl he kk
theorem V_iinc_9 {a0 a1 a2 a3 a4 a5 a6 a7 a8 : Option Value} {n : Int} {x v : Int32} (hd : decode M.co pc = .ok (.iinc 9 n, 3)) (hn : 9 < M.ml) (hc : c1 (a0 :: a1 :: a2 :: a3 :: a4 :: a5 :: a6 :: a7 :: a8 :: some (.int x) :: L) 9 = true) (he : x + Int32.ofInt n = v) (kk : V g M d kc ks op K (pc + 3) (a0 :: a1 :: a2 :: a3 :: a4 :: a5 :: a6 :: a7 :: a8 :: some (.int v) :: L) S w) : V g M d kc ks op K pc (a0 :: a1 :: a2 :: a3 :: a4 :: a5 :: a6 :: a7 :: a8 :: some (.int x) :: L) S w := V_iinc0 hd hn hc rfl he kk
theorem V_iinc_10 {a0 a1 a2 a3 a4 a5 a6 a7 a8 a9 : Option Value} {n : Int} {x v : Int32} (hd : decode M.co pc = .ok (.iinc 10 n, 3)) (hn : 10 < M.ml) (hc : c1 (a0 :: a1 :: a2 :: a3 :: a4 :: a5 :: a6 :: a7 :: a8 :: a9 :: some (.int x) :: L) 10 = true) (he : x + Int32.ofInt n = v) (kk : V g M d kc ks op K (pc + 3) (a0 :: a1 :: a2 :: a3 :: a4 :: a5 :: a6 :: a7 :: a8 :: a9 :: some (.int v) :: L) S w) : V g M d kc ks op K pc (a0 :: a1 :: a2 :: a3 :: a4 :: a5 :: a6 :: a7 :: a8 :: a9 :: some (.int x) :: L) S w := V_iinc0 hd hn hc rfl he kk
theorem V_iinc_11 {a0 a1 a2 a3 a4 a5 a6 a7 a8 a9 a10 : Option Value} {n : Int} {x v : Int32} (hd : decode M.co pc = .ok (.iinc 11 n, 3)) (hn : 11 < M.ml) (hc : c1 (a0 :: a1 :: a2 :: a3 :: a4 :: a5 :: a6 :: a7 :: a8 :: a9 :: a10 :: some (.int x) :: L) 11 = true) (he : x + Int32.ofInt n = v) (kk : V g M d kc ks op K (pc + 3) (a0 :: a1 :: a2 :: a3 :: a4 :: a5 :: a6 :: a7 :: a8 :: a9 :: a10 :: some (.int v) :: L) S w) : V g M d kc ks op K pc (a0 :: a1 :: a2 :: a3 :: a4 :: a5 :: a6 :: a7 :: a8 :: a9 :: a10 :: some (.int x) :: L) S w := V_iinc0 hd hn hc rfl he kk
theorem V_iinc_12 {a0 a1 a2 a3 a4 a5 a6 a7 a8 a9 a10 a11 : Option Value} {n : Int} {x v : Int32} (hd : decode M.co pc = .ok (.iinc 12 n, 3)) (hn : 12 < M.ml) (hc : c1 (a0 :: a1 :: a2 :: a3 :: a4 :: a5 :: a6 :: a7 :: a8 :: a9 :: a10 :: a11 :: some (.int x) :: L) 12 = true) (he : x + Int32.ofInt n = v) (kk : V g M d kc ks op K (pc + 3) (a0 :: a1 :: a2 :: a3 :: a4 :: a5 :: a6 :: a7 :: a8 :: a9 :: a10 :: a11 :: some (.int v) :: L) S w) : V g M d kc ks op K pc (a0 :: a1 :: a2 :: a3 :: a4 :: a5 :: a6 :: a7 :: a8 :: a9 :: a10 :: a11 :: some (.int x) :: L) S w := V_iinc0 hd hn hc rfl he kk
theorem V_iinc_13 {a0 a1 a2 a3 a4 a5 a6 a7 a8 a9 a10 a11 a12 : Option Value} {n : Int} {x v : Int32} (hd : decode M.co pc = .ok (.iinc 13 n, 3)) (hn : 13 < M.ml) (hc : c1 (a0 :: a1 :: a2 :: a3 :: a4 :: a5 :: a6 :: a7 :: a8 :: a9 :: a10 :: a11 :: a12 :: some (.int x) :: L) 13 = true) (he : x + Int32.ofInt n = v) (kk : V g M d kc ks op K (pc + 3) (a0 :: a1 :: a2 :: a3 :: a4 :: a5 :: a6 :: a7 :: a8 :: a9 :: a10 :: a11 :: a12 :: some (.int v) :: L) S w) : V g M d kc ks op K pc (a0 :: a1 :: a2 :: a3 :: a4 :: a5 :: a6 :: a7 :: a8 :: a9 :: a10 :: a11 :: a12 :: some (.int x) :: L) S w := V_iinc0 hd hn hc rfl he kk
end RULES
