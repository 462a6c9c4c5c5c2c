section LOADS
variable {g : G0} {M : M0} {d kc ks : Nat} {op : Bool} {K : K0} {pc : Nat} {L : List (Option Value)} {S : List Value} {w : Wd}
theorem L_iload_n_0 {x : Int32} (hd : decode M.co pc = .ok (.iload_n 0, 1)) (kk : V g M d kc ks op K (pc + 1) (some (.int x) :: L) (.int x :: S) w) : V g M d kc ks op K pc (some (.int x) :: L) S w := V_iload_n hd rfl kk
theorem L_iload_n_1 {a0 : Option Value} {x : Int32} (hd : decode M.co pc = .ok (.iload_n 1, 1)) (kk : V g M d kc ks op K (pc + 1) (a0 :: some (.int x) :: L) (.int x :: S) w) : V g M d kc ks op K pc (a0 :: some (.int x) :: L) S w := V_iload_n hd rfl kk
theorem L_iload_n_2 {a0 a1 : Option Value} {x : Int32} (hd : decode M.co pc = .ok (.iload_n 2, 1)) (kk : V g M d kc ks op K (pc + 1) (a0 :: a1 :: some (.int x) :: L) (.int x :: S) w) : V g M d kc ks op K pc (a0 :: a1 :: some (.int x) :: L) S w := V_iload_n hd rfl kk
theorem L_iload_n_3 {a0 a1 a2 : Option Value} {x : Int32} (hd : decode M.co pc = .ok (.iload_n 3, 1)) (kk : V g M d kc ks op K (pc + 1) (a0 :: a1 :: a2 :: some (.int x) :: L) (.int x :: S) w) : V g M d kc ks op K pc (a0 :: a1 :: a2 :: some (.int x) :: L) S w := V_iload_n hd rfl kk
theorem L_iload_0 {x : Int32} (hd : decode M.co pc = .ok (.iload 0, 2)) (kk : V g M d kc ks op K (pc + 2) (some (.int x) :: L) (.int x :: S) w) : V g M d kc ks op K pc (some (.int x) :: L) S w := V_iload hd rfl kk
theorem L_iload_1 {a0 : Option Value} {x : Int32} (hd : decode M.co pc = .ok (.iload 1, 2)) (kk : V g M d kc ks op K (pc + 2) (a0 :: some (.int x) :: L) (.int x :: S) w) : V g M d kc ks op K pc (a0 :: some (.int x) :: L) S w := V_iload hd rfl kk
theorem L_iload_2 {a0 a1 : Option Value} {x : Int32} (hd : decode M.co pc = .ok (.iload 2, 2)) (kk : V g M d kc ks op K (pc + 2) (a0 :: a1 :: some (.int x) :: L) (.int x :: S) w) : V g M d kc ks op K pc (a0 :: a1 :: some (.int x) :: L) S w := V_iload hd rfl kk
theorem L_iload_3 {a0 a1 a2 : Option Value} {x : Int32} (hd : decode M.co pc = .ok (.iload 3, 2)) (kk : V g M d kc ks op K (pc + 2) (a0 :: a1 :: a2 :: some (.int x) :: L) (.int x :: S) w) : V g M d kc ks op K pc (a0 :: a1 :: a2 :: some (.int x) :: L) S w := V_iload hd rfl kk
theorem L_iload_4 {a0 a1 a2 a3 : Option Value} {x : Int32} (hd : decode M.co pc = .ok (.iload 4, 2)) (kk : V g M d kc ks op K (pc + 2) (a0 :: a1 :: a2 :: a3 :: some (.int x) :: L) (.int x :: S) w) : V g M d kc ks op K pc (a0 :: a1 :: a2 :: a3 :: some (.int x) :: L) S w := V_iload hd rfl kk
theorem L_iload_5 {a0 a1 a2 a3 a4 : Option Value} {x : Int32} (hd : decode M.co pc = .ok (.iload 5, 2)) (kk : V g M d kc ks op K (pc + 2) (a0 :: a1 :: a2 :: a3 :: a4 :: some (.int x) :: L) (.int x :: S) w) : V g M d kc ks op K pc (a0 :: a1 :: a2 :: a3 :: a4 :: some (.int x) :: L) S w := V_iload hd rfl kk
theorem L_iload_6 {a0 a1 a2 a3 a4 a5 : Option Value} {x : Int32} (hd : decode M.co pc = .ok (.iload 6, 2)) (kk : V g M d kc ks op K (pc + 2) (a0 :: a1 :: a2 :: a3 :: a4 :: a5 :: some (.int x) :: L) (.int x :: S) w) : V g M d kc ks op K pc (a0 :: a1 :: a2 :: a3 :: a4 :: a5 :: some (.int x) :: L) S w := V_iload hd rfl kk
theorem L_iload_7 {a0 a1 a2 a3 a4 a5 a6 : Option Value} {x : Int32} (hd : decode M.co pc = .ok (.iload 7, 2)) (kk : V g M d kc ks op K (pc + 2) (a0 :: a1 :: a2 :: a3 :: a4 :: a5 :: a6 :: some (.int x) :: L) (.int x :: S) w) : V g M d kc ks op K pc (a0 :: a1 :: a2 :: a3 :: a4 :: a5 :: a6 :: some (.int x) :: L) S w := V_iload hd rfl kk
theorem L_iload_8 {a0 a1 a2 a3 a4 a5 a6 a7 : Option Value} {x : Int32} (hd : decode M.co pc = .ok (.iload 8, 2)) (kk : V g M d kc ks op K (pc + 2) (a0 :: a1 :: a2 :: a3 :: a4 :: a5 :: a6 :: a7 :: some (.int x) :: L) (.int x :: S) w) : V g M d kc ks op K pc (a0 :: a1 :: a2 :: a3 :: a4 :: a5 :: a6 :: a7 :: some (.int x) :: L) S w := V_iload hd rfl kk
theorem L_iload_9 {a0 a1 a2 a3 a4 a5 a6 a7 a8 : Option Value} {x : Int32} (hd : decode M.co pc = .ok (.iload 9, 2)) (kk : V g M d kc ks op K (pc + 2) (a0 :: a1 :: a2 :: a3 :: a4 :: a5 :: a6 :: a7 :: a8 :: some (.int x) :: L) (.int x :: S) w) : V g M d kc ks op K pc (a0 :: a1 :: a2 :: a3 :: a4 :: a5 :: a6 :: a7 :: a8 :: some (.int x) :: L) S w := V_iload hd rfl kk
theorem L_iload_10 {a0 a1 a2 a3 a4 a5 a6 a7 a8 a9 : Option Value} {x : Int32} (hd : decode M.co pc = .ok (.iload 10, 2)) (kk : V g M d kc ks op K (pc + 2) (a0 :: a1 :: a2 :: a3 :: a4 :: a5 :: a6 :: a7 :: a8 :: a9 :: some (.int x) :: L) (.int x :: S) w) : V g M d kc ks op K pc (a0 :: a1 :: a2 :: a3 :: a4 :: a5 :: a6 :: a7 :: a8 :: a9 :: some (.int x) :: L) S w := V_iload hd rfl kk
theorem L_iload_11 {a0 a1 a2 a3 a4 a5 a6 a7 a8 a9 a10 : Option Value} {x : Int32} (hd : decode M.co pc = .ok (.iload 11, 2)) (kk : V g M d kc ks op K (pc + 2) (a0 :: a1 :: a2 :: a3 :: a4 :: a5 :: a6 :: a7 :: a8 :: a9 :: a10 :: some (.int x) :: L) (.int x :: S) w) : V g M d kc ks op K pc (a0 :: a1 :: a2 :: a3 :: a4 :: a5 :: a6 :: a7 :: a8 :: a9 :: a10 :: some (.int x) :: L) S w := V_iload hd rfl kk
theorem L_iload_12 {a0 a1 a2 a3 a4 a5 a6 a7 a8 a9 a10 a11 : Option Value} {x : Int32} (hd : decode M.co pc = .ok (.iload 12, 2)) (kk : V g M d kc ks op K (pc + 2) (a0 :: a1 :: a2 :: a3 :: a4 :: a5 :: a6 :: a7 :: a8 :: a9 :: a10 :: a11 :: some (.int x) :: L) (.int x :: S) w) : V g M d kc ks op K pc (a0 :: a1 :: a2 :: a3 :: a4 :: a5 :: a6 :: a7 :: a8 :: a9 :: a10 :: a11 :: some (.int x) :: L) S w := V_iload hd rfl kk
theorem L_iload_13 {a0 a1 a2 a3 a4 a5 a6 a7 a8 a9 a10 a11 a12 : Option Value} {x : Int32} (hd : decode M.co pc = .ok (.iload 13, 2)) (kk : V g M d kc ks op K (pc + 2) (a0 :: a1 :: a2 :: a3 :: a4 :: a5 :: a6 :: a7 :: a8 :: a9 :: a10 :: a11 :: a12 :: some (.int x) :: L) (.int x :: S) w) : V g M d kc ks op K pc (a0 :: a1 :: a2 :: a3 :: a4 :: a5 :: a6 :: a7 :: a8 :: a9 :: a10 :: a11 :: a12 :: some (.int x) :: L) S w := V_iload hd rfl kk
theorem L_lload_n_0 {x : Int64} (hd : decode M.co pc = .ok (.lload_n 0, 1)) (kk : V g M d kc ks op K (pc + 1) (some (.long x) :: L) (.long x :: S) w) : V g M d kc ks op K pc (some (.long x) :: L) S w := V_lload_n hd rfl kk
theorem L_lload_n_1 {a0 : Option Value} {x : Int64} (hd : decode M.co pc = .ok (.lload_n 1, 1)) (kk : V g M d kc ks op K (pc + 1) (a0 :: some (.long x) :: L) (.long x :: S) w) : V g M d kc ks op K pc (a0 :: some (.long x) :: L) S w := V_lload_n hd rfl kk
theorem L_lload_n_2 {a0 a1 : Option Value} {x : Int64} (hd : decode M.co pc = .ok (.lload_n 2, 1)) (kk : V g M d kc ks op K (pc + 1) (a0 :: a1 :: some (.long x) :: L) (.long x :: S) w) : V g M d kc ks op K pc (a0 :: a1 :: some (.long x) :: L) S w := V_lload_n hd rfl kk
theorem L_lload_n_3 {a0 a1 a2 : Option Value} {x : Int64} (hd : decode M.co pc = .ok (.lload_n 3, 1)) (kk : V g M d kc ks op K (pc + 1) (a0 :: a1 :: a2 :: some (.long x) :: L) (.long x :: S) w) : V g M d kc ks op K pc (a0 :: a1 :: a2 :: some (.long x) :: L) S w := V_lload_n hd rfl kk
theorem L_lload_0 {x : Int64} (hd : decode M.co pc = .ok (.lload 0, 2)) (kk : V g M d kc ks op K (pc + 2) (some (.long x) :: L) (.long x :: S) w) : V g M d kc ks op K pc (some (.long x) :: L) S w := V_lload hd rfl kk
theorem L_lload_1 {a0 : Option Value} {x : Int64} (hd : decode M.co pc = .ok (.lload 1, 2)) (kk : V g M d kc ks op K (pc + 2) (a0 :: some (.long x) :: L) (.long x :: S) w) : V g M d kc ks op K pc (a0 :: some (.long x) :: L) S w := V_lload hd rfl kk
theorem L_lload_2 {a0 a1 : Option Value} {x : Int64} (hd : decode M.co pc = .ok (.lload 2, 2)) (kk : V g M d kc ks op K (pc + 2) (a0 :: a1 :: some (.long x) :: L) (.long x :: S) w) : V g M d kc ks op K pc (a0 :: a1 :: some (.long x) :: L) S w := V_lload hd rfl kk
theorem L_lload_3 {a0 a1 a2 : Option Value} {x : Int64} (hd : decode M.co pc = .ok (.lload 3, 2)) (kk : V g M d kc ks op K (pc + 2) (a0 :: a1 :: a2 :: some (.long x) :: L) (.long x :: S) w) : V g M d kc ks op K pc (a0 :: a1 :: a2 :: some (.long x) :: L) S w := V_lload hd rfl kk
theorem L_lload_4 {a0 a1 a2 a3 : Option Value} {x : Int64} (hd : decode M.co pc = .ok (.lload 4, 2)) (kk : V g M d kc ks op K (pc + 2) (a0 :: a1 :: a2 :: a3 :: some (.long x) :: L) (.long x :: S) w) : V g M d kc ks op K pc (a0 :: a1 :: a2 :: a3 :: some (.long x) :: L) S w := V_lload hd rfl kk
theorem L_lload_5 {a0 a1 a2 a3 a4 : Option Value} {x : Int64} (hd : decode M.co pc = .ok (.lload 5, 2)) (kk : V g M d kc ks op K (pc + 2) (a0 :: a1 :: a2 :: a3 :: a4 :: some (.long x) :: L) (.long x :: S) w) : V g M d kc ks op K pc (a0 :: a1 :: a2 :: a3 :: a4 :: some (.long x) :: L) S w := V_lload hd rfl kk
theorem L_lload_6 {a0 a1 a2 a3 a4 a5 : Option Value} {x : Int64} (hd : decode M.co pc = .ok (.lload 6, 2)) (kk : V g M d kc ks op K (pc + 2) (a0 :: a1 :: a2 :: a3 :: a4 :: a5 :: some (.long x) :: L) (.long x :: S) w) : V g M d kc ks op K pc (a0 :: a1 :: a2 :: a3 :: a4 :: a5 :: some (.long x) :: L) S w := V_lload hd rfl kk
theorem L_lload_7 {a0 a1 a2 a3 a4 a5 a6 : Option Value} {x : Int64} (hd : decode M.co pc = .ok (.lload 7, 2)) (kk : V g M d kc ks op K (pc + 2) (a0 :: a1 :: a2 :: a3 :: a4 :: a5 :: a6 :: some (.long x) :: L) (.long x :: S) w) : V g M d kc ks op K pc (a0 :: a1 :: a2 :: a3 :: a4 :: a5 :: a6 :: some (.long x) :: L) S w := V_lload hd rfl kk
theorem L_lload_8 {a0 a1 a2 a3 a4 a5 a6 a7 : Option Value} {x : Int64} (hd : decode M.co pc = .ok (.lload 8, 2)) (kk : V g M d kc ks op K (pc + 2) (a0 :: a1 :: a2 :: a3 :: a4 :: a5 :: a6 :: a7 :: some (.long x) :: L) (.long x :: S) w) : V g M d kc ks op K pc (a0 :: a1 :: a2 :: a3 :: a4 :: a5 :: a6 :: a7 :: some (.long x) :: L) S w := V_lload hd rfl kk
theorem L_lload_9 {a0 a1 a2 a3 a4 a5 a6 a7 a8 : Option Value} {x : Int64} (hd : decode M.co pc = .ok (.lload 9, 2)) (kk : V g M d kc ks op K (pc + 2) (a0 :: a1 :: a2 :: a3 :: a4 :: a5 :: a6 :: a7 :: a8 :: some (.long x) :: L) (.long x :: S) w) : V g M d kc ks op K pc (a0 :: a1 :: a2 :: a3 :: a4 :: a5 :: a6 :: a7 :: a8 :: some (.long x) :: L) S w := V_lload hd rfl kk
theorem L_lload_10 {a0 a1 a2 a3 a4 a5 a6 a7 a8 a9 : Option Value} {x : Int64} (hd : decode M.co pc = .ok (.lload 10, 2)) (kk : V g M d kc ks op K (pc + 2) (a0 :: a1 :: a2 :: a3 :: a4 :: a5 :: a6 :: a7 :: a8 :: a9 :: some (.long x) :: L) (.long x :: S) w) : V g M d kc ks op K pc (a0 :: a1 :: a2 :: a3 :: a4 :: a5 :: a6 :: a7 :: a8 :: a9 :: some (.long x) :: L) S w := V_lload hd rfl kk
theorem L_lload_11 {a0 a1 a2 a3 a4 a5 a6 a7 a8 a9 a10 : Option Value} {x : Int64} (hd : decode M.co pc = .ok (.lload 11, 2)) (kk : V g M d kc ks op K (pc + 2) (a0 :: a1 :: a2 :: a3 :: a4 :: a5 :: a6 :: a7 :: a8 :: a9 :: a10 :: some (.long x) :: L) (.long x :: S) w) : V g M d kc ks op K pc (a0 :: a1 :: a2 :: a3 :: a4 :: a5 :: a6 :: a7 :: a8 :: a9 :: a10 :: some (.long x) :: L) S w := V_lload hd rfl kk
theorem L_lload_12 {a0 a1 a2 a3 a4 a5 a6 a7 a8 a9 a10 a11 : Option Value} {x : Int64} (hd : decode M.co pc = .ok (.lload 12, 2)) (kk : V g M d kc ks op K (pc + 2) (a0 :: a1 :: a2 :: a3 :: a4 :: a5 :: a6 :: a7 :: a8 :: a9 :: a10 :: a11 :: some (.long x) :: L) (.long x :: S) w) : V g M d kc ks op K pc (a0 :: a1 :: a2 :: a3 :: a4 :: a5 :: a6 :: a7 :: a8 :: a9 :: a10 :: a11 :: some (.long x) :: L) S w := V_lload hd rfl kk
theorem L_lload_13 {a0 a1 a2 a3 a4 a5 a6 a7 a8 a9 a10 a11 a12 : Option Value} {x : Int64} (hd : decode M.co pc = .ok (.lload 13, 2)) (kk : V g M d kc ks op K (pc + 2) (a0 :: a1 :: a2 :: a3 :: a4 :: a5 :: a6 :: a7 :: a8 :: a9 :: a10 :: a11 :: a12 :: some (.long x) :: L) (.long x :: S) w) : V g M d kc ks op K pc (a0 :: a1 :: a2 :: a3 :: a4 :: a5 :: a6 :: a7 :: a8 :: a9 :: a10 :: a11 :: a12 :: some (.long x) :: L) S w := V_lload hd rfl kk
theorem L_dload_n_0 {x : UInt64} (hd : decode M.co pc = .ok (.dload_n 0, 1)) (kk : V g M d kc ks op K (pc + 1) (some (.double x) :: L) (.double x :: S) w) : V g M d kc ks op K pc (some (.double x) :: L) S w := V_dload_n hd rfl kk
theorem L_dload_n_1 {a0 : Option Value} {x : UInt64} (hd : decode M.co pc = .ok (.dload_n 1, 1)) (kk : V g M d kc ks op K (pc + 1) (a0 :: some (.double x) :: L) (.double x :: S) w) : V g M d kc ks op K pc (a0 :: some (.double x) :: L) S w := V_dload_n hd rfl kk
theorem L_dload_n_2 {a0 a1 : Option Value} {x : UInt64} (hd : decode M.co pc = .ok (.dload_n 2, 1)) (kk : V g M d kc ks op K (pc + 1) (a0 :: a1 :: some (.double x) :: L) (.double x :: S) w) : V g M d kc ks op K pc (a0 :: a1 :: some (.double x) :: L) S w := V_dload_n hd rfl kk
theorem L_dload_n_3 {a0 a1 a2 : Option Value} {x : UInt64} (hd : decode M.co pc = .ok (.dload_n 3, 1)) (kk : V g M d kc ks op K (pc + 1) (a0 :: a1 :: a2 :: some (.double x) :: L) (.double x :: S) w) : V g M d kc ks op K pc (a0 :: a1 :: a2 :: some (.double x) :: L) S w := V_dload_n hd rfl kk
theorem L_dload_0 {x : UInt64} (hd : decode M.co pc = .ok (.dload 0, 2)) (kk : V g M d kc ks op K (pc + 2) (some (.double x) :: L) (.double x :: S) w) : V g M d kc ks op K pc (some (.double x) :: L) S w := V_dload hd rfl kk
theorem L_dload_1 {a0 : Option Value} {x : UInt64} (hd : decode M.co pc = .ok (.dload 1, 2)) (kk : V g M d kc ks op K (pc + 2) (a0 :: some (.double x) :: L) (.double x :: S) w) : V g M d kc ks op K pc (a0 :: some (.double x) :: L) S w := V_dload hd rfl kk
theorem L_dload_2 {a0 a1 : Option Value} {x : UInt64} (hd : decode M.co pc = .ok (.dload 2, 2)) (kk : V g M d kc ks op K (pc + 2) (a0 :: a1 :: some (.double x) :: L) (.double x :: S) w) : V g M d kc ks op K pc (a0 :: a1 :: some (.double x) :: L) S w := V_dload hd rfl kk
theorem L_dload_3 {a0 a1 a2 : Option Value} {x : UInt64} (hd : decode M.co pc = .ok (.dload 3, 2)) (kk : V g M d kc ks op K (pc + 2) (a0 :: a1 :: a2 :: some (.double x) :: L) (.double x :: S) w) : V g M d kc ks op K pc (a0 :: a1 :: a2 :: some (.double x) :: L) S w := V_dload hd rfl kk
theorem L_dload_4 {a0 a1 a2 a3 : Option Value} {x : UInt64} (hd : decode M.co pc = .ok (.dload 4, 2)) (kk : V g M d kc ks op K (pc + 2) (a0 :: a1 :: a2 :: a3 :: some (.double x) :: L) (.double x :: S) w) : V g M d kc ks op K pc (a0 :: a1 :: a2 :: a3 :: some (.double x) :: L) S w := V_dload hd rfl kk
theorem L_dload_5 {a0 a1 a2 a3 a4 : Option Value} {x : UInt64} (hd : decode M.co pc = .ok (.dload 5, 2)) (kk : V g M d kc ks op K (pc + 2) (a0 :: a1 :: a2 :: a3 :: a4 :: some (.double x) :: L) (.double x :: S) w) : V g M d kc ks op K pc (a0 :: a1 :: a2 :: a3 :: a4 :: some (.double x) :: L) S w := V_dload hd rfl kk
theorem L_dload_6 {a0 a1 a2 a3 a4 a5 : Option Value} {x : UInt64} (hd : decode M.co pc = .ok (.dload 6, 2)) (kk : V g M d kc ks op K (pc + 2) (a0 :: a1 :: a2 :: a3 :: a4 :: a5 :: some (.double x) :: L) (.double x :: S) w) : V g M d kc ks op K pc (a0 :: a1 :: a2 :: a3 :: a4 :: a5 :: some (.double x) :: L) S w := V_dload hd rfl kk
theorem L_dload_7 {a0 a1 a2 a3 a4 a5 a6 : Option Value} {x : UInt64} (hd : decode M.co pc = .ok (.dload 7, 2)) (kk : V g M d kc ks op K (pc + 2) (a0 :: a1 :: a2 :: a3 :: a4 :: a5 :: a6 :: some (.double x) :: L) (.double x :: S) w) : V g M d kc ks op K pc (a0 :: a1 :: a2 :: a3 :: a4 :: a5 :: a6 :: some (.double x) :: L) S w := V_dload hd rfl kk
theorem L_dload_8 {a0 a1 a2 a3 a4 a5 a6 a7 : Option Value} {x : UInt64} (hd : decode M.co pc = .ok (.dload 8, 2)) (kk : V g M d kc ks op K (pc + 2) (a0 :: a1 :: a2 :: a3 :: a4 :: a5 :: a6 :: a7 :: some (.double x) :: L) (.double x :: S) w) : V g M d kc ks op K pc (a0 :: a1 :: a2 :: a3 :: a4 :: a5 :: a6 :: a7 :: some (.double x) :: L) S w := V_dload hd rfl kk
theorem L_dload_9 {a0 a1 a2 a3 a4 a5 a6 a7 a8 : Option Value} {x : UInt64} (hd : decode M.co pc = .ok (.dload 9, 2)) (kk : V g M d kc ks op K (pc + 2) (a0 :: a1 :: a2 :: a3 :: a4 :: a5 :: a6 :: a7 :: a8 :: some (.double x) :: L) (.double x :: S) w) : V g M d kc ks op K pc (a0 :: a1 :: a2 :: a3 :: a4 :: a5 :: a6 :: a7 :: a8 :: some (.double x) :: L) S w := V_dload hd rfl kk
theorem L_dload_10 {a0 a1 a2 a3 a4 a5 a6 a7 a8 a9 : Option Value} {x : UInt64} (hd : decode M.co pc = .ok (.dload 10, 2)) (kk : V g M d kc ks op K (pc + 2) (a0 :: a1 :: a2 :: a3 :: a4 :: a5 :: a6 :: a7 :: a8 :: a9 :: some (.double x) :: L) (.double x :: S) w) : V g M d kc ks op K pc (a0 :: a1 :: a2 :: a3 :: a4 :: a5 :: a6 :: a7 :: a8 :: a9 :: some (.double x) :: L) S w := V_dload hd rfl kk
theorem L_dload_11 {a0 a1 a2 a3 a4 a5 a6 a7 a8 a9 a10 : Option Value} {x : UInt64} (hd : decode M.co pc = .ok (.dload 11, 2)) (kk : V g M d kc ks op K (pc + 2) (a0 :: a1 :: a2 :: a3 :: a4 :: a5 :: a6 :: a7 :: a8 :: a9 :: a10 :: some (.double x) :: L) (.double x :: S) w) : V g M d kc ks op K pc (a0 :: a1 :: a2 :: a3 :: a4 :: a5 :: a6 :: a7 :: a8 :: a9 :: a10 :: some (.double x) :: L) S w := V_dload hd rfl kk
theorem L_dload_12 {a0 a1 a2 a3 a4 a5 a6 a7 a8 a9 a10 a11 : Option Value} {x : UInt64} (hd : decode M.co pc = .ok (.dload 12, 2)) (kk : V g M d kc ks op K (pc + 2) (a0 :: a1 :: a2 :: a3 :: a4 :: a5 :: a6 :: a7 :: a8 :: a9 :: a10 :: a11 :: some (.double x) :: L) (.double x :: S) w) : V g M d kc ks op K pc (a0 :: a1 :: a2 :: a3 :: a4 :: a5 :: a6 :: a7 :: a8 :: a9 :: a10 :: a11 :: some (.double x) :: L) S w := V_dload hd rfl kk
theorem L_dload_13 {a0 a1 a2 a3 a4 a5 a6 a7 a8 a9 a10 a11 a12 : Option Value} {x : UInt64} (hd : decode M.co pc = .ok (.dload 13, 2)) (kk : V g M d kc ks op K (pc + 2) (a0 :: a1 :: a2 :: a3 :: a4 :: a5 :: a6 :: a7 :: a8 :: a9 :: a10 :: a11 :: a12 :: some (.double x) :: L) (.double x :: S) w) : V g M d kc ks op K pc (a0 :: a1 :: a2 :: a3 :: a4 :: a5 :: a6 :: a7 :: a8 :: a9 :: a10 :: a11 :: a12 :: some (.double x) :: L) S w := V_dload hd rfl kk
theorem L_aload_n_0 {x : Nat} (hd : decode M.co pc = .ok (.aload_n 0, 1)) (kk : V g M d kc ks op K (pc + 1) (some (.ref x) :: L) (.ref x :: S) w) : V g M d kc ks op K pc (some (.ref x) :: L) S w := V_aload_n hd rfl kk
theorem L_aload_n_1 {a0 : Option Value} {x : Nat} (hd : decode M.co pc = .ok (.aload_n 1, 1)) (kk : V g M d kc ks op K (pc + 1) (a0 :: some (.ref x) :: L) (.ref x :: S) w) : V g M d kc ks op K pc (a0 :: some (.ref x) :: L) S w := V_aload_n hd rfl kk
theorem L_aload_n_2 {a0 a1 : Option Value} {x : Nat} (hd : decode M.co pc = .ok (.aload_n 2, 1)) (kk : V g M d kc ks op K (pc + 1) (a0 :: a1 :: some (.ref x) :: L) (.ref x :: S) w) : V g M d kc ks op K pc (a0 :: a1 :: some (.ref x) :: L) S w := V_aload_n hd rfl kk
theorem L_aload_n_3 {a0 a1 a2 : Option Value} {x : Nat} (hd : decode M.co pc = .ok (.aload_n 3, 1)) (kk : V g M d kc ks op K (pc + 1) (a0 :: a1 :: a2 :: some (.ref x) :: L) (.ref x :: S) w) : V g M d kc ks op K pc (a0 :: a1 :: a2 :: some (.ref x) :: L) S w := V_aload_n hd rfl kk
theorem L_aload_0 {x : Nat} (hd : decode M.co pc = .ok (.aload 0, 2)) (kk : V g M d kc ks op K (pc + 2) (some (.ref x) :: L) (.ref x :: S) w) : V g M d kc ks op K pc (some (.ref x) :: L) S w := V_aload hd rfl kk
theorem L_aload_1 {a0 : Option Value} {x : Nat} (hd : decode M.co pc = .ok (.aload 1, 2)) (kk : V g M d kc ks op K (pc + 2) (a0 :: some (.ref x) :: L) (.ref x :: S) w) : V g M d kc ks op K pc (a0 :: some (.ref x) :: L) S w := V_aload hd rfl kk
theorem L_aload_2 {a0 a1 : Option Value} {x : Nat} (hd : decode M.co pc = .ok (.aload 2, 2)) (kk : V g M d kc ks op K (pc + 2) (a0 :: a1 :: some (.ref x) :: L) (.ref x :: S) w) : V g M d kc ks op K pc (a0 :: a1 :: some (.ref x) :: L) S w := V_aload hd rfl kk
theorem L_aload_3 {a0 a1 a2 : Option Value} {x : Nat} (hd : decode M.co pc = .ok (.aload 3, 2)) (kk : V g M d kc ks op K (pc + 2) (a0 :: a1 :: a2 :: some (.ref x) :: L) (.ref x :: S) w) : V g M d kc ks op K pc (a0 :: a1 :: a2 :: some (.ref x) :: L) S w := V_aload hd rfl kk
theorem L_aload_4 {a0 a1 a2 a3 : Option Value} {x : Nat} (hd : decode M.co pc = .ok (.aload 4, 2)) (kk : V g M d kc ks op K (pc + 2) (a0 :: a1 :: a2 :: a3 :: some (.ref x) :: L) (.ref x :: S) w) : V g M d kc ks op K pc (a0 :: a1 :: a2 :: a3 :: some (.ref x) :: L) S w := V_aload hd rfl kk
theorem L_aload_5 {a0 a1 a2 a3 a4 : Option Value} {x : Nat} (hd : decode M.co pc = .ok (.aload 5, 2)) (kk : V g M d kc ks op K (pc + 2) (a0 :: a1 :: a2 :: a3 :: a4 :: some (.ref x) :: L) (.ref x :: S) w) : V g M d kc ks op K pc (a0 :: a1 :: a2 :: a3 :: a4 :: some (.ref x) :: L) S w := V_aload hd rfl kk
theorem L_aload_6 {a0 a1 a2 a3 a4 a5 : Option Value} {x : Nat} (hd : decode M.co pc = .ok (.aload 6, 2)) (kk : V g M d kc ks op K (pc + 2) (a0 :: a1 :: a2 :: a3 :: a4 :: a5 :: some (.ref x) :: L) (.ref x :: S) w) : V g M d kc ks op K pc (a0 :: a1 :: a2 :: a3 :: a4 :: a5 :: some (.ref x) :: L) S w := V_aload hd rfl kk
theorem L_aload_7 {a0 a1 a2 a3 a4 a5 a6 : Option Value} {x : Nat} (hd : decode M.co pc = .ok (.aload 7, 2)) (kk : V g M d kc ks op K (pc + 2) (a0 :: a1 :: a2 :: a3 :: a4 :: a5 :: a6 :: some (.ref x) :: L) (.ref x :: S) w) : V g M d kc ks op K pc (a0 :: a1 :: a2 :: a3 :: a4 :: a5 :: a6 :: some (.ref x) :: L) S w := V_aload hd rfl kk
theorem L_aload_8 {a0 a1 a2 a3 a4 a5 a6 a7 : Option Value} {x : Nat} (hd : decode M.co pc = .ok (.aload 8, 2)) (kk : V g M d kc ks op K (pc + 2) (a0 :: a1 :: a2 :: a3 :: a4 :: a5 :: a6 :: a7 :: some (.ref x) :: L) (.ref x :: S) w) : V g M d kc ks op K pc (a0 :: a1 :: a2 :: a3 :: a4 :: a5 :: a6 :: a7 :: some (.ref x) :: L) S w := V_aload hd rfl kk
theorem L_aload_9 {a0 a1 a2 a3 a4 a5 a6 a7 a8 : Option Value} {x : Nat} (hd : decode M.co pc = .ok (.aload 9, 2)) (kk : V g M d kc ks op K (pc + 2) (a0 :: a1 :: a2 :: a3 :: a4 :: a5 :: a6 :: a7 :: a8 :: some (.ref x) :: L) (.ref x :: S) w) : V g M d kc ks op K pc (a0 :: a1 :: a2 :: a3 :: a4 :: a5 :: a6 :: a7 :: a8 :: some (.ref x) :: L) S w := V_aload hd rfl kk
theorem L_aload_10 {a0 a1 a2 a3 a4 a5 a6 a7 a8 a9 : Option Value} {x : Nat} (hd : decode M.co pc = .ok (.aload 10, 2)) (kk : V g M d kc ks op K (pc + 2) (a0 :: a1 :: a2 :: a3 :: a4 :: a5 :: a6 :: a7 :: a8 :: a9 :: some (.ref x) :: L) (.ref x :: S) w) : V g M d kc ks op K pc (a0 :: a1 :: a2 :: a3 :: a4 :: a5 :: a6 :: a7 :: a8 :: a9 :: some (.ref x) :: L) S w := V_aload hd rfl kk
theorem L_aload_11 {a0 a1 a2 a3 a4 a5 a6 a7 a8 a9 a10 : Option Value} {x : Nat} (hd : decode M.co pc = .ok (.aload 11, 2)) (kk : V g M d kc ks op K (pc + 2) (a0 :: a1 :: a2 :: a3 :: a4 :: a5 :: a6 :: a7 :: a8 :: a9 :: a10 :: some (.ref x) :: L) (.ref x :: S) w) : V g M d kc ks op K pc (a0 :: a1 :: a2 :: a3 :: a4 :: a5 :: a6 :: a7 :: a8 :: a9 :: a10 :: some (.ref x) :: L) S w := V_aload hd rfl kk
theorem L_aload_12 {a0 a1 a2 a3 a4 a5 a6 a7 a8 a9 a10 a11 : Option Value} {x : Nat} (hd : decode M.co pc = .ok (.aload 12, 2)) (kk : V g M d kc ks op K (pc + 2) (a0 :: a1 :: a2 :: a3 :: a4 :: a5 :: a6 :: a7 :: a8 :: a9 :: a10 :: a11 :: some (.ref x) :: L) (.ref x :: S) w) : V g M d kc ks op K pc (a0 :: a1 :: a2 :: a3 :: a4 :: a5 :: a6 :: a7 :: a8 :: a9 :: a10 :: a11 :: some (.ref x) :: L) S w := V_aload hd rfl kk
theorem L_aload_13 {a0 a1 a2 a3 a4 a5 a6 a7 a8 a9 a10 a11 a12 : Option Value} {x : Nat} (hd : decode M.co pc = .ok (.aload 13, 2)) (kk : V g M d kc ks op K (pc + 2) (a0 :: a1 :: a2 :: a3 :: a4 :: a5 :: a6 :: a7 :: a8 :: a9 :: a10 :: a11 :: a12 :: some (.ref x) :: L) (.ref x :: S) w) : V g M d kc ks op K pc (a0 :: a1 :: a2 :: a3 :: a4 :: a5 :: a6 :: a7 :: a8 :: a9 :: a10 :: a11 :: a12 :: some (.ref x) :: L) S w := V_aload hd rfl kk
theorem V_ifx_eq {x : Int32} {off : Int} {tgt : Nat} (hd : decode M.co pc = .ok (.ifCond .eq off, 3)) (ht : (pc : Int) + off = (tgt : Int)) (kt : x = 0 → V g M d kc ks op K tgt L S w) (kf : ¬ x = 0 → V g M d kc ks op K (pc + 3) L S w) : V g M d kc ks op K pc L (.int x :: S) w := V_if_eq (y := 0) hd ht kt kf
theorem V_ifx_ne {x : Int32} {off : Int} {tgt : Nat} (hd : decode M.co pc = .ok (.ifCond .ne off, 3)) (ht : (pc : Int) + off = (tgt : Int)) (kt : ¬ x = 0 → V g M d kc ks op K tgt L S w) (kf : x = 0 → V g M d kc ks op K (pc + 3) L S w) : V g M d kc ks op K pc L (.int x :: S) w := V_if_ne (y := 0) hd ht kt kf
theorem V_ifx_lt {x : Int32} {off : Int} {tgt : Nat} (hd : decode M.co pc = .ok (.ifCond .lt off, 3)) (ht : (pc : Int) + off = (tgt : Int)) (kt : x < 0 → V g M d kc ks op K tgt L S w) (kf : ¬ x < 0 → V g M d kc ks op K (pc + 3) L S w) : V g M d kc ks op K pc L (.int x :: S) w := V_if_lt (y := 0) hd ht kt kf
theorem V_ifx_ge {x : Int32} {off : Int} {tgt : Nat} (hd : decode M.co pc = .ok (.ifCond .ge off, 3)) (ht : (pc : Int) + off = (tgt : Int)) (kt : 0 ≤ x → V g M d kc ks op K tgt L S w) (kf : ¬ 0 ≤ x → V g M d kc ks op K (pc + 3) L S w) : V g M d kc ks op K pc L (.int x :: S) w := V_if_ge (y := 0) hd ht kt kf
theorem V_ifx_gt {x : Int32} {off : Int} {tgt : Nat} (hd : decode M.co pc = .ok (.ifCond .gt off, 3)) (ht : (pc : Int) + off = (tgt : Int)) (kt : 0 < x → V g M d kc ks op K tgt L S w) (kf : ¬ 0 < x → V g M d kc ks op K (pc + 3) L S w) : V g M d kc ks op K pc L (.int x :: S) w := V_if_gt (y := 0) hd ht kt kf
theorem V_ifx_le {x : Int32} {off : Int} {tgt : Nat} (hd : decode M.co pc = .ok (.ifCond .le off, 3)) (ht : (pc : Int) + off = (tgt : Int)) (kt : x ≤ 0 → V g M d kc ks op K tgt L S w) (kf : ¬ x ≤ 0 → V g M d kc ks op K (pc + 3) L S w) : V g M d kc ks op K pc L (.int x :: S) w := V_if_le (y := 0) hd ht kt kf
theorem V_ldcI {idx : Nat} {v : Int32} (hw : Cond.constant M.nm.cls idx v ∈ TW) (hd : decode M.co pc = .ok (.ldc idx, 2)) (kk : V g M d kc ks op K (pc + 2) L (.int v :: S) w) : V g M d kc ks op K pc L S w := by
  intro p e s m args below meth c H locs cells slots ls mc ms A Z
  obtain ⟨hx, hb, hml, hr, hown, hlk, hnm, htb, hE⟩ := id A
  exact lv_ldc hx hb hown (hE.2.1 _ hw args) hd (kk p e s m args below meth c H locs cells slots ls mc ms A Z)
theorem V_ldcW {idx : Nat} {v : Int32} (hw : Cond.constant M.nm.cls idx v ∈ TW) (hd : decode M.co pc = .ok (.ldc_w idx, 3)) (kk : V g M d kc ks op K (pc + 3) L (.int v :: S) w) : V g M d kc ks op K pc L S w := by
  intro p e s m args below meth c H locs cells slots ls mc ms A Z
  obtain ⟨hx, hb, hml, hr, hown, hlk, hnm, htb, hE⟩ := id A
  exact lv_ldcw hx hb hown (hE.2.1 _ hw args) hd (kk p e s m args below meth c H locs cells slots ls mc ms A Z)
theorem V_ldc2 {idx : Nat} {v : Int64} (hw : Cond.constantLong M.nm.cls idx v ∈ TW) (hd : decode M.co pc = .ok (.ldc2_w idx, 3)) (kk : V g M d kc ks op K (pc + 3) L (.long v :: S) w) : V g M d kc ks op K pc L S w := by
  intro p e s m args below meth c H locs cells slots ls mc ms A Z
  obtain ⟨hx, hb, hml, hr, hown, hlk, hnm, htb, hE⟩ := id A
  exact lv_ldc2 hx hb hown (hE.2.1 _ hw args) hd (kk p e s m args below meth c H locs cells slots ls mc ms A Z)
theorem V_min {idx : Nat} {x y : Int32} (hl : Cond.methodLink M.nm.cls idx Lib.Math.min.name ∈ TW) (hs : Cond.static Lib.Math.min.name ∈ TW) (hi : Cond.initialized "java/lang/Math" ∈ TW) (hc : Cond.code Lib.Math.min.name Lib.Math.min.code 2 (some .int) ∈ TW) (hd : decode M.co pc = .ok (.invokestatic idx, 3)) (hd1 : 1 ≤ d) (hr : (S.map fun v => v.category).sum ≤ 8) (kk : V g M d kc ks op K (pc + 3) L (.int (if y < x then y else x) :: S) w) : V g M d kc ks op K pc L (.int y :: .int x :: S) w := by
  intro p e s m args below meth c H locs cells slots ls mc ms A Z
  obtain ⟨hx, hb, hml, hr0, hown, hlk, hnm, htb, hE⟩ := id A
  obtain ⟨hls, hH, hop, hS, hkc, hks⟩ := id Z
  exact va_mmin hx hb (by rw [hml, hls.1]) hown (hE.2.1 _ hl args) (hE.2.1 _ hs args) (hE.2.1 _ hi args) (hE.2.1 _ hc args) (by show 1 ≤ d; omega) (by rw [cats]; show _ + 13 ≤ 36 * d; omega) (by show cells ≤ mc; omega) (by show slots ≤ ms; omega) hd (kk p e s m args below meth c H locs cells slots ls mc ms A Z)
theorem V_eqv {x y : Int32} (h : x = y) (kk : V g M d kc ks op K pc L (.int y :: S) w) : V g M d kc ks op K pc L (.int x :: S) w := by rw [h]; exact kk
theorem V_eqI {i i' : Nat → Nat → Int32} {j : Nat → Nat → Int64} (h : i = i') (kk : V g M d kc ks op K pc L S (mk i' j)) : V g M d kc ks op K pc L S (mk i j) := by rw [h]; exact kk
theorem V_lookup {dflt : Int} {ps : Array (Int × Int)} {len : Nat} {x : Int32} {off : Int} {tgt : Nat} (hd : decode M.co pc = .ok (.lookupswitch dflt ps, len)) (hp : (ps.toList.zip (ps.toList.drop 1)).all (fun (a, next) => a.1 < next.1) = true) (ho : Op.lookupswitch.offset ps.toList dflt x.toInt = off) (ht : (pc : Int) + off = (tgt : Int)) (kk : V g M d kc ks op K tgt L S w) : V g M d kc ks op K pc L (.int x :: S) w := by
  intro p e s m args below meth c H locs cells slots ls mc ms A Z
  obtain ⟨hx, hb, hml, hr, hown, hlk, hnm, htb, hE⟩ := id A
  exact lv_lookup hx hb hd hp ho ht (kk p e s m args below meth c H locs cells slots ls mc ms A Z)
theorem V_tabIn {dflt lo hi : Int} {offs : Array Int} {len : Nat} {x : Int32} {off : Int} {tgt : Nat} (hd : decode M.co pc = .ok (.tableswitch dflt lo hi offs, len)) (h1 : ¬ x.toInt < lo) (h2 : ¬ hi < x.toInt) (ho : offs[(x.toInt - lo).toNat]? = some off) (ht : (pc : Int) + off = (tgt : Int)) (kk : V g M d kc ks op K tgt L S w) : V g M d kc ks op K pc L (.int x :: S) w := by
  intro p e s m args below meth c H locs cells slots ls mc ms A Z
  obtain ⟨hx, hb, hml, hr, hown, hlk, hnm, htb, hE⟩ := id A
  exact lv_tableIn hx hb hd h1 h2 ho ht (kk p e s m args below meth c H locs cells slots ls mc ms A Z)
theorem V_tabOut {dflt lo hi : Int} {offs : Array Int} {len : Nat} {x : Int32} {tgt : Nat} (hd : decode M.co pc = .ok (.tableswitch dflt lo hi offs, len)) (h : x.toInt < lo ∨ hi < x.toInt) (ht : (pc : Int) + dflt = (tgt : Int)) (kk : V g M d kc ks op K tgt L S w) : V g M d kc ks op K pc L (.int x :: S) w := by
  intro p e s m args below meth c H locs cells slots ls mc ms A Z
  obtain ⟨hx, hb, hml, hr, hown, hlk, hnm, htb, hE⟩ := id A
  exact lv_tableOut hx hb hd h ht (kk p e s m args below meth c H locs cells slots ls mc ms A Z)
end LOADS
theorem up2_ext {f h : Nat → Nat → Int32} (e : ∀ a b, f a b = h a b) : f = h := funext fun a => funext fun b => e a b
theorem ieq {i : Nat → Nat → Int32} {a b c d : Nat} (h1 : a = c) (h2 : b = d) : i a b = i c d := by rw [h1, h2]
def blk (a : Nat) : Prop := a = 1 ∨ a = 15 ∨ a = 27 ∨ a = 39 ∨ a = 51 ∨ a = 63 ∨ a = 75
theorem blk_row {r : Nat} (h : r < 6) : blk (15 + 12 * r) := by unfold blk; omega
theorem blk_1 : blk 1 := Or.inl rfl
section BLK
variable {a : Nat} (h : blk a)
theorem bk0 (h : blk a) : kzS a = (5, 0) := by rcases h with rfl | rfl | rfl | rfl | rfl | rfl | rfl <;> rfl
theorem bk1 (h : blk a) : kzS (a + 1) = (3, 0) := by rcases h with rfl | rfl | rfl | rfl | rfl | rfl | rfl <;> rfl
theorem bk2 (h : blk a) : kzS (a + 2) = (0, 0) := by rcases h with rfl | rfl | rfl | rfl | rfl | rfl | rfl <;> rfl
theorem bk3 (h : blk a) : kzS (a + 3) = (10, 6) := by rcases h with rfl | rfl | rfl | rfl | rfl | rfl | rfl <;> rfl
theorem bk4 (h : blk a) : kzS (a + 4) = (10, 6) := by rcases h with rfl | rfl | rfl | rfl | rfl | rfl | rfl <;> rfl
theorem bk5 (h : blk a) : kzS (a + 5) = (10, 6) := by rcases h with rfl | rfl | rfl | rfl | rfl | rfl | rfl <;> rfl
theorem bk6 (h : blk a) : kzS (a + 6) = (10, 6) := by rcases h with rfl | rfl | rfl | rfl | rfl | rfl | rfl <;> rfl
theorem bk7 (h : blk a) : kzS (a + 7) = (13, 4) := by rcases h with rfl | rfl | rfl | rfl | rfl | rfl | rfl <;> rfl
theorem bkF (h : blk a) {f : Nat} (hf : f < 4) : kzS (a + 8 + f) = (1, 0) := by
  have hf4 : f = 0 ∨ f = 1 ∨ f = 2 ∨ f = 3 := by omega
  rcases h with rfl | rfl | rfl | rfl | rfl | rfl | rfl <;> rcases hf4 with rfl | rfl | rfl | rfl <;> rfl
theorem br00 (h : blk a) : RR a 0 = some (a + 1) := by rcases h with rfl | rfl | rfl | rfl | rfl | rfl | rfl <;> rfl
theorem br01 (h : blk a) : RR a 1 = some (a + 7) := by rcases h with rfl | rfl | rfl | rfl | rfl | rfl | rfl <;> rfl
theorem br13 (h : blk a) : RR (a + 1) 3 = some (a + 2) := by rcases h with rfl | rfl | rfl | rfl | rfl | rfl | rfl <;> rfl
theorem br20 (h : blk a) : RR (a + 2) 0 = some (a + 3) := by rcases h with rfl | rfl | rfl | rfl | rfl | rfl | rfl <;> rfl
theorem br21 (h : blk a) : RR (a + 2) 1 = some (a + 4) := by rcases h with rfl | rfl | rfl | rfl | rfl | rfl | rfl <;> rfl
theorem br22 (h : blk a) : RR (a + 2) 2 = some (a + 5) := by rcases h with rfl | rfl | rfl | rfl | rfl | rfl | rfl <;> rfl
theorem br23 (h : blk a) : RR (a + 2) 3 = some (a + 6) := by rcases h with rfl | rfl | rfl | rfl | rfl | rfl | rfl <;> rfl
theorem br7 (h : blk a) {f : Nat} (hf : f < 4) : RR (a + 7) f = some (a + 8 + f) := by
  have hf4 : f = 0 ∨ f = 1 ∨ f = 2 ∨ f = 3 := by omega
  rcases h with rfl | rfl | rfl | rfl | rfl | rfl | rfl <;> rcases hf4 with rfl | rfl | rfl | rfl <;> rfl
theorem bkF1 {f : Nat} (hf : f < 4) : kzS (9 + f) = (1, 0) := bkF (a := 1) blk_1 hf
theorem br81 {f : Nat} (hf : f < 4) : RR 8 f = some (9 + f) := br7 (a := 1) blk_1 hf
theorem br14 {r : Nat} (hr : r < 6) : RR 14 r = some (15 + 12 * r) := by show (if r < 6 then some (15 + 12 * r) else none) = _; rw [if_pos hr]
end BLK
theorem iinc1 (x : Int32) : x + Int32.ofInt 1 = x + 1 := rfl
def b2i (p : Prop) [Decidable p] : Int32 := if p then 1 else 0
theorem b2t {p : Prop} [Decidable p] (h : p) : b2i p = 1 := if_pos h
theorem b2f {p : Prop} [Decidable p] (h : ¬ p) : b2i p = 0 := if_neg h
theorem b2n {p : Prop} [Decidable p] : narrow .boolean (.int (b2i p)) = .int (b2i p) := by unfold b2i; split <;> rfl
theorem b2c (p : Prop) [Decidable p] : b2i p = 0 ∨ b2i p = 1 := by unfold b2i; split <;> simp
theorem b2z {p : Prop} [Decidable p] : b2i p = 0 ↔ ¬ p := by unfold b2i; split <;> simp_all
theorem rtI {x y : Int32} {w : Wd} (h : x = y) : (Sum.inl (some (Value.int x)) : Res) = Sum.inl (some (Value.int y)) ∧ w = w := ⟨by rw [h], rfl⟩
theorem in_RL : Cond.initialized "StreetEditionsLaw" ∈ TW := TW_in (List.mem_of_getElem? (i := 7) (by decide +kernel)) rfl
theorem in_RX6 : Cond.initialized "StreetEditions" ∈ TW := TW_in (List.mem_of_getElem? (i := 8) (by decide +kernel)) rfl
theorem in_RX5 : Cond.initialized "StreetEditions$State" ∈ TW := TW_in (List.mem_of_getElem? (i := 9) (by decide +kernel)) rfl
theorem in_RX3 : Cond.initialized "StreetEditions$Printer" ∈ TW := TW_in (List.mem_of_getElem? (i := 10) (by decide +kernel)) rfl
theorem in_RX0 : Cond.initialized "StreetEditions$Differences" ∈ TW := TW_in (List.mem_of_getElem? (i := 11) (by decide +kernel)) rfl
theorem in_RX1 : Cond.initialized "StreetEditions$Follower" ∈ TW := TW_in (List.mem_of_getElem? (i := 12) (by decide +kernel)) rfl
theorem in_RX4 : Cond.initialized "StreetEditions$SavedStates" ∈ TW := TW_in (List.mem_of_getElem? (i := 13) (by decide +kernel)) rfl
theorem in_RX2 : Cond.initialized "StreetEditions$OrderText" ∈ TW := TW_in (List.mem_of_getElem? (i := 14) (by decide +kernel)) rfl
theorem in_RJ6 : Cond.initialized "java/lang/Integer" ∈ TW := TW_in (List.mem_of_getElem? (i := 15) (by decide +kernel)) rfl
theorem in_Throwable : Cond.initialized "java/lang/Throwable" ∈ TW := TW_in (List.mem_of_getElem? (i := 16) (by decide +kernel)) rfl
theorem in_Exception : Cond.initialized "java/lang/Exception" ∈ TW := TW_in (List.mem_of_getElem? (i := 17) (by decide +kernel)) rfl
theorem in_RuntimeException : Cond.initialized "java/lang/RuntimeException" ∈ TW := TW_in (List.mem_of_getElem? (i := 18) (by decide +kernel)) rfl
theorem in_IndexOutOfBoundsException : Cond.initialized "java/lang/IndexOutOfBoundsException" ∈ TW := TW_in (List.mem_of_getElem? (i := 19) (by decide +kernel)) rfl
theorem in_IllegalStateException : Cond.initialized "java/lang/IllegalStateException" ∈ TW := TW_in (List.mem_of_getElem? (i := 20) (by decide +kernel)) rfl
theorem in_RJ9 : Cond.initialized "java/lang/Math" ∈ TW := TW_in (List.mem_of_getElem? (i := 21) (by decide +kernel)) rfl
theorem in_IllegalArgumentException : Cond.initialized "java/lang/IllegalArgumentException" ∈ TW := TW_in (List.mem_of_getElem? (i := 22) (by decide +kernel)) rfl
theorem cl_RL_11 : Cond.classLink RL 11 "StreetEditions" ∈ TW := TW_in (List.mem_of_getElem? (i := 23) (by decide +kernel)) rfl
theorem is_RX6 : Cond.instantiable RX6 3 ∈ TW := TW_in (List.mem_of_getElem? (i := 24) (by decide +kernel)) rfl
theorem cl_RX6_7 : Cond.classLink RX6 7 "StreetEditions$State" ∈ TW := TW_in (List.mem_of_getElem? (i := 31) (by decide +kernel)) rfl
theorem is_RX5 : Cond.instantiable RX5 2 ∈ TW := TW_in (List.mem_of_getElem? (i := 32) (by decide +kernel)) rfl
theorem cl_RX5_9 : Cond.classLink RX5 9 "StreetEditions$Printer" ∈ TW := TW_in (List.mem_of_getElem? (i := 37) (by decide +kernel)) rfl
theorem is_RX3 : Cond.instantiable RX3 4 ∈ TW := TW_in (List.mem_of_getElem? (i := 38) (by decide +kernel)) rfl
theorem cl_RX3_9 : Cond.classLink RX3 9 "StreetEditions$Differences" ∈ TW := TW_in (List.mem_of_getElem? (i := 43) (by decide +kernel)) rfl
theorem is_RX0 : Cond.instantiable RX0 6 ∈ TW := TW_in (List.mem_of_getElem? (i := 44) (by decide +kernel)) rfl
theorem ac_int : Cond.arrayClass .int ∈ TW := TW_in (List.mem_of_getElem? (i := 71) (by decide +kernel)) rfl
theorem cl_RX5_18 : Cond.classLink RX5 18 "StreetEditions$Follower" ∈ TW := TW_in (List.mem_of_getElem? (i := 92) (by decide +kernel)) rfl
theorem ao_RX1 : Cond.arrayOver (.object RX1) ∈ TW := TW_in (List.mem_of_getElem? (i := 93) (by decide +kernel)) rfl
theorem is_RX1 : Cond.instantiable RX1 7 ∈ TW := TW_in (List.mem_of_getElem? (i := 94) (by decide +kernel)) rfl
theorem cl_RX6_16 : Cond.classLink RX6 16 "StreetEditions$SavedStates" ∈ TW := TW_in (List.mem_of_getElem? (i := 142) (by decide +kernel)) rfl
theorem is_RX4 : Cond.instantiable RX4 3 ∈ TW := TW_in (List.mem_of_getElem? (i := 143) (by decide +kernel)) rfl
theorem cl_RX4_9 : Cond.classLink RX4 9 "StreetEditions$State" ∈ TW := TW_in (List.mem_of_getElem? (i := 148) (by decide +kernel)) rfl
theorem ao_RX5 : Cond.arrayOver (.object RX5) ∈ TW := TW_in (List.mem_of_getElem? (i := 149) (by decide +kernel)) rfl
theorem cl_RX6_23 : Cond.classLink RX6 23 "StreetEditions$OrderText" ∈ TW := TW_in (List.mem_of_getElem? (i := 162) (by decide +kernel)) rfl
theorem is_RX2 : Cond.instantiable RX2 2 ∈ TW := TW_in (List.mem_of_getElem? (i := 163) (by decide +kernel)) rfl
theorem kl_RX6_239 : Cond.constantLong RX6 239 4691 ∈ TW := TW_in (List.mem_of_getElem? (i := 192) (by decide +kernel)) rfl
theorem kl_RX6_241 : Cond.constantLong RX6 241 31 ∈ TW := TW_in (List.mem_of_getElem? (i := 193) (by decide +kernel)) rfl
theorem kc_RJ6_265 : Cond.constant RJ6 265 1431655765 ∈ TW := TW_in (List.mem_of_getElem? (i := 205) (by decide +kernel)) rfl
theorem kc_RJ6_266 : Cond.constant RJ6 266 858993459 ∈ TW := TW_in (List.mem_of_getElem? (i := 206) (by decide +kernel)) rfl
theorem kc_RJ6_267 : Cond.constant RJ6 267 252645135 ∈ TW := TW_in (List.mem_of_getElem? (i := 207) (by decide +kernel)) rfl
theorem kc_RL_7 : Cond.constant RL 7 41659 ∈ TW := TW_in (List.mem_of_getElem? (i := 288) (by decide +kernel)) rfl
theorem kc_RL_8 : Cond.constant RL 8 2890215 ∈ TW := TW_in (List.mem_of_getElem? (i := 289) (by decide +kernel)) rfl
theorem kc_RL_9 : Cond.constant RL 9 2147483647 ∈ TW := TW_in (List.mem_of_getElem? (i := 293) (by decide +kernel)) rfl
theorem cl_RL_18 : Cond.classLink RL 18 "java/lang/IllegalStateException" ∈ TW := TW_in (List.mem_of_getElem? (i := 297) (by decide +kernel)) rfl
theorem cl_RX6_44 : Cond.classLink RX6 44 "java/lang/IllegalStateException" ∈ TW := TW_in (List.mem_of_getElem? (i := 302) (by decide +kernel)) rfl
theorem ca_IllegalStateException : Cond.castable "java/lang/IllegalStateException" "java/lang/IllegalStateException" ∈ TW := TW_in (List.mem_of_getElem? (i := 304) (by decide +kernel)) rfl
theorem cl_RL_16 : Cond.classLink RL 16 "java/lang/IndexOutOfBoundsException" ∈ TW := TW_in (List.mem_of_getElem? (i := 396) (by decide +kernel)) rfl
theorem cl_RX6_264 : Cond.classLink RX6 264 "java/lang/IndexOutOfBoundsException" ∈ TW := TW_in (List.mem_of_getElem? (i := 407) (by decide +kernel)) rfl
theorem ca_IndexOutOfBoundsException : Cond.castable "java/lang/IndexOutOfBoundsException" "java/lang/IndexOutOfBoundsException" ∈ TW := TW_in (List.mem_of_getElem? (i := 409) (by decide +kernel)) rfl
theorem cl_RL_30 : Cond.classLink RL 30 "java/lang/IllegalArgumentException" ∈ TW := TW_in (List.mem_of_getElem? (i := 548) (by decide +kernel)) rfl
theorem cl_RX6_85 : Cond.classLink RX6 85 "java/lang/IllegalArgumentException" ∈ TW := TW_in (List.mem_of_getElem? (i := 560) (by decide +kernel)) rfl
theorem ca_IllegalArgumentException : Cond.castable "java/lang/IllegalArgumentException" "java/lang/IllegalArgumentException" ∈ TW := TW_in (List.mem_of_getElem? (i := 562) (by decide +kernel)) rfl
theorem mml : Cond.methodLink RX4 29 Lib.Math.min.name ∈ TW := TW_in (List.mem_of_getElem? (i := 433) (by decide +kernel)) rfl
theorem mms : Cond.static Lib.Math.min.name ∈ TW := TW_in (List.mem_of_getElem? (i := 434) (by decide +kernel)) rfl
theorem mmc : Cond.code Lib.Math.min.name Lib.Math.min.code 2 (some .int) ∈ TW := TW_in (List.mem_of_getElem? (i := 435) (by decide +kernel)) rfl
theorem xh_48 {ik : Nat} : ∀ w ∈ Cond.classLink RX6 ik "java/lang/IllegalStateException" :: Cond.initialized "java/lang/IllegalStateException" :: vx_atS RX6 48 "java/lang/IllegalStateException" xnames, vx_ot w = true := by
  intro w hw
  rcases List.mem_cons.mp hw with rfl | hw
  · rfl
  · rcases List.mem_cons.mp hw with rfl | hw
    · rfl
    · exact xg_48 w hw
theorem xh_268 {ik : Nat} : ∀ w ∈ Cond.classLink RX6 ik "java/lang/IndexOutOfBoundsException" :: Cond.initialized "java/lang/IndexOutOfBoundsException" :: vx_atS RX6 268 "java/lang/IndexOutOfBoundsException" xnames, vx_ot w = true := by
  intro w hw
  rcases List.mem_cons.mp hw with rfl | hw
  · rfl
  · rcases List.mem_cons.mp hw with rfl | hw
    · rfl
    · exact xg_268 w hw
theorem xh_89 {ik : Nat} : ∀ w ∈ Cond.classLink RX6 ik "java/lang/IllegalArgumentException" :: Cond.initialized "java/lang/IllegalArgumentException" :: vx_atS RX6 89 "java/lang/IllegalArgumentException" xnames, vx_ot w = true := by
  intro w hw
  rcases List.mem_cons.mp hw with rfl | hw
  · rfl
  · rcases List.mem_cons.mp hw with rfl | hw
    · rfl
    · exact xg_89 w hw
theorem pn_X6_init : plainName m_X6_init.nm.cls = true := by decide
theorem pn_X5_init : plainName m_X5_init.nm.cls = true := by decide
theorem pn_X3_init : plainName m_X3_init.nm.cls = true := by decide
theorem pn_X0_init : plainName m_X0_init.nm.cls = true := by decide
theorem pn_X1_init : plainName m_X1_init.nm.cls = true := by decide
theorem pn_X4_init : plainName m_X4_init.nm.cls = true := by decide
theorem pn_X2_init : plainName m_X2_init.nm.cls = true := by decide
theorem pn_X6_savedStates : plainName m_X6_savedStates.nm.cls = true := by decide
theorem pn_X6_digest : plainName m_X6_digest.nm.cls = true := by decide
theorem pn_X6_edition : plainName m_X6_edition.nm.cls = true := by decide
theorem pn_X6_draft : plainName m_X6_draft.nm.cls = true := by decide
theorem pn_J6_bitCount_0f7a4 : plainName m_J6_bitCount_0f7a4.nm.cls = true := by decide
theorem pn_X6_published : plainName m_X6_published.nm.cls = true := by decide
theorem pn_X6_pending : plainName m_X6_pending.nm.cls = true := by decide
theorem pn_X6_kept : plainName m_X6_kept.nm.cls = true := by decide
theorem pn_X6_withDifferences : plainName m_X6_withDifferences.nm.cls = true := by decide
theorem pn_X6_withFollower : plainName m_X6_withFollower.nm.cls = true := by decide
theorem pn_X1_editionOrNone : plainName m_X1_editionOrNone.nm.cls = true := by decide
theorem pn_X1_sizeOrNone : plainName m_X1_sizeOrNone.nm.cls = true := by decide
theorem pn_X1_attentionNumber : plainName m_X1_attentionNumber.nm.cls = true := by decide
theorem pn_X3_answerTo : plainName m_X3_answerTo.nm.cls = true := by decide
theorem pn_X6_isNewer : plainName m_X6_isNewer.nm.cls = true := by decide
theorem pn_X0_costSince : plainName m_X0_costSince.nm.cls = true := by decide
theorem pn_X3_wholeListCost : plainName m_X3_wholeListCost.nm.cls = true := by decide
theorem pn_X5_nextCostOf : plainName m_X5_nextCostOf.nm.cls = true := by decide
theorem pn_X3_costOfAnswer : plainName m_X3_costOfAnswer.nm.cls = true := by decide
theorem pn_X1_wrongOrNone : plainName m_X1_wrongOrNone.nm.cls = true := by decide
theorem pn_X6_withStreet : plainName m_X6_withStreet.nm.cls = true := by decide
theorem pn_X3_placeOf : plainName m_X3_placeOf.nm.cls = true := by decide
theorem pn_X6_contains : plainName m_X6_contains.nm.cls = true := by decide
theorem pn_X1_knows : plainName m_X1_knows.nm.cls = true := by decide
theorem pn_L_cell : plainName m_L_cell.nm.cls = true := by decide
theorem pn_L_low : plainName m_L_low.nm.cls = true := by decide
theorem pn_L_undo : plainName m_L_undo.nm.cls = true := by decide
theorem pn_X6_undo : plainName m_X6_undo.nm.cls = true := by decide
theorem pn_X4_restoreInto : plainName m_X4_restoreInto.nm.cls = true := by decide
theorem pn_X5_copyFrom : plainName m_X5_copyFrom.nm.cls = true := by decide
theorem pn_X3_copyFrom : plainName m_X3_copyFrom.nm.cls = true := by decide
theorem pn_X0_copyFrom : plainName m_X0_copyFrom.nm.cls = true := by decide
theorem pn_X1_copyFrom : plainName m_X1_copyFrom.nm.cls = true := by decide
theorem pn_L_call : plainName m_L_call.nm.cls = true := by decide
theorem pn_L_add : plainName m_L_add.nm.cls = true := by decide
theorem pn_X6_add : plainName m_X6_add.nm.cls = true := by decide
theorem pn_X6_needStreet : plainName m_X6_needStreet.nm.cls = true := by decide
theorem pn_X6_isStreet : plainName m_X6_isStreet.nm.cls = true := by decide
theorem pn_X3_mayAdd : plainName m_X3_mayAdd.nm.cls = true := by decide
theorem pn_X4_save : plainName m_X4_save.nm.cls = true := by decide
theorem pn_X3_addToDraft : plainName m_X3_addToDraft.nm.cls = true := by decide
theorem pn_L_crossOut : plainName m_L_crossOut.nm.cls = true := by decide
theorem pn_X6_crossOut : plainName m_X6_crossOut.nm.cls = true := by decide
theorem pn_X3_mayCrossOut : plainName m_X3_mayCrossOut.nm.cls = true := by decide
theorem pn_X3_takeOutOfDraft : plainName m_X3_takeOutOfDraft.nm.cls = true := by decide
theorem pn_L_publish : plainName m_L_publish.nm.cls = true := by decide
theorem pn_X6_publish : plainName m_X6_publish.nm.cls = true := by decide
theorem pn_X3_mayPublish : plainName m_X3_mayPublish.nm.cls = true := by decide
theorem pn_X5_issueDraft : plainName m_X5_issueDraft.nm.cls = true := by decide
theorem pn_X3_issueDraft : plainName m_X3_issueDraft.nm.cls = true := by decide
theorem pn_X0_keep : plainName m_X0_keep.nm.cls = true := by decide
theorem pn_X0_dropOldest : plainName m_X0_dropOldest.nm.cls = true := by decide
theorem pn_X5_giveNotice : plainName m_X5_giveNotice.nm.cls = true := by decide
theorem pn_L_refresh : plainName m_L_refresh.nm.cls = true := by decide
theorem pn_X6_refresh : plainName m_X6_refresh.nm.cls = true := by decide
theorem pn_X6_followerNumbered : plainName m_X6_followerNumbered.nm.cls = true := by decide
theorem pn_X6_isFollower : plainName m_X6_isFollower.nm.cls = true := by decide
theorem pn_X6_needAwake : plainName m_X6_needAwake.nm.cls = true := by decide
theorem pn_X5_bringNews : plainName m_X5_bringNews.nm.cls = true := by decide
theorem pn_X0_appliedSince : plainName m_X0_appliedSince.nm.cls = true := by decide
theorem pn_X6_refreshAll : plainName m_X6_refreshAll.nm.cls = true := by decide
theorem pn_X5_bringNewsToAllWithNotice : plainName m_X5_bringNewsToAllWithNotice.nm.cls = true := by decide
theorem pn_L_sleep : plainName m_L_sleep.nm.cls = true := by decide
theorem pn_X6_sleep : plainName m_X6_sleep.nm.cls = true := by decide
theorem pn_X5_countAsleep : plainName m_X5_countAsleep.nm.cls = true := by decide
theorem pn_L_wake : plainName m_L_wake.nm.cls = true := by decide
theorem pn_X6_wake : plainName m_X6_wake.nm.cls = true := by decide
theorem pn_L_renumber : plainName m_L_renumber.nm.cls = true := by decide
theorem pn_X6_renumber : plainName m_X6_renumber.nm.cls = true := by decide
theorem pn_X3_mayTakeNumber : plainName m_X3_mayTakeNumber.nm.cls = true := by decide
theorem pn_X6_isEdition : plainName m_X6_isEdition.nm.cls = true := by decide
theorem pn_X5_takeNumber : plainName m_X5_takeNumber.nm.cls = true := by decide
theorem pn_X3_takeNumber : plainName m_X3_takeNumber.nm.cls = true := by decide
theorem pn_X0_dropAll : plainName m_X0_dropAll.nm.cls = true := by decide
theorem pn_L_setKeep : plainName m_L_setKeep.nm.cls = true := by decide
theorem pn_X6_setKeep : plainName m_X6_setKeep.nm.cls = true := by decide
theorem pn_X0_limitTo : plainName m_X0_limitTo.nm.cls = true := by decide
theorem pn_L_throwAway : plainName m_L_throwAway.nm.cls = true := by decide
theorem pn_X6_throwAway : plainName m_X6_throwAway.nm.cls = true := by decide
theorem pn_X1_loseList : plainName m_X1_loseList.nm.cls = true := by decide
theorem pn_L_due : plainName m_L_due.nm.cls = true := by decide
theorem pn_L_ofPrinter : plainName m_L_ofPrinter.nm.cls = true := by decide
theorem pn_L_ones : plainName m_L_ones.nm.cls = true := by decide
theorem pn_L_drops : plainName m_L_drops.nm.cls = true := by decide
theorem pn_L_notices : plainName m_L_notices.nm.cls = true := by decide
theorem pn_L_refreshes : plainName m_L_refreshes.nm.cls = true := by decide
theorem pn_L_answers : plainName m_L_answers.nm.cls = true := by decide
theorem pn_L_newer : plainName m_L_newer.nm.cls = true := by decide
theorem pn_L_path : plainName m_L_path.nm.cls = true := by decide
theorem pn_L_costOf : plainName m_L_costOf.nm.cls = true := by decide
theorem pn_L_costNow : plainName m_L_costNow.nm.cls = true := by decide
theorem pn_L_asleep : plainName m_L_asleep.nm.cls = true := by decide
theorem pn_L_isSo : plainName m_L_isSo.nm.cls = true := by decide
theorem pn_L_where : plainName m_L_where.nm.cls = true := by decide
theorem pn_X6_where : plainName m_X6_where.nm.cls = true := by decide
theorem pn_X6_savedShare : plainName m_X6_savedShare.nm.cls = true := by decide
theorem pn_L_from : plainName m_L_from.nm.cls = true := by decide
theorem pn_X6_from : plainName m_X6_from.nm.cls = true := by decide
theorem pn_X6_needDifference : plainName m_X6_needDifference.nm.cls = true := by decide
theorem pn_L_cost : plainName m_L_cost.nm.cls = true := by decide
theorem pn_X6_cost : plainName m_X6_cost.nm.cls = true := by decide
theorem pn_L_compare : plainName m_L_compare.nm.cls = true := by decide
theorem pn_X6_compare : plainName m_X6_compare.nm.cls = true := by decide
theorem pn_L_isFollower : plainName m_L_isFollower.nm.cls = true := by decide
theorem pn_L_editionOf : plainName m_L_editionOf.nm.cls = true := by decide
theorem pn_X6_editionOf : plainName m_X6_editionOf.nm.cls = true := by decide
theorem pn_L_streets : plainName m_L_streets.nm.cls = true := by decide
theorem pn_X6_streets : plainName m_X6_streets.nm.cls = true := by decide
theorem pn_L_has : plainName m_L_has.nm.cls = true := by decide
theorem pn_X6_has : plainName m_X6_has.nm.cls = true := by decide
theorem pn_L_isRight : plainName m_L_isRight.nm.cls = true := by decide
theorem pn_X6_isRight : plainName m_X6_isRight.nm.cls = true := by decide
theorem pn_L_attention : plainName m_L_attention.nm.cls = true := by decide
theorem pn_X6_attention : plainName m_X6_attention.nm.cls = true := by decide
theorem pn_L_costs : plainName m_L_costs.nm.cls = true := by decide
theorem pn_X6_costs : plainName m_X6_costs.nm.cls = true := by decide
theorem pn_L_answer : plainName m_L_answer.nm.cls = true := by decide
theorem pn_X6_answer : plainName m_X6_answer.nm.cls = true := by decide
theorem pn_L_costToCome : plainName m_L_costToCome.nm.cls = true := by decide
theorem pn_X6_costToCome : plainName m_X6_costToCome.nm.cls = true := by decide
theorem pn_L_wrong : plainName m_L_wrong.nm.cls = true := by decide
theorem pn_X6_wrong : plainName m_X6_wrong.nm.cls = true := by decide
