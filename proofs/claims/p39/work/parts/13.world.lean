/-! ===== the places of the whole system, and the rules over them ===== -/
theorem C_of {g : G0} {M : M0} {d kc ks : Nat} {op : Bool} {args : List Value} {w : Wd} {P : Res → Wd → Prop} {L : List (Option Value)} (hL : ini args ++ List.replicate (M.ml - (ini args).length) none = L) (h : V g M d kc ks op (Kp g op P) 0 L [] w) : C g M d kc ks op args w P := by
  unfold C
  rw [hL]
  exact h
def bl (o : Nat) : Nat × Nat := match o with
  | 0 => (5, 0)
  | 1 => (3, 0)
  | 2 => (0, 0)
  | 3 => (10, 6)
  | 4 => (10, 6)
  | 5 => (10, 6)
  | 6 => (10, 6)
  | 7 => (13, 4)
  | _ => (1, 0)
def bo (k : Nat) : Nat := if k < 13 then k - 1 else (k - 15) % 12
def SH (k : Nat) : Nat × Nat := match k with
  | 0 => (6, 0)
  | 13 => (4, 0)
  | 14 => (12, 6)
  | 87 => (2, 0)
  | 88 => (10, 60)
  | 89 => (10, 6)
  | 90 => (10, 18)
  | 91 => (10, 20)
  | k => bl (bo k)
/-- the references of a block's cell o at k -/
def br (o k f : Nat) : Option Nat := match o with
  | 0 => match f with
    | 0 => some (k + 1)
    | 1 => some (k + 7)
    | _ => none
  | 1 => match f with
    | 3 => some (k + 1)
    | _ => none
  | 2 => match f with
    | 0 => some (k + 1)
    | 1 => some (k + 2)
    | 2 => some (k + 3)
    | 3 => some (k + 4)
    | _ => none
  | 7 => if f < 4 then some (k + 1 + f) else none
  | _ => none
def RR (k f : Nat) : Option Nat := match k with
  | 0 => match f with
    | 0 => some 1
    | 1 => some 13
    | 2 => some 87
    | _ => none
  | 13 => match f with
    | 0 => some 14
    | _ => none
  | 14 => if f < 6 then some (15 + 12 * f) else none
  | 87 => match f with
    | 0 => some 88
    | _ => none
  | 88 => none
  | 89 => none
  | 90 => none
  | 91 => none
  | k => br (bo k) k f
abbrev mk (i : Nat → Nat → Int32) (j : Nat → Nat → Int64) : Wd := (92, SH, i, j, RR)
def kzS (k : Nat) : Nat × Nat := if k < 92 then SH k else (99, 0)
section U
variable {g : G0} {M M' : M0} {d d' kc ks : Nat} {K : K0} {pc n : Nat} {vc : Option Nat} {L : List (Option Value)} {S : List Value} {i i' : Nat → Nat → Int32} {j j' : Nat → Nat → Int64} {w w' : Wd}
theorem U_getI {idx c f k z : Nat} (hd : decode M.co pc = .ok (.getfield idx, 3)) (hF : FL M.nm.cls idx c f) (hk : kzS k = (c, z)) (ht : isIntT (tX c f) = true) (kk : V g M d kc ks false K (pc + 3) L (.int (i k f) :: S) (mk i j)) : V g M d kc ks false K pc L (.ref k :: S) (mk i j) := V_getI (w := mk i j) hd hF hk ht kk
theorem U_getJ {idx c f k z : Nat} (hd : decode M.co pc = .ok (.getfield idx, 3)) (hF : FL M.nm.cls idx c f) (hk : kzS k = (c, z)) (ht : tX c f = .long) (kk : V g M d kc ks false K (pc + 3) L (.long (j k f) :: S) (mk i j)) : V g M d kc ks false K pc L (.ref k :: S) (mk i j) := V_getJ (w := mk i j) hd hF hk ht kk
theorem U_getR {idx c f k z r : Nat} (hd : decode M.co pc = .ok (.getfield idx, 3)) (hF : FL M.nm.cls idx c f) (hk : kzS k = (c, z)) (ht : isRefT (tX c f) = true) (hr : RR k f = some r) (kk : V g M d kc ks false K (pc + 3) L (.ref r :: S) (mk i j)) : V g M d kc ks false K pc L (.ref k :: S) (mk i j) := V_getR (w := mk i j) hd hF hk ht hr kk
theorem U_putI {idx c f k z : Nat} {x : Int32} (hd : decode M.co pc = .ok (.putfield idx, 3)) (hF : FL M.nm.cls idx c f) (hk : kzS k = (c, z)) (hfin : (TX c f).2.2.2 = false) (ht : tX c f = .int) (kk : V g M d kc ks false K (pc + 3) L S (mk (up2 i k f x) j)) : V g M d kc ks false K pc L (.int x :: .ref k :: S) (mk i j) := V_putI (w := mk i j) hd hF hk hfin ht kk
theorem U_putZ {idx c f k z : Nat} {x : Int32} (hd : decode M.co pc = .ok (.putfield idx, 3)) (hF : FL M.nm.cls idx c f) (hk : kzS k = (c, z)) (hfin : (TX c f).2.2.2 = false) (ht : tX c f = .boolean) (hx : x = 0 ∨ x = 1) (kk : V g M d kc ks false K (pc + 3) L S (mk (up2 i k f x) j)) : V g M d kc ks false K pc L (.int x :: .ref k :: S) (mk i j) := V_putZ (w := mk i j) hd hF hk hfin ht hx kk
theorem U_putJ {idx c f k z : Nat} {x : Int64} (hd : decode M.co pc = .ok (.putfield idx, 3)) (hF : FL M.nm.cls idx c f) (hk : kzS k = (c, z)) (hfin : (TX c f).2.2.2 = false) (ht : tX c f = .long) (kk : V g M d kc ks false K (pc + 3) L S (mk i (up2 j k f x))) : V g M d kc ks false K pc L (.long x :: .ref k :: S) (mk i j) := V_putJ (w := mk i j) hd hF hk hfin ht kk
theorem U_iald {k z n : Nat} {x : Int32} (hd : decode M.co pc = .ok (.iaload, 1)) (hk : kzS k = (10, z)) (hx : x = nI n) (hi : n < z) (hz : z < 2 ^ 31) (kk : V g M d kc ks false K (pc + 1) L (.int (i k n) :: S) (mk i j)) : V g M d kc ks false K pc L (.int x :: .ref k :: S) (mk i j) := V_iald (w := mk i j) hd hk hx hi hz kk
theorem U_iast {k z n : Nat} {x v : Int32} (hd : decode M.co pc = .ok (.iastore, 1)) (hk : kzS k = (10, z)) (hx : x = nI n) (hi : n < z) (hz : z < 2 ^ 31) (kk : V g M d kc ks false K (pc + 1) L S (mk (up2 i k n v) j)) : V g M d kc ks false K pc L (.int v :: .int x :: .ref k :: S) (mk i j) := V_iast (w := mk i j) hd hk hx hi hz kk
theorem U_aald {k z n r kd : Nat} {x : Int32} (hd : decode M.co pc = .ok (.aaload, 1)) (hk : kzS k = (kd, z)) (hkd : kd = 12 ∨ kd = 13) (hx : x = nI n) (hi : n < z) (hz : z < 2 ^ 31) (hr : RR k n = some r) (kk : V g M d kc ks false K (pc + 1) L (.ref r :: S) (mk i j)) : V g M d kc ks false K pc L (.int x :: .ref k :: S) (mk i j) := V_aald (w := mk i j) hd hk hkd hx hi hz hr kk
/-- what a call asks of the callee, by program -/
def MK (M' : M0) (n : Nat) (args : List Value) : Prop := plainName M'.nm.cls = true ∧ M'.hh = [] ∧ M'.ml ≤ 17 ∧ (ini args).length ≤ M'.ml ∧ args.length = n
/-- a call that makes nothing and returns v -/
theorem U_call {As : List Value} {v : Option Value} (hL : LkR g M pc M' n vc) (hC : C g M' d 0 0 false As w (rets v w')) (hm : MK M' n As) (hv : rcv w M' As vc) (h8 : ∀ ci, vc = some ci → CF ci) (hr : (S.map fun v => v.category).sum ≤ 8)
    (kk : V g M (d + 1) kc ks false K (pc + 3) L (v.toList ++ S) w') : V g M (d + 1) kc ks false K pc L (As.reverse ++ S) w :=
  V_call hL hC hm.1 hm.2.1 hm.2.2.1 hm.2.2.2.1 hm.2.2.2.2 hv h8 (Nat.le_refl _) (Nat.zero_le _) (Nat.zero_le _) hr kk
abbrev CFs (vc : Option Nat) : Prop := ∀ ci, vc = some ci → CF ci
theorem cfn : CFs none := fun _ h => nomatch h
theorem cfS {c : Nat} (h : CF c) : CFs (some c) := fun ci e => by cases e; exact h
theorem U_cV0 (hL : LkR g M pc M' n vc) (hC : C g M' d 0 0 false [] w (rets (none) w')) (hm : MK M' n []) (hv : rcv w M' [] vc) (h8 : CFs vc) (hr : (S.map fun v => v.category).sum ≤ 8) (kk : V g M (d + 1) kc ks false K (pc + 3) L (S) w') : V g M (d + 1) kc ks false K pc L (S) w := U_call (As := []) hL hC hm hv h8 hr kk
theorem U_cv0 {v : Value} (hL : LkR g M pc M' n vc) (hC : C g M' d 0 0 false [] w (rets (some v) w')) (hm : MK M' n []) (hv : rcv w M' [] vc) (h8 : CFs vc) (hr : (S.map fun v => v.category).sum ≤ 8) (kk : V g M (d + 1) kc ks false K (pc + 3) L (v :: S) w') : V g M (d + 1) kc ks false K pc L (S) w := U_call (As := []) hL hC hm hv h8 hr kk
theorem U_cX0 {E : String} {P : Res → Wd → Prop} (hL : LkX g M pc M' n vc) (hC : C g M' d 1 6 false [] w (thrs E w')) (hm : MK M' n []) (hv : rcv w M' [] vc) (h8 : CFs vc) (hr : (S.map fun v => v.category).sum ≤ 8) (hnt : M.hh = []) (hP : P (.inr E) w') : V g M (d + 1) 1 6 false (Kp g false P) pc L (S) w := V_callX (As := []) hL hC hm.1 hm.2.1 hm.2.2.1 hm.2.2.2.1 hm.2.2.2.2 hv h8 (Nat.le_refl _) (Nat.le_refl _) (Nat.le_refl _) hr hnt hP
theorem U_cV1 {a0 : Value} (hL : LkR g M pc M' n vc) (hC : C g M' d 0 0 false [a0] w (rets (none) w')) (hm : MK M' n [a0]) (hv : rcv w M' [a0] vc) (h8 : CFs vc) (hr : (S.map fun v => v.category).sum ≤ 8) (kk : V g M (d + 1) kc ks false K (pc + 3) L (S) w') : V g M (d + 1) kc ks false K pc L (a0 :: S) w := U_call (As := [a0]) hL hC hm hv h8 hr kk
theorem U_cv1 {a0 : Value} {v : Value} (hL : LkR g M pc M' n vc) (hC : C g M' d 0 0 false [a0] w (rets (some v) w')) (hm : MK M' n [a0]) (hv : rcv w M' [a0] vc) (h8 : CFs vc) (hr : (S.map fun v => v.category).sum ≤ 8) (kk : V g M (d + 1) kc ks false K (pc + 3) L (v :: S) w') : V g M (d + 1) kc ks false K pc L (a0 :: S) w := U_call (As := [a0]) hL hC hm hv h8 hr kk
theorem U_cX1 {a0 : Value} {E : String} {P : Res → Wd → Prop} (hL : LkX g M pc M' n vc) (hC : C g M' d 1 6 false [a0] w (thrs E w')) (hm : MK M' n [a0]) (hv : rcv w M' [a0] vc) (h8 : CFs vc) (hr : (S.map fun v => v.category).sum ≤ 8) (hnt : M.hh = []) (hP : P (.inr E) w') : V g M (d + 1) 1 6 false (Kp g false P) pc L (a0 :: S) w := V_callX (As := [a0]) hL hC hm.1 hm.2.1 hm.2.2.1 hm.2.2.2.1 hm.2.2.2.2 hv h8 (Nat.le_refl _) (Nat.le_refl _) (Nat.le_refl _) hr hnt hP
theorem U_cV2 {a0 a1 : Value} (hL : LkR g M pc M' n vc) (hC : C g M' d 0 0 false [a0, a1] w (rets (none) w')) (hm : MK M' n [a0, a1]) (hv : rcv w M' [a0, a1] vc) (h8 : CFs vc) (hr : (S.map fun v => v.category).sum ≤ 8) (kk : V g M (d + 1) kc ks false K (pc + 3) L (S) w') : V g M (d + 1) kc ks false K pc L (a1 :: a0 :: S) w := U_call (As := [a0, a1]) hL hC hm hv h8 hr kk
theorem U_cv2 {a0 a1 : Value} {v : Value} (hL : LkR g M pc M' n vc) (hC : C g M' d 0 0 false [a0, a1] w (rets (some v) w')) (hm : MK M' n [a0, a1]) (hv : rcv w M' [a0, a1] vc) (h8 : CFs vc) (hr : (S.map fun v => v.category).sum ≤ 8) (kk : V g M (d + 1) kc ks false K (pc + 3) L (v :: S) w') : V g M (d + 1) kc ks false K pc L (a1 :: a0 :: S) w := U_call (As := [a0, a1]) hL hC hm hv h8 hr kk
theorem U_cX2 {a0 a1 : Value} {E : String} {P : Res → Wd → Prop} (hL : LkX g M pc M' n vc) (hC : C g M' d 1 6 false [a0, a1] w (thrs E w')) (hm : MK M' n [a0, a1]) (hv : rcv w M' [a0, a1] vc) (h8 : CFs vc) (hr : (S.map fun v => v.category).sum ≤ 8) (hnt : M.hh = []) (hP : P (.inr E) w') : V g M (d + 1) 1 6 false (Kp g false P) pc L (a1 :: a0 :: S) w := V_callX (As := [a0, a1]) hL hC hm.1 hm.2.1 hm.2.2.1 hm.2.2.2.1 hm.2.2.2.2 hv h8 (Nat.le_refl _) (Nat.le_refl _) (Nat.le_refl _) hr hnt hP
theorem U_cV3 {a0 a1 a2 : Value} (hL : LkR g M pc M' n vc) (hC : C g M' d 0 0 false [a0, a1, a2] w (rets (none) w')) (hm : MK M' n [a0, a1, a2]) (hv : rcv w M' [a0, a1, a2] vc) (h8 : CFs vc) (hr : (S.map fun v => v.category).sum ≤ 8) (kk : V g M (d + 1) kc ks false K (pc + 3) L (S) w') : V g M (d + 1) kc ks false K pc L (a2 :: a1 :: a0 :: S) w := U_call (As := [a0, a1, a2]) hL hC hm hv h8 hr kk
theorem U_cv3 {a0 a1 a2 : Value} {v : Value} (hL : LkR g M pc M' n vc) (hC : C g M' d 0 0 false [a0, a1, a2] w (rets (some v) w')) (hm : MK M' n [a0, a1, a2]) (hv : rcv w M' [a0, a1, a2] vc) (h8 : CFs vc) (hr : (S.map fun v => v.category).sum ≤ 8) (kk : V g M (d + 1) kc ks false K (pc + 3) L (v :: S) w') : V g M (d + 1) kc ks false K pc L (a2 :: a1 :: a0 :: S) w := U_call (As := [a0, a1, a2]) hL hC hm hv h8 hr kk
theorem U_cX3 {a0 a1 a2 : Value} {E : String} {P : Res → Wd → Prop} (hL : LkX g M pc M' n vc) (hC : C g M' d 1 6 false [a0, a1, a2] w (thrs E w')) (hm : MK M' n [a0, a1, a2]) (hv : rcv w M' [a0, a1, a2] vc) (h8 : CFs vc) (hr : (S.map fun v => v.category).sum ≤ 8) (hnt : M.hh = []) (hP : P (.inr E) w') : V g M (d + 1) 1 6 false (Kp g false P) pc L (a2 :: a1 :: a0 :: S) w := V_callX (As := [a0, a1, a2]) hL hC hm.1 hm.2.1 hm.2.2.1 hm.2.2.2.1 hm.2.2.2.2 hv h8 (Nat.le_refl _) (Nat.le_refl _) (Nat.le_refl _) hr hnt hP
theorem U_cV4 {a0 a1 a2 a3 : Value} (hL : LkR g M pc M' n vc) (hC : C g M' d 0 0 false [a0, a1, a2, a3] w (rets (none) w')) (hm : MK M' n [a0, a1, a2, a3]) (hv : rcv w M' [a0, a1, a2, a3] vc) (h8 : CFs vc) (hr : (S.map fun v => v.category).sum ≤ 8) (kk : V g M (d + 1) kc ks false K (pc + 3) L (S) w') : V g M (d + 1) kc ks false K pc L (a3 :: a2 :: a1 :: a0 :: S) w := U_call (As := [a0, a1, a2, a3]) hL hC hm hv h8 hr kk
theorem U_cv4 {a0 a1 a2 a3 : Value} {v : Value} (hL : LkR g M pc M' n vc) (hC : C g M' d 0 0 false [a0, a1, a2, a3] w (rets (some v) w')) (hm : MK M' n [a0, a1, a2, a3]) (hv : rcv w M' [a0, a1, a2, a3] vc) (h8 : CFs vc) (hr : (S.map fun v => v.category).sum ≤ 8) (kk : V g M (d + 1) kc ks false K (pc + 3) L (v :: S) w') : V g M (d + 1) kc ks false K pc L (a3 :: a2 :: a1 :: a0 :: S) w := U_call (As := [a0, a1, a2, a3]) hL hC hm hv h8 hr kk
theorem U_cX4 {a0 a1 a2 a3 : Value} {E : String} {P : Res → Wd → Prop} (hL : LkX g M pc M' n vc) (hC : C g M' d 1 6 false [a0, a1, a2, a3] w (thrs E w')) (hm : MK M' n [a0, a1, a2, a3]) (hv : rcv w M' [a0, a1, a2, a3] vc) (h8 : CFs vc) (hr : (S.map fun v => v.category).sum ≤ 8) (hnt : M.hh = []) (hP : P (.inr E) w') : V g M (d + 1) 1 6 false (Kp g false P) pc L (a3 :: a2 :: a1 :: a0 :: S) w := V_callX (As := [a0, a1, a2, a3]) hL hC hm.1 hm.2.1 hm.2.2.1 hm.2.2.2.1 hm.2.2.2.2 hv h8 (Nat.le_refl _) (Nat.le_refl _) (Nat.le_refl _) hr hnt hP
end U

