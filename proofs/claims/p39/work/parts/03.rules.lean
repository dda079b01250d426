/-! ===== 03.rules: a rule of WF an instruction (printed by wip/whole/gen/rules.py) ===== -/
section XRULES
variable {M M2 : xM} {E : xE} {Po : xPo} {w0 w : xW} {pc q : Nat} {L : List (Option Value)} {st : List Value} {k n : Nat}
theorem WF.weakL {L2 : List (Option Value)} (h : WF M E Po w0 pc L2 st w k n) (hL : ∀ (i : Nat) (v : Value), L2[i]? = some (some v) → L[i]? = some (some v)) : WF M E Po w0 pc L st w k n :=
  fun p l e s m args below meth c H locs ls C hP hs hS hl => h p l e s m args below meth c H locs ls C hP hs hS (hl.weak hL)
theorem WF.wide {k2 n2 : Nat} (h : WF M E Po w0 pc L st w k2 n2) (hk : k ≤ k2) (hn : n ≤ n2) : WF M E Po w0 pc L st w k n :=
  fun p l e s m args below meth c H locs ls C hP hs hS hl => W.widen hk hn (h p l e s m args below meth c H locs ls C hP hs hS hl)
/-- a rule that changes pc and stack alone -/
theorem r_of {st2 : List Value} (h : ∀ (p : Program) (l : Launch) (e : Env) (R : Room) (s : State) (m : MethodId) (args : Array Value) (below : List Frame) (meth : Method) (c : Code) (H : Heap) (locs : List Loc) (cells slots : Nat) (Q : State → Prop) (ls : Array Slot), p.tables.exec = Jvm.exec → c.code = mC M → xL ls (mL M) L → W p l e R s m args below meth c H locs cells slots Q (F0 m q ls st2) → W p l e R s m args below meth c H locs cells slots Q (F0 m pc ls st))
    (kk : WF M E Po w0 q L st2 w k n) : WF M E Po w0 pc L st w k n :=
  fun p l e s m args below meth c H locs ls C hP hs hS hl => h p l e _ s m args below meth c H locs k n _ ls C.1 C.2.1 hl (kk p l e s m args below meth c H locs ls C hP hs hS hl)
/-- a rule that has two ways on -/
theorem r_of2 {q2 : Nat} {A B : Prop} {st2 : List Value} (h : ∀ (p : Program) (l : Launch) (e : Env) (R : Room) (s : State) (m : MethodId) (args : Array Value) (below : List Frame) (meth : Method) (c : Code) (H : Heap) (locs : List Loc) (cells slots : Nat) (Q : State → Prop) (ls : Array Slot), p.tables.exec = Jvm.exec → c.code = mC M → (A → W p l e R s m args below meth c H locs cells slots Q (F0 m q ls st2)) → (B → W p l e R s m args below meth c H locs cells slots Q (F0 m q2 ls st2)) → W p l e R s m args below meth c H locs cells slots Q (F0 m pc ls st))
    (kt : A → WF M E Po w0 q L st2 w k n) (kf : B → WF M E Po w0 q2 L st2 w k n) : WF M E Po w0 pc L st w k n :=
  fun p l e s m args below meth c H locs ls C hP hs hS hl => h p l e _ s m args below meth c H locs k n _ ls C.1 C.2.1 (fun a => kt a p l e s m args below meth c H locs ls C hP hs hS hl) (fun b => kf b p l e s m args below meth c H locs ls C hP hs hS hl)
theorem r_iload_n {i : Nat} {j : Fin 4} {x : Int32} (hd : decode (mC M) pc = .ok (.iload_n j, 1)) (hj : (j : Nat) = i) (hv : L[i]? = some (some (.int x))) (hq : pc + 1 = q) (kk : WF M E Po w0 q L (.int x :: st) w k n) : WF M E Po w0 pc L (st) w k n := by
  subst hq; exact r_of (fun _ _ _ _ _ _ _ _ _ _ _ _ _ _ _ _ hx hb hl k => lv_iload_n hx hb hd hj (hl.get hv) k) kk
theorem r_iload {i : Nat} {x : Int32} (hd : decode (mC M) pc = .ok (.iload i, 2)) (hv : L[i]? = some (some (.int x))) (hq : pc + 2 = q) (kk : WF M E Po w0 q L (.int x :: st) w k n) : WF M E Po w0 pc L (st) w k n := by
  subst hq; exact r_of (fun _ _ _ _ _ _ _ _ _ _ _ _ _ _ _ _ hx hb hl k => lv_iload hx hb hd (hl.get hv) k) kk
theorem r_aload_n {i : Nat} {j : Fin 4} {x : Nat} (hd : decode (mC M) pc = .ok (.aload_n j, 1)) (hj : (j : Nat) = i) (hv : L[i]? = some (some (.ref x))) (hq : pc + 1 = q) (kk : WF M E Po w0 q L (.ref x :: st) w k n) : WF M E Po w0 pc L (st) w k n := by
  subst hq; exact r_of (fun _ _ _ _ _ _ _ _ _ _ _ _ _ _ _ _ hx hb hl k => lv_aload_n hx hb hd hj (hl.get hv) k) kk
theorem r_aload {i : Nat} {x : Nat} (hd : decode (mC M) pc = .ok (.aload i, 2)) (hv : L[i]? = some (some (.ref x))) (hq : pc + 2 = q) (kk : WF M E Po w0 q L (.ref x :: st) w k n) : WF M E Po w0 pc L (st) w k n := by
  subst hq; exact r_of (fun _ _ _ _ _ _ _ _ _ _ _ _ _ _ _ _ hx hb hl k => lv_aload hx hb hd (hl.get hv) k) kk
theorem r_aload_nN {i : Nat} {j : Fin 4}  (hd : decode (mC M) pc = .ok (.aload_n j, 1)) (hj : (j : Nat) = i) (hv : L[i]? = some (some (.null))) (hq : pc + 1 = q) (kk : WF M E Po w0 q L (.null :: st) w k n) : WF M E Po w0 pc L (st) w k n := by
  subst hq; exact r_of (fun _ _ _ _ _ _ _ _ _ _ _ _ _ _ _ _ hx hb hl k => lv_aload_nN hx hb hd hj (hl.get hv) k) kk
theorem r_aloadN {i : Nat}  (hd : decode (mC M) pc = .ok (.aload i, 2)) (hv : L[i]? = some (some (.null))) (hq : pc + 2 = q) (kk : WF M E Po w0 q L (.null :: st) w k n) : WF M E Po w0 pc L (st) w k n := by
  subst hq; exact r_of (fun _ _ _ _ _ _ _ _ _ _ _ _ _ _ _ _ hx hb hl k => lv_aloadN hx hb hd (hl.get hv) k) kk
theorem r_dload {i : Nat} {x : UInt64} (hd : decode (mC M) pc = .ok (.dload i, 2)) (hv : L[i]? = some (some (.double x))) (hq : pc + 2 = q) (kk : WF M E Po w0 q L (.double x :: st) w k n) : WF M E Po w0 pc L (st) w k n := by
  subst hq; exact r_of (fun _ _ _ _ _ _ _ _ _ _ _ _ _ _ _ _ hx hb hl k => lv_dload hx hb hd (hl.get hv) k) kk
theorem r_fload {i : Nat} {x : UInt32} (hd : decode (mC M) pc = .ok (.fload i, 2)) (hv : L[i]? = some (some (.float x))) (hq : pc + 2 = q) (kk : WF M E Po w0 q L (.float x :: st) w k n) : WF M E Po w0 pc L (st) w k n := by
  subst hq; exact r_of (fun _ _ _ _ _ _ _ _ _ _ _ _ _ _ _ _ hx hb hl k => lv_fload hx hb hd (hl.get hv) k) kk
theorem r_iconst {i : Int} {v : Int32} (hd : decode (mC M) pc = .ok (.iconst i, 1)) (hv : Int32.ofInt i = v) (hq : pc + 1 = q) (kk : WF M E Po w0 q L (.int v :: st) w k n) : WF M E Po w0 pc L (st) w k n := by
  subst hq; exact r_of (fun _ _ _ _ _ _ _ _ _ _ _ _ _ _ _ _ hx hb hl k => lv_iconst hx hb hd hv k) kk
theorem r_bipush {i : Int} {v : Int32} (hd : decode (mC M) pc = .ok (.bipush i, 2)) (hv : (Int8.ofInt i).toInt32 = v) (hq : pc + 2 = q) (kk : WF M E Po w0 q L (.int v :: st) w k n) : WF M E Po w0 pc L (st) w k n := by
  subst hq; exact r_of (fun _ _ _ _ _ _ _ _ _ _ _ _ _ _ _ _ hx hb hl k => lv_bipush hx hb hd hv k) kk
theorem r_sipush {i : Int} {v : Int32} (hd : decode (mC M) pc = .ok (.sipush i, 3)) (hv : (Int16.ofInt i).toInt32 = v) (hq : pc + 3 = q) (kk : WF M E Po w0 q L (.int v :: st) w k n) : WF M E Po w0 pc L (st) w k n := by
  subst hq; exact r_of (fun _ _ _ _ _ _ _ _ _ _ _ _ _ _ _ _ hx hb hl k => lv_sipush hx hb hd hv k) kk
theorem r_null  (hd : decode (mC M) pc = .ok (.aconst_null, 1)) (hq : pc + 1 = q) (kk : WF M E Po w0 q L (.null :: st) w k n) : WF M E Po w0 pc L (st) w k n := by
  subst hq; exact r_of (fun _ _ _ _ _ _ _ _ _ _ _ _ _ _ _ _ hx hb hl k => lv_null hx hb hd k) kk
theorem r_iadd {x y : Int32} (hd : decode (mC M) pc = .ok (.iadd, 1)) (hq : pc + 1 = q) (kk : WF M E Po w0 q L (.int (x + y) :: st) w k n) : WF M E Po w0 pc L (.int y :: .int x :: st) w k n := by
  subst hq; exact r_of (fun _ _ _ _ _ _ _ _ _ _ _ _ _ _ _ _ hx hb hl k => lv_iadd hx hb hd k) kk
theorem r_isub {x y : Int32} (hd : decode (mC M) pc = .ok (.isub, 1)) (hq : pc + 1 = q) (kk : WF M E Po w0 q L (.int (x - y) :: st) w k n) : WF M E Po w0 pc L (.int y :: .int x :: st) w k n := by
  subst hq; exact r_of (fun _ _ _ _ _ _ _ _ _ _ _ _ _ _ _ _ hx hb hl k => lv_isub hx hb hd k) kk
theorem r_imul {x y : Int32} (hd : decode (mC M) pc = .ok (.imul, 1)) (hq : pc + 1 = q) (kk : WF M E Po w0 q L (.int (x * y) :: st) w k n) : WF M E Po w0 pc L (.int y :: .int x :: st) w k n := by
  subst hq; exact r_of (fun _ _ _ _ _ _ _ _ _ _ _ _ _ _ _ _ hx hb hl k => lv_imul hx hb hd k) kk
theorem r_iand {x y : Int32} (hd : decode (mC M) pc = .ok (.iand, 1)) (hq : pc + 1 = q) (kk : WF M E Po w0 q L (.int (x &&& y) :: st) w k n) : WF M E Po w0 pc L (.int y :: .int x :: st) w k n := by
  subst hq; exact r_of (fun _ _ _ _ _ _ _ _ _ _ _ _ _ _ _ _ hx hb hl k => lv_iand hx hb hd k) kk
theorem r_ior {x y : Int32} (hd : decode (mC M) pc = .ok (.ior, 1)) (hq : pc + 1 = q) (kk : WF M E Po w0 q L (.int (x ||| y) :: st) w k n) : WF M E Po w0 pc L (.int y :: .int x :: st) w k n := by
  subst hq; exact r_of (fun _ _ _ _ _ _ _ _ _ _ _ _ _ _ _ _ hx hb hl k => lv_ior hx hb hd k) kk
theorem r_ixor {x y : Int32} (hd : decode (mC M) pc = .ok (.ixor, 1)) (hq : pc + 1 = q) (kk : WF M E Po w0 q L (.int (x ^^^ y) :: st) w k n) : WF M E Po w0 pc L (.int y :: .int x :: st) w k n := by
  subst hq; exact r_of (fun _ _ _ _ _ _ _ _ _ _ _ _ _ _ _ _ hx hb hl k => lv_ixor hx hb hd k) kk
theorem r_ishl {x y : Int32} (hd : decode (mC M) pc = .ok (.ishl, 1)) (hq : pc + 1 = q) (kk : WF M E Po w0 q L (.int (x <<< (y &&& 31)) :: st) w k n) : WF M E Po w0 pc L (.int y :: .int x :: st) w k n := by
  subst hq; exact r_of (fun _ _ _ _ _ _ _ _ _ _ _ _ _ _ _ _ hx hb hl k => lv_ishl hx hb hd k) kk
theorem r_ishr {x y : Int32} (hd : decode (mC M) pc = .ok (.ishr, 1)) (hq : pc + 1 = q) (kk : WF M E Po w0 q L (.int (x >>> (y &&& 31)) :: st) w k n) : WF M E Po w0 pc L (.int y :: .int x :: st) w k n := by
  subst hq; exact r_of (fun _ _ _ _ _ _ _ _ _ _ _ _ _ _ _ _ hx hb hl k => lv_ishr hx hb hd k) kk
theorem r_idiv {x y : Int32} (hd : decode (mC M) pc = .ok (.idiv, 1)) (hne : ¬ y = 0) (hq : pc + 1 = q) (kk : WF M E Po w0 q L (.int (x / y) :: st) w k n) : WF M E Po w0 pc L (.int y :: .int x :: st) w k n := by
  subst hq; exact r_of (fun _ _ _ _ _ _ _ _ _ _ _ _ _ _ _ _ hx hb hl k => lv_idiv hx hb hd hne k) kk
theorem r_irem {x y : Int32} (hd : decode (mC M) pc = .ok (.irem, 1)) (hne : ¬ y = 0) (hq : pc + 1 = q) (kk : WF M E Po w0 q L (.int (x - x / y * y) :: st) w k n) : WF M E Po w0 pc L (.int y :: .int x :: st) w k n := by
  subst hq; exact r_of (fun _ _ _ _ _ _ _ _ _ _ _ _ _ _ _ _ hx hb hl k => lv_irem hx hb hd hne k) kk
theorem r_iushr {x y : Int32} (hd : decode (mC M) pc = .ok (.iushr, 1)) (hq : pc + 1 = q) (kk : WF M E Po w0 q L (.int ((x.toUInt32 >>> (y.toUInt32 &&& Int32.toUInt32 31)).toInt32) :: st) w k n) : WF M E Po w0 pc L (.int y :: .int x :: st) w k n := by
  subst hq; exact r_of (fun _ _ _ _ _ _ _ _ _ _ _ _ _ _ _ _ hx hb hl k => lv_iushr hx hb hd rfl k) kk
theorem r_ineg {x : Int32} (hd : decode (mC M) pc = .ok (.ineg, 1)) (hq : pc + 1 = q) (kk : WF M E Po w0 q L (.int (-x) :: st) w k n) : WF M E Po w0 pc L (.int x :: st) w k n := by
  subst hq; exact r_of (fun _ _ _ _ _ _ _ _ _ _ _ _ _ _ _ _ hx hb hl k => lv_ineg hx hb hd k) kk
theorem r_i2c {x : Int32} (hd : decode (mC M) pc = .ok (.i2c, 1)) (hq : pc + 1 = q) (kk : WF M E Po w0 q L (.int ((x.toUInt32 % 65536).toInt32) :: st) w k n) : WF M E Po w0 pc L (.int x :: st) w k n := by
  subst hq; exact r_of (fun _ _ _ _ _ _ _ _ _ _ _ _ _ _ _ _ hx hb hl k => lv_i2c hx hb hd rfl k) kk
theorem r_i2l {x : Int32} (hd : decode (mC M) pc = .ok (.i2l, 1)) (hq : pc + 1 = q) (kk : WF M E Po w0 q L (.long x.toInt64 :: st) w k n) : WF M E Po w0 pc L (.int x :: st) w k n := by
  subst hq; exact r_of (fun _ _ _ _ _ _ _ _ _ _ _ _ _ _ _ _ hx hb hl k => lv_i2l hx hb hd rfl k) kk
theorem r_i2d {x : Int32} (hd : decode (mC M) pc = .ok (.i2d, 1)) (hq : pc + 1 = q) (kk : WF M E Po w0 q L (.double (FP.i2d x) :: st) w k n) : WF M E Po w0 pc L (.int x :: st) w k n := by
  subst hq; exact r_of (fun _ _ _ _ _ _ _ _ _ _ _ _ _ _ _ _ hx hb hl k => lv_i2d hx hb hd k) kk
theorem r_i2f {x : Int32} (hd : decode (mC M) pc = .ok (.i2f, 1)) (hq : pc + 1 = q) (kk : WF M E Po w0 q L (.float (FP.i2f x) :: st) w k n) : WF M E Po w0 pc L (.int x :: st) w k n := by
  subst hq; exact r_of (fun _ _ _ _ _ _ _ _ _ _ _ _ _ _ _ _ hx hb hl k => lv_i2f hx hb hd k) kk
theorem r_f2d {x : UInt32} (hd : decode (mC M) pc = .ok (.f2d, 1)) (hne : vf_n64 (FP.f2d x)) (hq : pc + 1 = q) (kk : WF M E Po w0 q L (.double (FP.f2d x) :: st) w k n) : WF M E Po w0 pc L (.float x :: st) w k n := by
  subst hq; exact r_of (fun _ _ _ _ _ _ _ _ _ _ _ _ _ _ _ _ hx hb hl k => lv_f2d hx hb hd hne k) kk
theorem r_ddiv {x y : UInt64} (hd : decode (mC M) pc = .ok (.ddiv, 1)) (hne : vf_n64 (FP.ddiv x y)) (hq : pc + 1 = q) (kk : WF M E Po w0 q L (.double (FP.ddiv x y) :: st) w k n) : WF M E Po w0 pc L (.double y :: .double x :: st) w k n := by
  subst hq; exact r_of (fun _ _ _ _ _ _ _ _ _ _ _ _ _ _ _ _ hx hb hl k => lv_ddiv hx hb hd hne k) kk
theorem r_fdiv {x y : UInt32} (hd : decode (mC M) pc = .ok (.fdiv, 1)) (hne : vf_n32 (FP.fdiv x y)) (hq : pc + 1 = q) (kk : WF M E Po w0 q L (.float (FP.fdiv x y) :: st) w k n) : WF M E Po w0 pc L (.float y :: .float x :: st) w k n := by
  subst hq; exact r_of (fun _ _ _ _ _ _ _ _ _ _ _ _ _ _ _ _ hx hb hl k => lv_fdiv hx hb hd hne k) kk
theorem r_dup {v : Value} (hd : decode (mC M) pc = .ok (.dup, 1)) (hc : v.category = 1) (hq : pc + 1 = q) (kk : WF M E Po w0 q L (v :: v :: st) w k n) : WF M E Po w0 pc L (v :: st) w k n := by
  subst hq; exact r_of (fun _ _ _ _ _ _ _ _ _ _ _ _ _ _ _ _ hx hb hl k => lv_dup hx hb hd hc k) kk
theorem r_pop {v : Value} (hd : decode (mC M) pc = .ok (.pop, 1)) (hc : v.category = 1) (hq : pc + 1 = q) (kk : WF M E Po w0 q L (st) w k n) : WF M E Po w0 pc L (v :: st) w k n := by
  subst hq; exact r_of (fun _ _ _ _ _ _ _ _ _ _ _ _ _ _ _ _ hx hb hl k => lv_pop hx hb hd hc k) kk
theorem r_dup2 {v u : Value} (hd : decode (mC M) pc = .ok (.dup2, 1)) (hc : v.category = 1) (hc2 : u.category = 1) (hq : pc + 1 = q) (kk : WF M E Po w0 q L (v :: u :: v :: u :: st) w k n) : WF M E Po w0 pc L (v :: u :: st) w k n := by
  subst hq; exact r_of (fun _ _ _ _ _ _ _ _ _ _ _ _ _ _ _ _ hx hb hl k => lv_dup2_11 hx hb hd hc hc2 k) kk
theorem r_dup_x1 {v u : Value} (hd : decode (mC M) pc = .ok (.dup_x1, 1)) (hc : v.category = 1) (hc2 : u.category = 1) (hq : pc + 1 = q) (kk : WF M E Po w0 q L (v :: u :: v :: st) w k n) : WF M E Po w0 pc L (v :: u :: st) w k n := by
  subst hq; exact r_of (fun _ _ _ _ _ _ _ _ _ _ _ _ _ _ _ _ hx hb hl k => lv_dup_x1 hx hb hd hc hc2 k) kk
theorem r_goto {off : Int} (hd : decode (mC M) pc = .ok (.goto off, 3)) (ht : (pc : Int) + off = (q : Int)) (kk : WF M E Po w0 q L st w k n) : WF M E Po w0 pc L st w k n := r_of (fun _ _ _ _ _ _ _ _ _ _ _ _ _ _ _ _ hx hb hl k => lv_goto hx hb hd ht k) kk
theorem r_if_eq {q2 : Nat} {off : Int} {x : Int32} (hd : decode (mC M) pc = .ok (.ifCond .eq off, 3)) (ht : (pc : Int) + off = (q : Int)) (hq : pc + 3 = q2) (kt : x = 0 → WF M E Po w0 q L st w k n) (kf : ¬ x = 0 → WF M E Po w0 q2 L st w k n) : WF M E Po w0 pc L (.int x :: st) w k n := by
  subst hq; exact r_of2 (fun _ _ _ _ _ _ _ _ _ _ _ _ _ _ _ _ hx hb kt kf => lv_if_eq hx hb hd ht kt kf) kt kf
theorem r_if_ne {q2 : Nat} {off : Int} {x : Int32} (hd : decode (mC M) pc = .ok (.ifCond .ne off, 3)) (ht : (pc : Int) + off = (q : Int)) (hq : pc + 3 = q2) (kt : ¬ x = 0 → WF M E Po w0 q L st w k n) (kf : x = 0 → WF M E Po w0 q2 L st w k n) : WF M E Po w0 pc L (.int x :: st) w k n := by
  subst hq; exact r_of2 (fun _ _ _ _ _ _ _ _ _ _ _ _ _ _ _ _ hx hb kt kf => lv_if_ne hx hb hd ht kt kf) kt kf
theorem r_if_lt {q2 : Nat} {off : Int} {x : Int32} (hd : decode (mC M) pc = .ok (.ifCond .lt off, 3)) (ht : (pc : Int) + off = (q : Int)) (hq : pc + 3 = q2) (kt : x < 0 → WF M E Po w0 q L st w k n) (kf : ¬ x < 0 → WF M E Po w0 q2 L st w k n) : WF M E Po w0 pc L (.int x :: st) w k n := by
  subst hq; exact r_of2 (fun _ _ _ _ _ _ _ _ _ _ _ _ _ _ _ _ hx hb kt kf => lv_if_lt hx hb hd ht kt kf) kt kf
theorem r_if_ge {q2 : Nat} {off : Int} {x : Int32} (hd : decode (mC M) pc = .ok (.ifCond .ge off, 3)) (ht : (pc : Int) + off = (q : Int)) (hq : pc + 3 = q2) (kt : 0 ≤ x → WF M E Po w0 q L st w k n) (kf : ¬ 0 ≤ x → WF M E Po w0 q2 L st w k n) : WF M E Po w0 pc L (.int x :: st) w k n := by
  subst hq; exact r_of2 (fun _ _ _ _ _ _ _ _ _ _ _ _ _ _ _ _ hx hb kt kf => lv_if_ge hx hb hd ht kt kf) kt kf
theorem r_if_gt {q2 : Nat} {off : Int} {x : Int32} (hd : decode (mC M) pc = .ok (.ifCond .gt off, 3)) (ht : (pc : Int) + off = (q : Int)) (hq : pc + 3 = q2) (kt : 0 < x → WF M E Po w0 q L st w k n) (kf : ¬ 0 < x → WF M E Po w0 q2 L st w k n) : WF M E Po w0 pc L (.int x :: st) w k n := by
  subst hq; exact r_of2 (fun _ _ _ _ _ _ _ _ _ _ _ _ _ _ _ _ hx hb kt kf => lv_if_gt hx hb hd ht kt kf) kt kf
theorem r_if_le {q2 : Nat} {off : Int} {x : Int32} (hd : decode (mC M) pc = .ok (.ifCond .le off, 3)) (ht : (pc : Int) + off = (q : Int)) (hq : pc + 3 = q2) (kt : x ≤ 0 → WF M E Po w0 q L st w k n) (kf : ¬ x ≤ 0 → WF M E Po w0 q2 L st w k n) : WF M E Po w0 pc L (.int x :: st) w k n := by
  subst hq; exact r_of2 (fun _ _ _ _ _ _ _ _ _ _ _ _ _ _ _ _ hx hb kt kf => lv_if_le hx hb hd ht kt kf) kt kf
theorem r_icmp_eq {q2 : Nat} {off : Int} {x y : Int32} (hd : decode (mC M) pc = .ok (.if_icmp .eq off, 3)) (ht : (pc : Int) + off = (q : Int)) (hq : pc + 3 = q2) (kt : x = y → WF M E Po w0 q L st w k n) (kf : ¬ x = y → WF M E Po w0 q2 L st w k n) : WF M E Po w0 pc L (.int y :: .int x :: st) w k n := by
  subst hq; exact r_of2 (fun _ _ _ _ _ _ _ _ _ _ _ _ _ _ _ _ hx hb kt kf => lv_icmp_eq hx hb hd ht kt kf) kt kf
theorem r_icmp_ne {q2 : Nat} {off : Int} {x y : Int32} (hd : decode (mC M) pc = .ok (.if_icmp .ne off, 3)) (ht : (pc : Int) + off = (q : Int)) (hq : pc + 3 = q2) (kt : ¬ x = y → WF M E Po w0 q L st w k n) (kf : x = y → WF M E Po w0 q2 L st w k n) : WF M E Po w0 pc L (.int y :: .int x :: st) w k n := by
  subst hq; exact r_of2 (fun _ _ _ _ _ _ _ _ _ _ _ _ _ _ _ _ hx hb kt kf => lv_icmp_ne hx hb hd ht kt kf) kt kf
theorem r_icmp_lt {q2 : Nat} {off : Int} {x y : Int32} (hd : decode (mC M) pc = .ok (.if_icmp .lt off, 3)) (ht : (pc : Int) + off = (q : Int)) (hq : pc + 3 = q2) (kt : x < y → WF M E Po w0 q L st w k n) (kf : ¬ x < y → WF M E Po w0 q2 L st w k n) : WF M E Po w0 pc L (.int y :: .int x :: st) w k n := by
  subst hq; exact r_of2 (fun _ _ _ _ _ _ _ _ _ _ _ _ _ _ _ _ hx hb kt kf => lv_icmp_lt hx hb hd ht kt kf) kt kf
theorem r_icmp_ge {q2 : Nat} {off : Int} {x y : Int32} (hd : decode (mC M) pc = .ok (.if_icmp .ge off, 3)) (ht : (pc : Int) + off = (q : Int)) (hq : pc + 3 = q2) (kt : y ≤ x → WF M E Po w0 q L st w k n) (kf : ¬ y ≤ x → WF M E Po w0 q2 L st w k n) : WF M E Po w0 pc L (.int y :: .int x :: st) w k n := by
  subst hq; exact r_of2 (fun _ _ _ _ _ _ _ _ _ _ _ _ _ _ _ _ hx hb kt kf => lv_icmp_ge hx hb hd ht kt kf) kt kf
theorem r_icmp_gt {q2 : Nat} {off : Int} {x y : Int32} (hd : decode (mC M) pc = .ok (.if_icmp .gt off, 3)) (ht : (pc : Int) + off = (q : Int)) (hq : pc + 3 = q2) (kt : y < x → WF M E Po w0 q L st w k n) (kf : ¬ y < x → WF M E Po w0 q2 L st w k n) : WF M E Po w0 pc L (.int y :: .int x :: st) w k n := by
  subst hq; exact r_of2 (fun _ _ _ _ _ _ _ _ _ _ _ _ _ _ _ _ hx hb kt kf => lv_icmp_gt hx hb hd ht kt kf) kt kf
theorem r_icmp_le {q2 : Nat} {off : Int} {x y : Int32} (hd : decode (mC M) pc = .ok (.if_icmp .le off, 3)) (ht : (pc : Int) + off = (q : Int)) (hq : pc + 3 = q2) (kt : x ≤ y → WF M E Po w0 q L st w k n) (kf : ¬ x ≤ y → WF M E Po w0 q2 L st w k n) : WF M E Po w0 pc L (.int y :: .int x :: st) w k n := by
  subst hq; exact r_of2 (fun _ _ _ _ _ _ _ _ _ _ _ _ _ _ _ _ hx hb kt kf => lv_icmp_le hx hb hd ht kt kf) kt kf
theorem r_ifnull {x : Nat} {off : Int} (hd : decode (mC M) pc = .ok (.ifnull off, 3))  (hq : pc + 3 = q) (kk : WF M E Po w0 q L (st) w k n) : WF M E Po w0 pc L (.ref x :: st) w k n := by
  subst hq; exact r_of (fun _ _ _ _ _ _ _ _ _ _ _ _ _ _ _ _ hx hb hl k => lv_ifnull hx hb hd k) kk
theorem r_ifnonnullN {off : Int} (hd : decode (mC M) pc = .ok (.ifnonnull off, 3))  (hq : pc + 3 = q) (kk : WF M E Po w0 q L (st) w k n) : WF M E Po w0 pc L (.null :: st) w k n := by
  subst hq; exact r_of (fun _ _ _ _ _ _ _ _ _ _ _ _ _ _ _ _ hx hb hl k => lv_ifnonnullN hx hb hd k) kk
theorem r_ifnonnull {x : Nat} {off : Int} (hd : decode (mC M) pc = .ok (.ifnonnull off, 3)) (ht : (pc : Int) + off = (q : Int)) (kk : WF M E Po w0 q L st w k n) : WF M E Po w0 pc L (.ref x :: st) w k n := r_of (fun _ _ _ _ _ _ _ _ _ _ _ _ _ _ _ _ hx hb hl k => lv_ifnonnull hx hb hd ht k) kk
theorem r_ifnullN {off : Int} (hd : decode (mC M) pc = .ok (.ifnull off, 3)) (ht : (pc : Int) + off = (q : Int)) (kk : WF M E Po w0 q L st w k n) : WF M E Po w0 pc L (.null :: st) w k n := r_of (fun _ _ _ _ _ _ _ _ _ _ _ _ _ _ _ _ hx hb hl k => lv_ifnullN hx hb hd ht k) kk
theorem r_tableIn {dflt lo hi : Int} {offs : Array Int} {len : Nat} {x : Int32} {off : Int} (hd : decode (mC M) pc = .ok (.tableswitch dflt lo hi offs, len)) (h1 : ¬ x.toInt < lo) (h2 : ¬ hi < x.toInt) (ho : offs[(x.toInt - lo).toNat]? = some off) (ht : (pc : Int) + off = (q : Int)) (kk : WF M E Po w0 q L st w k n) : WF M E Po w0 pc L (.int x :: st) w k n := r_of (fun _ _ _ _ _ _ _ _ _ _ _ _ _ _ _ _ hx hb hl k => lv_tableIn hx hb hd h1 h2 ho ht k) kk
theorem r_tableOut {dflt lo hi : Int} {offs : Array Int} {len : Nat} {x : Int32} (hd : decode (mC M) pc = .ok (.tableswitch dflt lo hi offs, len)) (h : x.toInt < lo ∨ hi < x.toInt) (ht : (pc : Int) + dflt = (q : Int)) (kk : WF M E Po w0 q L st w k n) : WF M E Po w0 pc L (.int x :: st) w k n := r_of (fun _ _ _ _ _ _ _ _ _ _ _ _ _ _ _ _ hx hb hl k => lv_tableOut hx hb hd h ht k) kk
theorem r_istore_n {i : Nat} {j : Fin 4} {x : Int32} (hd : decode (mC M) pc = .ok (.istore_n j, 1)) (hj : (j : Nat) = i) (hi : i < mL M) (h1 : xOne L i) (hq : pc + 1 = q) (kk : WF M E Po w0 q (L.set i (some (.int x))) st w k n) : WF M E Po w0 pc L (.int x :: st) w k n := by
  subst hq
  intro p l e s m args below meth c H locs ls C hP hs hS hl
  exact lv_istore_n C.1 C.2.1 hd hj hl.has hi rfl (fun ls2 h2 => kk p l e s m args below meth c H locs ls2 C hP hs hS (xL.of h1 h2))
theorem r_istore {i : Nat} {x : Int32} (hd : decode (mC M) pc = .ok (.istore i, 2)) (hi : i < mL M) (h1 : xOne L i) (hq : pc + 2 = q) (kk : WF M E Po w0 q (L.set i (some (.int x))) st w k n) : WF M E Po w0 pc L (.int x :: st) w k n := by
  subst hq
  intro p l e s m args below meth c H locs ls C hP hs hS hl
  exact lv_istore C.1 C.2.1 hd hl.has hi rfl (fun ls2 h2 => kk p l e s m args below meth c H locs ls2 C hP hs hS (xL.of h1 h2))
theorem r_astore_n {i : Nat} {j : Fin 4} {x : Nat} (hd : decode (mC M) pc = .ok (.astore_n j, 1)) (hj : (j : Nat) = i) (hi : i < mL M) (h1 : xOne L i) (hq : pc + 1 = q) (kk : WF M E Po w0 q (L.set i (some (.ref x))) st w k n) : WF M E Po w0 pc L (.ref x :: st) w k n := by
  subst hq
  intro p l e s m args below meth c H locs ls C hP hs hS hl
  exact lv_astore_n C.1 C.2.1 hd hj hl.has hi rfl (fun ls2 h2 => kk p l e s m args below meth c H locs ls2 C hP hs hS (xL.of h1 h2))
theorem r_astore {i : Nat} {x : Nat} (hd : decode (mC M) pc = .ok (.astore i, 2)) (hi : i < mL M) (h1 : xOne L i) (hq : pc + 2 = q) (kk : WF M E Po w0 q (L.set i (some (.ref x))) st w k n) : WF M E Po w0 pc L (.ref x :: st) w k n := by
  subst hq
  intro p l e s m args below meth c H locs ls C hP hs hS hl
  exact lv_astore C.1 C.2.1 hd hl.has hi rfl (fun ls2 h2 => kk p l e s m args below meth c H locs ls2 C hP hs hS (xL.of h1 h2))
theorem r_astore_nN {i : Nat} {j : Fin 4}  (hd : decode (mC M) pc = .ok (.astore_n j, 1)) (hj : (j : Nat) = i) (hi : i < mL M) (h1 : xOne L i) (hq : pc + 1 = q) (kk : WF M E Po w0 q (L.set i (some (.null))) st w k n) : WF M E Po w0 pc L (.null :: st) w k n := by
  subst hq
  intro p l e s m args below meth c H locs ls C hP hs hS hl
  exact lv_astore_nN C.1 C.2.1 hd hj hl.has hi rfl (fun ls2 h2 => kk p l e s m args below meth c H locs ls2 C hP hs hS (xL.of h1 h2))
theorem r_astoreN {i : Nat}  (hd : decode (mC M) pc = .ok (.astore i, 2)) (hi : i < mL M) (h1 : xOne L i) (hq : pc + 2 = q) (kk : WF M E Po w0 q (L.set i (some (.null))) st w k n) : WF M E Po w0 pc L (.null :: st) w k n := by
  subst hq
  intro p l e s m args below meth c H locs ls C hP hs hS hl
  exact lv_astoreN C.1 C.2.1 hd hl.has hi rfl (fun ls2 h2 => kk p l e s m args below meth c H locs ls2 C hP hs hS (xL.of h1 h2))
theorem r_iinc {i : Nat} {d : Int} {x : Int32} (hd : decode (mC M) pc = .ok (.iinc i d, 3)) (hv : L[i]? = some (some (.int x))) (hi : i < mL M) (h1 : xOne L i) (hq : pc + 3 = q) (kk : WF M E Po w0 q (L.set i (some (.int (x + Int32.ofInt d)))) st w k n) : WF M E Po w0 pc L st w k n := by
  subst hq
  intro p l e s m args below meth c H locs ls C hP hs hS hl
  obtain ⟨j, hj⟩ := List.getElem?_of_mem (xL.mem hv)
  exact lv_iinc C.1 C.2.1 hd hl.has hj rfl hi rfl (fun ls2 h2 => kk p l e s m args below meth c H locs ls2 C hP hs hS (xL.of h1 h2))
end XRULES
