/-! ===== 52p.pure: the pure picture that the hours and commands are held against (out of the whole's 35 to 43; laid by wip/p39/gen/pure.py) ===== -/
/-- torn seams counted one by one -/
def tmS (x : Int32) : Nat → Int32
  | 0 => 0
  | n + 1 => tmS x n + (if x >>> (nI n &&& 31) &&& 1 = 0 then 0 else 1)
/-- the first row of a tub, a tent -/
def rowT (d : xCo) (j : Nat) (z : Int32) (n : Nat) : xCo := (d.1, (fun a k => if a = j ∧ k < n then (if k = 0 then z else if k = 1 then -1 else 0) else d.2.1 a k), d.2.2)
def rowU (d : xCo) (j : Nat) (z : Int32) (n : Nat) : xCo := (d.1, d.2.1, (fun a k => if a = j ∧ k < n then (if k = 0 then z else if k = 1 then -1 else if k = 2 then -1 else 0) else d.2.2.1 a k), d.2.2.2)
/-- outcomes: 0 and the answer; -1 refused, -2 missing, -3 out of range -/
abbrev mOc : Type := Int32 × Int32 × xCo
def mTub (d : xCo) (z : Int32) : mOc := if z < 1 ∨ 3 < z then (-3, 0, d) else if d.1 1 = 8 then (-1, 0, cR d 1 8) else (0, d.1 1, cS (rowT d (d.1 1).toNatClampNeg z 7) 1 (d.1 1 + 1))
def mTent (d : xCo) (z : Int32) : mOc := if z < 0 ∨ 9 < z then (-3, 0, d) else if d.1 2 = 5 then (-1, 0, cR d 1 5) else (0, d.1 2, cS (rowU d (d.1 2).toNatClampNeg z 11) 2 (d.1 2 + 1))
def mHeater (d : xCo) : mOc := if d.1 3 = 4 then (-1, 0, cR d 1 4) else (0, d.1 3, cS (cG (cG d (d.1 3).toNatClampNeg 0 20) (d.1 3).toNatClampNeg 1 (-1)) 3 (d.1 3 + 1))
def mTear (d : xCo) (x s : Int32) : mOc := if okT d x then (if s < 0 ∨ 8 ≤ s then (-2, 0, d) else (0, tmS (d.2.1 x.toNatClampNeg 2 ||| (1 : Int32) <<< (s &&& 31)) 8, cT d x.toNatClampNeg 2 (d.2.1 x.toNatClampNeg 2 ||| (1 : Int32) <<< (s &&& 31)))) else (-2, 0, d)
def mMend (d : xCo) (x s : Int32) : mOc := if okT d x then (if s < 0 ∨ 8 ≤ s then (-2, 0, d) else if d.2.1 x.toNatClampNeg 2 >>> (s &&& 31) &&& 1 = 0 then (-1, 0, cR d 11 s) else if d.2.1 x.toNatClampNeg 3 ≤ 0 then (if 2 ≤ d.1 7 then (0, tmS (d.2.1 x.toNatClampNeg 2 &&& ((1 : Int32) <<< (s &&& 31) ^^^ -1)) 8, cT (cS d 7 (d.1 7 - 2)) x.toNatClampNeg 2 (d.2.1 x.toNatClampNeg 2 &&& ((1 : Int32) <<< (s &&& 31) ^^^ -1))) else (-1, 0, cR d 12 (2 - d.1 7))) else (-1, 0, cR d 14 (d.2.1 x.toNatClampNeg 3))) else (-2, 0, d)
def mOut (d : xCo) (x u : Int32) : mOc := if okT d x then (if okU d u then (if d.2.1 x.toNatClampNeg 1 < 0 then (if d.2.1 x.toNatClampNeg 2 = 0 then (if d.2.2.1 u.toNatClampNeg 1 < 0 then (0, d.1 7 + 2 * d.2.1 x.toNatClampNeg 0, cU (cT (cT (cT (cS d 7 (d.1 7 + 2 * d.2.1 x.toNatClampNeg 0)) x.toNatClampNeg 1 u) x.toNatClampNeg 3 0) x.toNatClampNeg 5 0) u.toNatClampNeg 1 x) else (-1, 0, cR d 4 (d.2.2.1 u.toNatClampNeg 1))) else (-1, 0, cR d 3 (tfS (d.2.1 x.toNatClampNeg 2) 8 0))) else (-1, 0, cR d 2 (d.2.1 x.toNatClampNeg 1))) else (-2, 0, d)) else (-2, 0, d)
def mBack (d : xCo) (x : Int32) : mOc := if okT d x then (if 0 ≤ d.2.1 x.toNatClampNeg 1 then (0, d.2.1 x.toNatClampNeg 3, cU (cT (cT (cT d x.toNatClampNeg 1 (-1)) x.toNatClampNeg 3 0) x.toNatClampNeg 5 0) (d.2.1 x.toNatClampNeg 1).toNatClampNeg 1 (-1)) else (-1, 0, cR d 5 x)) else (-2, 0, d)
def mJoin (d : xCo) (x : Int32) : mOc := if okU d x then (if d.2.2.1 x.toNatClampNeg 4 = 6 then (-1, 0, cR d 1 6) else if 0 ≤ d.2.2.1 x.toNatClampNeg 1 then (if d.1 4 = 0 then (-1, 0, cR d 10 (d.1 5)) else (0, d.1 8 + 1 - 1, cS (cU (cU (cS d 4 (d.1 4 - 1)) x.toNatClampNeg (5 + (d.2.2.1 x.toNatClampNeg 4).toNatClampNeg) (d.1 8)) x.toNatClampNeg 4 (d.2.2.1 x.toNatClampNeg 4 + 1)) 8 (d.1 8 + 1))) else (-1, 0, cR d 6 x)) else (-2, 0, d)
def mHeat (d : xCo) (h u : Int32) : mOc := if okG d h then (if okU d u then (if d.2.2.2 h.toNatClampNeg 1 < 0 then (if d.2.2.1 u.toNatClampNeg 2 < 0 then (0, d.2.2.2 h.toNatClampNeg 0, cU (cG d h.toNatClampNeg 1 u) u.toNatClampNeg 2 h) else (-1, 0, cR d 8 (d.2.2.1 u.toNatClampNeg 2))) else (-1, 0, cR d 7 (d.2.2.2 h.toNatClampNeg 1))) else (-2, 0, d)) else (-2, 0, d)
def mCold (d : xCo) (h : Int32) : mOc := if okG d h then (if 0 ≤ d.2.2.2 h.toNatClampNeg 1 then (0, d.2.2.2 h.toNatClampNeg 1, cU (cG d h.toNatClampNeg 1 (-1)) (d.2.2.2 h.toNatClampNeg 1).toNatClampNeg 2 (-1)) else (-1, 0, cR d 9 h)) else (-2, 0, d)
def mGas (d : xCo) (h x : Int32) : mOc := if okG d h then (if x < 1 ∨ 12 < x then (-3, 0, d) else if x ≤ d.1 7 then (0, mn 60 (d.2.2.2 h.toNatClampNeg 0 + 5 * x), cG (cS d 7 (d.1 7 - x)) h.toNatClampNeg 0 (mn 60 (d.2.2.2 h.toNatClampNeg 0 + 5 * x))) else (-1, 0, cR d 12 (x - d.1 7))) else (-2, 0, d)
def mWash (d : xCo) (x : Int32) : mOc := if x < 1 ∨ 20 < x then (-3, 0, d) else if mn x (d.1 5) = 0 then (-1, 0, cR d 13 0) else if mn x (d.1 5) ≤ d.1 7 then (0, mn x (d.1 5), cS (cS (cS d 7 (d.1 7 - mn x (d.1 5))) 5 (d.1 5 - mn x (d.1 5))) 4 (d.1 4 + mn x (d.1 5))) else (-1, 0, cR d 12 (mn x (d.1 5) - d.1 7))
def mSoap (d : xCo) (x : Int32) : mOc := if x < 1 ∨ 20 < x then (-3, 0, d) else if mn x (99 - d.1 6) ≤ d.1 7 then (0, d.1 6 + mn x (99 - d.1 6), cS (cS d 7 (d.1 7 - mn x (99 - d.1 6))) 6 (d.1 6 + mn x (99 - d.1 6))) else (-1, 0, cR d 12 (mn x (99 - d.1 6) - d.1 7))
def mbA (d : xCo) (v : Int32) : xCo := cS (cS (cS (cS d 6 (d.1 6 - 1)) 7 ((cS d 6 (d.1 6 - 1)).1 7 + v)) 5 (d.1 5 + 1)) 9 (d.1 9 + 1)
def mbB (d : xCo) (u : Nat) : xCo := cU (cSh (cU d u 3 (d.2.2.1 u 3 + 1)) u) u 4 ((cSh (cU d u 3 (d.2.2.1 u 3 + 1)) u).2.2.1 u 4 - 1)
def mbD (d : xCo) (j : Nat) : xCo := if d.2.1 j 6 - d.2.1 j 6 / 4 * 4 = 0 then cT d j 2 (d.2.1 j 2 ||| (1 : Int32) <<< ((nI j + d.2.1 j 6 - (nI j + d.2.1 j 6) / 8 * 8) &&& 31)) else d
def mBth (d : xCo) (u j : Nat) : xCo := mbD (bthC (mbB (mbA d (if d.2.1 j 4 < 45 then 3 else 4)) u) j) j
def mCl (g : xCo) (j : Nat) (wm : Int32) : xCo := cT g j 4 (mx 10 (wm - 1))
def mTl (g : xCo) (u j : Nat) (wm : Int32) : xCo := if g.2.2.1 u 2 < 0 then mCl g j wm else if g.2.2.2 (g.2.2.1 u 2).toNatClampNeg 0 ≤ 0 then mCl g j wm else if 60 ≤ wm then mCl g j wm else cT (cG g (g.2.2.1 u 2).toNatClampNeg 0 (g.2.2.2 (g.2.2.1 u 2).toNatClampNeg 0 - 1)) j 4 (mn 60 (wm + 12 / g.2.1 j 0))
def mH2 (g : xCo) (u j : Nat) (lt al wm : Int32) : Int32 × xCo := if g.2.1 j 5 = 1 then (0, if mx 0 (lt - 20 - 10 * g.2.2.1 u 0) = 0 then cT (cT g j 3 (mx 0 (lt - 20 - 10 * g.2.2.1 u 0))) j 5 0 else cT (cT g j 3 (mx 0 (lt - 20 - 10 * g.2.2.1 u 0))) j 5 1) else if al ≤ lt then (if wm < 38 then (0, mTl g u j wm) else if g.2.2.1 u 4 ≤ 0 then (0, mTl g u j wm) else if g.1 6 ≤ 0 then (0, mTl g u j wm) else (1, mBth g u j)) else (0, cT (cT g j 4 (if lt = 0 then 10 else mx 10 (wm - 5))) j 3 al)
def gtL (d : xCo) (j : Nat) : Int32 := mx 0 (d.2.1 j 3 - 5 * tmS (d.2.1 j 2) 8)
def mHr (d : xCo) (u j : Nat) : Int32 × xCo := mH2 (cT d j 3 (gtL d j)) u j (gtL d j) (100 * d.2.1 j 0) (d.2.1 j 4)
def mhF : Nat → Nat → Int32 → xCo → Int32 × xCo
  | 0, _, a, c => (a, c)
  | n + 1, i, a, c => if c.2.2.1 i 1 < 0 then mhF n (i + 1) (a + 0) c else mhF n (i + 1) (a + (mHr c i (c.2.2.1 i 1).toNatClampNeg).1) (mHr c i (c.2.2.1 i 1).toNatClampNeg).2
def mHour (d : xCo) : Int32 × xCo := mhF (d.1 2).toNatClampNeg 0 0 (cS d 0 (d.1 0 + 1))
def mpF : Nat → Int32 → xCo → Int32 × xCo
  | 0, a, c => (a, c)
  | n + 1, a, c => mpF n (a + (mHour c).1) (mHour c).2
def mPass (d : xCo) (x : Int32) : mOc := if x < 1 ∨ 48 < x then (-3, 0, d) else (0, (mpF x.toNatClampNeg 0 d).1, (mpF x.toNatClampNeg 0 d).2)
def mDo (d : xCo) (c : Nat) (a b : Int32) : mOc := if c = 0 then mOut d a b else if c = 1 then mBack d a else if c = 2 then mHeat d a b else if c = 3 then mCold d a else if c = 4 then mJoin d a else if c = 5 then mMend d a b else if c = 6 then mWash d a else if c = 7 then mSoap d a else mPass d a
