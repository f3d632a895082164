def mLive (M : gS) (x : Int32) : Bool := decide (0 ≤ x) && decide (x ≤ 4) && decide (M 50 (tN x) 0 = 1)
def mOwns (M : gS) (x p : Int32) : Bool := decide (0 ≤ p) && decide (p ≤ 19) && decide (M 51 (tN p) 0 = x + 1)
def mCnt (M : gS) (x : Int32) : Int32 := cntb (fun p => decide (M 51 p 0 = x + 1)) 20 0 0
def mFpg (M : gS) : Int32 := ffst (fun p => decide (M 51 p 0 = 0)) 20 0
def mFe (M : gS) (a : Nat) : Int32 := ffst (fun r => decide (M 53 (6 * a + r) 0 = 0)) 6 0
def mFh (M : gS) (a : Nat) : Int32 := ffst (fun h => decide (M 56 (5 * a + h) 0 = 0)) 5 0
def mFq (M : gS) (a : Nat) : Int32 := ffst (fun k => decide (M 58 (4 * a + k) 0 = 0)) 4 0
def mMps (M : gS) (e : Nat) : Int32 := cntb (fun h => decide (M 56 h 0 = nI (e + 1))) 25 0 0
def mHeld (M : gS) (a : Nat) (p : Int32) (b : Bool) : Bool := anyb (fun e => decide (0 < M 53 e 0) && decide (M 54 e 0 < 2) && decide (M 55 e 0 = p) && (!b || decide (0 < mMps M e))) 6 (6 * a)
def mCreate (M : gS) : Int32 × gS := fstS (fun d => decide (M 50 d 0 = 0)) (fun d => gup M 50 d 0 1) (-7) M 5 0
def mTk0 (M : gS) (e : Nat) : gS := if mHeld M (e / 6) (M 55 e 0) true = true then M else gup M 51 (tN (M 55 e 0)) 0 0
def mTk3 (M : gS) (a : Nat) : gS := if mCnt M (nI a) = 0 then gup M 50 a 0 0 else M
def mTk2 (M : gS) (e : Nat) : gS := if ¬ M 50 (e / 6) 0 = 2 ∨ 0 < mMps M e then M else mTk3 (mTk0 (gup M 53 e 0 0) e) (e / 6)
def mTk (M : gS) (h e : Nat) : gS := mTk2 (gup M 56 h 0 0) e
def mE (M : gS) (h : Nat) : Nat := tN (M 56 h 0 - 1)
def mCls (M : gS) (k : Nat) : gS := gup (gup M 58 k 0 0) 60 k 0 0
def mDe1 (M : gS) (a : Nat) : gS := lpS (fun v Z => if 0 < Z 61 v 0 ∧ (Z 61 v 0 = nI (a + 1) ∨ Z 62 v 0 = nI a) then gup Z 61 v 0 0 else Z) 3 0 M
def mDe2 (M : gS) (a : Nat) : gS := lpS (fun h Z => if 0 < Z 56 h 0 then mTk Z h (mE Z h) else Z) 5 (5 * a) M
def mCl1 (M : gS) (k : Nat) : gS := if M 58 k 0 = 2 then mCls M (tN (M 59 k 0)) else M
def mDe3 (M : gS) (a : Nat) : gS := lpS (fun k Z => mCls (mCl1 Z k) k) 4 (4 * a) M
def mDe4 (M : gS) (a : Nat) : gS := lpS (fun e Z => if mMps Z e = 0 then gup Z 53 e 0 0 else Z) 6 (6 * a) M
def mDe5 (M : gS) (a : Nat) : gS := lpS (fun p Z => if mOwns Z (nI a) (nI p) = true ∧ mHeld Z a (nI p) true = false then gup Z 51 p 0 0 else Z) 20 0 M
def mDe6 (M : gS) (a : Nat) : gS := gup M 50 a 0 (if 0 < mCnt M (nI a) then 2 else 0)
def mDestroy (M : gS) (x : Int32) : Int32 × gS := if mLive M x = true then (0, mDe6 (mDe5 (mDe4 (mDe3 (mDe2 (mDe1 M (tN x)) (tN x)) (tN x)) (tN x)) (tN x)) (tN x)) else (-1, M)
def mWipe (M : gS) (p : Nat) : gS := lpS (fun w Z => gup Z 52 (8 * p + w) 0 0) 8 0 M
def mAlloc (M : gS) (x : Int32) : Int32 × gS := if mLive M x = true then (if mFpg M < 0 ∨ 6 ≤ mCnt M x then (-7, M) else (mFpg M, mWipe (gup M 51 (tN (mFpg M)) 0 (x + 1)) (tN (mFpg M)))) else (-1, M)
def mFree (M : gS) (x p : Int32) : Int32 × gS := if mLive M x = true then (if mOwns M x p = true then (if mHeld M (tN x) p false = true then (-4, M) else (0, gup M 51 (tN p) 0 0)) else (-3, M)) else (-1, M)
def mGr1 (M : gS) (e : Nat) (t k p : Int32) : gS := gup (gup (gup M 53 e 0 (t + 1)) 54 e 0 k) 55 e 0 p
def mGrant (M : gS) (x t p k : Int32) : Int32 × gS := if mLive M x = true then (if t < 0 ∨ 4 < t ∨ t = x ∨ k < 0 ∨ 2 < k then (-2, M) else (if k < 2 ∧ mOwns M x p = false then (-3, M) else (if mFe M (tN x) < 0 then (-7, M) else (mFe M (tN x), mGr1 M (6 * tN x + tN (mFe M (tN x))) t k (if k < 2 then p else 0))))) else (-1, M)
def mEnt (M : gS) (a : Nat) (r : Int32) : Int32 := if r < 0 ∨ 5 < r ∨ M 53 (6 * a + tN r) 0 = 0 then -1 else nI (6 * a + tN r)
def mEnd (M : gS) (x r : Int32) : Int32 × gS := if mLive M x = true then (if mEnt M (tN x) r < 0 then (-5, M) else (if 0 < mMps M (tN (mEnt M (tN x) r)) then (-4, M) else (0, gup M 53 (tN (mEnt M (tN x) r)) 0 0))) else (-1, M)
def mMp1 (M : gS) (h e : Nat) (w : Bool) : gS := gup (gup M 56 h 0 (nI (e + 1))) 57 h 0 (bI w)
def mMap (M : gS) (x f r : Int32) (w : Bool) : Int32 × gS := if mLive M x = true ∧ mLive M f = true then (if mEnt M (tN f) r < 0 ∨ M 54 (tN (mEnt M (tN f) r)) 0 = 2 ∨ ¬ M 53 (tN (mEnt M (tN f) r)) 0 = x + 1 then (-5, M) else (if w = true ∧ M 54 (tN (mEnt M (tN f) r)) 0 = 0 then (-6, M) else (if mFh M (tN x) < 0 then (-7, M) else (mFh M (tN x), mMp1 M (5 * tN x + tN (mFh M (tN x))) (tN (mEnt M (tN f) r)) w)))) else (-1, M)
def mUnmap (M : gS) (x h : Int32) : Int32 × gS := if mLive M x = true then (if h < 0 ∨ 4 < h ∨ M 56 (5 * tN x + tN h) 0 = 0 then (-5, M) else (0, mTk M (5 * tN x + tN h) (mE M (5 * tN x + tN h)))) else (-1, M)
def mGive (M : gS) (x p t r : Int32) : Int32 × gS := if mLive M x = true ∧ mLive M t = true then (if mOwns M x p = true then (if mHeld M (tN x) p false = true then (-4, M) else (if mEnt M (tN t) r < 0 ∨ ¬ M 54 (tN (mEnt M (tN t) r)) 0 = 2 ∨ ¬ M 53 (tN (mEnt M (tN t) r)) 0 = x + 1 then (-5, M) else (if 6 ≤ mCnt M t then (-7, M) else (0, gup (gup M 51 (tN p) 0 (t + 1)) 53 (tN (mEnt M (tN t) r)) 0 0)))) else (-3, M)) else (-1, M)
def orb (p : Nat → Bool) : Nat → Nat → Bool → Bool
  | 0, _, c => c
  | n + 1, i, c => orb p n (i + 1) (c || p i)
def mMay (M : gS) (a : Nat) (p : Int32) (s : Bool) : Bool := orb (fun h => decide (0 < M 56 h 0) && decide (M 55 (mE M h) 0 = p) && (!decide (M 57 h 0 = 0) || !s)) 5 (5 * a) (mOwns M (nI a) p)
def mRef (M : gS) (x p w : Int32) (s : Bool) : Int32 := if mLive M x = true then (if p < 0 ∨ 19 < p ∨ w < 0 ∨ 7 < w then -2 else (if mMay M (tN x) p s = true then 0 else -3)) else -1
def mStore (M : gS) (x p w v : Int32) : Int32 × gS := if mRef M x p w true = 0 then (0, gup M 52 (8 * tN p + tN w) 0 v) else (mRef M x p w true, M)
def mPl (v : Int32) : Int64 := if v < 0 then v.toInt64 + 4294967296 else v.toInt64
def mLoad (M : gS) (x p w : Int32) : Int64 := if mRef M x p w false < 0 then (mRef M x p w false).toInt64 else mPl (M 52 (8 * tN p + tN w) 0)
def mOpen (M : gS) (x t : Int32) : Int32 × gS := if mLive M x = true then (if t < 0 ∨ 4 < t ∨ t = x then (-2, M) else (if mFq M (tN x) < 0 then (-7, M) else (mFq M (tN x), gup (gup M 58 (4 * tN x + tN (mFq M (tN x))) 0 1) 59 (4 * tN x + tN (mFq M (tN x))) 0 t))) else (-1, M)
def mBd1 (M : gS) (k : Nat) (j : Int32) : gS := gup (gup M 58 k 0 2) 59 k 0 j
def mBind (M : gS) (x t k : Int32) : Int32 × gS := if mLive M x = true ∧ mLive M t = true then (if k < 0 ∨ 3 < k ∨ ¬ M 58 (4 * tN t + tN k) 0 = 1 ∨ ¬ M 59 (4 * tN t + tN k) 0 = x then (-8, M) else (if mFq M (tN x) < 0 then (-7, M) else (mFq M (tN x), mBd1 (mBd1 M (4 * tN x + tN (mFq M (tN x))) (nI (4 * tN t + tN k))) (4 * tN t + tN k) (nI (4 * tN x + tN (mFq M (tN x))))))) else (-1, M)
def mSend (M : gS) (x k : Int32) : Int32 × gS := if mLive M x = true then (if k < 0 ∨ 3 < k ∨ ¬ M 58 (4 * tN x + tN k) 0 = 2 then (-8, M) else (if M 60 (tN (M 59 (4 * tN x + tN k) 0)) 0 = 0 then 1 else 0, gup M 60 (tN (M 59 (4 * tN x + tN k) 0)) 0 1)) else (-1, M)
def mNext (M : gS) (x : Int32) : Int32 × gS := if mLive M x = true then fstS (fun k => !decide (M 60 (4 * tN x + k) 0 = 0)) (fun k => gup M 60 (4 * tN x + k) 0 0) (-11) M 4 0 else (-1, M)
def mF (M : gS) (v : Nat) : Nat := tN (M 61 v 0 - 1)
def mB (M : gS) (v : Nat) : Nat := tN (M 62 v 0)
def mRp (M : gS) (v : Nat) : Nat := tN (M 63 v 0)
def mRe (M : gS) (v : Nat) : Nat := tN (M 64 v 0)
def mG (M : gS) (v : Nat) : Nat := tN (M 65 v 0)
def mPo (M : gS) (v : Nat) : Nat := tN (M 68 v 0)
def mRa (M : gS) (v : Nat) : Nat := tN (M 69 v 0)
def mTa (M : gS) (v : Nat) : Nat := tN (M 70 v 0)
def mWh (M : gS) (v : Nat) : Bool := decide (M 56 (5 * mB M v + mG M v) 0 = nI (6 * mF M v + mRe M v + 1)) && !decide (M 57 (5 * mB M v + mG M v) 0 = 0) && decide (M 55 (6 * mF M v + mRe M v) 0 = M 63 v 0)
def mTr (M : gS) (x : Int32) : Int32 := if x < 0 ∨ 2 < x ∨ M 61 (tN x) 0 = 0 then -9 else (if mWh M (tN x) = true then 0 else -10)
def fidx (p : Nat → Bool) : Nat → Nat → Nat
  | 0, i => i
  | n + 1, i => if p i = true then i else fidx p n (i + 1)
def mAbs (M : gS) : Nat := fidx (fun v => decide (M 61 v 0 ≤ 0)) 3 0
def mA1 (M : gS) (v : Nat) (f b : Int32) : Int32 × gS := mAlloc (gup (gup M 61 v 0 (f + 1)) 62 v 0 b) f
def mA2 (A : Int32 × gS) (v : Nat) (f b : Int32) : Int32 × gS := mGrant (gup A.2 63 v 0 A.1) f b A.1 1
def mA3 (A : Int32 × gS) (v : Nat) (f b : Int32) : Int32 × gS := mMap (gup A.2 64 v 0 A.1) b f A.1 true
def mA4 (A : Int32 × gS) (v : Nat) (f b : Int32) : Int32 × gS := mOpen (gup A.2 65 v 0 A.1) f b
def mA5 (A : Int32 × gS) (v : Nat) (f b : Int32) : Int32 × gS := mBind (gup A.2 66 v 0 A.1) b f A.1
def mA6 (A : Int32 × gS) (v : Nat) : gS := lpS (fun s Z => gup Z 73 (8 * v + s) 0 0) 8 0 (gup (gup (gup (gup A.2 67 v 0 A.1) 68 v 0 0) 69 v 0 0) 70 v 0 0)
def mAtt (M : gS) (v : Nat) (f b : Int32) : gS := mA6 (mA5 (mA4 (mA3 (mA2 (mA1 M v f b) v f b) v f b) v f b) v f b) v
def mAttach (M : gS) (f b : Int32) : Int32 × gS := if mLive M f = true ∧ mLive M b = true then (if f = b then (-2, M) else (if 3 ≤ nI (mAbs M) ∨ 6 ≤ mCnt M f ∨ mFpg M < 0 ∨ mFe M (tN f) < 0 ∨ mFh M (tN b) < 0 ∨ mFq M (tN f) < 0 ∨ mFq M (tN b) < 0 then (-7, M) else (nI (mAbs M), mAtt M (mAbs M) f b))) else (-1, M)
