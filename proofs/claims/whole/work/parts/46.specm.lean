def mLive (M : gS) (x : Int32) : Bool := decide (0 ≤ x) && decide (x ≤ 4) && decide (M 50 (tN x) 0 = 1)
def mOwns (M : gS) (x p : Int32) : Bool := decide (0 ≤ p) && decide (p ≤ 19) && decide (M 51 (tN p) 0 = x + 1)
def mCnt (M : gS) (x : Int32) : Int32 := cntb (fun p => decide (M 51 p 0 = x + 1)) 20 0 0
def mFpg (M : gS) : Int32 := ffst (fun p => decide (M 51 p 0 = 0)) 20 0
def mFe (M : gS) (a : Nat) : Int32 := ffst (fun r => decide (M 53 (6 * a + r) 0 = 0)) 6 0
def mFh (M : gS) (a : Nat) : Int32 := ffst (fun h => decide (M 56 (5 * a + h) 0 = 0)) 5 0
def mFq (M : gS) (a : Nat) : Int32 := ffst (fun k => decide (M 58 (4 * a + k) 0 = 0)) 4 0
def mMps (M : gS) (e : Nat) : Int32 := cntb (fun h => decide (M 56 h 0 = nI (e + 1))) 25 0 0
def mHeld (M : gS) (a : Nat) (p : Int32) (b : Bool) : Bool := anyb (fun e => decide (0 < M 53 e 0) && decide (M 54 e 0 < 2) && decide (M 55 e 0 = p) && (!b || decide (0 < mMps M e))) 6 (6 * a)
def mCreate (M : gS) : Int32 × gS := fstS (fun d => decide (M 50 d 0 = 0)) (fun d => gup M 50 d 0 1) (-7) M 5 0
def mTk0 (M : gS) (e : Nat) : gS := if mHeld M (e / 6) (M 55 e 0) true = true then M else gup M 51 (tN (M 55 e 0)) 0 0
def mTk3 (M : gS) (a : Nat) : gS := if mCnt M (nI a) = 0 then gup M 50 a 0 0 else M
def mTk2 (M : gS) (e : Nat) : gS := if ¬ M 50 (e / 6) 0 = 2 ∨ 0 < mMps M e then M else mTk3 (mTk0 (gup M 53 e 0 0) e) (e / 6)
def mTk (M : gS) (h e : Nat) : gS := mTk2 (gup M 56 h 0 0) e
def mE (M : gS) (h : Nat) : Nat := tN (M 56 h 0 - 1)
def mCls (M : gS) (k : Nat) : gS := gup (gup M 58 k 0 0) 60 k 0 0
def mDe1 (M : gS) (a : Nat) : gS := lpS (fun v Z => if 0 < Z 61 v 0 ∧ (Z 61 v 0 = nI (a + 1) ∨ Z 62 v 0 = nI a) then gup Z 61 v 0 0 else Z) 3 0 M
def mDe2 (M : gS) (a : Nat) : gS := lpS (fun h Z => if 0 < Z 56 h 0 then mTk Z h (mE Z h) else Z) 5 (5 * a) M
def mCl1 (M : gS) (k : Nat) : gS := if M 58 k 0 = 2 then mCls M (tN (M 59 k 0)) else M
def mDe3 (M : gS) (a : Nat) : gS := lpS (fun k Z => mCls (mCl1 Z k) k) 4 (4 * a) M
def mDe4 (M : gS) (a : Nat) : gS := lpS (fun e Z => if mMps Z e = 0 then gup Z 53 e 0 0 else Z) 6 (6 * a) M
def mDe5 (M : gS) (a : Nat) : gS := lpS (fun p Z => if mOwns Z (nI a) (nI p) = true ∧ mHeld Z a (nI p) true = false then gup Z 51 p 0 0 else Z) 20 0 M
def mDe6 (M : gS) (a : Nat) : gS := gup M 50 a 0 (if 0 < mCnt M (nI a) then 2 else 0)
def mDestroy (M : gS) (x : Int32) : Int32 × gS := if mLive M x = true then (0, mDe6 (mDe5 (mDe4 (mDe3 (mDe2 (mDe1 M (tN x)) (tN x)) (tN x)) (tN x)) (tN x)) (tN x)) else (-1, M)
def mWipe (M : gS) (p : Nat) : gS := lpS (fun w Z => gup Z 52 (8 * p + w) 0 0) 8 0 M
def mAlloc (M : gS) (x : Int32) : Int32 × gS := if mLive M x = true then (if mFpg M < 0 ∨ 6 ≤ mCnt M x then (-7, M) else (mFpg M, mWipe (gup M 51 (tN (mFpg M)) 0 (x + 1)) (tN (mFpg M)))) else (-1, M)
def mFree (M : gS) (x p : Int32) : Int32 × gS := if mLive M x = true then (if mOwns M x p = true then (if mHeld M (tN x) p false = true then (-4, M) else (0, gup M 51 (tN p) 0 0)) else (-3, M)) else (-1, M)
def mGr1 (M : gS) (e : Nat) (t k p : Int32) : gS := gup (gup (gup M 53 e 0 (t + 1)) 54 e 0 k) 55 e 0 p
def mGrant (M : gS) (x t p k : Int32) : Int32 × gS := if mLive M x = true then (if t < 0 ∨ 4 < t ∨ t = x ∨ k < 0 ∨ 2 < k then (-2, M) else (if k < 2 ∧ mOwns M x p = false then (-3, M) else (if mFe M (tN x) < 0 then (-7, M) else (mFe M (tN x), mGr1 M (6 * tN x + tN (mFe M (tN x))) t k (if k < 2 then p else 0))))) else (-1, M)
def mEnt (M : gS) (a : Nat) (r : Int32) : Int32 := if r < 0 ∨ 5 < r ∨ M 53 (6 * a + tN r) 0 = 0 then -1 else nI (6 * a + tN r)
def mEnd (M : gS) (x r : Int32) : Int32 × gS := if mLive M x = true then (if mEnt M (tN x) r < 0 then (-5, M) else (if 0 < mMps M (tN (mEnt M (tN x) r)) then (-4, M) else (0, gup M 53 (tN (mEnt M (tN x) r)) 0 0))) else (-1, M)
def mMp1 (M : gS) (h e : Nat) (w : Bool) : gS := gup (gup M 56 h 0 (nI (e + 1))) 57 h 0 (bI w)
def mMap (M : gS) (x f r : Int32) (w : Bool) : Int32 × gS := if mLive M x = true ∧ mLive M f = true then (if mEnt M (tN f) r < 0 ∨ M 54 (tN (mEnt M (tN f) r)) 0 = 2 ∨ ¬ M 53 (tN (mEnt M (tN f) r)) 0 = x + 1 then (-5, M) else (if w = true ∧ M 54 (tN (mEnt M (tN f) r)) 0 = 0 then (-6, M) else (if mFh M (tN x) < 0 then (-7, M) else (mFh M (tN x), mMp1 M (5 * tN x + tN (mFh M (tN x))) (tN (mEnt M (tN f) r)) w)))) else (-1, M)
def mUnmap (M : gS) (x h : Int32) : Int32 × gS := if mLive M x = true then (if h < 0 ∨ 4 < h ∨ M 56 (5 * tN x + tN h) 0 = 0 then (-5, M) else (0, mTk M (5 * tN x + tN h) (mE M (5 * tN x + tN h)))) else (-1, M)
def mGive (M : gS) (x p t r : Int32) : Int32 × gS := if mLive M x = true ∧ mLive M t = true then (if mOwns M x p = true then (if mHeld M (tN x) p false = true then (-4, M) else (if mEnt M (tN t) r < 0 ∨ ¬ M 54 (tN (mEnt M (tN t) r)) 0 = 2 ∨ ¬ M 53 (tN (mEnt M (tN t) r)) 0 = x + 1 then (-5, M) else (if 6 ≤ mCnt M t then (-7, M) else (0, gup (gup M 51 (tN p) 0 (t + 1)) 53 (tN (mEnt M (tN t) r)) 0 0)))) else (-3, M)) else (-1, M)
def orb (p : Nat → Bool) : Nat → Nat → Bool → Bool
  | 0, _, c => c
  | n + 1, i, c => orb p n (i + 1) (c || p i)
def mMay (M : gS) (a : Nat) (p : Int32) (s : Bool) : Bool := orb (fun h => decide (0 < M 56 h 0) && decide (M 55 (mE M h) 0 = p) && (!decide (M 57 h 0 = 0) || !s)) 5 (5 * a) (mOwns M (nI a) p)
def mRef (M : gS) (x p w : Int32) (s : Bool) : Int32 := if mLive M x = true then (if p < 0 ∨ 19 < p ∨ w < 0 ∨ 7 < w then -2 else (if mMay M (tN x) p s = true then 0 else -3)) else -1
def mStore (M : gS) (x p w v : Int32) : Int32 × gS := if mRef M x p w true = 0 then (0, gup M 52 (8 * tN p + tN w) 0 v) else (mRef M x p w true, M)
def mPl (v : Int32) : Int64 := if v < 0 then v.toInt64 + 4294967296 else v.toInt64
def mLoad (M : gS) (x p w : Int32) : Int64 := if mRef M x p w false < 0 then (mRef M x p w false).toInt64 else mPl (M 52 (8 * tN p + tN w) 0)
def mOpen (M : gS) (x t : Int32) : Int32 × gS := if mLive M x = true then (if t < 0 ∨ 4 < t ∨ t = x then (-2, M) else (if mFq M (tN x) < 0 then (-7, M) else (mFq M (tN x), gup (gup M 58 (4 * tN x + tN (mFq M (tN x))) 0 1) 59 (4 * tN x + tN (mFq M (tN x))) 0 t))) else (-1, M)
def mBd1 (M : gS) (k : Nat) (j : Int32) : gS := gup (gup M 58 k 0 2) 59 k 0 j
def mBind (M : gS) (x t k : Int32) : Int32 × gS := if mLive M x = true ∧ mLive M t = true then (if k < 0 ∨ 3 < k ∨ ¬ M 58 (4 * tN t + tN k) 0 = 1 ∨ ¬ M 59 (4 * tN t + tN k) 0 = x then (-8, M) else (if mFq M (tN x) < 0 then (-7, M) else (mFq M (tN x), mBd1 (mBd1 M (4 * tN x + tN (mFq M (tN x))) (nI (4 * tN t + tN k))) (4 * tN t + tN k) (nI (4 * tN x + tN (mFq M (tN x))))))) else (-1, M)
def mSend (M : gS) (x k : Int32) : Int32 × gS := if mLive M x = true then (if k < 0 ∨ 3 < k ∨ ¬ M 58 (4 * tN x + tN k) 0 = 2 then (-8, M) else (if M 60 (tN (M 59 (4 * tN x + tN k) 0)) 0 = 0 then 1 else 0, gup M 60 (tN (M 59 (4 * tN x + tN k) 0)) 0 1)) else (-1, M)
def mNext (M : gS) (x : Int32) : Int32 × gS := if mLive M x = true then fstS (fun k => !decide (M 60 (4 * tN x + k) 0 = 0)) (fun k => gup M 60 (4 * tN x + k) 0 0) (-11) M 4 0 else (-1, M)
def mF (M : gS) (v : Nat) : Nat := tN (M 61 v 0 - 1)
def mB (M : gS) (v : Nat) : Nat := tN (M 62 v 0)
def mRp (M : gS) (v : Nat) : Nat := tN (M 63 v 0)
def mRe (M : gS) (v : Nat) : Nat := tN (M 64 v 0)
def mG (M : gS) (v : Nat) : Nat := tN (M 65 v 0)
def mPo (M : gS) (v : Nat) : Nat := tN (M 68 v 0)
def mRa (M : gS) (v : Nat) : Nat := tN (M 69 v 0)
def mTa (M : gS) (v : Nat) : Nat := tN (M 70 v 0)
def mWh (M : gS) (v : Nat) : Bool := decide (M 56 (5 * mB M v + mG M v) 0 = nI (6 * mF M v + mRe M v + 1)) && !decide (M 57 (5 * mB M v + mG M v) 0 = 0) && decide (M 55 (6 * mF M v + mRe M v) 0 = M 63 v 0)
def mTr (M : gS) (x : Int32) : Int32 := if x < 0 ∨ 2 < x ∨ M 61 (tN x) 0 = 0 then -9 else (if mWh M (tN x) = true then 0 else -10)
def fidx (p : Nat → Bool) : Nat → Nat → Nat
  | 0, i => i
  | n + 1, i => if p i = true then i else fidx p n (i + 1)
def mAbs (M : gS) : Nat := fidx (fun v => decide (M 61 v 0 ≤ 0)) 3 0
def mA1 (M : gS) (v : Nat) (f b : Int32) : Int32 × gS := mAlloc (gup (gup M 61 v 0 (f + 1)) 62 v 0 b) f
def mA2 (A : Int32 × gS) (v : Nat) (f b : Int32) : Int32 × gS := mGrant (gup A.2 63 v 0 A.1) f b A.1 1
def mA3 (A : Int32 × gS) (v : Nat) (f b : Int32) : Int32 × gS := mMap (gup A.2 64 v 0 A.1) b f A.1 true
def mA4 (A : Int32 × gS) (v : Nat) (f b : Int32) : Int32 × gS := mOpen (gup A.2 65 v 0 A.1) f b
def mA5 (A : Int32 × gS) (v : Nat) (f b : Int32) : Int32 × gS := mBind (gup A.2 66 v 0 A.1) b f A.1
def mA6 (A : Int32 × gS) (v : Nat) : gS := lpS (fun s Z => gup Z 73 (8 * v + s) 0 0) 8 0 (gup (gup (gup (gup A.2 67 v 0 A.1) 68 v 0 0) 69 v 0 0) 70 v 0 0)
def mAtt (M : gS) (v : Nat) (f b : Int32) : gS := mA6 (mA5 (mA4 (mA3 (mA2 (mA1 M v f b) v f b) v f b) v f b) v f b) v
def mAttach (M : gS) (f b : Int32) : Int32 × gS := if mLive M f = true ∧ mLive M b = true then (if f = b then (-2, M) else (if 3 ≤ nI (mAbs M) ∨ 6 ≤ mCnt M f ∨ mFpg M < 0 ∨ mFe M (tN f) < 0 ∨ mFh M (tN b) < 0 ∨ mFq M (tN f) < 0 ∨ mFq M (tN b) < 0 then (-7, M) else (nI (mAbs M), mAtt M (mAbs M) f b))) else (-1, M)
def mSuA (M : gS) (v : Nat) : Int32 × gS := mAlloc M (nI (mF M v))
def mSu1 (A : Int32 × gS) (w : Bool) (x : Int32) : gS := if w = true then gup A.2 52 (8 * tN A.1) 0 x else A.2
def mSu2 (M N : gS) (v : Nat) (w : Bool) (p : Int32) : Int32 × gS := mGrant N (nI (mF M v)) (nI (mB M v)) p (if w = true then 0 else 1)
def mSu3 (M : gS) (G : Int32 × gS) (v : Nat) (w : Bool) (s p : Int32) : gS := gup (gup (gup (gup (gup G.2 71 (3 * v + mPo M v % 3) 0 p) 72 (3 * v + mPo M v % 3) 0 G.1) 52 (8 * mRp M v + 2 + mPo M v % 3) 0 (s + (if w = true then 8 else 0) + 16 * G.1)) 68 v 0 (nI (mPo M v + 1))) 52 (8 * mRp M v) 0 (nI (mPo M v + 1))
def mSu (M : gS) (v : Nat) (w : Bool) (s x : Int32) : Int32 × gS := (nI (mPo M v), (mSend (mSu3 M (mSu2 M (mSu1 (mSuA M v) w x) v w (mSuA M v).1) v w s (mSuA M v).1) (nI (mF M v)) (M 66 v 0)).2)
def mSubmit (M : gS) (v : Int32) (w : Bool) (s x : Int32) : Int32 × gS := if mTr M v < 0 then (mTr M v, M) else (if s < 0 ∨ 7 < s then (-2, M) else (if nI (mPo M (tN v)) - M 69 (tN v) 0 = 3 ∨ 6 ≤ mCnt M (nI (mF M (tN v))) ∨ mFpg M < 0 ∨ mFe M (mF M (tN v)) < 0 then (-7, M) else mSu M (tN v) w s x))
def mSq (M : gS) (v : Nat) : Int32 := M 52 (8 * mRp M v + 2 + mTa M v % 3) 0
def mCom (M : gS) (v : Nat) (q : Int32) (w : Bool) : Int32 × gS := mMap M (nI (mB M v)) (nI (mF M v)) (q >>> ((4 : Int32) &&& 31)) w
def mPg (M : gS) (v : Nat) (q : Int32) : Nat := tN (M 55 (6 * mF M v + tN (q >>> ((4 : Int32) &&& 31))) 0)
def mCo1 (M : gS) (A : Int32 × gS) (v : Nat) (q : Int32) (w : Bool) : gS := if w = true then gup A.2 52 (8 * tN (M 55 (6 * mF M v + tN (q >>> ((4 : Int32) &&& 31))) 0)) 0 (M 73 (8 * v + tN (q &&& 7)) 0) else gup A.2 73 (8 * v + tN (q &&& 7)) 0 (M 52 (8 * tN (M 55 (6 * mF M v + tN (q >>> ((4 : Int32) &&& 31))) 0)) 0)
def mCo2 (M : gS) (A : Int32 × gS) (v : Nat) (q : Int32) (w : Bool) : Int32 × gS := if A.1 < 0 then A else (0, mTk (mCo1 M A v q w) (5 * mB M v + tN A.1) (mE (mCo1 M A v q w) (5 * mB M v + tN A.1)))
def mSe1 (M : gS) (B : Int32 × gS) (v : Nat) : gS := gup (gup (gup B.2 52 (8 * mRp M v + 5 + mTa M v % 3) 0 B.1) 70 v 0 (nI (mTa M v + 1))) 52 (8 * mRp M v + 1) 0 (nI (mTa M v + 1))
def mSe2 (M : gS) (B : Int32 × gS) (v : Nat) : Int32 × gS := (B.1, (mSend (mSe1 M B v) (nI (mB M v)) (M 67 v 0)).2)
def mSe (M : gS) (v : Nat) : Int32 × gS := mSe2 M (mCo2 M (mCom M v (mSq M v) (decide (mSq M v &&& 8 = 0))) v (mSq M v) (decide (mSq M v &&& 8 = 0))) v
def mSn (M : gS) (v : Nat) : Int64 := (M 52 (8 * mRp M v) 0).toInt64 - (nI (mTa M v)).toInt64
def mServe (M : gS) (v : Int32) : Int32 × gS := if mTr M v < 0 then (mTr M v, M) else (if mSn M (tN v) < 1 ∨ 3 < mSn M (tN v) then (if mSn M (tN v) = 0 then -11 else -12, M) else mSe M (tN v))
def mRn (M : gS) (v : Nat) : Int64 := (M 52 (8 * mRp M v + 1) 0).toInt64 - (nI (mRa M v)).toInt64
def mR1 (M : gS) (v : Nat) : gS := gup M 69 v 0 (nI (mRa M v + 1))
def mR2 (M : gS) (v : Nat) : Int32 × gS := mEnd (mR1 M v) (nI (mF M v)) (M 72 (3 * v + mRa M v % 3) 0)
def mR3 (M : gS) (E : Int32 × gS) (v : Nat) : Int32 × gS := mFree E.2 (nI (mF M v)) (M 71 (3 * v + mRa M v % 3) 0)
def mRe0 (M : gS) (v : Nat) : Int64 × gS := (if M 52 (8 * mRp M v + 5 + mRa M v % 3) 0 = 0 then mLoad (mR1 M v) (nI (mF M v)) (M 71 (3 * v + mRa M v % 3) 0) 0 else -13, (mR3 M (mR2 M v) v).2)
def mReap (M : gS) (v : Int32) : Int64 × gS := if mTr M v < 0 then ((mTr M v).toInt64, M) else (if mRn M (tN v) = 0 then (-11, M) else (if mRn M (tN v) < 0 ∨ (M 68 (tN v) 0 - nI (mRa M (tN v))).toInt64 < mRn M (tN v) then (-12, M) else mRe0 M (tN v)))
def mLook (M : gS) (w a b : Int32) : Int64 :=
  if a < 0 ∨ (b < 0 ∧ (w = 2 ∨ w = 3 ∨ w = 5)) then -1
  else if w = 0 then (if 4 < a then -1 else (M 50 (tN a) 0).toInt64)
  else if w = 1 then (if 19 < a then -1 else (M 51 (tN a) 0).toInt64 - 1)
  else if w = 2 then (if 4 < a ∨ 5 < b ∨ M 53 (6 * tN a + tN b) 0 = 0 then -1 else (mMps M (6 * tN a + tN b)).toInt64)
  else if w = 3 then (if 4 < a ∨ 4 < b ∨ M 56 (5 * tN a + tN b) 0 = 0 then -1 else (M 55 (mE M (5 * tN a + tN b)) 0).toInt64)
  else if w = 4 then (if 4 < a then -1 else (mCnt M a).toInt64)
  else if w = 5 then (if 2 < a ∨ 7 < b ∨ M 61 (tN a) 0 = 0 then -1 else mPl (M 73 (8 * tN a + tN b) 0))
  else if w = 6 then (if 2 < a ∨ M 61 (tN a) 0 = 0 then -1 else (M 68 (tN a) 0 - M 69 (tN a) 0).toInt64)
  else -1
