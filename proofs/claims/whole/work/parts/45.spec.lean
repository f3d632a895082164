abbrev tN (z : Int32) : Nat := z.toNatClampNeg
def ffst (p : Nat → Bool) : Nat → Nat → Int32
  | 0, _ => -1
  | n + 1, i => if p i = true then nI i else ffst p n (i + 1)
def anyb (p : Nat → Bool) : Nat → Nat → Bool
  | 0, _ => false
  | n + 1, i => if p i = true then true else anyb p n (i + 1)
def cntb (p : Nat → Bool) : Nat → Nat → Int32 → Int32
  | 0, _, c => c
  | n + 1, i, c => cntb p n (i + 1) (if p i = true then c + 1 else c)
def lpS (f : Nat → gS → gS) : Nat → Nat → gS → gS
  | 0, _, X => X
  | n + 1, i, X => lpS f n (i + 1) (f i X)
def fstS (p : Nat → Bool) (g : Nat → gS) (e : Int32) (X : gS) : Nat → Nat → Int32 × gS
  | 0, _ => (e, X)
  | n + 1, i => if p i = true then (nI i, g i) else fstS p g e X n (i + 1)
def xDom (d : Int32) : Bool := decide (0 ≤ d) && decide (d < 5)
def xPag (p : Int32) : Bool := decide (0 ≤ p) && decide (p < 20)
def xPrt (k : Int32) : Bool := decide (0 ≤ k) && decide (k < 4)
def xOth (d t : Int32) : Bool := xDom t && !decide (t = d)
def xLive (X : gS) (d : Int32) : Bool := xDom d && decide (X 0 (tN d) 0 = 1)
def xPres (X : gS) (v : Int32) : Bool := decide (0 ≤ v) && decide (v < 3) && !decide (X 14 (tN v) 0 = 0)
def xOwns (X : gS) (d p : Int32) : Bool := xPag p && decide (X 1 (tN p) 0 = d)
def xCnt (X : gS) (d : Int32) : Int32 := cntb (fun p => decide (X 1 p 0 = d)) 20 0 0
def xFpg (X : gS) : Int32 := ffst (fun p => decide (X 1 p 0 = -1)) 20 0
def xGet (X : gS) (d : Int32) : Int32 := if 6 ≤ xCnt X d then -1 else xFpg X
def xHasE (X : gS) (a : Nat) (r : Int32) : Bool := decide (0 ≤ r) && decide (r < 6) && !decide (X 3 a (tN r) = -1)
def xHasH (X : gS) (a : Nat) (h : Int32) : Bool := decide (0 ≤ h) && decide (h < 5) && !decide (X 7 a (tN h) = -1)
def xEW (X : gS) (a : Nat) (p : Int32) : Bool := anyb (fun i => decide (X 5 a i = p)) 6 0
def xMEW (X : gS) (a : Nat) (p : Int32) : Bool := anyb (fun i => decide (X 5 a i = p) && decide (0 < X 6 a i)) 6 0
def xFe (X : gS) (a : Nat) : Int32 := ffst (fun i => decide (X 3 a i = -1)) 6 0
def xFh (X : gS) (a : Nat) : Int32 := ffst (fun i => decide (X 7 a i = -1)) 5 0
def xFq (X : gS) (a : Nat) : Int32 := ffst (fun i => decide (X 10 a i = 0)) 4 0
def eSet (X : gS) (a i : Nat) (t k p : Int32) : gS := gup (gup (gup X 3 a i t) 4 a i k) 5 a i p
def hSet (X : gS) (a h : Nat) (f r w : Int32) : gS := gup (gup (gup X 7 a h f) 8 a h r) 9 a h w
def qSet (X : gS) (a k : Nat) (s o p : Int32) : gS := gup (gup (gup (gup X 10 a k s) 11 a k o) 12 a k p) 13 a k 0
def eClr (X : gS) (a i : Nat) : gS := eSet X a i (-1) 0 (-1)
def hClr (X : gS) (a h : Nat) : gS := hSet X a h (-1) (-1) 0
def qCls (X : gS) (a k : Nat) : gS := qSet X a k 0 (-1) (-1)
def xClrE (X : gS) (a : Nat) : gS := lpS (fun i Y => if 0 < Y 6 a i then Y else eClr Y a i) 6 0 X
def xWipe (X : gS) (p : Nat) : gS := lpS (fun w Y => gup Y 2 p w 0) 8 0 X
def xPgO (X : gS) (a h : Nat) : Int32 := X 5 (tN (X 7 a h)) (tN (X 8 a h))
def xMof (X : gS) (a : Nat) (p : Int32) (w : Bool) : Bool := anyb (fun h => !decide (X 7 a h = -1) && (!decide (X 9 a h = 0) || !w) && decide (xPgO X a h = p)) 5 0
def xAcc (X : gS) (d p w : Int32) (wr : Bool) : Int32 := if xLive X d = true then (if (xPag p && decide (0 ≤ w) && decide (w < 8)) = true then (if (xOwns X d p || xMof X (tN d) p wr) = true then 0 else -3) else -2) else -1
def xBury (X : gS) (d : Int32) : gS := if xCnt X d = 0 then gup X 0 (tN d) 0 0 else X
def xRel0 (X : gS) (d p : Int32) : gS := if xMEW X (tN d) p = true then X else gup X 1 (tN p) 0 (-1)
def xRel (X : gS) (d : Int32) (f e : Nat) : gS := xBury (xRel0 (eClr X f e) d (X 5 f e)) d
def xTk1 (X : gS) (a h f e : Nat) : gS := gup (hClr X a h) 6 f e (hClr X a h 6 f e - 1)
def xTk2 (X : gS) (d : Int32) (f e : Nat) : gS := if X 0 f 0 = 2 ∧ ¬ 0 < X 6 f e then xRel X d f e else X
def xTk (X : gS) (a h : Nat) : gS := xTk2 (xTk1 X a h (tN (X 7 a h)) (tN (X 8 a h))) (X 7 a h) (tN (X 7 a h)) (tN (X 8 a h))
def xRmD (X : gS) (d : Int32) : gS := lpS (fun i Y => if Y 15 i 0 = d ∨ Y 16 i 0 = d then gup Y 14 i 0 0 else Y) 3 0 X
def xTkA (X : gS) (a : Nat) : gS := lpS (fun h Y => if Y 7 a h = -1 then Y else xTk Y a h) 5 0 X
def xClQ1 (X : gS) (a k : Nat) : gS := if X 10 a k = 2 then qCls X (tN (X 11 a k)) (tN (X 12 a k)) else X
def xClQ (X : gS) (a : Nat) : gS := lpS (fun k Y => qCls (xClQ1 Y a k) a k) 4 0 X
def xFrP (X : gS) (a : Nat) (d : Int32) : gS := lpS (fun p Y => if Y 1 p 0 = d ∧ xMEW Y a (nI p) = false then gup Y 1 p 0 (-1) else Y) 20 0 X
def xCreate (X : gS) : Int32 × gS := fstS (fun d => decide (X 0 d 0 = 0)) (fun d => gup X 0 d 0 1) (-7) X 5 0
def xDes1 (X : gS) (d : Int32) : gS := xClQ (xTkA (xRmD X d) (tN d)) (tN d)
def xDes2 (X : gS) (d : Int32) : gS := xBury (xFrP (xClrE (gup X 0 (tN d) 0 2) (tN d)) (tN d) d) d
def xDestroy (X : gS) (d : Int32) : Int32 × gS := if xLive X d = true then (0, xDes2 (xDes1 X d) d) else (-1, X)
def xAlloc (X : gS) (d : Int32) : Int32 × gS := if xLive X d = true then (if xGet X d = -1 then (-7, X) else (xGet X d, xWipe (gup X 1 (tN (xGet X d)) 0 d) (tN (xGet X d)))) else (-1, X)
def xFree (X : gS) (d p : Int32) : Int32 × gS := if xLive X d = true then (if xOwns X d p = true then (if xEW X (tN d) p = true then (-4, X) else (0, gup X 1 (tN p) 0 (-1))) else (-3, X)) else (-1, X)
def xGrant (X : gS) (d t p k : Int32) : Int32 × gS := if xLive X d = true then (if xOth d t = true ∧ ¬ k < 0 ∧ ¬ 2 < k then (if k = 2 ∨ xOwns X d p = true then (if xFe X (tN d) = -1 then (-7, X) else (xFe X (tN d), eSet X (tN d) (tN (xFe X (tN d))) t k (if k = 2 then -1 else p))) else (-3, X)) else (-2, X)) else (-1, X)
def xEnd (X : gS) (d r : Int32) : Int32 × gS := if xLive X d = true then (if xHasE X (tN d) r = true then (if 0 < X 6 (tN d) (tN r) then (-4, X) else (0, eClr X (tN d) (tN r))) else (-5, X)) else (-1, X)
def xMap1 (X : gS) (f r : Nat) : gS := gup X 6 f r (X 6 f r + 1)
def xMap (X : gS) (d f r : Int32) (w : Bool) : Int32 × gS := if xLive X d = true ∧ xLive X f = true then (if xHasE X (tN f) r = true then (if X 4 (tN f) (tN r) = 2 ∨ ¬ X 3 (tN f) (tN r) = d then (-5, X) else (if w = true ∧ X 4 (tN f) (tN r) = 0 then (-6, X) else (if xFh X (tN d) = -1 then (-7, X) else (xFh X (tN d), xMap1 (hSet X (tN d) (tN (xFh X (tN d))) f r (bI w)) (tN f) (tN r))))) else (-5, X)) else (-1, X)
def xUnmap (X : gS) (d h : Int32) : Int32 × gS := if xLive X d = true then (if xHasH X (tN d) h = true then (0, xTk X (tN d) (tN h)) else (-5, X)) else (-1, X)
def xGive (X : gS) (d p t r : Int32) : Int32 × gS := if xLive X d = true ∧ xLive X t = true then (if xOwns X d p = true then (if xEW X (tN d) p = true then (-4, X) else (if xHasE X (tN t) r = true then (if ¬ X 4 (tN t) (tN r) = 2 ∨ ¬ X 3 (tN t) (tN r) = d then (-5, X) else (if 6 ≤ xCnt X t then (-7, X) else (0, eClr (gup X 1 (tN p) 0 t) (tN t) (tN r)))) else (-5, X))) else (-3, X)) else (-1, X)
def xStore (X : gS) (d p w v : Int32) : Int32 × gS := if xAcc X d p w true = 0 then (0, gup X 2 (tN p) (tN w) v) else (xAcc X d p w true, X)
def xLoad (X : gS) (d p w : Int32) : Int64 := if xAcc X d p w false = 0 then (X 2 (tN p) (tN w)).toInt64 &&& 4294967295 else (xAcc X d p w false).toInt64
def xOpen (X : gS) (d t : Int32) : Int32 × gS := if xLive X d = true then (if xOth d t = true then (if xFq X (tN d) = -1 then (-7, X) else (xFq X (tN d), qSet X (tN d) (tN (xFq X (tN d))) 1 t (-1))) else (-2, X)) else (-1, X)
def xWt (X : gS) (a k : Nat) (d : Int32) : Bool := decide (X 10 a k = 1) && decide (X 11 a k = d)
def xBind (X : gS) (d t k : Int32) : Int32 × gS := if xLive X d = true ∧ xLive X t = true then (if xPrt k = true ∧ xWt X (tN t) (tN k) d = true then (if xFq X (tN d) = -1 then (-7, X) else (xFq X (tN d), qSet (qSet X (tN d) (tN (xFq X (tN d))) 2 t k) (tN t) (tN k) 2 d (xFq X (tN d)))) else (-8, X)) else (-1, X)
def xSend (X : gS) (d k : Int32) : Int32 × gS := if xLive X d = true then (if xPrt k = true ∧ X 10 (tN d) (tN k) = 2 then (if X 13 (tN (X 11 (tN d) (tN k))) (tN (X 12 (tN d) (tN k))) = 0 then 1 else 0, gup X 13 (tN (X 11 (tN d) (tN k))) (tN (X 12 (tN d) (tN k))) 1) else (-8, X)) else (-1, X)
def xNext (X : gS) (d : Int32) : Int32 × gS := if xLive X d = true then fstS (fun k => !decide (X 13 (tN d) k = 0)) (fun k => gup X 13 (tN d) k 0) (-11) X 4 0 else (-1, X)
def rem3 (z : Int32) : Int32 := z - z / 3 * 3
def vBeg (X : gS) (v : Nat) (f b : Int32) : gS := lpS (fun s Y => gup Y 27 v s 0) 8 0 (gup (gup (gup (gup (gup (gup X 14 v 0 1) 15 v 0 f) 16 v 0 b) 22 v 0 0) 23 v 0 0) 24 v 0 0)
def xUw (X : gS) (v : Nat) : Int32 := X 22 v 0 - X 23 v 0
def xAbs (X : gS) : Int32 := ffst (fun i => decide (X 14 i 0 = 0)) 3 0
def xCgn (X : gS) (d : Int32) : Bool := !decide (xGet X d = -1) && !decide (xFe X (tN d) = -1)
def xRf (X : gS) (f : Int32) : Bool := xCgn X f && !decide (xFq X (tN f) = -1)
def xRb (X : gS) (b : Int32) : Bool := !decide (xFh X (tN b) = -1) && !decide (xFq X (tN b) = -1)
def xA1 (X : gS) (v : Nat) (f b : Int32) : Int32 × gS := xAlloc (vBeg X v f b) f
def xA2 (A : Int32 × gS) (v : Nat) (f b : Int32) : Int32 × gS := xGrant (gup A.2 17 v 0 A.1) f b A.1 1
def xA3 (A : Int32 × gS) (v : Nat) (f b : Int32) : Int32 × gS := xMap (gup A.2 18 v 0 A.1) b f A.1 true
def xA4 (A : Int32 × gS) (v : Nat) (f b : Int32) : Int32 × gS := xOpen (gup A.2 19 v 0 A.1) f b
def xA5 (A : Int32 × gS) (v : Nat) (f b : Int32) : Int32 × gS := xBind (gup A.2 20 v 0 A.1) b f A.1
def xA6 (A : Int32 × gS) (v : Nat) : gS := gup A.2 21 v 0 A.1
def xAtt (X : gS) (v : Nat) (f b : Int32) : gS := xA6 (xA5 (xA4 (xA3 (xA2 (xA1 X v f b) v f b) v f b) v f b) v f b) v
def xAttach (X : gS) (f b : Int32) : Int32 × gS := if xLive X f = true ∧ xLive X b = true then (if f = b then (-2, X) else (if xAbs X = -1 ∨ xRf X f = false ∨ xRb X b = false then (-7, X) else (xAbs X, xAtt X (tN (xAbs X)) f b))) else (-1, X)
def xWhole (X : gS) (v : Nat) : Bool := decide (X 7 (tN (X 16 v 0)) (tN (X 19 v 0)) = X 15 v 0) && decide (X 8 (tN (X 16 v 0)) (tN (X 19 v 0)) = X 18 v 0) && !decide (X 9 (tN (X 16 v 0)) (tN (X 19 v 0)) = 0) && decide (xPgO X (tN (X 16 v 0)) (tN (X 19 v 0)) = X 17 v 0)
def xDc (X : gS) (v : Int32) : Int32 := if xPres X v = true then (if xWhole X (tN v) = true then 0 else -10) else -9
def xPo (X : gS) (v : Nat) (p r q : Int32) : gS := gup (gup (gup (gup (gup X 25 v (tN (rem3 (X 22 v 0))) p) 26 v (tN (rem3 (X 22 v 0))) r) 2 (tN (X 17 v 0)) (tN (2 + rem3 (X 22 v 0))) q) 22 v 0 (X 22 v 0 + 1)) 2 (tN (X 17 v 0)) 0 (X 22 v 0 + 1)
def xPost (X : gS) (v : Nat) (p r q : Int32) : gS := (xSend (xPo X v p r q) (X 15 v 0) (X 20 v 0)).2
def xSu1 (X : gS) (A : Int32 × gS) (v : Nat) (w : Bool) (x : Int32) : gS := if w = true then (xStore A.2 (X 15 v 0) A.1 0 x).2 else A.2
def xSu2 (X Y : gS) (v : Nat) (w : Bool) (p : Int32) : Int32 × gS := xGrant Y (X 15 v 0) (X 16 v 0) p (if w = true then 0 else 1)
def xSu3 (A : Int32 × gS) (v : Nat) (w : Bool) (s p : Int32) : Int32 × gS := (A.2 22 v 0, xPost A.2 v p A.1 (s + (if w = true then 8 else 0) + (A.1 <<< ((4 : Int32) &&& 31))))
def xSu (X : gS) (v : Nat) (w : Bool) (s x : Int32) : Int32 × gS := xSu3 (xSu2 X (xSu1 X (xAlloc X (X 15 v 0)) v w x) v w (xAlloc X (X 15 v 0)).1) v w s (xAlloc X (X 15 v 0)).1
def xSubmit (X : gS) (v : Int32) (w : Bool) (s x : Int32) : Int32 × gS := if xDc X v = 0 then (if s < 0 ∨ 8 ≤ s then (-2, X) else (if 3 ≤ xUw X (tN v) ∨ xCgn X (X 15 (tN v) 0) = false then (-7, X) else xSu X (tN v) w s x)) else (xDc X v, X)
def xCo1 (X Y : gS) (v : Nat) (q b h : Int32) (w : Bool) : gS := if w = true then gup Y 2 (tN (xPgO Y (tN b) (tN h))) 0 (X 27 v (tN (q &&& 7))) else gup Y 27 v (tN (q &&& 7)) (X 2 (tN (xPgO Y (tN b) (tN h))) 0)
def xCom (X : gS) (v : Nat) (q : Int32) (w : Bool) : Int32 × gS := xMap X (X 16 v 0) (X 15 v 0) (q >>> ((4 : Int32) &&& 31)) w
def xCo2 (X : gS) (A : Int32 × gS) (v : Nat) (q : Int32) (w : Bool) : Int32 × gS := if A.1 < 0 then A else (0, (xUnmap (xCo1 X A.2 v q (X 16 v 0) A.1 w) (X 16 v 0) A.1).2)
def xCo (X : gS) (v : Nat) (q : Int32) (w : Bool) : Int32 × gS := xCo2 X (xCom X v q w) v q w
def xSq (X : gS) (v rp : Nat) : Int32 := X 2 rp (tN (2 + rem3 (X 24 v 0)))
def xSc (X : gS) (v rp : Nat) : Int32 × gS := xCo X v (xSq X v rp) (decide (xSq X v rp &&& 8 = 0))
def xSe1 (X : gS) (B : Int32 × gS) (v rp : Nat) : gS := gup (gup (gup B.2 2 rp (tN (5 + rem3 (X 24 v 0))) B.1) 24 v 0 (X 24 v 0 + 1)) 2 rp 1 (X 24 v 0 + 1)
def xSe2 (X : gS) (B : Int32 × gS) (v rp : Nat) : Int32 × gS := (B.1, (xSend (xSe1 X B v rp) (X 16 v 0) (X 21 v 0)).2)
def xSe (X : gS) (v rp : Nat) : Int32 × gS := xSe2 X (xSc X v rp) v rp
def xSn (X : gS) (v : Nat) : Int64 := (X 2 (tN (X 17 v 0)) 0).toInt64 - (X 24 v 0).toInt64
def xServe (X : gS) (v : Int32) : Int32 × gS := if xDc X v = 0 then (if xSn X (tN v) = 0 then (-11, X) else (if xSn X (tN v) < 1 ∨ 3 < xSn X (tN v) then (-12, X) else xSe X (tN v) (tN (X 17 (tN v) 0)))) else (xDc X v, X)
def xRn (X : gS) (v : Nat) : Int64 := (X 2 (tN (X 17 v 0)) 1).toInt64 - (X 23 v 0).toInt64
def xRe1 (X : gS) (v : Nat) : gS := gup X 23 v 0 (X 23 v 0 + 1)
def xRe2 (X : gS) (v : Nat) : Int32 × gS := xEnd (xRe1 X v) (X 15 v 0) (X 26 v (tN (rem3 (X 23 v 0))))
def xRe3 (X : gS) (E : Int32 × gS) (v : Nat) : Int32 × gS := xFree E.2 (X 15 v 0) (X 25 v (tN (rem3 (X 23 v 0))))
def xRe (X : gS) (v : Nat) : Int64 × gS := (if X 2 (tN (X 17 v 0)) (tN (5 + rem3 (X 23 v 0))) = 0 then xLoad (xRe1 X v) (X 15 v 0) (X 25 v (tN (rem3 (X 23 v 0)))) 0 else -13, (xRe3 X (xRe2 X v) v).2)
def xReap (X : gS) (v : Int32) : Int64 × gS := if xDc X v = 0 then (if xRn X (tN v) = 0 then (-11, X) else (if xRn X (tN v) < 1 ∨ (xUw X (tN v)).toInt64 < xRn X (tN v) then (-12, X) else xRe X (tN v))) else ((xDc X v).toInt64, X)
def xLook (X : gS) (w a b : Int32) : Int64 :=
  if w = 0 then (if xDom a = true then (X 0 (tN a) 0).toInt64 else -1)
  else if w = 1 then (if xPag a = true then (X 1 (tN a) 0).toInt64 else -1)
  else if w = 2 then (if xDom a = true ∧ xHasE X (tN a) b = true then (X 6 (tN a) (tN b)).toInt64 else -1)
  else if w = 3 then (if xDom a = true ∧ xHasH X (tN a) b = true then (xPgO X (tN a) (tN b)).toInt64 else -1)
  else if w = 4 then (if xDom a = true then (xCnt X a).toInt64 else -1)
  else if w = 5 then (if xPres X a = true ∧ 0 ≤ b ∧ b < 8 then (X 27 (tN a) (tN b)).toInt64 &&& 4294967295 else -1)
  else if w = 6 then (if xPres X a = true then (xUw X (tN a)).toInt64 else -1)
  else -1
