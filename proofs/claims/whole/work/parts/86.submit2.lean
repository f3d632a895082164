theorem xSu_r {X : gS} {v : Nat} {w : Bool} {s x : Int32} {kd p q : Nat} (hk : kd = 0 ∨ 14 ≤ kd) : (xSu X v w s x).2 kd p q = xPo (xSu2 X (xSu1 X (xAlloc X (X 15 v 0)) v w x) v w (xAlloc X (X 15 v 0)).1).2 v (xAlloc X (X 15 v 0)).1 (xSu2 X (xSu1 X (xAlloc X (X 15 v 0)) v w x) v w (xAlloc X (X 15 v 0)).1).1 (s + (if w = true then 8 else 0) + ((xSu2 X (xSu1 X (xAlloc X (X 15 v 0)) v w x) v w (xAlloc X (X 15 v 0)).1).1 <<< ((4 : Int32) &&& 31))) kd p q := by
  unfold xSu xSu3 xPost
  exact xSend_k (by omega)
theorem xSu2_k {X : gS} {v : Nat} {w : Bool} {x : Int32} {kd p q : Nat} (hk : kd = 0 ∨ 14 ≤ kd) : (xSu2 X (xSu1 X (xAlloc X (X 15 v 0)) v w x) v w (xAlloc X (X 15 v 0)).1).2 kd p q = X kd p q := by
  unfold xSu2
  rw [xGrant_k (by omega) (by omega) (by omega)]
  unfold xSu1
  split
  · rw [xStore_k (by omega), xAlloc_k (by omega) (by omega)]
  · rw [xAlloc_k (by omega) (by omega)]
theorem xPo_k {X : gS} {v : Nat} {y r z : Int32} {kd p q : Nat} (h2 : ¬ kd = 2) (h22 : ¬ (kd = 22 ∧ p = v)) (h25 : ¬ kd = 25) (h26 : ¬ kd = 26) : xPo X v y r z kd p q = X kd p q := by
  unfold xPo
  rw [gup_k h2]
  by_cases hk : kd = 22
  · subst hk
    rw [gup_n (fun z => h22 ⟨rfl, z.1⟩), gup_k (by decide), gup_k (by decide), gup_k (by decide)]
  · rw [gup_k hk, gup_k h2, gup_k h26, gup_k h25]
theorem xPo_22 {X : gS} {v : Nat} {y r z : Int32} : xPo X v y r z 22 v 0 = X 22 v 0 + 1 := by
  unfold xPo
  rw [gup_k (by decide), gup_s]
theorem xPo_25 {X : gS} {v a b : Nat} {y r z : Int32} : xPo X v y r z 25 a b = if a = v ∧ b = tN (rem3 (X 22 v 0)) then y else X 25 a b := by
  unfold xPo
  rw [gup_k (by decide), gup_k (by decide), gup_k (by decide), gup_k (by decide), gup_r]
theorem xPo_26 {X : gS} {v a b : Nat} {y r z : Int32} : xPo X v y r z 26 a b = if a = v ∧ b = tN (rem3 (X 22 v 0)) then r else X 26 a b := by
  unfold xPo
  rw [gup_k (by decide), gup_k (by decide), gup_k (by decide), gup_r, gup_k (by decide)]
theorem mSu2_k {M : gS} {v : Nat} {w : Bool} {x : Int32} {kd p q : Nat} (hk : 61 ≤ kd) : (mSu2 M (mSu1 (mSuA M v) w x) v w (mSuA M v).1).2 kd p q = M kd p q := by
  unfold mSu2
  rw [mGrant_k (by omega) (by omega) (by omega)]
  unfold mSu1 mSuA
  split
  · rw [gup_k (by omega), mAlloc_k (by omega) (by omega)]
  · rw [mAlloc_k (by omega) (by omega)]
theorem mSu3_k {M : gS} {G : Int32 × gS} {v : Nat} {w : Bool} {s y : Int32} {kd p q : Nat} (h52 : ¬ kd = 52) (h68 : ¬ (kd = 68 ∧ p = v)) (h71 : ¬ kd = 71) (h72 : ¬ kd = 72) : mSu3 M G v w s y kd p q = G.2 kd p q := by
  unfold mSu3
  rw [gup_k h52]
  by_cases hk : kd = 68
  · subst hk
    rw [gup_n (fun z => h68 ⟨rfl, z.1⟩), gup_k (by decide), gup_k (by decide), gup_k (by decide)]
  · rw [gup_k hk, gup_k h52, gup_k h72, gup_k h71]
theorem mSu3_68 {M : gS} {G : Int32 × gS} {v : Nat} {w : Bool} {s y : Int32} : mSu3 M G v w s y 68 v 0 = nI (mPo M v + 1) := by
  unfold mSu3
  rw [gup_k (by decide), gup_s]
theorem mSu3_71 {M : gS} {G : Int32 × gS} {v a : Nat} {w : Bool} {s y : Int32} : mSu3 M G v w s y 71 a 0 = if a = 3 * v + mPo M v % 3 then y else G.2 71 a 0 := by
  unfold mSu3
  rw [gup_k (by decide), gup_k (by decide), gup_k (by decide), gup_k (by decide), gup_r]
  simp
theorem mSu3_72 {M : gS} {G : Int32 × gS} {v a : Nat} {w : Bool} {s y : Int32} : mSu3 M G v w s y 72 a 0 = if a = 3 * v + mPo M v % 3 then G.1 else G.2 72 a 0 := by
  unfold mSu3
  rw [gup_k (by decide), gup_k (by decide), gup_k (by decide), gup_r, gup_k (by decide)]
  simp
theorem dRel_up {X M X' M' : gS} {n v po' ra' ta' : Nat} (hra : ra' ≤ po') (hpo : po' ≤ ra' + 3) (hn : po' ≤ n + 1) (ht : ta' ≤ n + 1) (h0 : ∀ f, f < 5 → X 0 f 0 = 1 → X' 0 f 0 = 1) (hx : ∀ kd, 14 ≤ kd → kd < 22 → X' kd v 0 = X kd v 0) (h22 : X' 22 v 0 = nI po') (h23 : X' 23 v 0 = nI ra') (h24 : X' 24 v 0 = nI ta') (hm : ∀ kd, 61 ≤ kd → kd < 68 → M' kd v 0 = M kd v 0) (h68 : M' 68 v 0 = nI po') (h69 : M' 69 v 0 = nI ra') (h70 : M' 70 v 0 = nI ta') (h73 : ∀ s, s < 8 → M' 73 (8 * v + s) 0 = X' 27 v s) (hp : ¬ M 61 v 0 = 0) (h : dRel X M n v) : dRel X' M' (n + 1) v := by
  rcases h with ⟨g1, g2⟩ | ⟨g1, f, b, rp, re, rh, po, ra, ta, c1, c2, c3, c4, c5, c6, c7, c8, c9, c10, c11, c12, c13, c14, c15, c16, c17, c18, c19, c20, c21, c22, c23, c24, c25, c26, c27, c28, c29, c30⟩
  · exact absurd g2 hp
  · refine Or.inr ⟨by rw [hx 14 (by decide) (by decide)]; exact g1, f, b, rp, re, rh, po', ra', ta', c1, c2, c3, c4, c5, c6, hra, hpo, hn, ht, h0 f c1 c11, ?_⟩
    rw [hx 15 (by decide) (by decide), hx 16 (by decide) (by decide), hx 17 (by decide) (by decide), hx 18 (by decide) (by decide), hx 19 (by decide) (by decide), hx 20 (by decide) (by decide), hx 21 (by decide) (by decide), hm 61 (by decide) (by decide), hm 62 (by decide) (by decide), hm 63 (by decide) (by decide), hm 64 (by decide) (by decide), hm 65 (by decide) (by decide), hm 66 (by decide) (by decide), hm 67 (by decide) (by decide)]
    exact ⟨c12, c13, c14, c15, c16, h22, h23, h24, c20, c21, c22, c23, c24, c25, c26, h68, h69, h70, h73⟩
theorem live_of {X : gS} {f : Nat} (hf : f < 5) (h : X 0 f 0 = 1) : xLive X (nI f) = true := by
  unfold xLive
  rw [l_dom2.mpr (fun q => q.elim (nI_pos (by omega)) (nI_nlt (a := 4) (b := f) (by omega) (by decide))), tN_nI (by omega), h]
  decide
theorem c_su {X M : gS} {n v : Nat} {w : Bool} {s x : Int32} (h : Rl X M n) (hv : v < 3) (hp : ¬ M 61 v 0 = 0) (hn : n < 2 ^ 30) (hwin : ¬ 3 ≤ xUw X v) (hcg : xCgn X (X 15 v 0) = true) : (xSu X v w s x).1 = (mSu M v w s x).1 ∧ Rl (xSu X v w s x).2 (mSu M v w s x).2 (n + 1) := by
  obtain ⟨f, b, rp, re, rh, po, ra, ta, c1, c2, c3, c4, c5, c6, c7, c8, c9, c10, c11, c12, c13, c14, c15, c16, c17, c18, c19, c20, c21, c22, c23, c24, c25, c26, c27, c28, c29, c30, g1⟩ := d_dev h hv hp
  have eF : mF M v = f := by unfold mF; rw [c20, nI_pred, tN_nI (by omega)]
  have eB : mB M v = b := by unfold mB; rw [c21, tN_nI (by omega)]
  have eP : mRp M v = rp := by unfold mRp; rw [c22, tN_nI (by omega)]
  have eO : mPo M v = po := by unfold mPo; rw [c27, tN_nI (by omega)]
  have hw3 : po < ra + 3 := by
    unfold xUw at hwin
    rw [c17, c18, nJ_sub c7] at hwin
    exact Classical.byContradiction fun q => hwin (by rw [show po - ra = 3 by omega]; decide)
  have hl : xLive X (nI f) = true := live_of c1 c11
  have hg : ¬ xGet X (nI f) = -1 := by
    unfold xCgn at hcg
    rw [c12] at hcg
    simp only [Bool.and_eq_true, Bool.not_eq_true', decide_eq_false_iff_not] at hcg
    exact hcg.1
  obtain ⟨a1, b1⟩ := c_alloc h.c (nI f)
  obtain ⟨j, hj, ej, oj⟩ := alloc_own hl hg
  have b2 := su_1 (x := x) (w := w) a1 b1 (by rw [xLive_k (fun p q => xAlloc_k (by decide) (by decide))]; exact hl) hj ej oj
  have eY : (if w = true then (xStore (xAlloc X (nI f)).2 (nI f) (xAlloc X (nI f)).1 0 x).2 else (xAlloc X (nI f)).2) = xSu1 X (xAlloc X (X 15 v 0)) v w x := by unfold xSu1; rw [c12]
  have eN : mSu1 (mAlloc M (nI f)) w x = mSu1 (mSuA M v) w x := by unfold mSuA; rw [eF]
  rw [eY, eN] at b2
  have eA1 : (xAlloc X (X 15 v 0)).1 = (mSuA M v).1 := by rw [c12, a1]; unfold mSuA; rw [eF]
  have b3 : (xSu2 X (xSu1 X (xAlloc X (X 15 v 0)) v w x) v w (xAlloc X (X 15 v 0)).1).1 = (mSu2 M (mSu1 (mSuA M v) w x) v w (mSuA M v).1).1 ∧ Rc (xSu2 X (xSu1 X (xAlloc X (X 15 v 0)) v w x) v w (xAlloc X (X 15 v 0)).1).2 (mSu2 M (mSu1 (mSuA M v) w x) v w (mSuA M v).1).2 := by
    unfold xSu2 mSu2
    rw [eF, eB, c13, eA1, c12] at *
    exact c_grant b2 _ _ _ _
  obtain ⟨e3, b3⟩ := b3
  have hsh : (mSu2 M (mSu1 (mSuA M v) w x) v w (mSuA M v).1).1 <<< ((4 : Int32) &&& 31) = 16 * (mSu2 M (mSu1 (mSuA M v) w x) v w (mSuA M v).1).1 := shl4 grant_1
  have fx : ∀ kd p q, kd = 0 ∨ 14 ≤ kd → (xSu2 X (xSu1 X (xAlloc X (X 15 v 0)) v w x) v w (xAlloc X (X 15 v 0)).1).2 kd p q = X kd p q := fun kd p q hk => xSu2_k hk
  have fm : ∀ kd p q, 61 ≤ kd → (mSu2 M (mSu1 (mSuA M v) w x) v w (mSuA M v).1).2 kd p q = M kd p q := fun kd p q hk => mSu2_k hk
  have hR : Rc (xSu X v w s x).2 (mSu M v w s x).2 := by
    unfold xSu xSu3 xPost mSu
    dsimp only
    rw [fx 15 v 0 (by omega), fx 20 v 0 (by omega), c12, eF, c25]
    refine (c_send ?_ _ _).2
    have := xPo_c (p := (xAlloc X (X 15 v 0)).1) (r := (xSu2 X (xSu1 X (xAlloc X (X 15 v 0)) v w x) v w (xAlloc X (X 15 v 0)).1).1) b3 c4 (show po < 2 ^ 31 by omega) ((fx 17 v 0 (by omega)).trans c14) ((fx 22 v 0 (by omega)).trans c17) (show s + (if w = true then 8 else 0) + ((xSu2 X (xSu1 X (xAlloc X (X 15 v 0)) v w x) v w (xAlloc X (X 15 v 0)).1).1 <<< ((4 : Int32) &&& 31)) = s + (if w = true then 8 else 0) + 16 * (mSu2 M (mSu1 (mSuA M v) w x) v w (mSuA M v).1).1 by rw [e3, hsh])
    unfold mSu3
    rw [eO, eP]
    rw [c12] at this eA1 e3
    rw [eA1] at e3 this ⊢
    rw [e3] at this ⊢
    exact this
  have rx : ∀ kd p q, kd = 0 ∨ 14 ≤ kd → _ := fun kd p q hk => xSu_r (X := X) (v := v) (w := w) (s := s) (x := x) (p := p) (q := q) hk
  have rm : ∀ kd p q, 61 ≤ kd → (mSu M v w s x).2 kd p q = mSu3 M (mSu2 M (mSu1 (mSuA M v) w x) v w (mSuA M v).1) v w s (mSuA M v).1 kd p q := fun kd p q hk => by unfold mSu; exact mSend_k (by omega)
  refine ⟨?_, hR.1, hR.2.1, hR.2.2.1, hR.2.2.2.1, hR.2.2.2.2.1, hR.2.2.2.2.2.1, hR.2.2.2.2.2.2, fun v' hv' s' hs' => ?_, fun v' hv' => ?_⟩
  · unfold xSu xSu3 mSu
    dsimp only
    rw [fx 22 v 0 (by omega), c17, eO]
  · rw [rx 25 _ _ (by omega), rx 26 _ _ (by omega), rm 71 _ _ (by omega), rm 72 _ _ (by omega), xPo_25, xPo_26, mSu3_71, mSu3_72, fx 22 v 0 (by omega), fx 25 _ _ (by omega), fx 26 _ _ (by omega), fm 71 _ _ (by omega), fm 72 _ _ (by omega), c17, rem3_nI (by omega), tN_nI (by omega), eO]
    by_cases hc : v' = v ∧ s' = po % 3
    · rw [if_pos hc, if_pos hc, if_pos (show 3 * v' + s' = 3 * v + po % 3 by omega), if_pos (show 3 * v' + s' = 3 * v + po % 3 by omega)]
      exact ⟨eA1.symm, e3.symm⟩
    · rw [if_neg hc, if_neg hc, if_neg (show ¬ 3 * v' + s' = 3 * v + po % 3 by omega), if_neg (show ¬ 3 * v' + s' = 3 * v + po % 3 by omega)]
      exact h.2.2.2.2.2.2.2.1 v' hv' s' hs'
  · have hx : ∀ kd p q, kd = 0 ∨ 14 ≤ kd → ¬ (kd = 22 ∧ p = v) → ¬ kd = 25 → ¬ kd = 26 → (xSu X v w s x).2 kd p q = X kd p q := fun kd p q k1 k2 k3 k4 => by
      rw [rx kd p q k1, xPo_k (by omega) k2 k3 k4, fx kd p q k1]
    have hm : ∀ kd p q, 61 ≤ kd → ¬ (kd = 68 ∧ p = v) → ¬ kd = 71 → ¬ kd = 72 → (mSu M v w s x).2 kd p q = M kd p q := fun kd p q k1 k2 k3 k4 => by
      rw [rm kd p q k1, mSu3_k (by omega) k2 k3 k4, fm kd p q k1]
    by_cases hvv : v' = v
    · subst hvv
      refine dRel_up (po' := po + 1) (ra' := ra) (ta' := ta) (by omega) (by omega) (by omega) (by omega) (fun f' _ q => ?_) (fun kd k1 k2 => hx kd _ _ (by omega) (by omega) (by omega) (by omega)) ?_ ?_ ?_ (fun kd k1 k2 => hm kd _ _ k1 (by omega) (by omega) (by omega)) ?_ ?_ ?_ (fun s' hs' => ?_) hp (h.2.2.2.2.2.2.2.2 v' hv')
      · rw [hx 0 _ _ (by omega) (by omega) (by omega) (by omega)]; exact q
      · rw [rx 22 _ _ (by omega), xPo_22, fx 22 _ _ (by omega), c17, nI_add1]
      · rw [hx 23 _ _ (by omega) (by omega) (by omega) (by omega)]; exact c18
      · rw [hx 24 _ _ (by omega) (by omega) (by omega) (by omega)]; exact c19
      · rw [rm 68 _ _ (by omega), mSu3_68, eO]
      · rw [hm 69 _ _ (by omega) (by omega) (by omega) (by omega)]; exact c28
      · rw [hm 70 _ _ (by omega) (by omega) (by omega) (by omega)]; exact c29
      · rw [hm 73 _ _ (by omega) (by omega) (by omega) (by omega), hx 27 _ _ (by omega) (by omega) (by omega) (by omega)]
        exact c30 s' hs'
    · refine dRel_k (fun f' _ _ q => ?_) (fun kd k1 k2 k3 k4 q => hx kd _ _ (by omega) (by omega) k3 k4) (fun kd k1 k2 => hm kd _ _ k1 (by omega) (by omega) (by omega)) (fun s' hs' => hm 73 _ _ (by omega) (by omega) (by omega) (by omega)) (h.2.2.2.2.2.2.2.2 v' hv')
      rw [hx 0 _ _ (by omega) (by omega) (by omega) (by omega)]; exact q
theorem cgn_eq {X M : gS} (h : Rc X M) {a : Nat} (ha : a < 5) : xCgn X (nI a) = false ↔ (6 ≤ mCnt M (nI a) ∨ mFpg M < 0 ∨ mFe M a < 0) := by
  have hg := get_eq h.2.1 (nI a)
  have n1 : mFe M a = -1 ↔ mFe M a < 0 := ffst_neg (by decide)
  unfold xCgn
  rw [tN_nI (by omega), l_fe h.2.2.2.1 ha]
  simp only [Bool.and_eq_false_iff, Bool.not_eq_false', decide_eq_true_eq]
  rw [hg, n1]
  constructor
  · rintro ((q | q) | q)
    · exact Or.inr (Or.inl q)
    · exact Or.inl q
    · exact Or.inr (Or.inr q)
  · rintro (q | q | q)
    · exact Or.inl (Or.inr q)
    · exact Or.inl (Or.inl q)
    · exact Or.inr q
theorem tr_is (M : gS) (x : Int32) : (mTr M x < 0 ∧ ¬ mTr M x = 0) ∨ mTr M x = 0 := by
  unfold mTr
  split
  · exact Or.inl (by decide)
  · split
    · exact Or.inr rfl
    · exact Or.inl (by decide)
theorem c_submit {X M : gS} {n : Nat} {w : Bool} (h : Rl X M n) (hn : n < 2 ^ 30) (v s x : Int32) : (xSubmit X v w s x).1 = (mSubmit M v w s x).1 ∧ Rl (xSubmit X v w s x).2 (mSubmit M v w s x).2 (n + 1) := by
  unfold xSubmit mSubmit
  rw [d_dc h]
  rcases tr_is M v with ⟨t1, t2⟩ | t1
  · rw [if_neg t2, if_pos t1]
    exact ⟨rfl, Rl_next h⟩
  · have t2 : ¬ mTr M v < 0 := by rw [t1]; decide
    rw [if_pos t1, if_neg t2]
    obtain ⟨k, hk, rfl, hp⟩ := tr_nn t2
    have e8 : (s < 0 ∨ 8 ≤ s) ↔ (s < 0 ∨ 7 < s) := by
      have : 8 ≤ s ↔ 7 < s := by
        rw [Int32.lt_iff_toInt_lt, Int32.le_iff_toInt_le]
        have e5 : (8 : Int32).toInt = 8 := by decide
        have e4 : (7 : Int32).toInt = 7 := by decide
        omega
      rw [this]
    by_cases hs : s < 0 ∨ 7 < s
    · rw [if_pos (e8.mpr hs), if_pos hs]
      exact ⟨rfl, Rl_next h⟩
    · rw [if_neg (fun q => hs (e8.mp q)), if_neg hs, tN_nI (by omega)]
      obtain ⟨f, b, rp, re, rh, po, ra, ta, c1, c2, c3, c4, c5, c6, c7, c8, c9, c10, c11, c12, c13, c14, c15, c16, c17, c18, c19, c20, c21, c22, c23, c24, c25, c26, c27, c28, c29, c30, g1⟩ := d_dev h hk hp
      have eF : mF M k = f := by unfold mF; rw [c20, nI_pred, tN_nI (by omega)]
      have eO : mPo M k = po := by unfold mPo; rw [c27, tN_nI (by omega)]
      have hu : 3 ≤ xUw X k ↔ nI po - M 69 k 0 = 3 := by
        unfold xUw
        rw [c17, c18, c28, nJ_sub c7]
        have : ∀ d, d < 4 → (3 ≤ nI d ↔ nI d = 3) := by decide +kernel
        exact this (po - ra) (by omega)
      have hA : (3 ≤ xUw X k ∨ xCgn X (X 15 k 0) = false) ↔ (nI (mPo M k) - M 69 k 0 = 3 ∨ 6 ≤ mCnt M (nI (mF M k)) ∨ mFpg M < 0 ∨ mFe M (mF M k) < 0) := by
        rw [eF, eO, c12, cgn_eq h.c c1, hu]
      by_cases hb : nI (mPo M k) - M 69 k 0 = 3 ∨ 6 ≤ mCnt M (nI (mF M k)) ∨ mFpg M < 0 ∨ mFe M (mF M k) < 0
      · rw [if_pos (hA.mpr hb), if_pos hb]
        exact ⟨rfl, Rl_next h⟩
      · have hA' := fun q => hb (hA.mp q)
        rw [if_neg hA', if_neg hb]
        refine c_su h hk hp hn (fun q => hA' (Or.inl q)) ?_
        cases hq : xCgn X (X 15 k 0)
        · exact absurd (Or.inr hq) hA'
        · rfl
