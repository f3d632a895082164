theorem mCo2_k {M : gS} {v : Nat} {q : Int32} {w : Bool} {kd i j : Nat} (hk : 61 ≤ kd) (h73 : ¬ kd = 73) : (mCo2 M (mCom M v q w) v q w).2 kd i j = M kd i j := by
  unfold mCo2
  split
  · unfold mCom
    exact mMap_k (by omega) (by omega)
  · dsimp only
    rw [mTk_k (by omega) (by omega) (by omega) (by omega), mCo1_k (by omega) h73]
    unfold mCom
    exact mMap_k (by omega) (by omega)
theorem xSq_eq {X M : gS} {n v : Nat} (h : Rl X M n) (hv : v < 3) (hp : ¬ M 61 v 0 = 0) (hn : n < 2 ^ 30) : xSq X v (tN (X 17 v 0)) = mSq M v := by
  obtain ⟨f, b, rp, re, rh, po, ra, ta, c1, c2, c3, c4, c5, c6, c7, c8, c9, c10, c11, c12, c13, c14, c15, c16, c17, c18, c19, c20, c21, c22, c23, c24, c25, c26, c27, c28, c29, c30, g1⟩ := d_dev h hv hp
  have eP : mRp M v = rp := by unfold mRp; rw [c22, tN_nI (by omega)]
  have eT : mTa M v = ta := by unfold mTa; rw [c29, tN_nI (by omega)]
  have e2 : 2 + nI (ta % 3) = nI (2 + ta % 3) := nJ_add 2 _
  unfold xSq mSq
  rw [c14, c19, eP, eT, rem3_nI (by omega), e2, tN_nI (by omega), tN_nI (by omega), Nat.add_assoc]
  exact (h.2.2.1 rp c4 (2 + ta % 3) (by omega)).symm
theorem c_se {X M : gS} {n v : Nat} (h : Rl X M n) (hv : v < 3) (hp : ¬ M 61 v 0 = 0) (hn : n < 2 ^ 30) : (xSe X v (tN (X 17 v 0))).1 = (mSe M v).1 ∧ Rl (xSe X v (tN (X 17 v 0))).2 (mSe M v).2 (n + 1) := by
  have eq := xSq_eq h hv hp hn
  obtain ⟨⟨o1, o2⟩, -, -, o3, o4, o5, o6⟩ := co_all h hv hp (mSq M v) (decide (mSq M v &&& 8 = 0))
  obtain ⟨f, b, rp, re, rh, po, ra, ta, c1, c2, c3, c4, c5, c6, c7, c8, c9, c10, c11, c12, c13, c14, c15, c16, c17, c18, c19, c20, c21, c22, c23, c24, c25, c26, c27, c28, c29, c30, g1⟩ := d_dev h hv hp
  have eB : mB M v = b := by unfold mB; rw [c21, tN_nI (by omega)]
  have eP : mRp M v = rp := by unfold mRp; rw [c22, tN_nI (by omega)]
  have eT : mTa M v = ta := by unfold mTa; rw [c29, tN_nI (by omega)]
  have e5 : 5 + nI (ta % 3) = nI (5 + ta % 3) := nJ_add 5 _
  have fx : ∀ kd p q, 14 ≤ kd → ¬ kd = 27 → (xCo X v (mSq M v) (decide (mSq M v &&& 8 = 0))).2 kd p q = X kd p q := fun kd p q k1 k2 => xCo_k (by omega) (by omega) (by omega) (by omega) (by omega) (by omega) (by omega) (by omega) (by omega) (by omega) k2
  have fm : ∀ kd p q, 61 ≤ kd → ¬ kd = 73 → (mCo2 M (mCom M v (mSq M v) (decide (mSq M v &&& 8 = 0))) v (mSq M v) (decide (mSq M v &&& 8 = 0))).2 kd p q = M kd p q := fun kd p q k1 k2 => mCo2_k k1 k2
  unfold xSe mSe xSc
  rw [eq]
  revert o1 o2 o3 o4 o5 o6 fx fm
  generalize xCo X v (mSq M v) (decide (mSq M v &&& 8 = 0)) = A
  generalize mCo2 M (mCom M v (mSq M v) (decide (mSq M v &&& 8 = 0))) v (mSq M v) (decide (mSq M v &&& 8 = 0)) = B
  intro o1 o2 o3 o4 o5 o6 fx fm
  have x1 : xSe1 X A v (tN (X 17 v 0)) = gup (gup (gup A.2 2 rp (5 + ta % 3) A.1) 24 v 0 (nI (ta + 1))) 2 rp 1 (nI (ta + 1)) := by
    unfold xSe1
    rw [c14, c19, rem3_nI (by omega), e5, tN_nI (by omega), tN_nI (by omega), nI_add1]
  have m1 : mSe1 M B v = gup (gup (gup B.2 52 (8 * rp + (5 + ta % 3)) 0 A.1) 70 v 0 (nI (ta + 1))) 52 (8 * rp + 1) 0 (nI (ta + 1)) := by
    unfold mSe1
    rw [eP, eT, o1, Nat.add_assoc]
  have h1 := c_wrd o2 c4 (show 5 + ta % 3 < 8 by omega) (x := A.1)
  have h2 : Rc (gup (gup A.2 2 rp (5 + ta % 3) A.1) 24 v 0 (nI (ta + 1))) (gup (gup B.2 52 (8 * rp + (5 + ta % 3)) 0 A.1) 70 v 0 (nI (ta + 1))) := Rc_k h1 (fun kd hk _ _ => gup_k (by omega)) (fun kd _ hk _ _ => gup_k (by omega))
  have h3 := c_wrd h2 c4 (show 1 < 8 by decide) (x := nI (ta + 1))
  rw [← x1, ← m1] at h3
  have hR : Rc (xSe2 X A v (tN (X 17 v 0))).2 (mSe2 M B v).2 := by
    unfold xSe2 mSe2
    dsimp only
    rw [c13, eB, c26]
    exact (c_send h3 _ _).2
  have hx : ∀ kd p q, kd = 0 ∨ 14 ≤ kd → ¬ (kd = 24 ∧ p = v) → (xSe2 X A v (tN (X 17 v 0))).2 kd p q = A.2 kd p q := fun kd p q k1 k2 => by
    unfold xSe2
    dsimp only
    rw [xSend_k (by omega), x1, gup_k (by omega)]
    by_cases hk : kd = 24
    · subst hk
      rw [gup_n (fun z => k2 ⟨rfl, z.1⟩), gup_k (by decide)]
    · rw [gup_k hk, gup_k (by omega)]
  have hm : ∀ kd p q, 61 ≤ kd → ¬ (kd = 70 ∧ p = v) → (mSe2 M B v).2 kd p q = B.2 kd p q := fun kd p q k1 k2 => by
    unfold mSe2
    dsimp only
    rw [mSend_k (by omega), m1, gup_k (by omega)]
    by_cases hk : kd = 70
    · subst hk
      rw [gup_n (fun z => k2 ⟨rfl, z.1⟩), gup_k (by decide)]
    · rw [gup_k hk, gup_k (by omega)]
  have x24 : (xSe2 X A v (tN (X 17 v 0))).2 24 v 0 = nI (ta + 1) := by
    unfold xSe2
    dsimp only
    rw [xSend_k (by decide), x1, gup_k (by decide), gup_s]
  have m70 : (mSe2 M B v).2 70 v 0 = nI (ta + 1) := by
    unfold mSe2
    dsimp only
    rw [mSend_k (by decide), m1, gup_k (by decide), gup_s]
  refine ⟨o1, hR.1, hR.2.1, hR.2.2.1, hR.2.2.2.1, hR.2.2.2.2.1, hR.2.2.2.2.2.1, hR.2.2.2.2.2.2, fun v' hv' s' hs' => ?_, fun v' hv' => ?_⟩
  · rw [hx 25 _ _ (by omega) (by omega), hx 26 _ _ (by omega) (by omega), hm 71 _ _ (by omega) (by omega), hm 72 _ _ (by omega) (by omega), fx 25 _ _ (by omega) (by omega), fx 26 _ _ (by omega) (by omega), fm 71 _ _ (by omega) (by omega), fm 72 _ _ (by omega) (by omega)]
    exact h.2.2.2.2.2.2.2.1 v' hv' s' hs'
  · by_cases hvv : v' = v
    · subst hvv
      refine dRel_up (po' := po) (ra' := ra) (ta' := ta + 1) c7 c8 (by omega) (by omega) (fun f' _ q => ?_) (fun kd k1 k2 => ?_) ?_ ?_ x24 (fun kd k1 k2 => ?_) ?_ ?_ m70 (fun s' hs' => ?_) hp (h.2.2.2.2.2.2.2.2 v' hv')
      · rw [hx 0 _ _ (by omega) (by omega)]; exact o3 f' q
      · rw [hx kd _ _ (by omega) (by omega), fx kd _ _ k1 (by omega)]
      · rw [hx 22 _ _ (by omega) (by omega), fx 22 _ _ (by omega) (by omega)]; exact c17
      · rw [hx 23 _ _ (by omega) (by omega), fx 23 _ _ (by omega) (by omega)]; exact c18
      · rw [hm kd _ _ k1 (by omega), fm kd _ _ k1 (by omega)]
      · rw [hm 68 _ _ (by omega) (by omega), fm 68 _ _ (by omega) (by omega)]; exact c27
      · rw [hm 69 _ _ (by omega) (by omega), fm 69 _ _ (by omega) (by omega)]; exact c28
      · rw [hm 73 _ _ (by omega) (by omega), hx 27 _ _ (by omega) (by omega)]
        exact o4 s' hs'
    · refine dRel_k (fun f' _ _ q => ?_) (fun kd k1 k2 k3 k4 q => ?_) (fun kd k1 k2 => ?_) (fun s' hs' => ?_) (h.2.2.2.2.2.2.2.2 v' hv')
      · rw [hx 0 _ _ (by omega) (by omega)]; exact o3 f' q
      · rw [hx kd _ _ (by omega) (by omega)]
        by_cases hk : kd = 27
        · subst hk
          exact o5 v' q hvv
        · exact fx kd _ _ k1 hk
      · rw [hm kd _ _ k1 (by omega), fm kd _ _ k1 (by omega)]
      · rw [hm 73 _ _ (by omega) (by omega)]
        exact o6 _ (by omega)
theorem c_serve {X M : gS} {n : Nat} (h : Rl X M n) (hn : n < 2 ^ 30) (v : Int32) : (xServe X v).1 = (mServe M v).1 ∧ Rl (xServe X v).2 (mServe M v).2 (n + 1) := by
  unfold xServe mServe
  rw [d_dc h]
  rcases tr_is M v with ⟨t1, t2⟩ | t1
  · rw [if_neg t2, if_pos t1]
    exact ⟨rfl, Rl_next h⟩
  · have t2 : ¬ mTr M v < 0 := by rw [t1]; decide
    rw [if_pos t1, if_neg t2]
    obtain ⟨k, hk, rfl, hp⟩ := tr_nn t2
    rw [tN_nI (by omega)]
    have es : xSn X k = mSn M k := by
      obtain ⟨f, b, rp, re, rh, po, ra, ta, c1, c2, c3, c4, c5, c6, c7, c8, c9, c10, c11, c12, c13, c14, c15, c16, c17, c18, c19, c20, c21, c22, c23, c24, c25, c26, c27, c28, c29, c30, g1⟩ := d_dev h hk hp
      have eP : mRp M k = rp := by unfold mRp; rw [c22, tN_nI (by omega)]
      have eT : mTa M k = ta := by unfold mTa; rw [c29, tN_nI (by omega)]
      unfold xSn mSn
      rw [c14, c19, eP, eT, tN_nI (by omega)]
      have z := h.2.2.1 rp c4 0 (by decide)
      rw [Nat.add_zero] at z
      rw [z]
    rw [es]
    by_cases h0 : mSn M k = 0
    · have l1 : mSn M k < 1 ∨ 3 < mSn M k := Or.inl (by rw [h0]; decide)
      rw [if_pos h0, if_pos l1, if_pos h0]
      exact ⟨rfl, Rl_next h⟩
    · rw [if_neg h0, if_neg h0]
      by_cases hb : mSn M k < 1 ∨ 3 < mSn M k
      · rw [if_pos hb, if_pos hb]
        exact ⟨rfl, Rl_next h⟩
      · rw [if_neg hb, if_neg hb]
        exact c_se h hk hp hn
