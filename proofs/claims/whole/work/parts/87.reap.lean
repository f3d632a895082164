theorem i64_01 {x : Int64} (h : ¬ x = 0) : x < 1 ↔ x < 0 := by
  rw [Int64.lt_iff_toInt_lt, Int64.lt_iff_toInt_lt]
  have e1 : (1 : Int64).toInt = 1 := by decide
  have e0 : (0 : Int64).toInt = 0 := by decide
  have hx : ¬ x.toInt = 0 := fun q => h (Int64.toInt_inj.mp (by rw [q, e0]))
  omega
theorem c_re {X M : gS} {n v : Nat} (h : Rl X M n) (hv : v < 3) (hp : ¬ M 61 v 0 = 0) (hn : n < 2 ^ 30) (hwin : ∀ ra, X 23 v 0 = nI ra → M 69 v 0 = nI ra → ¬ X 22 v 0 = nI ra) : (xRe X v).1 = (mRe0 M v).1 ∧ Rl (xRe X v).2 (mRe0 M v).2 (n + 1) := by
  obtain ⟨f, b, rp, re, rh, po, ra, ta, c1, c2, c3, c4, c5, c6, c7, c8, c9, c10, c11, c12, c13, c14, c15, c16, c17, c18, c19, c20, c21, c22, c23, c24, c25, c26, c27, c28, c29, c30, g1⟩ := d_dev h hv hp
  have eF : mF M v = f := by unfold mF; rw [c20, nI_pred, tN_nI (by omega)]
  have eP : mRp M v = rp := by unfold mRp; rw [c22, tN_nI (by omega)]
  have eR : mRa M v = ra := by unfold mRa; rw [c28, tN_nI (by omega)]
  have hw3 : ra < po := by
    have := hwin ra c18 c28
    rw [c17] at this
    exact Classical.byContradiction fun q => this (by rw [show po = ra by omega])
  have hr : rem3 (X 23 v 0) = nI (ra % 3) := by rw [c18, rem3_nI (by omega)]
  have hr' : tN (rem3 (X 23 v 0)) = ra % 3 := by rw [hr, tN_nI (by omega)]
  obtain ⟨no1, no2⟩ := h.2.2.2.2.2.2.2.1 v hv (ra % 3) (by omega)
  have h1 : Rc (xRe1 X v) (mR1 M v) := Rc_k h.c (fun kd hk p q => gup_k (by omega)) (fun kd _ hk p q => gup_k (by omega))
  have h2 : Rc (xRe2 X v).2 (mR2 M v).2 := by
    unfold xRe2 mR2
    rw [hr', eF, eR, no2, c12]
    exact (c_end h1 _ _).2
  have hR : Rc (xRe X v).2 (mRe0 M v).2 := by
    unfold xRe mRe0
    dsimp only
    unfold xRe3 mR3
    rw [hr', eF, eR, no1, c12]
    exact (c_free h2 _ _).2
  have ea : (xRe X v).1 = (mRe0 M v).1 := by
    unfold xRe mRe0
    dsimp only
    have e5 : 5 + nI (ra % 3) = nI (5 + ra % 3) := nJ_add 5 _
    rw [hr', hr, e5, tN_nI (by omega), eF, eR, eP, no1, c12, c14, tN_nI (by omega), ← h.2.2.1 rp c4 (5 + ra % 3) (by omega), c_load h1, ← Nat.add_assoc]
  have fx : ∀ kd p q, kd = 0 ∨ 14 ≤ kd → (xRe X v).2 kd p q = xRe1 X v kd p q := fun kd p q hk => by
    unfold xRe
    dsimp only
    unfold xRe3
    rw [xFree_k (by omega)]
    unfold xRe2
    rw [xEnd_k (by omega) (by omega) (by omega)]
  have fm : ∀ kd p q, 61 ≤ kd → (mRe0 M v).2 kd p q = mR1 M v kd p q := fun kd p q hk => by
    unfold mRe0
    dsimp only
    unfold mR3
    rw [mFree_k (by omega)]
    unfold mR2
    rw [mEnd_k (by omega)]
  have hx : ∀ kd p q, kd = 0 ∨ 14 ≤ kd → ¬ (kd = 23 ∧ p = v) → (xRe X v).2 kd p q = X kd p q := fun kd p q k1 k2 => by
    rw [fx kd p q k1]
    unfold xRe1
    by_cases hk : kd = 23
    · subst hk
      exact gup_n (fun z => k2 ⟨rfl, z.1⟩)
    · exact gup_k hk
  have hm : ∀ kd p q, 61 ≤ kd → ¬ (kd = 69 ∧ p = v) → (mRe0 M v).2 kd p q = M kd p q := fun kd p q k1 k2 => by
    rw [fm kd p q k1]
    unfold mR1
    by_cases hk : kd = 69
    · subst hk
      exact gup_n (fun z => k2 ⟨rfl, z.1⟩)
    · exact gup_k hk
  refine ⟨ea, hR.1, hR.2.1, hR.2.2.1, hR.2.2.2.1, hR.2.2.2.2.1, hR.2.2.2.2.2.1, hR.2.2.2.2.2.2, fun v' hv' s' hs' => ?_, fun v' hv' => ?_⟩
  · rw [hx 25 _ _ (by omega) (by omega), hx 26 _ _ (by omega) (by omega), hm 71 _ _ (by omega) (by omega), hm 72 _ _ (by omega) (by omega)]
    exact h.2.2.2.2.2.2.2.1 v' hv' s' hs'
  · by_cases hvv : v' = v
    · subst hvv
      refine dRel_up (po' := po) (ra' := ra + 1) (ta' := ta) (by omega) (by omega) (by omega) (by omega) (fun f' _ q => ?_) (fun kd k1 k2 => hx kd _ _ (by omega) (by omega)) ?_ ?_ ?_ (fun kd k1 k2 => hm kd _ _ k1 (by omega)) ?_ ?_ ?_ (fun s' hs' => ?_) hp (h.2.2.2.2.2.2.2.2 v' hv')
      · rw [hx 0 _ _ (by omega) (by omega)]; exact q
      · rw [hx 22 _ _ (by omega) (by omega)]; exact c17
      · rw [fx 23 _ _ (by omega)]
        unfold xRe1
        rw [gup_s, c18, nI_add1]
      · rw [hx 24 _ _ (by omega) (by omega)]; exact c19
      · rw [hm 68 _ _ (by omega) (by omega)]; exact c27
      · rw [fm 69 _ _ (by omega)]
        unfold mR1
        rw [gup_s, eR]
      · rw [hm 70 _ _ (by omega) (by omega)]; exact c29
      · rw [hm 73 _ _ (by omega) (by omega), hx 27 _ _ (by omega) (by omega)]
        exact c30 s' hs'
    · refine dRel_k (fun f' _ _ q => ?_) (fun kd k1 k2 k3 k4 q => hx kd _ _ (by omega) (by omega)) (fun kd k1 k2 => hm kd _ _ k1 (by omega)) (fun s' hs' => hm 73 _ _ (by omega) (by omega)) (h.2.2.2.2.2.2.2.2 v' hv')
      rw [hx 0 _ _ (by omega) (by omega)]; exact q
theorem c_reap {X M : gS} {n : Nat} (h : Rl X M n) (hn : n < 2 ^ 30) (v : Int32) : (xReap X v).1 = (mReap M v).1 ∧ Rl (xReap X v).2 (mReap M v).2 (n + 1) := by
  unfold xReap mReap
  rw [d_dc h]
  rcases tr_is M v with ⟨t1, t2⟩ | t1
  · rw [if_neg t2, if_pos t1]
    exact ⟨rfl, Rl_next h⟩
  · have t2 : ¬ mTr M v < 0 := by rw [t1]; decide
    rw [if_pos t1, if_neg t2]
    obtain ⟨k, hk, rfl, hp⟩ := tr_nn t2
    rw [tN_nI (by omega)]
    obtain ⟨f, b, rp, re, rh, po, ra, ta, c1, c2, c3, c4, c5, c6, c7, c8, c9, c10, c11, c12, c13, c14, c15, c16, c17, c18, c19, c20, c21, c22, c23, c24, c25, c26, c27, c28, c29, c30, g1⟩ := d_dev h hk hp
    have eP : mRp M k = rp := by unfold mRp; rw [c22, tN_nI (by omega)]
    have eR : mRa M k = ra := by unfold mRa; rw [c28, tN_nI (by omega)]
    have er : xRn X k = mRn M k := by
      unfold xRn mRn
      rw [c14, c18, eP, eR, tN_nI (by omega), h.2.2.1 rp c4 1 (by decide)]
    have eu : xUw X k = M 68 k 0 - nI (mRa M k) := by
      unfold xUw
      rw [c17, c18, c27, eR]
    have ed : M 68 k 0 - nI (mRa M k) = nI (po - ra) := by rw [c27, eR, nJ_sub c7]
    rw [er, eu]
    by_cases h0 : mRn M k = 0
    · rw [if_pos h0, if_pos h0]
      exact ⟨rfl, Rl_next h⟩
    · rw [if_neg h0, if_neg h0]
      have hi := i64_01 h0
      by_cases hb : mRn M k < 0 ∨ (M 68 k 0 - nI (mRa M k)).toInt64 < mRn M k
      · rw [if_pos (hb.imp hi.mpr id), if_pos hb]
        exact ⟨rfl, Rl_next h⟩
      · have hb' : ¬ (mRn M k < 1 ∨ (M 68 k 0 - nI (mRa M k)).toInt64 < mRn M k) := fun q => hb (q.imp hi.mp id)
        rw [if_neg hb', if_neg hb]
        refine c_re h hk hp hn (fun ra' q1 q2 q3 => hb (Or.inr ?_))
        have e2 : nI po = nI ra := by rw [← c17, q3, ← q1, c18]
        have e3 := nI_inj (by omega) (by omega) e2
        rw [ed, show po - ra = 0 by omega]
        have z : (nI 0).toInt64 = 0 := by decide
        rw [z]
        have n0 : ¬ mRn M k < 0 := fun q => hb (Or.inl q)
        rw [Int64.lt_iff_toInt_lt] at n0 ⊢
        have e0 : (0 : Int64).toInt = 0 := by decide
        have hx : ¬ (mRn M k).toInt = 0 := fun q => h0 (Int64.toInt_inj.mp (by rw [q, e0]))
        omega
