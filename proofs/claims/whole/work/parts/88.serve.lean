theorem map_ok {X M : gS} (h : Rc X M) {b f : Nat} {r : Int32} {w : Bool} (hb : b < 5) (hf : f < 5) (hs : ¬ (xMap X (nI b) (nI f) r w).1 < 0) : ∃ k e p, k < 5 ∧ e < 6 ∧ p < 20 ∧ r = nI e ∧ xMap X (nI b) (nI f) r w = (nI k, xMap1 (hSet X b k (nI f) (nI e) (bI w)) f e) ∧ xLive X (nI b) = true ∧ X 5 f e = nI p ∧ M 55 (6 * f + e) 0 = nI p := by
  unfold xMap at hs ⊢
  rw [tN_nI (by omega), tN_nI (by omega)] at *
  by_cases hl : xLive X (nI b) = true ∧ xLive X (nI f) = true
  · rw [if_pos hl] at hs ⊢
    rcases l_hasE h.2.2.2.1 hf r with ⟨e1, e, he, rfl, hfr, -⟩ | ⟨e1, -⟩
    · rw [if_pos e1, tN_nI (by omega)] at hs ⊢
      by_cases hbad : X 4 f e = 2 ∨ ¬ X 3 f e = nI b
      · rw [if_pos hbad] at hs
        exact absurd (show (-5 : Int32) < 0 by decide) hs
      · rw [if_neg hbad] at hs ⊢
        by_cases hro : w = true ∧ X 4 f e = 0
        · rw [if_pos hro] at hs
          exact absurd (show (-6 : Int32) < 0 by decide) hs
        · rw [if_neg hro] at hs ⊢
          rcases ffst_is (p := fun k => decide (X 7 b k = -1)) (n := 5) (by decide) with hk | ⟨k, hk, ek, hpk⟩
          · have hk' : xFh X b = -1 := hk
            rw [if_pos hk'] at hs
            exact absurd (show (-7 : Int32) < 0 by decide) hs
          · have ek' : xFh X b = nI k := ek
            rw [ek', if_neg (nI_nm1 (by omega)), tN_nI (by omega)]
            rcases h.2.2.2.1 f hf e he with ⟨g1, -⟩ | ⟨t, ht, g1, g2, g3, g4⟩
            · exact absurd g1 hfr
            · rcases g4 with ⟨g4, -⟩ | ⟨-, p, hp, g5, g6⟩
              · exact absurd (Or.inl g4) hbad
              · exact ⟨k, e, p, hk, he, hp, rfl, rfl, hl.1, g5, g6⟩
    · have ef : ¬ xHasE X f r = true := by rw [e1]; decide
      rw [if_neg ef] at hs
      exact absurd (show (-5 : Int32) < 0 by decide) hs
  · rw [if_neg hl] at hs
    exact absurd (show (-1 : Int32) < 0 by decide) hs
theorem map1_7 {X : gS} {b k f e : Nat} {u y z : Int32} : xMap1 (hSet X b k u y z) f e 7 b k = u := by
  unfold xMap1
  rw [gup_k (by decide), hSet_r7, if_pos ⟨rfl, rfl⟩]
theorem map1_8 {X : gS} {b k f e : Nat} {u y z : Int32} : xMap1 (hSet X b k u y z) f e 8 b k = y := by
  unfold xMap1
  rw [gup_k (by decide), hSet_r8, if_pos ⟨rfl, rfl⟩]
theorem map1_k {X : gS} {b k f e kd p q : Nat} {u y z : Int32} (h6 : ¬ kd = 6) (h7 : ¬ kd = 7) (h8 : ¬ kd = 8) (h9 : ¬ kd = 9) : xMap1 (hSet X b k u y z) f e kd p q = X kd p q := by
  unfold xMap1
  rw [gup_k h6, hSet_k h7 h8 h9]
theorem mMap_neg {M : gS} {x f r : Int32} {w : Bool} (h : (mMap M x f r w).1 < 0) : (mMap M x f r w).2 = M := by
  unfold mMap at h ⊢
  split at h
  · next h1 =>
    rw [if_pos h1]
    split at h
    · next h2 => rw [if_pos h2]
    · next h2 =>
      rw [if_neg h2]
      split at h
      · next h3 => rw [if_pos h3]
      · next h3 =>
        rw [if_neg h3]
        split at h
        · next h4 => rw [if_pos h4]
        · next h4 => exact absurd h h4
  · next h1 => rw [if_neg h1]
theorem xMap_neg {X M : gS} (hr : Rc X M) {x f r : Int32} {w : Bool} (h : (xMap X x f r w).1 < 0) : (xMap X x f r w).2 = X := by
  unfold xMap at h ⊢
  split at h
  · next h1 =>
    rw [if_pos h1]
    split at h
    · next h2 =>
      rw [if_pos h2]
      split at h
      · next h3 => rw [if_pos h3]
      · next h3 =>
        rw [if_neg h3]
        split at h
        · next h4 => rw [if_pos h4]
        · next h4 =>
          rw [if_neg h4]
          split at h
          · next h5 => rw [if_pos h5]
          · next h5 => exact absurd h (ir_fh h5).1
    · next h2 => rw [if_neg h2]
  · next h1 => rw [if_neg h1]
theorem co_all {X M : gS} {n v : Nat} (h : Rl X M n) (hv : v < 3) (hp : ¬ M 61 v 0 = 0) (q : Int32) (w : Bool) : ((xCo X v q w).1 = (mCo2 M (mCom M v q w) v q w).1 ∧ Rc (xCo X v q w).2 (mCo2 M (mCom M v q w) v q w).2) ∧ (¬ (xCom X v q w).1 < 0 → coF X (xCom X v q w) v q w) ∧ (¬ (mCom M v q w).1 < 0 → coMF M (mCom M v q w) v q w) ∧ (∀ f', X 0 f' 0 = 1 → (xCo X v q w).2 0 f' 0 = 1) ∧ (∀ s, s < 8 → (mCo2 M (mCom M v q w) v q w).2 73 (8 * v + s) 0 = (xCo X v q w).2 27 v s) ∧ (∀ v' s, ¬ v' = v → (xCo X v q w).2 27 v' s = X 27 v' s) ∧ (∀ i, ¬ (8 * v ≤ i ∧ i < 8 * v + 8) → (mCo2 M (mCom M v q w) v q w).2 73 i 0 = M 73 i 0) := by
  obtain ⟨f, b, rp, re, rh, po, ra, ta, c1, c2, c3, c4, c5, c6, c7, c8, c9, c10, c11, c12, c13, c14, c15, c16, c17, c18, c19, c20, c21, c22, c23, c24, c25, c26, c27, c28, c29, c30, g1⟩ := d_dev h hv hp
  have eF : mF M v = f := by unfold mF; rw [c20, nI_pred, tN_nI (by omega)]
  have eB : mB M v = b := by unfold mB; rw [c21, tN_nI (by omega)]
  have eX : xCom X v q w = xMap X (nI b) (nI f) (q >>> ((4 : Int32) &&& 31)) w := by unfold xCom; rw [c12, c13]
  have eM : mCom M v q w = mMap M (nI b) (nI f) (q >>> ((4 : Int32) &&& 31)) w := by unfold mCom; rw [eF, eB]
  obtain ⟨a1, b1⟩ := c_map h.c (nI b) (nI f) (q >>> ((4 : Int32) &&& 31)) w
  have hs8 := and7_ir q
  unfold xCo
  rw [eX, eM]
  by_cases hneg : (xMap X (nI b) (nI f) (q >>> ((4 : Int32) &&& 31)) w).1 < 0
  · have hneg' : (mMap M (nI b) (nI f) (q >>> ((4 : Int32) &&& 31)) w).1 < 0 := by rw [← a1]; exact hneg
    unfold xCo2 mCo2
    rw [if_pos hneg, if_pos hneg']
    refine ⟨⟨a1, b1⟩, fun z => absurd hneg z, fun z => absurd hneg' z, ?_⟩
    rw [xMap_neg h.c hneg, mMap_neg hneg']
    exact ⟨fun _ z => z, c30, fun _ _ _ => rfl, fun _ _ => rfl⟩
  · have hneg' : ¬ (mMap M (nI b) (nI f) (q >>> ((4 : Int32) &&& 31)) w).1 < 0 := by rw [← a1]; exact hneg
    obtain ⟨k, e, p, hk, he, hp20, er, em, hl, h5, h55⟩ := map_ok h.c c2 c1 hneg
    unfold xCo2 mCo2
    rw [if_neg hneg, if_neg hneg']
    have eA1 : (mMap M (nI b) (nI f) (q >>> ((4 : Int32) &&& 31)) w).1 = nI k := by rw [← a1, em]
    have fm : ∀ kd i j, ¬ kd = 56 → ¬ kd = 57 → (mMap M (nI b) (nI f) (q >>> ((4 : Int32) &&& 31)) w).2 kd i j = M kd i j := fun kd i j z1 z2 => mMap_k z1 z2
    have te : tN (q >>> ((4 : Int32) &&& 31)) = e := by rw [er, tN_nI (by omega)]
    have t0 : ¬ q >>> ((4 : Int32) &&& 31) < 0 := by rw [er]; exact nI_pos (by omega)
    have p7 : (xMap X (nI b) (nI f) (q >>> ((4 : Int32) &&& 31)) w).2 7 b k = nI f := by rw [em]; dsimp only; rw [map1_7]
    have p8 : (xMap X (nI b) (nI f) (q >>> ((4 : Int32) &&& 31)) w).2 8 b k = nI e := by rw [em]; dsimp only; rw [map1_8]
    have pk : ∀ kd i j, ¬ kd = 6 → ¬ kd = 7 → ¬ kd = 8 → ¬ kd = 9 → (xMap X (nI b) (nI f) (q >>> ((4 : Int32) &&& 31)) w).2 kd i j = X kd i j := fun kd i j z1 z2 z3 z4 => xMap_k z1 z2 z3 z4
    have pA : (xMap X (nI b) (nI f) (q >>> ((4 : Int32) &&& 31)) w).1 = nI k := by rw [em]
    clear em
    revert a1 b1 eA1 fm p7 p8 pk pA
    clear eX eM hneg hneg'
    generalize xMap X (nI b) (nI f) (q >>> ((4 : Int32) &&& 31)) w = A
    generalize mMap M (nI b) (nI f) (q >>> ((4 : Int32) &&& 31)) w = B
    intro a1 b1 eA1 fm p7 p8 pk pA
    have ep : xPgO A.2 b k = nI p := by
      unfold xPgO
      rw [p7, p8, tN_nI (by omega), tN_nI (by omega), pk 5 _ _ (by decide) (by decide) (by decide) (by decide)]
      exact h5
    have eY : xCo1 X A.2 v q (nI b) (nI k) w = if w = true then gup A.2 2 p 0 (X 27 v (tN (q &&& 7))) else gup A.2 27 v (tN (q &&& 7)) (X 2 p 0) := by
      unfold xCo1
      rw [tN_nI (by omega), tN_nI (by omega), ep, tN_nI (by omega)]
    have eN : mCo1 M B v q w = if w = true then gup B.2 52 (8 * p) 0 (X 27 v (tN (q &&& 7))) else gup B.2 73 (8 * v + tN (q &&& 7)) 0 (X 2 p 0) := by
      unfold mCo1
      rw [eF, te, h55, tN_nI (by omega), c30 _ hs8.2, ← h.2.2.1 p hp20 0 (by decide)]
      rfl
    have hYN : Rc (xCo1 X A.2 v q (nI b) (nI k) w) (mCo1 M B v q w) := by
      rw [eY, eN]
      cases w
      · exact Rc_k b1 (fun kd hk _ _ => gup_k (by omega)) (fun kd _ hk _ _ => gup_k (by omega))
      · exact c_wrd b1 hp20 (show 0 < 8 by decide)
    have y7 : xCo1 X A.2 v q (nI b) (nI k) w 7 b k = nI f := by rw [xCo1_k (by decide) (by decide)]; exact p7
    obtain ⟨t1, t2, t3⟩ := c_tk hYN c2 hk (by rw [y7]; exact nI_nm1 (by omega))
    have yl : xLive (xCo1 X A.2 v q (nI b) (nI k) w) (nI b) = true := by
      rw [xLive_k (fun i j => (xCo1_k (by decide) (by decide)).trans (pk 0 i j (by decide) (by decide) (by decide) (by decide)))]
      exact hl
    have yh : xHasH (xCo1 X A.2 v q (nI b) (nI k) w) b (nI k) = true := by
      unfold xHasH
      rw [tN_nI (by omega), y7]
      have z1 : (0 : Int32) ≤ nI k := i32_d (nI_pos (by omega))
      have z2 : nI k < 5 := nI_lt (a := k) (b := 5) (by omega) (by decide)
      have z3 : ¬ nI f = -1 := nI_nm1 (by omega)
      simp [z1, z2, z3]
    have eU : (xUnmap (xCo1 X A.2 v q (nI b) (nI k) w) (nI b) (nI k)).2 = xTk (xCo1 X A.2 v q (nI b) (nI k) w) b k := by
      unfold xUnmap
      rw [tN_nI (by omega), if_pos yl, if_pos yh, tN_nI (by omega)]
    rw [c13, pA, eA1, eB, tN_nI (by omega), eU]
    refine ⟨⟨rfl, t3⟩, fun _ => ?_, fun _ => ?_, ?_, ?_, ?_, ?_⟩
    · unfold coF
      rw [c13, pA, tN_nI (by omega), tN_nI (by omega), p7, p8, ep, tN_nI (by omega), tN_nI (by omega), tN_nI (by omega)]
      exact ⟨nI_pos (by omega), c2, hk, nI_pos (by omega), c1, nI_pos (by omega), he, nI_pos (by omega), hp20, fun _ _ => t1⟩
    · unfold coMF
      rw [eF, eB, eA1, te, h55, tN_nI (by omega), tN_nI (by omega)]
      exact ⟨t0, he, hk, nI_pos (by omega), hp20, t2⟩
    · intro f' z
      refine xTk_1 ?_
      rw [xCo1_k (by decide) (by decide), pk 0 _ _ (by decide) (by decide) (by decide) (by decide)]
      exact z
    · intro s hs
      dsimp only
      rw [mTk_k (by decide) (by decide) (by decide) (by decide), xTk_k (by decide) (by decide) (by decide) (by decide) (by decide) (by decide) (by decide) (by decide) (by decide), eY, eN]
      cases w
      · rw [if_neg (by decide), if_neg (by decide), gup_r, gup_r, fm 73 _ _ (by decide) (by decide), pk 27 _ _ (by decide) (by decide) (by decide) (by decide)]
        by_cases hc : s = tN (q &&& 7)
        · rw [if_pos ⟨by omega, rfl⟩, if_pos ⟨rfl, hc⟩]
        · have n1 : ¬ (8 * v + s = 8 * v + tN (q &&& 7) ∧ 0 = 0) := fun z => hc (by omega)
          have n2 : ¬ (v = v ∧ s = tN (q &&& 7)) := fun z => hc z.2
          rw [if_neg n1, if_neg n2]
          exact c30 s hs
      · rw [if_pos rfl, if_pos rfl, gup_k (by decide), gup_k (by decide), fm 73 _ _ (by decide) (by decide), pk 27 _ _ (by decide) (by decide) (by decide) (by decide)]
        exact c30 s hs
    · intro v' s hvv
      rw [xTk_k (by decide) (by decide) (by decide) (by decide) (by decide) (by decide) (by decide) (by decide) (by decide), eY]
      cases w
      · rw [if_neg (by decide), gup_n (fun z => hvv z.1), pk 27 _ _ (by decide) (by decide) (by decide) (by decide)]
      · rw [if_pos rfl, gup_k (by decide), pk 27 _ _ (by decide) (by decide) (by decide) (by decide)]
    · intro i hi
      dsimp only
      rw [mTk_k (by decide) (by decide) (by decide) (by decide), eN]
      cases w
      · rw [if_neg (by decide), gup_n (fun z => hi ⟨by omega, by omega⟩), fm 73 _ _ (by decide) (by decide)]
      · rw [if_pos rfl, gup_k (by decide), fm 73 _ _ (by decide) (by decide)]
