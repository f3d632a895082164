theorem qSet_r0 {X : gS} {a k a' k' : Nat} {s o p : Int32} : qSet X a k s o p 10 a' k' = if a' = a ∧ k' = k then s else X 10 a' k' := by rw [qSet, gup_k (by decide), gup_k (by decide), gup_k (by decide), gup_r]
theorem qSet_r1 {X : gS} {a k a' k' : Nat} {s o p : Int32} : qSet X a k s o p 11 a' k' = if a' = a ∧ k' = k then o else X 11 a' k' := by rw [qSet, gup_k (by decide), gup_k (by decide), gup_r, gup_k (by decide)]
theorem qSet_r2 {X : gS} {a k a' k' : Nat} {s o p : Int32} : qSet X a k s o p 12 a' k' = if a' = a ∧ k' = k then p else X 12 a' k' := by rw [qSet, gup_k (by decide), gup_r, gup_k (by decide), gup_k (by decide)]
theorem qSet_r3 {X : gS} {a k a' k' : Nat} {s o p : Int32} : qSet X a k s o p 13 a' k' = if a' = a ∧ k' = k then 0 else X 13 a' k' := by rw [qSet, gup_r, gup_k (by decide), gup_k (by decide), gup_k (by decide)]
theorem p_pend {X M : gS} {a k : Nat} (h : pRel X M a k) (h2 : ¬ X 10 a k = 2) : X 13 a k = 0 ∧ M 60 (4 * a + k) 0 = 0 := by
  obtain ⟨h3, h4, h5, -⟩ := h
  rcases h5 with h5 | ⟨-, h5⟩
  · exact ⟨h5, by rw [h4]; exact h5⟩
  · exact absurd h5 h2
theorem rOth {X M X' M' : gS} (h : Rc X M) (hp : rPrt X' M') (fx : ∀ kd, kd < 10 → ∀ a b, X' kd a b = X kd a b) (fm : ∀ kd, 50 ≤ kd → kd < 58 → ∀ a b, M' kd a b = M kd a b) : Rc X' M' := by
  obtain ⟨r1, r2, r3, r4, r5, r6, r7⟩ := h
  exact ⟨rSta_k (fx 0 (by decide)) (fm 50 (by decide) (by decide)) r1, rOwn_k (fx 1 (by decide)) (fm 51 (by decide) (by decide)) r2, rWrd_k (fx 2 (by decide)) (fm 52 (by decide) (by decide)) r3, rEnt_k (fx 3 (by decide)) (fx 4 (by decide)) (fx 5 (by decide)) (fm 53 (by decide) (by decide)) (fm 54 (by decide) (by decide)) (fm 55 (by decide) (by decide)) r4, rCnt_k (fx 6 (by decide)) (fm 56 (by decide) (by decide)) r5, rHnd_k (fx 3 (by decide)) (fx 4 (by decide)) (fx 7 (by decide)) (fx 8 (by decide)) (fx 9 (by decide)) (fm 56 (by decide) (by decide)) (fm 57 (by decide) (by decide)) r6, hp⟩
theorem c_open {X M : gS} (h : Rc X M) (d t : Int32) : (xOpen X d t).1 = (mOpen M d t).1 ∧ Rc (xOpen X d t).2 (mOpen M d t).2 := by
  have hR := h
  obtain ⟨r1, r2, r3, r4, r5, r6, r7⟩ := h
  unfold xOpen mOpen
  rw [l_live r1]
  by_cases hl : mLive M d = true
  · rw [if_pos hl, if_pos hl]
    obtain ⟨a, ha, rfl⟩ := live_nI hl
    rw [tN_nI (by omega), l_fq r7 ha]
    by_cases hb : t < 0 ∨ 4 < t ∨ t = nI a
    · rw [if_pos hb, if_neg (fun q => l_oth.mp q hb)]
      exact ⟨rfl, hR⟩
    · rw [if_neg hb, if_pos (l_oth.mpr hb)]
      rcases ffst_is (p := fun k => decide (M 58 (4 * a + k) 0 = 0)) (n := 4) (by decide) with he | ⟨k, hk, he, hpk⟩
      · have he' : mFq M a = -1 := he
        rw [he', if_pos rfl, if_pos (by decide)]
        exact ⟨rfl, hR⟩
      · have he' : mFq M a = nI k := he
        rw [he', if_neg (nI_nm1 (by omega)), if_neg (nI_pos (by omega)), tN_nI (by omega)]
        have hfree : X 10 a k = 0 := by rw [← (r7 a ha k hk).1]; simpa using hpk
        obtain ⟨z1, z2⟩ := p_pend (r7 a ha k hk) (by rw [hfree]; decide)
        refine ⟨rfl, rOth hR (fun a' ha' k' hk' => ?_) (fun kd hkd a' b => qSet_k (by omega) (by omega) (by omega) (by omega)) (fun kd h1 h2 a' b => (gup_k (by omega)).trans (gup_k (by omega)))⟩
        show pRel (qSet X a k 1 t (-1)) (gup (gup M 58 (4 * a + k) 0 1) 59 (4 * a + k) 0 t) a' k'
        unfold pRel
        by_cases hc : a' = a ∧ k' = k
        · obtain ⟨rfl, rfl⟩ := hc
          rw [qSet_r0, qSet_r1, qSet_r2, qSet_r3, if_pos ⟨rfl, rfl⟩, if_pos ⟨rfl, rfl⟩, if_pos ⟨rfl, rfl⟩, if_pos ⟨rfl, rfl⟩, gup_k (by decide), gup_s, gup_k (by decide), gup_k (by decide), gup_s]
          exact ⟨rfl, z2, Or.inl rfl, Or.inr (Or.inl ⟨rfl, rfl⟩)⟩
        · obtain ⟨g1, g2, g3, g4⟩ := r7 a' ha' k' hk'
          rw [qSet_r0, qSet_r1, qSet_r2, qSet_r3, if_neg hc, if_neg hc, if_neg hc, if_neg hc, gup_k (by decide), gup_n (by omega), gup_k (by decide), gup_k (by decide), gup_n (by omega), gup_k (by decide)]
          refine ⟨g1, g2, g3, ?_⟩
          rcases g4 with g4 | g4 | ⟨g4, b, j, c1, c2, c3, c4, c5, c6, c7, c8⟩
          · exact Or.inl g4
          · exact Or.inr (Or.inl g4)
          · refine Or.inr (Or.inr ⟨g4, b, j, c1, c2, c3, c4, c5, ?_⟩)
            have hbj : ¬ (b = a ∧ j = k) := by
              rintro ⟨rfl, rfl⟩
              rw [hfree] at c6
              exact absurd c6 (by decide)
            rw [qSet_r0, qSet_r1, qSet_r2, if_neg hbj, if_neg hbj, if_neg hbj]
            exact ⟨c6, c7, c8⟩
  · rw [if_neg hl, if_neg hl]
    exact ⟨rfl, hR⟩
theorem mBd1_r8 {M : gS} {k k' : Nat} {j : Int32} : mBd1 M k j 58 k' 0 = if k' = k then 2 else M 58 k' 0 := by
  rw [mBd1, gup_k (by decide), gup_r]
  simp
theorem mBd1_r9 {M : gS} {k k' : Nat} {j : Int32} : mBd1 M k j 59 k' 0 = if k' = k then j else M 59 k' 0 := by
  rw [mBd1, gup_r, gup_k (by decide)]
  simp
theorem mBd1_k {M : gS} {k kd a b : Nat} {j : Int32} (h1 : ¬ kd = 58) (h2 : ¬ kd = 59) : mBd1 M k j kd a b = M kd a b := by rw [mBd1, gup_k h2, gup_k h1]
theorem l_prt {k : Int32} : xPrt k = true ↔ ¬ (k < 0 ∨ 3 < k) := by
  unfold xPrt
  simp only [Bool.and_eq_true, decide_eq_true_eq]
  rw [Int32.le_iff_toInt_le, Int32.lt_iff_toInt_lt, Int32.lt_iff_toInt_lt, Int32.lt_iff_toInt_lt]
  have e0 : (0 : Int32).toInt = 0 := by decide
  have e3 : (3 : Int32).toInt = 3 := by decide
  have e4 : (4 : Int32).toInt = 4 := by decide
  omega
theorem c_bind {X M : gS} (h : Rc X M) (d t k : Int32) : (xBind X d t k).1 = (mBind M d t k).1 ∧ Rc (xBind X d t k).2 (mBind M d t k).2 := by
  have hR := h
  obtain ⟨r1, r2, r3, r4, r5, r6, r7⟩ := h
  unfold xBind mBind
  rw [l_live r1, l_live r1]
  by_cases hl : mLive M d = true ∧ mLive M t = true
  · rw [if_pos hl, if_pos hl]
    obtain ⟨a, ha, rfl⟩ := live_nI hl.1
    obtain ⟨b, hb, rfl⟩ := live_nI hl.2
    rw [tN_nI (by omega), tN_nI (by omega), l_fq r7 ha]
    by_cases hk : k < 0 ∨ 3 < k
    · rw [if_pos (hk.imp id (fun q => Or.inl q)), if_neg (fun q => l_prt.mp q.1 hk)]
      exact ⟨rfl, hR⟩
    · obtain ⟨kn, hkn, rfl⟩ := nJ_of (k := 3) (by decide) (fun q => hk (Or.inl q)) (fun q => hk (Or.inr q))
      have hkn4 : kn < 4 := by omega
      rw [tN_nI (by omega)]
      obtain ⟨p1, p2, p3, p4⟩ := r7 b hb kn hkn4
      have hw : xWt X b kn (nI a) = true ↔ (M 58 (4 * b + kn) 0 = 1 ∧ M 59 (4 * b + kn) 0 = nI a) := by
        unfold xWt
        simp only [Bool.and_eq_true, decide_eq_true_eq]
        rw [p1]
        constructor
        · rintro ⟨q1, q2⟩
          rcases p4 with p4 | ⟨-, p4⟩ | ⟨p4, -⟩
          · rw [q1] at p4; exact absurd p4 (by decide)
          · exact ⟨q1, by rw [p4]; exact q2⟩
          · rw [q1] at p4; exact absurd p4 (by decide)
        · rintro ⟨q1, q2⟩
          rcases p4 with p4 | ⟨-, p4⟩ | ⟨p4, -⟩
          · rw [q1] at p4; exact absurd p4 (by decide)
          · exact ⟨q1, by rw [← p4]; exact q2⟩
          · rw [q1] at p4; exact absurd p4 (by decide)
      by_cases hq : M 58 (4 * b + kn) 0 = 1 ∧ M 59 (4 * b + kn) 0 = nI a
      · have hneg : ¬ (nI kn < 0 ∨ 3 < nI kn ∨ ¬ M 58 (4 * b + kn) 0 = 1 ∨ ¬ M 59 (4 * b + kn) 0 = nI a) := fun q => q.elim (fun q => hk (Or.inl q)) (fun q => q.elim (fun q => hk (Or.inr q)) (fun q => q.elim (fun q => q hq.1) (fun q => q hq.2)))
        rw [if_pos ⟨l_prt.mpr hk, hw.mpr hq⟩, if_neg hneg]
        rcases ffst_is (p := fun k => decide (M 58 (4 * a + k) 0 = 0)) (n := 4) (by decide) with he | ⟨o, ho, he, hpo⟩
        · have he' : mFq M a = -1 := he
          rw [he', if_pos rfl, if_pos (by decide)]
          exact ⟨rfl, hR⟩
        · have he' : mFq M a = nI o := he
          rw [he', if_neg (nI_nm1 (by omega)), if_neg (nI_pos (by omega)), tN_nI (by omega)]
          have hfree : X 10 a o = 0 := by rw [← (r7 a ha o ho).1]; simpa using hpo
          have hwait : X 10 b kn = 1 := by rw [← p1]; exact hq.1
          have hne : ¬ (a = b ∧ o = kn) := by
            rintro ⟨rfl, rfl⟩
            rw [hfree] at hwait
            exact absurd hwait (by decide)
          obtain ⟨z1, z2⟩ := p_pend (r7 a ha o ho) (by rw [hfree]; decide)
          obtain ⟨y1, y2⟩ := p_pend (r7 b hb kn hkn4) (by rw [hwait]; decide)
          refine ⟨rfl, rOth hR (fun a' ha' k' hk' => ?_) (fun kd hkd a' b => (qSet_k (by omega) (by omega) (by omega) (by omega)).trans (qSet_k (by omega) (by omega) (by omega) (by omega))) (fun kd h1 h2 a' b => (mBd1_k (by omega) (by omega)).trans (mBd1_k (by omega) (by omega)))⟩
          show pRel (qSet (qSet X a o 2 (nI b) (nI kn)) b kn 2 (nI a) (nI o)) (mBd1 (mBd1 M (4 * a + o) (nI (4 * b + kn))) (4 * b + kn) (nI (4 * a + o))) a' k'
          unfold pRel
          rw [mBd1_r8, mBd1_r8, mBd1_r9, mBd1_r9, mBd1_k (by decide) (by decide), mBd1_k (by decide) (by decide)]
          simp only [qSet_r0, qSet_r1, qSet_r2, qSet_r3]
          by_cases hc1 : a' = b ∧ k' = kn
          · obtain ⟨rfl, rfl⟩ := hc1
            have hne' : ¬ (a = a' ∧ o = k') := hne
            simp only [and_self, if_true, if_neg hne']
            exact ⟨by trivial, y2, Or.inl trivial, Or.inr (Or.inr ⟨trivial, a, o, ha, ho, rfl, rfl, rfl, by rw [if_neg hne', if_pos ⟨rfl, rfl⟩], by rw [if_neg hne', if_pos ⟨rfl, rfl⟩], by rw [if_neg hne', if_pos ⟨rfl, rfl⟩]⟩)⟩
          · by_cases hc2 : a' = a ∧ k' = o
            · obtain ⟨rfl, rfl⟩ := hc2
              simp only [and_self, if_true, if_neg hc1, if_neg (show ¬ (4 * a' + k' = 4 * b + kn) by omega)]
              exact ⟨by trivial, z2, Or.inl trivial, Or.inr (Or.inr ⟨trivial, b, kn, hb, hkn4, rfl, rfl, rfl, by rw [if_pos ⟨rfl, rfl⟩], by rw [if_pos ⟨rfl, rfl⟩], by rw [if_pos ⟨rfl, rfl⟩]⟩)⟩
            · obtain ⟨g1, g2, g3, g4⟩ := r7 a' ha' k' hk'
              simp only [if_neg hc1, if_neg hc2, if_neg (show ¬ (4 * a' + k' = 4 * b + kn) by omega), if_neg (show ¬ (4 * a' + k' = 4 * a + o) by omega)]
              refine ⟨g1, g2, g3, ?_⟩
              rcases g4 with g4 | g4 | ⟨g4, b', j, c1, c2, c3, c4, c5, c6, c7, c8⟩
              · exact Or.inl g4
              · exact Or.inr (Or.inl g4)
              · refine Or.inr (Or.inr ⟨g4, b', j, c1, c2, c3, c4, c5, ?_⟩)
                have hb1 : ¬ (b' = b ∧ j = kn) := by
                  rintro ⟨rfl, rfl⟩
                  rw [hwait] at c6
                  exact absurd c6 (by decide)
                have hb2 : ¬ (b' = a ∧ j = o) := by
                  rintro ⟨rfl, rfl⟩
                  rw [hfree] at c6
                  exact absurd c6 (by decide)
                simp only [if_neg hb1, if_neg hb2]
                exact ⟨c6, c7, c8⟩
      · rw [if_neg (fun q => hq (hw.mp q.2)), if_pos ?_]
        · exact ⟨rfl, hR⟩
        · right; right
          by_cases q1 : M 58 (4 * b + kn) 0 = 1
          · exact Or.inr (fun q2 => hq ⟨q1, q2⟩)
          · exact Or.inl q1
  · rw [if_neg hl, if_neg hl]
    exact ⟨rfl, hR⟩
theorem c_send {X M : gS} (h : Rc X M) (d k : Int32) : (xSend X d k).1 = (mSend M d k).1 ∧ Rc (xSend X d k).2 (mSend M d k).2 := by
  have hR := h
  obtain ⟨r1, r2, r3, r4, r5, r6, r7⟩ := h
  unfold xSend mSend
  rw [l_live r1]
  by_cases hl : mLive M d = true
  · rw [if_pos hl, if_pos hl]
    obtain ⟨a, ha, rfl⟩ := live_nI hl
    rw [tN_nI (by omega)]
    by_cases hk : k < 0 ∨ 3 < k
    · rw [if_pos (hk.imp id (fun q => Or.inl q)), if_neg (fun q => l_prt.mp q.1 hk)]
      exact ⟨rfl, hR⟩
    · obtain ⟨kn, hkn, rfl⟩ := nJ_of (k := 3) (by decide) (fun q => hk (Or.inl q)) (fun q => hk (Or.inr q))
      have hkn4 : kn < 4 := by omega
      rw [tN_nI (by omega)]
      obtain ⟨p1, p2, p3, p4⟩ := r7 a ha kn hkn4
      by_cases hj : X 10 a kn = 2
      · have hneg : ¬ (nI kn < 0 ∨ 3 < nI kn ∨ ¬ M 58 (4 * a + kn) 0 = 2) := fun q => q.elim (fun q => hk (Or.inl q)) (fun q => q.elim (fun q => hk (Or.inr q)) (fun q => q (by rw [p1]; exact hj)))
        rw [if_pos ⟨l_prt.mpr hk, hj⟩, if_neg hneg]
        rcases p4 with p4 | ⟨p4, -⟩ | ⟨-, b, j, c1, c2, c3, c4, c5, c6, c7, c8⟩
        · rw [hj] at p4; exact absurd p4 (by decide)
        · rw [hj] at p4; exact absurd p4 (by decide)
        · rw [c3, c4, c5, tN_nI (by omega), tN_nI (by omega), tN_nI (by omega), (r7 b c1 j c2).2.1]
          refine ⟨rfl, rOth hR (fun a' ha' k' hk' => ?_) (fun kd hkd a' b => gup_k (by omega)) (fun kd h1 h2 a' b => gup_k (by omega))⟩
          show pRel (gup X 13 b j 1) (gup M 60 (4 * b + j) 0 1) a' k'
          obtain ⟨g1, g2, g3, g4⟩ := r7 a' ha' k' hk'
          unfold pRel
          simp only [gup_k (show ¬ 10 = 13 by decide), gup_k (show ¬ 11 = 13 by decide), gup_k (show ¬ 12 = 13 by decide), gup_k (show ¬ 58 = 60 by decide), gup_k (show ¬ 59 = 60 by decide)]
          rw [gup_r, gup_r]
          by_cases hc : a' = b ∧ k' = j
          · obtain ⟨rfl, rfl⟩ := hc
            simp only [and_self, if_true]
            exact ⟨g1, trivial, Or.inr ⟨trivial, c6⟩, g4⟩
          · rw [if_neg hc, if_neg (by omega)]
            exact ⟨g1, g2, g3, g4⟩
      · rw [if_neg (fun q => hj q.2), if_pos (Or.inr (Or.inr (by rw [p1]; exact hj)))]
        exact ⟨rfl, hR⟩
  · rw [if_neg hl, if_neg hl]
    exact ⟨rfl, hR⟩
theorem c_next {X M : gS} (h : Rc X M) (d : Int32) : (xNext X d).1 = (mNext M d).1 ∧ Rc (xNext X d).2 (mNext M d).2 ∧ (∀ kd, ¬ kd = 13 → ∀ a b, (xNext X d).2 kd a b = X kd a b) ∧ ∀ kd, ¬ kd = 60 → ∀ a b, (mNext M d).2 kd a b = M kd a b := by
  have hR := h
  obtain ⟨r1, r2, r3, r4, r5, r6, r7⟩ := h
  unfold xNext mNext
  rw [l_live r1]
  by_cases hl : mLive M d = true
  · rw [if_pos hl, if_pos hl]
    obtain ⟨a, ha, rfl⟩ := live_nI hl
    rw [tN_nI (by omega)]
    rcases fst_c (p := fun k => !decide (X 13 a k = 0)) (q := fun k => !decide (M 60 (4 * a + k) 0 = 0)) (g := fun k => gup X 13 a k 0) (g' := fun k => gup M 60 (4 * a + k) 0 0) (e := -11) (X := X) (M := M) 4 0 (fun k hk => by simp only [Nat.zero_add]; rw [(r7 a ha k hk).2.1]) with ⟨e1, e2⟩ | ⟨k, -, hk, hp, e1, e2⟩
    · rw [e1, e2]
      exact ⟨rfl, hR, fun _ _ _ _ => rfl, fun _ _ _ _ => rfl⟩
    · rw [e1, e2]
      refine ⟨rfl, rOth hR (fun a' ha' k' hk' => ?_) (fun kd hkd a' b => gup_k (by omega)) (fun kd h1 h2 a' b => gup_k (by omega)), fun kd hkd a' b => gup_k hkd, fun kd hkd a' b => gup_k hkd⟩
      show pRel (gup X 13 a k 0) (gup M 60 (4 * a + k) 0 0) a' k'
      obtain ⟨g1, g2, g3, g4⟩ := r7 a' ha' k' hk'
      unfold pRel
      simp only [gup_k (show ¬ 10 = 13 by decide), gup_k (show ¬ 11 = 13 by decide), gup_k (show ¬ 12 = 13 by decide), gup_k (show ¬ 58 = 60 by decide), gup_k (show ¬ 59 = 60 by decide)]
      rw [gup_r, gup_r]
      by_cases hc : a' = a ∧ k' = k
      · obtain ⟨rfl, rfl⟩ := hc
        simp only [and_self, if_true]
        exact ⟨g1, trivial, Or.inl trivial, g4⟩
      · rw [if_neg hc, if_neg (by omega)]
        exact ⟨g1, g2, g3, g4⟩
  · rw [if_neg hl, if_neg hl]
    exact ⟨rfl, hR, fun _ _ _ _ => rfl, fun _ _ _ _ => rfl⟩
