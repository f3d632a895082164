theorem mCls_8 {M : gS} {k k' : Nat} : mCls M k 58 k' 0 = if k' = k then 0 else M 58 k' 0 := by
  rw [mCls, gup_k (by decide), gup_r]
  simp
theorem mCls_0 {M : gS} {k k' : Nat} : mCls M k 60 k' 0 = if k' = k then 0 else M 60 k' 0 := by
  rw [mCls, gup_r, gup_k (by decide)]
  simp
theorem mCls_k {M : gS} {k kd a b : Nat} (h1 : ¬ kd = 58) (h2 : ¬ kd = 60) : mCls M k kd a b = M kd a b := by rw [mCls, gup_k h2, gup_k h1]
theorem qCls_0 {X : gS} {a k a' k' : Nat} : qCls X a k 10 a' k' = if a' = a ∧ k' = k then 0 else X 10 a' k' := qSet_r0
theorem qCls_1 {X : gS} {a k a' k' : Nat} : qCls X a k 11 a' k' = if a' = a ∧ k' = k then -1 else X 11 a' k' := qSet_r1
theorem qCls_2 {X : gS} {a k a' k' : Nat} : qCls X a k 12 a' k' = if a' = a ∧ k' = k then -1 else X 12 a' k' := qSet_r2
theorem qCls_3 {X : gS} {a k a' k' : Nat} : qCls X a k 13 a' k' = if a' = a ∧ k' = k then 0 else X 13 a' k' := qSet_r3
theorem c_cls {Y Z : gS} (h : Rc Y Z) {a k : Nat} (ha : a < 5) (hk : k < 4) : Rc (qCls (xClQ1 Y a k) a k) (mCls (mCl1 Z (4 * a + k)) (4 * a + k)) := by
  obtain ⟨p1, p2, p3, p4⟩ := h.2.2.2.2.2.2 a ha k hk
  by_cases h2 : Y 10 a k = 2
  · rcases p4 with p4 | ⟨p4, -⟩ | ⟨-, b, j, hb, hj, c3, c4, c5, c6, c7, c8⟩
    · rw [h2] at p4; exact absurd p4 (by decide)
    · rw [h2] at p4; exact absurd p4 (by decide)
    · have e1 : xClQ1 Y a k = qCls Y b j := by
        unfold xClQ1
        rw [if_pos h2, c3, c4, tN_nI (by omega), tN_nI (by omega)]
      have e2 : mCl1 Z (4 * a + k) = mCls Z (4 * b + j) := by
        unfold mCl1
        rw [if_pos (by rw [p1]; exact h2), c5, tN_nI (by omega)]
      rw [e1, e2]
      refine rOth h (fun a' ha' k' hk' => ?_) (fun kd hkd a' b' => (qCls_k (by omega) (by omega) (by omega) (by omega)).trans (qCls_k (by omega) (by omega) (by omega) (by omega))) (fun kd g1 g2 a' b' => (mCls_k (by omega) (by omega)).trans (mCls_k (by omega) (by omega)))
      unfold pRel
      rw [mCls_8, mCls_8, mCls_0, mCls_0, mCls_k (by decide) (by decide), mCls_k (by decide) (by decide)]
      simp only [qCls_0, qCls_1, qCls_2, qCls_3]
      by_cases hc1 : a' = a ∧ k' = k
      · rw [if_pos hc1, if_pos hc1, if_pos (show 4 * a' + k' = 4 * a + k by omega), if_pos (show 4 * a' + k' = 4 * a + k by omega)]
        exact ⟨rfl, rfl, Or.inl rfl, Or.inl rfl⟩
      · rw [if_neg hc1, if_neg hc1, if_neg hc1, if_neg hc1, if_neg (show ¬ 4 * a' + k' = 4 * a + k by omega), if_neg (show ¬ 4 * a' + k' = 4 * a + k by omega)]
        by_cases hc2 : a' = b ∧ k' = j
        · rw [if_pos hc2, if_pos hc2, if_pos (show 4 * a' + k' = 4 * b + j by omega), if_pos (show 4 * a' + k' = 4 * b + j by omega)]
          exact ⟨rfl, rfl, Or.inl rfl, Or.inl rfl⟩
        · rw [if_neg hc2, if_neg hc2, if_neg hc2, if_neg hc2, if_neg (show ¬ 4 * a' + k' = 4 * b + j by omega), if_neg (show ¬ 4 * a' + k' = 4 * b + j by omega)]
          obtain ⟨g1, g2, g3, g4⟩ := h.2.2.2.2.2.2 a' ha' k' hk'
          refine ⟨g1, g2, g3, ?_⟩
          rcases g4 with g4 | g4 | ⟨g4, b', j', d1, d2, d3, d4, d5, d6, d7, d8⟩
          · exact Or.inl g4
          · exact Or.inr (Or.inl g4)
          · refine Or.inr (Or.inr ⟨g4, b', j', d1, d2, d3, d4, d5, ?_⟩)
            have n1 : ¬ (b' = a ∧ j' = k) := by
              rintro ⟨rfl, rfl⟩
              rw [c3] at d7
              rw [c4] at d8
              exact hc2 ⟨(nI_inj (by omega) (by omega) d7).symm, (nI_inj (by omega) (by omega) d8).symm⟩
            have n2 : ¬ (b' = b ∧ j' = j) := by
              rintro ⟨rfl, rfl⟩
              rw [c7] at d7
              rw [c8] at d8
              exact hc1 ⟨(nI_inj (by omega) (by omega) d7).symm, (nI_inj (by omega) (by omega) d8).symm⟩
            rw [if_neg n1, if_neg n1, if_neg n1, if_neg n2, if_neg n2, if_neg n2]
            exact ⟨d6, d7, d8⟩
  · have e1 : xClQ1 Y a k = Y := if_neg h2
    have e2 : mCl1 Z (4 * a + k) = Z := if_neg (by rw [p1]; exact h2)
    rw [e1, e2]
    refine rOth h (fun a' ha' k' hk' => ?_) (fun kd hkd a' b' => qCls_k (by omega) (by omega) (by omega) (by omega)) (fun kd g1 g2 a' b' => mCls_k (by omega) (by omega))
    unfold pRel
    rw [mCls_8, mCls_0, mCls_k (by decide) (by decide)]
    simp only [qCls_0, qCls_1, qCls_2, qCls_3]
    by_cases hc1 : a' = a ∧ k' = k
    · rw [if_pos hc1, if_pos hc1, if_pos (show 4 * a' + k' = 4 * a + k by omega), if_pos (show 4 * a' + k' = 4 * a + k by omega)]
      exact ⟨rfl, rfl, Or.inl rfl, Or.inl rfl⟩
    · rw [if_neg hc1, if_neg hc1, if_neg hc1, if_neg hc1, if_neg (show ¬ 4 * a' + k' = 4 * a + k by omega), if_neg (show ¬ 4 * a' + k' = 4 * a + k by omega)]
      obtain ⟨g1, g2, g3, g4⟩ := h.2.2.2.2.2.2 a' ha' k' hk'
      refine ⟨g1, g2, g3, ?_⟩
      rcases g4 with g4 | g4 | ⟨g4, b', j', d1, d2, d3, d4, d5, d6, d7, d8⟩
      · exact Or.inl g4
      · exact Or.inr (Or.inl g4)
      · refine Or.inr (Or.inr ⟨g4, b', j', d1, d2, d3, d4, d5, ?_⟩)
        have n1 : ¬ (b' = a ∧ j' = k) := by
          rintro ⟨rfl, rfl⟩
          exact h2 d6
        rw [if_neg n1, if_neg n1, if_neg n1]
        exact ⟨d6, d7, d8⟩
theorem cls_ind {a : Nat} (ha : a < 5) : ∀ (n i : Nat) (Y Z : gS), i + n = 4 → Rc Y Z → lpOk (fun k Y => qCls (xClQ1 Y a k) a k) (pqOk a) n i Y ∧ lpOk (fun k Z => mCls (mCl1 Z k) k) mpOk n (4 * a + i) Z ∧ Rc (lpS (fun k Y => qCls (xClQ1 Y a k) a k) n i Y) (lpS (fun k Z => mCls (mCl1 Z k) k) n (4 * a + i) Z) := by
  intro n
  induction n with
  | zero => intro i Y Z _ h; exact ⟨trivial, trivial, h⟩
  | succ n ih =>
    intro i Y Z hi h
    obtain ⟨g1, g2, g3⟩ := ih (i + 1) _ _ (by omega) (c_cls h ha (show i < 4 by omega))
    exact ⟨⟨pqA_of h a ha i (by omega), g1⟩, ⟨mpA_of h (4 * a + i) (by omega), g2⟩, g3⟩
theorem clr_ind {a : Nat} (ha : a < 5) : ∀ (n i : Nat) (Y Z : gS), i + n = 6 → Rc Y Z → Rc (lpS (fun i Y => if 0 < Y 6 a i then Y else eClr Y a i) n i Y) (lpS (fun e Z => if mMps Z e = 0 then gup Z 53 e 0 0 else Z) n (6 * a + i) Z) := by
  intro n
  induction n with
  | zero => intro i Y Z _ h; exact h
  | succ n ih =>
    intro i Y Z hi h
    have h6 := h.2.2.2.2.1 a ha i (by omega)
    refine ih (i + 1) (if 0 < Y 6 a i then Y else eClr Y a i) (if mMps Z (6 * a + i) = 0 then gup Z 53 (6 * a + i) 0 0 else Z) (by omega) ?_
    rw [h6]
    by_cases hp : 0 < mMps Z (6 * a + i)
    · rw [if_pos hp, if_neg (fun q => by rw [q] at hp; exact absurd hp (by decide))]
      exact h
    · have hz : mMps Z (6 * a + i) = 0 := by
        rw [mMps_pos] at hp
        rw [mMps_N, show mC Z (6 * a + i) = 0 by omega]
        rfl
      rw [if_neg hp, if_pos hz]
      exact c_clr h ha (by omega) (fun a' h' ha' hh' => mC_none hp (by omega))
theorem frp_ind {a : Nat} (ha : a < 5) : ∀ (n i : Nat) (Y Z : gS), i + n = 20 → Rc Y Z → Rc (lpS (fun p Y => if Y 1 p 0 = nI a ∧ xMEW Y a (nI p) = false then gup Y 1 p 0 (-1) else Y) n i Y) (lpS (fun p Z => if mOwns Z (nI a) (nI p) = true ∧ mHeld Z a (nI p) true = false then gup Z 51 p 0 0 else Z) n i Z) := by
  intro n
  induction n with
  | zero => intro i Y Z _ h; exact h
  | succ n ih =>
    intro i Y Z hi h
    refine ih (i + 1) (if Y 1 i 0 = nI a ∧ xMEW Y a (nI i) = false then gup Y 1 i 0 (-1) else Y) (if mOwns Z (nI a) (nI i) = true ∧ mHeld Z a (nI i) true = false then gup Z 51 i 0 0 else Z) (by omega) ?_
    rw [← l_owns h.2.1, l_mew h.2.2.2.1 h.2.2.2.2.1 ha (show i < 20 by omega)]
    have ho : xOwns Y (nI a) (nI i) = true ↔ Y 1 i 0 = nI a := by
      unfold xOwns
      have hp : xPag (nI i) = true := l_pag2.mpr (fun q => q.elim (nI_pos (by omega)) (nI_nlt (a := 19) (b := i) (by omega) (by decide)))
      rw [hp, tN_nI (by omega)]
      simp
    by_cases hc : Y 1 i 0 = nI a ∧ mHeld Z a (nI i) true = false
    · rw [if_pos hc, if_pos ⟨ho.mpr hc.1, hc.2⟩]
      exact c_own h (Or.inl rfl)
    · rw [if_neg hc, if_neg (fun q => hc ⟨ho.mp q.1, q.2⟩)]
      exact h
