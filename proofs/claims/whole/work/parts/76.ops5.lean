theorem mC_sub {M : gS} {j e : Nat} (hj : j < 25) (he : e < 30) (h1 : M 56 j 0 = nI (e + 1)) (e' : Nat) (he' : e' < 30) : mC M e' = mC (gup M 56 j 0 0) e' + (if e' = e then 1 else 0) := by
  rw [← mC_add (M := gup M 56 j 0 0) hj he gup_s e' he']
  refine (mC_c fun k hk => ?_).symm
  by_cases hkj : k = j
  · subst hkj
    rw [gup_s, h1]
  · rw [gup_n (fun q => hkj q.1), gup_n (fun q => hkj q.1)]
theorem c_tk1 {X M : gS} (h : Rc X M) {a k f e : Nat} (ha : a < 5) (hk : k < 5) (hf : f < 5) (he : e < 6) (h1 : M 56 (5 * a + k) 0 = nI (6 * f + e + 1)) : Rc (xTk1 X a k f e) (gup M 56 (5 * a + k) 0 0) := by
  obtain ⟨r1, r2, r3, r4, r5, r6, r7⟩ := h
  have fx : ∀ kd, ¬ kd = 6 → ¬ kd = 7 → ¬ kd = 8 → ¬ kd = 9 → ∀ a' b, xTk1 X a k f e kd a' b = X kd a' b := fun kd h6 h7 h8 h9 a' b => (gup_k h6).trans (hClr_k h7 h8 h9)
  have fm : ∀ kd, ¬ kd = 56 → ∀ a' b, gup M 56 (5 * a + k) 0 0 kd a' b = M kd a' b := fun kd hk a' b => gup_k hk
  refine ⟨rSta_k (fx 0 (by decide) (by decide) (by decide) (by decide)) (fm 50 (by decide)) r1, rOwn_k (fx 1 (by decide) (by decide) (by decide) (by decide)) (fm 51 (by decide)) r2, rWrd_k (fx 2 (by decide) (by decide) (by decide) (by decide)) (fm 52 (by decide)) r3, rEnt_k (fx 3 (by decide) (by decide) (by decide) (by decide)) (fx 4 (by decide) (by decide) (by decide) (by decide)) (fx 5 (by decide) (by decide) (by decide) (by decide)) (fm 53 (by decide)) (fm 54 (by decide)) (fm 55 (by decide)) r4, fun a' ha' i' hi' => ?_, fun a' ha' k' hk' => ?_, rPrt_k (fx 10 (by decide) (by decide) (by decide) (by decide)) (fx 11 (by decide) (by decide) (by decide) (by decide)) (fx 12 (by decide) (by decide) (by decide) (by decide)) (fx 13 (by decide) (by decide) (by decide) (by decide)) (fm 58 (by decide)) (fm 59 (by decide)) (fm 60 (by decide)) r7⟩
  · have hs := mC_sub (j := 5 * a + k) (e := 6 * f + e) (by omega) (by omega) h1 (6 * a' + i') (by omega)
    have h5 := r5 a' ha' i' hi'
    rw [mMps_N] at h5 ⊢
    unfold xTk1
    rw [gup_r, hClr_k (by decide) (by decide) (by decide), hClr_k (by decide) (by decide) (by decide)]
    by_cases hc : a' = f ∧ i' = e
    · obtain ⟨rfl, rfl⟩ := hc
      rw [if_pos rfl] at hs
      rw [if_pos ⟨rfl, rfl⟩, h5, hs]
      exact nI_pred _
    · rw [if_neg (by omega)] at hs
      rw [if_neg hc, h5, hs]
      exact congrArg nI (Nat.add_zero _)
  · have e7 : xTk1 X a k f e 7 a' k' = if a' = a ∧ k' = k then -1 else X 7 a' k' := by rw [xTk1, gup_k (by decide), hClr, hSet_r7]
    have e8 : ¬ (a' = a ∧ k' = k) → xTk1 X a k f e 8 a' k' = X 8 a' k' := fun hc => by rw [xTk1, gup_k (by decide), hClr, hSet_r8, if_neg hc]
    have e9 : ¬ (a' = a ∧ k' = k) → xTk1 X a k f e 9 a' k' = X 9 a' k' := fun hc => by rw [xTk1, gup_k (by decide), hClr, hSet_r9, if_neg hc]
    by_cases hc : a' = a ∧ k' = k
    · left
      rw [e7, if_pos hc]
      obtain ⟨rfl, rfl⟩ := hc
      exact ⟨rfl, gup_s⟩
    · rcases r6 a' ha' k' hk' with ⟨g1, g2⟩ | ⟨f', e', c1, c2, c3, c4, c5, c6, c7, c8⟩
      · left
        rw [e7, if_neg hc, gup_n (by omega)]
        exact ⟨g1, g2⟩
      · right
        refine ⟨f', e', c1, c2, ?_, ?_, ?_, ?_, ?_, ?_⟩
        · rw [e7, if_neg hc]; exact c3
        · rw [e8 hc]; exact c4
        · rw [gup_n (by omega)]; exact c5
        · rw [gup_k (by decide), e9 hc]; exact c6
        · rw [fx 3 (by decide) (by decide) (by decide) (by decide)]; exact c7
        · rw [fx 4 (by decide) (by decide) (by decide) (by decide)]; exact c8
theorem xRel_c {X M : gS} (h : Rc X M) {f e p : Nat} (hf : f < 5) (he : e < 6) (hp : p < 20) (h5 : X 5 f e = nI p) (h55 : M 55 (6 * f + e) 0 = nI p) (hm : ¬ 0 < mMps M (6 * f + e)) : Rc (xRel X (nI f) f e) (mTk3 (mTk0 (gup M 53 (6 * f + e) 0 0) (6 * f + e)) f) := by
  have hA := c_clr h hf he (fun a' h' ha' hh' => mC_none hm (by omega))
  have hd : (6 * f + e) / 6 = f := by omega
  have hB : Rc (xRel0 (eClr X f e) (nI f) (X 5 f e)) (mTk0 (gup M 53 (6 * f + e) 0 0) (6 * f + e)) := by
    unfold xRel0 mTk0
    rw [gup_k (by decide), h55, h5, hd, tN_nI (by omega), tN_nI (by omega), l_mew hA.2.2.2.1 hA.2.2.2.2.1 hf hp]
    split
    · exact hA
    · exact c_own hA (Or.inl rfl)
  unfold xRel mTk3 xBury
  rw [l_cnt hB.2.1, tN_nI (by omega)]
  split
  · exact c_sta hB
  · exact hB
theorem mapped_of {X M : gS} (h : Rc X M) {a k : Nat} (ha : a < 5) (hk : k < 5) (hm : ¬ X 7 a k = -1) : ∃ f e p, f < 5 ∧ e < 6 ∧ p < 20 ∧ X 7 a k = nI f ∧ X 8 a k = nI e ∧ M 56 (5 * a + k) 0 = nI (6 * f + e + 1) ∧ M 57 (5 * a + k) 0 = X 9 a k ∧ ¬ X 3 f e = -1 ∧ ¬ X 4 f e = 2 ∧ X 5 f e = nI p ∧ M 55 (6 * f + e) 0 = nI p ∧ mE M (5 * a + k) = 6 * f + e := by
  rcases h.2.2.2.2.2.1 a ha k hk with ⟨g, -⟩ | ⟨f, e, c1, c2, c3, c4, c5, c6, c7, c8⟩
  · exact absurd g hm
  · rcases h.2.2.2.1 f c1 e c2 with ⟨g, -⟩ | ⟨t, ht, -, -, -, ⟨g, -⟩ | ⟨-, p, hp, g1, g2⟩⟩
    · exact absurd g c7
    · exact absurd g c8
    · refine ⟨f, e, p, c1, c2, hp, c3, c4, c5, c6, c7, c8, g1, g2, ?_⟩
      unfold mE
      rw [c5, nI_pred, tN_nI (by omega)]
theorem c_tk {X M : gS} (h : Rc X M) {a k : Nat} (ha : a < 5) (hk : k < 5) (hm : ¬ X 7 a k = -1) : tkF X a k ∧ mtF M (5 * a + k) ∧ Rc (xTk X a k) (mTk M (5 * a + k) (mE M (5 * a + k))) := by
  obtain ⟨f, e, p, c1, c2, c3, c4, c5, c6, c7, c8, c9, c10, c11, c12⟩ := mapped_of h ha hk hm
  have hA := c_tk1 h ha hk c1 c2 c6
  have x5 : xTk1 X a k f e 5 f e = nI p := by rw [xTk1, gup_k (by decide), hClr_k (by decide) (by decide) (by decide)]; exact c10
  refine ⟨?_, ?_, ?_⟩
  · unfold tkF
    rw [c4, c5, tN_nI (by omega), tN_nI (by omega), x5, tN_nI (by omega)]
    exact ⟨nI_pos (by omega), c1, nI_pos (by omega), c2, nI_pos (by omega), c3⟩
  · unfold mtF
    rw [c12, c6, c11, tN_nI (by omega)]
    exact ⟨rfl, by omega, nI_pos (by omega), c3⟩
  · unfold xTk mTk
    rw [c4, c5, tN_nI (by omega), tN_nI (by omega), c12]
    have hd : (6 * f + e) / 6 = f := by omega
    unfold xTk2 mTk2
    rw [hd, ← hA.1 f c1, hA.2.2.2.2.1 f c1 e c2]
    by_cases hc : gup M 56 (5 * a + k) 0 0 50 f 0 = 2 ∧ ¬ 0 < mMps (gup M 56 (5 * a + k) 0 0) (6 * f + e)
    · rw [if_pos hc, if_neg (fun q => q.elim (fun q => q hc.1) hc.2)]
      exact xRel_c hA c1 c2 c3 x5 (by rw [gup_k (by decide)]; exact c11) hc.2
    · rw [if_neg hc, if_pos ?_]
      · exact hA
      · by_cases q : gup M 56 (5 * a + k) 0 0 50 f 0 = 2
        · exact Or.inr (Classical.byContradiction fun z => hc ⟨q, z⟩)
        · exact Or.inl q
theorem l_hasH {X M : gS} (h : rHnd X M) {a : Nat} (ha : a < 5) (r : Int32) : (xHasH X a r = true ∧ ∃ i, i < 5 ∧ r = nI i ∧ ¬ X 7 a i = -1 ∧ ¬ (r < 0 ∨ 4 < r ∨ M 56 (5 * a + i) 0 = 0)) ∨ (xHasH X a r = false ∧ (r < 0 ∨ 4 < r ∨ M 56 (5 * a + tN r) 0 = 0)) := by
  by_cases h0 : r < 0
  · right
    refine ⟨?_, Or.inl h0⟩
    unfold xHasH
    simp [i32_c h0]
  · by_cases h5 : 4 < r
    · right
      have h6 : ¬ r < 5 := by
        rw [Int32.lt_iff_toInt_lt] at h5 ⊢
        have e5 : (5 : Int32).toInt = 5 := by decide
        have e6 : (4 : Int32).toInt = 4 := by decide
        omega
      refine ⟨?_, Or.inr (Or.inl h5)⟩
      unfold xHasH
      simp [h6]
    · obtain ⟨i, hi, rfl⟩ := nJ_of (k := 4) (by decide) h0 h5
      have ti : tN (nI i) = i := tN_nI (by omega)
      have h6 : nI i < 5 := nI_lt (a := i) (b := 5) (by omega) (by decide)
      have he := h_free (h a ha i (by omega))
      by_cases hf : X 7 a i = -1
      · right
        refine ⟨?_, Or.inr (Or.inr (by rw [ti]; exact he.mp hf))⟩
        unfold xHasH
        rw [ti]
        simp [hf]
      · left
        refine ⟨?_, i, by omega, rfl, hf, fun q => q.elim h0 (fun q => q.elim h5 (fun q => hf (he.mpr q)))⟩
        unfold xHasH
        rw [ti]
        simp [hf, h6, i32_d h0]
theorem c_unmap {X M : gS} (h : Rc X M) (d k : Int32) : (xUnmap X d k).1 = (mUnmap M d k).1 ∧ Rc (xUnmap X d k).2 (mUnmap M d k).2 := by
  have hR := h
  obtain ⟨r1, r2, r3, r4, r5, r6, r7⟩ := h
  unfold xUnmap mUnmap
  rw [l_live r1]
  by_cases hl : mLive M d = true
  · rw [if_pos hl, if_pos hl]
    obtain ⟨a, ha, rfl⟩ := live_nI hl
    rw [tN_nI (by omega)]
    rcases l_hasH r6 ha k with ⟨e1, i, hi, rfl, hf, e2⟩ | ⟨e1, e2⟩
    · rw [if_pos e1, tN_nI (by omega), if_neg e2]
      exact ⟨rfl, (c_tk hR ha hi hf).2.2⟩
    · rw [if_neg (by rw [e1]; decide), if_pos e2]
      exact ⟨rfl, hR⟩
  · rw [if_neg hl, if_neg hl]
    exact ⟨rfl, hR⟩
