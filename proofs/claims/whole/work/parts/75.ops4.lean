theorem c_own {X M : gS} (h : Rc X M) {p : Nat} {x : Int32} (hx : x = -1 ∨ ∃ a, a < 5 ∧ x = nI a) : Rc (gup X 1 p 0 x) (gup M 51 p 0 (x + 1)) := by
  obtain ⟨r1, r2, r3, r4, r5, r6, r7⟩ := h
  have fx : ∀ kd, ¬ kd = 1 → ∀ a b, gup X 1 p 0 x kd a b = X kd a b := fun kd hk a b => gup_k hk
  have fm : ∀ kd, ¬ kd = 51 → ∀ a b, gup M 51 p 0 (x + 1) kd a b = M kd a b := fun kd hk a b => gup_k hk
  refine ⟨rSta_k (fx 0 (by decide)) (fm 50 (by decide)) r1, fun q hq => ?_, rWrd_k (fx 2 (by decide)) (fm 52 (by decide)) r3, rEnt_k (fx 3 (by decide)) (fx 4 (by decide)) (fx 5 (by decide)) (fm 53 (by decide)) (fm 54 (by decide)) (fm 55 (by decide)) r4, rCnt_k (fx 6 (by decide)) (fm 56 (by decide)) r5, rHnd_k (fx 3 (by decide)) (fx 4 (by decide)) (fx 7 (by decide)) (fx 8 (by decide)) (fx 9 (by decide)) (fm 56 (by decide)) (fm 57 (by decide)) r6, rPrt_k (fx 10 (by decide)) (fx 11 (by decide)) (fx 12 (by decide)) (fx 13 (by decide)) (fm 58 (by decide)) (fm 59 (by decide)) (fm 60 (by decide)) r7⟩
  rw [gup_r, gup_r]
  by_cases hc : q = p
  · rw [if_pos ⟨hc, rfl⟩, if_pos ⟨hc, rfl⟩]
    exact ⟨rfl, hx⟩
  · rw [if_neg (fun z => hc z.1), if_neg (fun z => hc z.1)]
    exact r2 q hq
theorem c_sta {X M : gS} (h : Rc X M) {p : Nat} {x : Int32} : Rc (gup X 0 p 0 x) (gup M 50 p 0 x) := by
  obtain ⟨r1, r2, r3, r4, r5, r6, r7⟩ := h
  have fx : ∀ kd, ¬ kd = 0 → ∀ a b, gup X 0 p 0 x kd a b = X kd a b := fun kd hk a b => gup_k hk
  have fm : ∀ kd, ¬ kd = 50 → ∀ a b, gup M 50 p 0 x kd a b = M kd a b := fun kd hk a b => gup_k hk
  refine ⟨fun q hq => ?_, rOwn_k (fx 1 (by decide)) (fm 51 (by decide)) r2, rWrd_k (fx 2 (by decide)) (fm 52 (by decide)) r3, rEnt_k (fx 3 (by decide)) (fx 4 (by decide)) (fx 5 (by decide)) (fm 53 (by decide)) (fm 54 (by decide)) (fm 55 (by decide)) r4, rCnt_k (fx 6 (by decide)) (fm 56 (by decide)) r5, rHnd_k (fx 3 (by decide)) (fx 4 (by decide)) (fx 7 (by decide)) (fx 8 (by decide)) (fx 9 (by decide)) (fm 56 (by decide)) (fm 57 (by decide)) r6, rPrt_k (fx 10 (by decide)) (fx 11 (by decide)) (fx 12 (by decide)) (fx 13 (by decide)) (fm 58 (by decide)) (fm 59 (by decide)) (fm 60 (by decide)) r7⟩
  rw [gup_r, gup_r]
  by_cases hc : q = p
  · rw [if_pos ⟨hc, rfl⟩, if_pos ⟨hc, rfl⟩]
  · rw [if_neg (fun z => hc z.1), if_neg (fun z => hc z.1)]
    exact r1 q hq
theorem c_wrd {X M : gS} (h : Rc X M) {p w : Nat} (hp : p < 20) (hw : w < 8) {x : Int32} : Rc (gup X 2 p w x) (gup M 52 (8 * p + w) 0 x) := by
  obtain ⟨r1, r2, r3, r4, r5, r6, r7⟩ := h
  have fx : ∀ kd, ¬ kd = 2 → ∀ a b, gup X 2 p w x kd a b = X kd a b := fun kd hk a b => gup_k hk
  have fm : ∀ kd, ¬ kd = 52 → ∀ a b, gup M 52 (8 * p + w) 0 x kd a b = M kd a b := fun kd hk a b => gup_k hk
  refine ⟨rSta_k (fx 0 (by decide)) (fm 50 (by decide)) r1, rOwn_k (fx 1 (by decide)) (fm 51 (by decide)) r2, fun q hq v hv => ?_, rEnt_k (fx 3 (by decide)) (fx 4 (by decide)) (fx 5 (by decide)) (fm 53 (by decide)) (fm 54 (by decide)) (fm 55 (by decide)) r4, rCnt_k (fx 6 (by decide)) (fm 56 (by decide)) r5, rHnd_k (fx 3 (by decide)) (fx 4 (by decide)) (fx 7 (by decide)) (fx 8 (by decide)) (fx 9 (by decide)) (fm 56 (by decide)) (fm 57 (by decide)) r6, rPrt_k (fx 10 (by decide)) (fx 11 (by decide)) (fx 12 (by decide)) (fx 13 (by decide)) (fm 58 (by decide)) (fm 59 (by decide)) (fm 60 (by decide)) r7⟩
  rw [gup_r, gup_r]
  by_cases hc : q = p ∧ v = w
  · rw [if_pos hc, if_pos ⟨by omega, rfl⟩]
  · rw [if_neg hc, if_neg (by omega)]
    exact r3 q hq v hv
theorem c_clr {X M : gS} (h : Rc X M) {a i : Nat} (ha : a < 5) (hi : i < 6) (hno : ∀ a' h', a' < 5 → h' < 5 → ¬ M 56 (5 * a' + h') 0 = nI (6 * a + i + 1)) : Rc (eClr X a i) (gup M 53 (6 * a + i) 0 0) := by
  obtain ⟨r1, r2, r3, r4, r5, r6, r7⟩ := h
  have fx : ∀ kd, ¬ kd = 3 → ¬ kd = 4 → ¬ kd = 5 → ∀ a' b, eClr X a i kd a' b = X kd a' b := fun kd h3 h4 h5 a' b => eClr_k h3 h4 h5
  have fm : ∀ kd, ¬ kd = 53 → ∀ a' b, gup M 53 (6 * a + i) 0 0 kd a' b = M kd a' b := fun kd hk a' b => gup_k hk
  refine ⟨rSta_k (fx 0 (by decide) (by decide) (by decide)) (fm 50 (by decide)) r1, rOwn_k (fx 1 (by decide) (by decide) (by decide)) (fm 51 (by decide)) r2, rWrd_k (fx 2 (by decide) (by decide) (by decide)) (fm 52 (by decide)) r3, fun a' ha' i' hi' => ?_, rCnt_k (fx 6 (by decide) (by decide) (by decide)) (fm 56 (by decide)) r5, rHnd_e (fx 7 (by decide) (by decide) (by decide)) (fx 8 (by decide) (by decide) (by decide)) (fx 9 (by decide) (by decide) (by decide)) (fm 56 (by decide)) (fm 57 (by decide)) (fun a' h' f' e' ha' hh' hf' he' g1 g2 g3 => ?_) r6, rPrt_k (fx 10 (by decide) (by decide) (by decide)) (fx 11 (by decide) (by decide) (by decide)) (fx 12 (by decide) (by decide) (by decide)) (fx 13 (by decide) (by decide) (by decide)) (fm 58 (by decide)) (fm 59 (by decide)) (fm 60 (by decide)) r7⟩
  · by_cases hc : a' = a ∧ i' = i
    · obtain ⟨rfl, rfl⟩ := hc
      left
      unfold eClr
      rw [eSet_r3, eSet_r5, gup_r]
      simp
    · have g := r4 a' ha' i' hi'
      unfold eRel eClr at *
      rw [eSet_r3, eSet_r4, eSet_r5, if_neg hc, if_neg hc, if_neg hc, gup_n (by omega), gup_k (by decide), gup_k (by decide)]
      exact g
  · have hc : ¬ (f' = a ∧ e' = i) := by
      rintro ⟨rfl, rfl⟩
      exact hno a' h' ha' hh' g1
    unfold eClr
    rw [eSet_r3, eSet_r4, if_neg hc, if_neg hc]
    exact ⟨g2, g3⟩
theorem hSet_r7 {X : gS} {a k a' k' : Nat} {s o p : Int32} : hSet X a k s o p 7 a' k' = if a' = a ∧ k' = k then s else X 7 a' k' := by rw [hSet, gup_k (by decide), gup_k (by decide), gup_r]
theorem hSet_r8 {X : gS} {a k a' k' : Nat} {s o p : Int32} : hSet X a k s o p 8 a' k' = if a' = a ∧ k' = k then o else X 8 a' k' := by rw [hSet, gup_k (by decide), gup_r, gup_k (by decide)]
theorem hSet_r9 {X : gS} {a k a' k' : Nat} {s o p : Int32} : hSet X a k s o p 9 a' k' = if a' = a ∧ k' = k then p else X 9 a' k' := by rw [hSet, gup_r, gup_k (by decide), gup_k (by decide)]
theorem mC_c {M M' : gS} {e : Nat} (h : ∀ k, k < 25 → decide (M' 56 k 0 = nI (e + 1)) = decide (M 56 k 0 = nI (e + 1))) : mC M' e = mC M e := by
  unfold mC
  exact cntN_c 25 0 (fun k _ hk => h k (by omega))
theorem mC_add {M : gS} {j e : Nat} (hj : j < 25) (he : e < 30) (h0 : M 56 j 0 = 0) (e' : Nat) (he' : e' < 30) : mC (gup M 56 j 0 (nI (e + 1))) e' = mC M e' + (if e' = e then 1 else 0) := by
  by_cases hc : e' = e
  · subst hc
    rw [if_pos rfl]
    unfold mC
    refine cntN_up (j := j) 25 0 (by omega) (by omega) (fun k hk => ?_) ?_ ?_
    · rw [gup_n (fun q => hk q.1)]
    · rw [h0]
      simp only [decide_eq_false_iff_not]
      exact fun q => nI_ne0 (by omega) (by omega) q.symm
    · rw [gup_s]
      simp
  · rw [if_neg hc]
    refine (mC_c fun k hk => ?_).trans (Nat.add_zero _).symm
    by_cases hkj : k = j
    · subst hkj
      rw [gup_s, h0]
      have c1 : ¬ nI (e + 1) = nI (e' + 1) := fun q => hc (by have := nI_inj (by omega) (by omega) q; omega)
      have c2 : ¬ (0 : Int32) = nI (e' + 1) := fun q => nI_ne0 (by omega) (by omega) q.symm
      simp [c1, c2]
    · rw [gup_n (fun q => hkj q.1)]
theorem c_map1 {X M : gS} (h : Rc X M) {a k f e : Nat} {w : Bool} (ha : a < 5) (hk : k < 5) (hf : f < 5) (he : e < 6) (h0 : X 7 a k = -1) (h3 : ¬ X 3 f e = -1) (h4 : ¬ X 4 f e = 2) : Rc (xMap1 (hSet X a k (nI f) (nI e) (bI w)) f e) (mMp1 M (5 * a + k) (6 * f + e) w) := by
  obtain ⟨r1, r2, r3, r4, r5, r6, r7⟩ := h
  have fx : ∀ kd, ¬ kd = 6 → ¬ kd = 7 → ¬ kd = 8 → ¬ kd = 9 → ∀ a' b, xMap1 (hSet X a k (nI f) (nI e) (bI w)) f e kd a' b = X kd a' b := fun kd h6 h7 h8 h9 a' b => (gup_k h6).trans (hSet_k h7 h8 h9)
  have fm : ∀ kd, ¬ kd = 56 → ¬ kd = 57 → ∀ a' b, mMp1 M (5 * a + k) (6 * f + e) w kd a' b = M kd a' b := fun kd h6 h7 a' b => by rw [mMp1, gup_k h7, gup_k h6]
  have m0 : M 56 (5 * a + k) 0 = 0 := (h_free (r6 a ha k hk)).mp h0
  refine ⟨rSta_k (fx 0 (by decide) (by decide) (by decide) (by decide)) (fm 50 (by decide) (by decide)) r1, rOwn_k (fx 1 (by decide) (by decide) (by decide) (by decide)) (fm 51 (by decide) (by decide)) r2, rWrd_k (fx 2 (by decide) (by decide) (by decide) (by decide)) (fm 52 (by decide) (by decide)) r3, rEnt_k (fx 3 (by decide) (by decide) (by decide) (by decide)) (fx 4 (by decide) (by decide) (by decide) (by decide)) (fx 5 (by decide) (by decide) (by decide) (by decide)) (fm 53 (by decide) (by decide)) (fm 54 (by decide) (by decide)) (fm 55 (by decide) (by decide)) r4, fun a' ha' i' hi' => ?_, fun a' ha' k' hk' => ?_, rPrt_k (fx 10 (by decide) (by decide) (by decide) (by decide)) (fx 11 (by decide) (by decide) (by decide) (by decide)) (fx 12 (by decide) (by decide) (by decide) (by decide)) (fx 13 (by decide) (by decide) (by decide) (by decide)) (fm 58 (by decide) (by decide)) (fm 59 (by decide) (by decide)) (fm 60 (by decide) (by decide)) r7⟩
  · unfold xMap1 mMp1
    rw [gup_r, hSet_k (by decide) (by decide) (by decide), hSet_k (by decide) (by decide) (by decide), mMps_k (M := gup M 56 (5 * a + k) 0 (nI (6 * f + e + 1))) (fun a b => gup_k (by decide)), mMps_N, mC_add (by omega) (by omega) m0 _ (by omega)]
    by_cases hc : a' = f ∧ i' = e
    · obtain ⟨rfl, rfl⟩ := hc
      rw [if_pos ⟨rfl, rfl⟩, if_pos rfl, r5 a' ha' i' hi', mMps_N, nI_succ]
    · rw [if_neg hc, if_neg (by omega), Nat.add_zero, ← mMps_N]
      exact r5 a' ha' i' hi'
  · unfold hRel
    have e7 : xMap1 (hSet X a k (nI f) (nI e) (bI w)) f e 7 a' k' = if a' = a ∧ k' = k then nI f else X 7 a' k' := by rw [xMap1, gup_k (by decide), hSet_r7]
    have e8 : xMap1 (hSet X a k (nI f) (nI e) (bI w)) f e 8 a' k' = if a' = a ∧ k' = k then nI e else X 8 a' k' := by rw [xMap1, gup_k (by decide), hSet_r8]
    have e9 : xMap1 (hSet X a k (nI f) (nI e) (bI w)) f e 9 a' k' = if a' = a ∧ k' = k then bI w else X 9 a' k' := by rw [xMap1, gup_k (by decide), hSet_r9]
    have m6 : mMp1 M (5 * a + k) (6 * f + e) w 56 (5 * a' + k') 0 = if a' = a ∧ k' = k then nI (6 * f + e + 1) else M 56 (5 * a' + k') 0 := by
      rw [mMp1, gup_k (by decide), gup_r]
      by_cases hc : a' = a ∧ k' = k
      · rw [if_pos hc, if_pos ⟨by omega, rfl⟩]
      · rw [if_neg hc, if_neg (by omega)]
    have m7 : mMp1 M (5 * a + k) (6 * f + e) w 57 (5 * a' + k') 0 = if a' = a ∧ k' = k then bI w else M 57 (5 * a' + k') 0 := by
      rw [mMp1, gup_r, gup_k (by decide)]
      by_cases hc : a' = a ∧ k' = k
      · rw [if_pos hc, if_pos ⟨by omega, rfl⟩]
      · rw [if_neg hc, if_neg (by omega)]
    rw [e7, e8, e9, m6, m7]
    by_cases hc : a' = a ∧ k' = k
    · simp only [if_pos hc]
      right
      exact ⟨f, e, hf, he, rfl, rfl, rfl, trivial, by rw [fx 3 (by decide) (by decide) (by decide) (by decide)]; exact h3, by rw [fx 4 (by decide) (by decide) (by decide) (by decide)]; exact h4⟩
    · simp only [if_neg hc]
      rcases r6 a' ha' k' hk' with g | ⟨f', e', c1, c2, c3, c4, c5, c6, c7, c8⟩
      · exact Or.inl g
      · exact Or.inr ⟨f', e', c1, c2, c3, c4, c5, c6, by rw [fx 3 (by decide) (by decide) (by decide) (by decide)]; exact c7, by rw [fx 4 (by decide) (by decide) (by decide) (by decide)]; exact c8⟩
theorem c_map {X M : gS} (h : Rc X M) (d f r : Int32) (w : Bool) : (xMap X d f r w).1 = (mMap M d f r w).1 ∧ Rc (xMap X d f r w).2 (mMap M d f r w).2 := by
  have hR := h
  obtain ⟨r1, r2, r3, r4, r5, r6, r7⟩ := h
  unfold xMap mMap
  rw [l_live r1, l_live r1]
  by_cases hl : mLive M d = true ∧ mLive M f = true
  · rw [if_pos hl, if_pos hl]
    obtain ⟨a, ha, rfl⟩ := live_nI hl.1
    obtain ⟨b, hb, rfl⟩ := live_nI hl.2
    rw [tN_nI (by omega), tN_nI (by omega), l_fh r6 ha]
    rcases l_hasE r4 hb r with ⟨e1, i, hi, rfl, hf, e2⟩ | ⟨e1, e2⟩
    · rw [if_pos e1, e2, tN_nI (by omega), tN_nI (by omega)]
      rcases r4 b hb i hi with ⟨g1, -⟩ | ⟨t, ht, g1, g2, g3, g4⟩
      · exact absurd g1 hf
      · rw [g3, g2, g1]
        have ht1 : nI t = nI a ↔ nI (t + 1) = nI a + 1 := by rw [nI_add1]; exact ⟨fun q => by rw [nI_inj (by omega) (by omega) q], fun q => by have := nI_inj (by omega) (by omega) q; rw [show t = a by omega]⟩
        by_cases hbad : X 4 b i = 2 ∨ ¬ nI t = nI a
        · rw [if_pos hbad, if_pos (Or.inr (hbad.imp id (fun q z => q (ht1.mpr z))))]
          exact ⟨rfl, hR⟩
        · have hneg : ¬ (nI (6 * b + i) < 0 ∨ X 4 b i = 2 ∨ ¬ nI (t + 1) = nI a + 1) := fun q => q.elim (nI_pos (by omega)) (fun q => hbad (q.imp id (fun q z => q (ht1.mp z))))
          rw [if_neg hbad, if_neg hneg]
          by_cases hro : w = true ∧ X 4 b i = 0
          · rw [if_pos hro, if_pos hro]
            exact ⟨rfl, hR⟩
          · rw [if_neg hro, if_neg hro]
            rcases ffst_is (p := fun k => decide (M 56 (5 * a + k) 0 = 0)) (n := 5) (by decide) with he | ⟨k, hk, he, hpk⟩
            · have he' : mFh M a = -1 := he
              rw [he', if_pos rfl, if_pos (by decide)]
              exact ⟨rfl, hR⟩
            · have he' : mFh M a = nI k := he
              rw [he', if_neg (nI_nm1 (by omega)), if_neg (nI_pos (by omega)), tN_nI (by omega)]
              exact ⟨rfl, c_map1 hR ha hk hb hi ((h_free (r6 a ha k hk)).mpr (by simpa using hpk)) hf (fun q => hbad (Or.inl q))⟩
    · rw [if_neg (by rw [e1]; decide), if_pos (Or.inl e2)]
      exact ⟨rfl, hR⟩
  · rw [if_neg hl, if_neg hl]
    exact ⟨rfl, hR⟩
theorem no_map {X M : gS} (h : rHnd X M) {a i : Nat} (ha : a < 5) (hi : i < 6) (h2 : X 4 a i = 2) : ∀ a' h', a' < 5 → h' < 5 → ¬ M 56 (5 * a' + h') 0 = nI (6 * a + i + 1) := by
  intro a' h' ha' hh' q
  rcases h a' ha' h' hh' with ⟨-, g⟩ | ⟨f, e, hf, he, -, -, g, -, -, g2⟩
  · rw [g] at q
    exact nI_ne0 (by omega) (by omega) q.symm
  · rw [g] at q
    have := nI_inj (by omega) (by omega) q
    have e1 : f = a := by omega
    have e2 : e = i := by omega
    subst e1; subst e2
    exact g2 h2
theorem c_give {X M : gS} (h : Rc X M) (d p t r : Int32) : (xGive X d p t r).1 = (mGive M d p t r).1 ∧ Rc (xGive X d p t r).2 (mGive M d p t r).2 := by
  have hR := h
  obtain ⟨r1, r2, r3, r4, r5, r6, r7⟩ := h
  unfold xGive mGive
  rw [l_live r1, l_live r1, l_owns r2, l_cnt r2]
  by_cases hl : mLive M d = true ∧ mLive M t = true
  · rw [if_pos hl, if_pos hl]
    obtain ⟨a, ha, rfl⟩ := live_nI hl.1
    obtain ⟨b, hb, rfl⟩ := live_nI hl.2
    by_cases ho : mOwns M (nI a) p = true
    · rw [if_pos ho, if_pos ho]
      obtain ⟨q, hq, rfl⟩ := owns_nI ho
      rw [tN_nI (by omega), tN_nI (by omega), tN_nI (by omega), l_ew r4 ha hq]
      by_cases he : mHeld M a (nI q) false = true
      · rw [if_pos he, if_pos he]
        exact ⟨rfl, hR⟩
      · rw [if_neg he, if_neg he]
        rcases l_hasE r4 hb r with ⟨e1, i, hi, rfl, hf, e2⟩ | ⟨e1, e2⟩
        · rw [if_pos e1, e2, tN_nI (by omega), tN_nI (by omega)]
          rcases r4 b hb i hi with ⟨g1, -⟩ | ⟨tt, ht, g1, g2, g3, g4⟩
          · exact absurd g1 hf
          · rw [g3, g2, g1]
            have ht1 : nI tt = nI a ↔ nI (tt + 1) = nI a + 1 := by rw [nI_add1]; exact ⟨fun q => by rw [nI_inj (by omega) (by omega) q], fun q => by have := nI_inj (by omega) (by omega) q; rw [show tt = a by omega]⟩
            by_cases hbad : ¬ X 4 b i = 2 ∨ ¬ nI tt = nI a
            · rw [if_pos hbad, if_pos (Or.inr (hbad.imp id (fun q z => q (ht1.mpr z))))]
              exact ⟨rfl, hR⟩
            · have hneg : ¬ (nI (6 * b + i) < 0 ∨ ¬ X 4 b i = 2 ∨ ¬ nI (tt + 1) = nI a + 1) := fun q => q.elim (nI_pos (by omega)) (fun q => hbad (q.imp id (fun q z => q (ht1.mp z))))
              rw [if_neg hbad, if_neg hneg]
              by_cases h6 : 6 ≤ mCnt M (nI b)
              · rw [if_pos h6, if_pos h6]
                exact ⟨rfl, hR⟩
              · rw [if_neg h6, if_neg h6]
                have hk2 : X 4 b i = 2 := Classical.byContradiction fun q => hbad (Or.inl q)
                have c1 := c_own hR (p := q) (x := nI b) (Or.inr ⟨b, hb, rfl⟩)
                refine ⟨rfl, c_clr c1 hb hi (fun a' h' ha' hh' => ?_)⟩
                rw [gup_k (by decide)]
                exact no_map r6 hb hi hk2 a' h' ha' hh'
        · rw [if_neg (by rw [e1]; decide), if_pos (Or.inl e2)]
          exact ⟨rfl, hR⟩
    · rw [if_neg ho, if_neg ho]
      exact ⟨rfl, hR⟩
  · rw [if_neg hl, if_neg hl]
    exact ⟨rfl, hR⟩
