theorem l_hasE {X M : gS} (h : rEnt X M) {a : Nat} (ha : a < 5) (r : Int32) : (xHasE X a r = true ∧ ∃ i, i < 6 ∧ r = nI i ∧ ¬ X 3 a i = -1 ∧ mEnt M a r = nI (6 * a + i)) ∨ (xHasE X a r = false ∧ mEnt M a r < 0) := by
  by_cases h0 : r < 0
  · right
    refine ⟨?_, ?_⟩
    · unfold xHasE
      simp [i32_c h0]
    · unfold mEnt
      rw [if_pos (Or.inl h0)]
      decide
  · by_cases h5 : 5 < r
    · right
      have h6 : ¬ r < 6 := by
        rw [Int32.lt_iff_toInt_lt] at h5 ⊢
        have e5 : (5 : Int32).toInt = 5 := by decide
        have e6 : (6 : Int32).toInt = 6 := by decide
        omega
      refine ⟨?_, ?_⟩
      · unfold xHasE
        simp [h6]
      · unfold mEnt
        rw [if_pos (Or.inr (Or.inl h5))]
        decide
    · obtain ⟨i, hi, rfl⟩ := nJ_of (k := 5) (by decide) h0 h5
      have ti : tN (nI i) = i := tN_nI (by omega)
      have h6 : nI i < 6 := nI_lt (a := i) (b := 6) (by omega) (by decide)
      have he := e_free (h a ha i (by omega))
      by_cases hf : X 3 a i = -1
      · right
        refine ⟨?_, ?_⟩
        · unfold xHasE
          rw [ti]
          simp [hf]
        · unfold mEnt
          rw [ti, if_pos (Or.inr (Or.inr (he.mp hf)))]
          decide
      · left
        refine ⟨?_, i, by omega, rfl, hf, ?_⟩
        · unfold xHasE
          rw [ti]
          simp [hf, h6, i32_d h0]
        · unfold mEnt
          rw [ti, if_neg (fun q => q.elim h0 (fun q => q.elim h5 (fun q => hf (he.mpr q))))]
theorem rHnd_e {X M X' M' : gS} (h7 : ∀ a b, X' 7 a b = X 7 a b) (h8 : ∀ a b, X' 8 a b = X 8 a b) (h9 : ∀ a b, X' 9 a b = X 9 a b) (h56 : ∀ a b, M' 56 a b = M 56 a b) (h57 : ∀ a b, M' 57 a b = M 57 a b)
    (he : ∀ a h f e, a < 5 → h < 5 → f < 5 → e < 6 → M 56 (5 * a + h) 0 = nI (6 * f + e + 1) → ¬ X 3 f e = -1 → ¬ X 4 f e = 2 → ¬ X' 3 f e = -1 ∧ ¬ X' 4 f e = 2) (h : rHnd X M) : rHnd X' M' := by
  intro a ha i hi
  rcases h a ha i hi with ⟨g1, g2⟩ | ⟨f, e, hf, he', g1, g2, g3, g4, g5, g6⟩
  · left
    rw [h7, h56]
    exact ⟨g1, g2⟩
  · right
    refine ⟨f, e, hf, he', ?_, ?_, ?_, ?_, he a i f e ha hi hf he' g3 g5 g6⟩
    · rw [h7]; exact g1
    · rw [h8]; exact g2
    · rw [h56]; exact g3
    · rw [h57, h9]; exact g4
theorem eSet_r3 {X : gS} {a i a' i' : Nat} {t k p : Int32} : eSet X a i t k p 3 a' i' = if a' = a ∧ i' = i then t else X 3 a' i' := by rw [eSet, gup_k (by decide), gup_k (by decide), gup_r]
theorem eSet_r4 {X : gS} {a i a' i' : Nat} {t k p : Int32} : eSet X a i t k p 4 a' i' = if a' = a ∧ i' = i then k else X 4 a' i' := by rw [eSet, gup_k (by decide), gup_r, gup_k (by decide)]
theorem eSet_r5 {X : gS} {a i a' i' : Nat} {t k p : Int32} : eSet X a i t k p 5 a' i' = if a' = a ∧ i' = i then p else X 5 a' i' := by rw [eSet, gup_r, gup_k (by decide), gup_k (by decide)]
theorem mGr1_r3 {M : gS} {e e' : Nat} {t k p : Int32} : mGr1 M e t k p 53 e' 0 = if e' = e then t + 1 else M 53 e' 0 := by
  rw [mGr1, gup_k (by decide), gup_k (by decide), gup_r]
  simp
theorem mGr1_r4 {M : gS} {e e' : Nat} {t k p : Int32} : mGr1 M e t k p 54 e' 0 = if e' = e then k else M 54 e' 0 := by
  rw [mGr1, gup_k (by decide), gup_r, gup_k (by decide)]
  simp
theorem mGr1_r5 {M : gS} {e e' : Nat} {t k p : Int32} : mGr1 M e t k p 55 e' 0 = if e' = e then p else M 55 e' 0 := by
  rw [mGr1, gup_r, gup_k (by decide), gup_k (by decide)]
  simp
theorem l_oth {d t : Int32} : xOth d t = true ↔ ¬ (t < 0 ∨ 4 < t ∨ t = d) := by
  unfold xOth
  rw [l_dom]
  simp only [Bool.and_eq_true, decide_eq_true_eq, Bool.not_eq_true', decide_eq_false_iff_not]
  constructor
  · rintro ⟨⟨h1, h2⟩, h3⟩ q
    rcases q with q | q | q
    · exact i32_a h1 q
    · exact i32_a h2 q
    · exact h3 q
  · intro h
    exact ⟨⟨i32_d (fun q => h (Or.inl q)), i32_d (fun q => h (Or.inr (Or.inl q)))⟩, fun q => h (Or.inr (Or.inr q))⟩
theorem c_end {X M : gS} (h : Rc X M) (d r : Int32) : (xEnd X d r).1 = (mEnd M d r).1 ∧ Rc (xEnd X d r).2 (mEnd M d r).2 := by
  obtain ⟨r1, r2, r3, r4, r5, r6, r7⟩ := h
  unfold xEnd mEnd
  rw [l_live r1]
  by_cases hl : mLive M d = true
  · rw [if_pos hl, if_pos hl]
    obtain ⟨a, ha, rfl⟩ := live_nI hl
    rw [tN_nI (by omega)]
    rcases l_hasE r4 ha r with ⟨e1, i, hi, rfl, hf, e2⟩ | ⟨e1, e2⟩
    · rw [if_pos e1, e2, if_neg (nI_pos (by omega)), tN_nI (by omega), tN_nI (by omega), r5 a ha i hi]
      by_cases hm : 0 < mMps M (6 * a + i)
      · rw [if_pos hm, if_pos hm]
        exact ⟨rfl, r1, r2, r3, r4, r5, r6, r7⟩
      · rw [if_neg hm, if_neg hm]
        have fx : ∀ kd, ¬ kd = 3 → ¬ kd = 4 → ¬ kd = 5 → ∀ a' b, eClr X a i kd a' b = X kd a' b := fun kd h3 h4 h5 a' b => eClr_k h3 h4 h5
        have fm : ∀ kd, ¬ kd = 53 → ∀ a' b, gup M 53 (6 * a + i) 0 0 kd a' b = M kd a' b := fun kd hk a' b => gup_k hk
        refine ⟨rfl, rSta_k (fx 0 (by decide) (by decide) (by decide)) (fm 50 (by decide)) r1, rOwn_k (fx 1 (by decide) (by decide) (by decide)) (fm 51 (by decide)) r2, rWrd_k (fx 2 (by decide) (by decide) (by decide)) (fm 52 (by decide)) r3, fun a' ha' i' hi' => ?_, rCnt_k (fx 6 (by decide) (by decide) (by decide)) (fm 56 (by decide)) r5, rHnd_e (fx 7 (by decide) (by decide) (by decide)) (fx 8 (by decide) (by decide) (by decide)) (fx 9 (by decide) (by decide) (by decide)) (fm 56 (by decide)) (fm 57 (by decide)) (fun a' h' f' e' ha' hh' hf' he' g1 g2 g3 => ?_) r6, rPrt_k (fx 10 (by decide) (by decide) (by decide)) (fx 11 (by decide) (by decide) (by decide)) (fx 12 (by decide) (by decide) (by decide)) (fx 13 (by decide) (by decide) (by decide)) (fm 58 (by decide)) (fm 59 (by decide)) (fm 60 (by decide)) r7⟩
        · show eRel (eClr X a i) (gup M 53 (6 * a + i) 0 0) a' i'
          by_cases hc : a' = a ∧ i' = i
          · obtain ⟨rfl, rfl⟩ := hc
            left
            unfold eClr
            rw [eSet_r3, eSet_r5, gup_r]
            simp
          · have g := r4 a' ha' i' hi'
            unfold eRel eClr at *
            rw [eSet_r3, eSet_r4, eSet_r5, if_neg hc, if_neg hc, if_neg hc, gup_n (by omega), gup_k (by decide), gup_k (by decide)]
            exact g
        · show ¬ eClr X a i 3 f' e' = -1 ∧ ¬ eClr X a i 4 f' e' = 2
          have hc : ¬ (f' = a ∧ e' = i) := by
            rintro ⟨rfl, rfl⟩
            exact mC_none hm (by omega) g1
          unfold eClr
          rw [eSet_r3, eSet_r4, if_neg hc, if_neg hc]
          exact ⟨g2, g3⟩
    · rw [if_neg (by rw [e1]; decide), if_pos e2]
      exact ⟨rfl, r1, r2, r3, r4, r5, r6, r7⟩
  · rw [if_neg hl, if_neg hl]
    exact ⟨rfl, r1, r2, r3, r4, r5, r6, r7⟩
theorem ffst_is {p : Nat → Bool} {n : Nat} (hn : n < 2 ^ 31) : ffst p n 0 = -1 ∨ ∃ j, j < n ∧ ffst p n 0 = nI j ∧ p j = true := by
  by_cases h : ffst p n 0 = -1
  · exact Or.inl h
  · obtain ⟨j, -, h2, h3, h4⟩ := ffst_ir p n 0 (by omega) h
    exact Or.inr ⟨j, by omega, h3, h4⟩
theorem c_grant {X M : gS} (h : Rc X M) (d t p k : Int32) : (xGrant X d t p k).1 = (mGrant M d t p k).1 ∧ Rc (xGrant X d t p k).2 (mGrant M d t p k).2 := by
  have hR := h
  obtain ⟨r1, r2, r3, r4, r5, r6, r7⟩ := h
  unfold xGrant mGrant
  rw [l_live r1, l_owns r2]
  by_cases hl : mLive M d = true
  · rw [if_pos hl, if_pos hl]
    obtain ⟨a, ha, rfl⟩ := live_nI hl
    rw [tN_nI (by omega), l_fe r4 ha]
    by_cases hb : t < 0 ∨ 4 < t ∨ t = nI a ∨ k < 0 ∨ 2 < k
    · rw [if_pos hb, if_neg (fun q => ?_)]
      · exact ⟨rfl, hR⟩
      · have q1 := l_oth.mp q.1
        rcases hb with hb | hb | hb | hb | hb
        · exact q1 (Or.inl hb)
        · exact q1 (Or.inr (Or.inl hb))
        · exact q1 (Or.inr (Or.inr hb))
        · exact q.2.1 hb
        · exact q.2.2 hb
    · have t0 : ¬ t < 0 := fun q => hb (Or.inl q)
      have t4 : ¬ 4 < t := fun q => hb (Or.inr (Or.inl q))
      have ta : ¬ t = nI a := fun q => hb (Or.inr (Or.inr (Or.inl q)))
      have k0 : ¬ k < 0 := fun q => hb (Or.inr (Or.inr (Or.inr (Or.inl q))))
      have k2 : ¬ 2 < k := fun q => hb (Or.inr (Or.inr (Or.inr (Or.inr q))))
      rw [if_neg hb, if_pos ⟨l_oth.mpr (fun q => q.elim t0 (fun q => q.elim t4 ta)), k0, k2⟩]
      obtain ⟨tn, htn, rfl⟩ := nJ_of (k := 4) (by decide) t0 t4
      obtain ⟨kn, hkn, rfl⟩ := nJ_of (k := 2) (by decide) k0 k2
      have hk2 : nI kn = 2 ↔ ¬ nI kn < 2 := by
        have : ∀ kn, kn < 3 → (nI kn = 2 ↔ ¬ nI kn < 2) := by decide +kernel
        exact this kn hkn
      by_cases ho : nI kn < 2 ∧ mOwns M (nI a) p = false
      · rw [if_pos ho, if_neg (fun q => q.elim (fun q => hk2.mp q ho.1) (fun q => by rw [ho.2] at q; cases q))]
        exact ⟨rfl, hR⟩
      · have ho' : nI kn = 2 ∨ mOwns M (nI a) p = true := by
          by_cases hk : nI kn < 2
          · right
            cases hq : mOwns M (nI a) p
            · exact absurd ⟨hk, hq⟩ ho
            · rfl
          · exact Or.inl (hk2.mpr hk)
        rw [if_neg ho, if_pos ho']
        rcases ffst_is (p := fun r => decide (M 53 (6 * a + r) 0 = 0)) (n := 6) (by decide) with he | ⟨i, hi, he, hpi⟩
        · have he' : mFe M a = -1 := he
          rw [he', if_pos rfl, if_pos (by decide)]
          exact ⟨rfl, hR⟩
        · have he' : mFe M a = nI i := he
          rw [he', if_neg (nI_nm1 (by omega)), if_neg (nI_pos (by omega)), tN_nI (by omega)]
          have hfree : X 3 a i = -1 := (e_free (r4 a ha i hi)).mpr (by simpa using hpi)
          generalize hq1 : (if nI kn = 2 then (-1 : Int32) else p) = q1
          generalize hq2 : (if nI kn < 2 then p else (0 : Int32)) = q2
          have fx : ∀ kd, ¬ kd = 3 → ¬ kd = 4 → ¬ kd = 5 → ∀ a' b, eSet X a i (nI tn) (nI kn) q1 kd a' b = X kd a' b := fun kd h3 h4 h5 a' b => eSet_k h3 h4 h5
          have fm : ∀ kd, ¬ kd = 53 → ¬ kd = 54 → ¬ kd = 55 → ∀ a' b, mGr1 M (6 * a + i) (nI tn) (nI kn) q2 kd a' b = M kd a' b := fun kd h3 h4 h5 a' b => by rw [mGr1, gup_k h5, gup_k h4, gup_k h3]
          refine ⟨rfl, rSta_k (fx 0 (by decide) (by decide) (by decide)) (fm 50 (by decide) (by decide) (by decide)) r1, rOwn_k (fx 1 (by decide) (by decide) (by decide)) (fm 51 (by decide) (by decide) (by decide)) r2, rWrd_k (fx 2 (by decide) (by decide) (by decide)) (fm 52 (by decide) (by decide) (by decide)) r3, fun a' ha' i' hi' => ?_, rCnt_k (fx 6 (by decide) (by decide) (by decide)) (fm 56 (by decide) (by decide) (by decide)) r5, rHnd_e (fx 7 (by decide) (by decide) (by decide)) (fx 8 (by decide) (by decide) (by decide)) (fx 9 (by decide) (by decide) (by decide)) (fm 56 (by decide) (by decide) (by decide)) (fm 57 (by decide) (by decide) (by decide)) (fun a' h' f' e' ha' hh' hf' he' g1 g2 g3 => ?_) r6, rPrt_k (fx 10 (by decide) (by decide) (by decide)) (fx 11 (by decide) (by decide) (by decide)) (fx 12 (by decide) (by decide) (by decide)) (fx 13 (by decide) (by decide) (by decide)) (fm 58 (by decide) (by decide) (by decide)) (fm 59 (by decide) (by decide) (by decide)) (fm 60 (by decide) (by decide) (by decide)) r7⟩
          · show eRel (eSet X a i (nI tn) (nI kn) q1) (mGr1 M (6 * a + i) (nI tn) (nI kn) q2) a' i'
            unfold eRel
            rw [eSet_r3, eSet_r4, eSet_r5, mGr1_r3, mGr1_r4, mGr1_r5]
            by_cases hc : a' = a ∧ i' = i
            · obtain ⟨rfl, rfl⟩ := hc
              right
              refine ⟨tn, by omega, by simp, by simp [nI_add1], by simp, ?_⟩
              by_cases hk : nI kn = 2
              · left
                rw [← hq1, if_pos hk]
                simp [hk]
              · right
                have hk' : nI kn < 2 := Classical.byContradiction fun q => hk (hk2.mpr q)
                obtain ⟨pn, hpn, e⟩ := owns_nI (ho'.resolve_left hk)
                rw [← hq1, ← hq2, if_neg hk, if_pos hk', e]
                refine ⟨?_, pn, hpn, by simp, by simp⟩
                simp only [and_self, if_true]
                have : ∀ kn, kn < 3 → nI kn < 2 → nI kn = 0 ∨ nI kn = 1 := by decide +kernel
                exact this kn hkn hk'
            · rw [if_neg hc, if_neg hc, if_neg hc, if_neg (by omega), if_neg (by omega), if_neg (by omega)]
              exact r4 a' ha' i' hi'
          · show ¬ eSet X a i (nI tn) (nI kn) q1 3 f' e' = -1 ∧ ¬ eSet X a i (nI tn) (nI kn) q1 4 f' e' = 2
            have hc : ¬ (f' = a ∧ e' = i) := by
              rintro ⟨rfl, rfl⟩
              exact g2 hfree
            rw [eSet_r3, eSet_r4, if_neg hc, if_neg hc]
            exact ⟨g2, g3⟩
  · rw [if_neg hl, if_neg hl]
    exact ⟨rfl, hR⟩
