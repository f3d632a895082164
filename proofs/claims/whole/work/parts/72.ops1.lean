def Rc (X M : gS) : Prop := rSta X M ∧ rOwn X M ∧ rWrd X M ∧ rEnt X M ∧ rCnt X M ∧ rHnd X M ∧ rPrt X M
theorem Rl.c {X M : gS} {n : Nat} (h : Rl X M n) : Rc X M := ⟨h.1, h.2.1, h.2.2.1, h.2.2.2.1, h.2.2.2.2.1, h.2.2.2.2.2.1, h.2.2.2.2.2.2.1⟩
theorem Rl_of {X M X' M' : gS} {n : Nat} (h : Rl X M n) (hc : Rc X' M') (h0 : ∀ f, f < 5 → X 0 f 0 = 1 → X' 0 f 0 = 1) (hx : ∀ kd, 14 ≤ kd → kd ≤ 27 → ∀ a b, X' kd a b = X kd a b) (hm : ∀ kd, 61 ≤ kd → kd ≤ 73 → ∀ a b, M' kd a b = M kd a b) : Rl X' M' (n + 1) :=
  ⟨hc.1, hc.2.1, hc.2.2.1, hc.2.2.2.1, hc.2.2.2.2.1, hc.2.2.2.2.2.1, hc.2.2.2.2.2.2, rNot_k (hx 25 (by decide) (by decide)) (hx 26 (by decide) (by decide)) (hm 71 (by decide) (by decide)) (hm 72 (by decide) (by decide)) h.2.2.2.2.2.2.2.1, rDev_k h0 (fun kd h1 h2 _ _ => hx kd h1 h2) (fun kd h1 h2 _ _ => hm kd h1 h2) h.2.2.2.2.2.2.2.2⟩
theorem c_create {X M : gS} (h : Rc X M) : (xCreate X).1 = (mCreate M).1 ∧ Rc (xCreate X).2 (mCreate M).2 ∧ (∀ f, f < 5 → X 0 f 0 = 1 → (xCreate X).2 0 f 0 = 1) ∧ (∀ kd, ¬ kd = 0 → ∀ a b, (xCreate X).2 kd a b = X kd a b) ∧ ∀ kd, ¬ kd = 50 → ∀ a b, (mCreate M).2 kd a b = M kd a b := by
  obtain ⟨r1, r2, r3, r4, r5, r6, r7⟩ := h
  unfold xCreate mCreate
  rcases fst_c (p := fun d => decide (X 0 d 0 = 0)) (q := fun d => decide (M 50 d 0 = 0)) (g := fun d => gup X 0 d 0 1) (g' := fun d => gup M 50 d 0 1) (e := -7) (X := X) (M := M) 5 0 (fun k hk => by simp only [Nat.zero_add]; rw [r1 k hk]) with ⟨e1, e2⟩ | ⟨k, -, hk, hp, e1, e2⟩
  · rw [e1, e2]
    exact ⟨rfl, ⟨r1, r2, r3, r4, r5, r6, r7⟩, fun _ _ q => q, fun _ _ _ _ => rfl, fun _ _ _ _ => rfl⟩
  · rw [e1, e2]
    have fx : ∀ kd, ¬ kd = 0 → ∀ a b, gup X 0 k 0 1 kd a b = X kd a b := fun kd hk a b => gup_k hk
    have fm : ∀ kd, ¬ kd = 50 → ∀ a b, gup M 50 k 0 1 kd a b = M kd a b := fun kd hk a b => gup_k hk
    refine ⟨rfl, ⟨fun a ha => ?_, rOwn_k (fx 1 (by decide)) (fm 51 (by decide)) r2, rWrd_k (fx 2 (by decide)) (fm 52 (by decide)) r3, rEnt_k (fx 3 (by decide)) (fx 4 (by decide)) (fx 5 (by decide)) (fm 53 (by decide)) (fm 54 (by decide)) (fm 55 (by decide)) r4, rCnt_k (fx 6 (by decide)) (fm 56 (by decide)) r5, rHnd_k (fx 3 (by decide)) (fx 4 (by decide)) (fx 7 (by decide)) (fx 8 (by decide)) (fx 9 (by decide)) (fm 56 (by decide)) (fm 57 (by decide)) r6, rPrt_k (fx 10 (by decide)) (fx 11 (by decide)) (fx 12 (by decide)) (fx 13 (by decide)) (fm 58 (by decide)) (fm 59 (by decide)) (fm 60 (by decide)) r7⟩, fun f hf q => ?_, fx, fm⟩
    · show gup M 50 k 0 1 50 a 0 = gup X 0 k 0 1 0 a 0
      rw [gup_r, gup_r]
      split
      · rfl
      · exact r1 a ha
    · show gup X 0 k 0 1 0 f 0 = 1
      rw [gup_r]
      split
      · rfl
      · exact q
theorem get_eq {X M : gS} (h : rOwn X M) (d : Int32) : xGet X d = -1 ↔ (mFpg M < 0 ∨ 6 ≤ mCnt M d) := by
  unfold xGet
  rw [l_cnt h, l_fpg h]
  by_cases h6 : 6 ≤ mCnt M d
  · simp [h6]
  · rw [if_neg h6]
    constructor
    · intro q; left; rw [q]; decide
    · intro q
      rcases q with q | q
      · by_cases hm : mFpg M = -1
        · exact hm
        · obtain ⟨j, -, h2, e, -⟩ := ffst_ir (fun p => decide (M 51 p 0 = 0)) 20 0 (by decide) hm
          have e' : mFpg M = nI j := e
          rw [e'] at q
          exact absurd q (nI_pos (by omega))
      · exact absurd q h6
theorem c_alloc {X M : gS} (h : Rc X M) (d : Int32) : (xAlloc X d).1 = (mAlloc M d).1 ∧ Rc (xAlloc X d).2 (mAlloc M d).2 := by
  obtain ⟨r1, r2, r3, r4, r5, r6, r7⟩ := h
  unfold xAlloc mAlloc
  rw [l_live r1]
  by_cases hl : mLive M d = true
  · rw [if_pos hl, if_pos hl]
    by_cases hg : xGet X d = -1
    · rw [if_pos hg, if_pos ((get_eq r2 d).mp hg)]
      exact ⟨rfl, r1, r2, r3, r4, r5, r6, r7⟩
    · have hg' := fun q => hg ((get_eq r2 d).mpr q)
      rw [if_neg hg, if_neg hg']
      obtain ⟨j, hj, ej⟩ := ir_mFpg (fun q => hg' (Or.inl q))
      have eg : xGet X d = nI j := by
        unfold xGet
        rw [l_cnt r2, if_neg (fun q => hg' (Or.inr q)), l_fpg r2]
        exact ej
      obtain ⟨a, ha, rfl⟩ := live_nI hl
      rw [eg, ej, tN_nI (by omega)]
      have fx : ∀ kd, ¬ kd = 1 → ¬ kd = 2 → ∀ a' b, xWipe (gup X 1 j 0 (nI a)) j kd a' b = X kd a' b := fun kd h1 h2 a' b => (xWipe_k h2).trans (gup_k h1)
      have fm : ∀ kd, ¬ kd = 51 → ¬ kd = 52 → ∀ a' b, mWipe (gup M 51 j 0 (nI a + 1)) j kd a' b = M kd a' b := fun kd h1 h2 a' b => (mWipe_k h2).trans (gup_k h1)
      refine ⟨rfl, rSta_k (fx 0 (by decide) (by decide)) (fm 50 (by decide) (by decide)) r1, fun p hp => ?_, fun p hp w hw => ?_, rEnt_k (fx 3 (by decide) (by decide)) (fx 4 (by decide) (by decide)) (fx 5 (by decide) (by decide)) (fm 53 (by decide) (by decide)) (fm 54 (by decide) (by decide)) (fm 55 (by decide) (by decide)) r4, rCnt_k (fx 6 (by decide) (by decide)) (fm 56 (by decide) (by decide)) r5, rHnd_k (fx 3 (by decide) (by decide)) (fx 4 (by decide) (by decide)) (fx 7 (by decide) (by decide)) (fx 8 (by decide) (by decide)) (fx 9 (by decide) (by decide)) (fm 56 (by decide) (by decide)) (fm 57 (by decide) (by decide)) r6, rPrt_k (fx 10 (by decide) (by decide)) (fx 11 (by decide) (by decide)) (fx 12 (by decide) (by decide)) (fx 13 (by decide) (by decide)) (fm 58 (by decide) (by decide)) (fm 59 (by decide) (by decide)) (fm 60 (by decide) (by decide)) r7⟩
      · show mWipe (gup M 51 j 0 (nI a + 1)) j 51 p 0 = xWipe (gup X 1 j 0 (nI a)) j 1 p 0 + 1 ∧ (xWipe (gup X 1 j 0 (nI a)) j 1 p 0 = -1 ∨ ∃ b, b < 5 ∧ xWipe (gup X 1 j 0 (nI a)) j 1 p 0 = nI b)
        rw [mWipe_k (by decide), xWipe_k (by decide), gup_r, gup_r]
        by_cases hpj : p = j
        · rw [if_pos ⟨hpj, rfl⟩, if_pos ⟨hpj, rfl⟩]
          exact ⟨rfl, Or.inr ⟨a, ha, rfl⟩⟩
        · rw [if_neg (fun q => hpj q.1), if_neg (fun q => hpj q.1)]
          exact r2 p hp
      · show mWipe (gup M 51 j 0 (nI a + 1)) j 52 (8 * p + w) 0 = xWipe (gup X 1 j 0 (nI a)) j 2 p w
        by_cases hpj : p = j
        · rw [xWipe_r.1 ⟨hpj, hw⟩, mWipe_r.1 ⟨by omega, by omega⟩]
        · rw [xWipe_r.2 (fun q => hpj q.1), mWipe_r.2 (by omega), gup_k (by decide), gup_k (by decide)]
          exact r3 p hp w hw
  · rw [if_neg hl, if_neg hl]
    exact ⟨rfl, r1, r2, r3, r4, r5, r6, r7⟩
theorem c_free {X M : gS} (h : Rc X M) (d p : Int32) : (xFree X d p).1 = (mFree M d p).1 ∧ Rc (xFree X d p).2 (mFree M d p).2 := by
  obtain ⟨r1, r2, r3, r4, r5, r6, r7⟩ := h
  unfold xFree mFree
  rw [l_live r1, l_owns r2]
  by_cases hl : mLive M d = true
  · rw [if_pos hl, if_pos hl]
    by_cases ho : mOwns M d p = true
    · rw [if_pos ho, if_pos ho]
      obtain ⟨a, ha, rfl⟩ := live_nI hl
      obtain ⟨q, hq, rfl⟩ := owns_nI ho
      rw [tN_nI (by omega), tN_nI (by omega), l_ew r4 ha hq]
      by_cases he : mHeld M a (nI q) false = true
      · rw [if_pos he, if_pos he]
        exact ⟨rfl, r1, r2, r3, r4, r5, r6, r7⟩
      · rw [if_neg he, if_neg he]
        have fx : ∀ kd, ¬ kd = 1 → ∀ a b, gup X 1 q 0 (-1) kd a b = X kd a b := fun kd hk a b => gup_k hk
        have fm : ∀ kd, ¬ kd = 51 → ∀ a b, gup M 51 q 0 0 kd a b = M kd a b := fun kd hk a b => gup_k hk
        refine ⟨rfl, rSta_k (fx 0 (by decide)) (fm 50 (by decide)) r1, fun p hp => ?_, rWrd_k (fx 2 (by decide)) (fm 52 (by decide)) r3, rEnt_k (fx 3 (by decide)) (fx 4 (by decide)) (fx 5 (by decide)) (fm 53 (by decide)) (fm 54 (by decide)) (fm 55 (by decide)) r4, rCnt_k (fx 6 (by decide)) (fm 56 (by decide)) r5, rHnd_k (fx 3 (by decide)) (fx 4 (by decide)) (fx 7 (by decide)) (fx 8 (by decide)) (fx 9 (by decide)) (fm 56 (by decide)) (fm 57 (by decide)) r6, rPrt_k (fx 10 (by decide)) (fx 11 (by decide)) (fx 12 (by decide)) (fx 13 (by decide)) (fm 58 (by decide)) (fm 59 (by decide)) (fm 60 (by decide)) r7⟩
        show gup M 51 q 0 0 51 p 0 = gup X 1 q 0 (-1) 1 p 0 + 1 ∧ (gup X 1 q 0 (-1) 1 p 0 = -1 ∨ ∃ b, b < 5 ∧ gup X 1 q 0 (-1) 1 p 0 = nI b)
        rw [gup_r, gup_r]
        by_cases hpj : p = q
        · rw [if_pos ⟨hpj, rfl⟩, if_pos ⟨hpj, rfl⟩]
          exact ⟨by decide, Or.inl rfl⟩
        · rw [if_neg (fun q => hpj q.1), if_neg (fun q => hpj q.1)]
          exact r2 p hp
    · rw [if_neg ho, if_neg ho]
      exact ⟨rfl, r1, r2, r3, r4, r5, r6, r7⟩
  · rw [if_neg hl, if_neg hl]
    exact ⟨rfl, r1, r2, r3, r4, r5, r6, r7⟩
