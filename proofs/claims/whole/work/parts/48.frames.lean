theorem lpS_k {f : Nat → gS → gS} {kd : Nat} (hf : ∀ i Y a b, f i Y kd a b = Y kd a b) : ∀ (n i : Nat) (X : gS) (a b : Nat), lpS f n i X kd a b = X kd a b := by
  intro n
  induction n with
  | zero => intro i X a b; rfl
  | succ n ih =>
    intro i X a b
    show lpS f n (i + 1) (f i X) kd a b = _
    rw [ih, hf]
theorem xWipe_k {X : gS} {p kd a b : Nat} (h : ¬ kd = 2) : xWipe X p kd a b = X kd a b := lpS_k (fun i Y a b => gup_k h) _ _ _ _ _
theorem vBeg_k {X : gS} {v kd a b : Nat} {x y : Int32} (h0 : ¬ kd = 14) (h1 : ¬ kd = 15) (h2 : ¬ kd = 16) (h3 : ¬ kd = 22) (h4 : ¬ kd = 23) (h5 : ¬ kd = 24) (h6 : ¬ kd = 27) : vBeg X v x y kd a b = X kd a b := by
  unfold vBeg
  rw [lpS_k (fun i Y a b => gup_k h6), gup_k h5, gup_k h4, gup_k h3, gup_k h2, gup_k h1, gup_k h0]
theorem xAlloc_k {X : gS} {kd a b : Nat} {d : Int32} (h1 : ¬ kd = 1) (h2 : ¬ kd = 2) : (xAlloc X d).2 kd a b = X kd a b := by
  unfold xAlloc
  split
  · split
    · rfl
    · exact (xWipe_k h2).trans (gup_k h1)
  · rfl
theorem xGrant_k {X : gS} {kd a b : Nat} {d t p k : Int32} (h1 : ¬ kd = 3) (h2 : ¬ kd = 4) (h3 : ¬ kd = 5) : (xGrant X d t p k).2 kd a b = X kd a b := by
  unfold xGrant
  repeat' split
  all_goals first | rfl | exact eSet_k h1 h2 h3
theorem xMap_k {X : gS} {kd a b : Nat} {d f r : Int32} {w : Bool} (h1 : ¬ kd = 6) (h2 : ¬ kd = 7) (h3 : ¬ kd = 8) (h4 : ¬ kd = 9) : (xMap X d f r w).2 kd a b = X kd a b := by
  unfold xMap xMap1
  repeat' split
  all_goals first | rfl | exact (gup_k h1).trans (hSet_k h2 h3 h4)
theorem xOpen_k {X : gS} {kd a b : Nat} {d t : Int32} (h1 : ¬ kd = 10) (h2 : ¬ kd = 11) (h3 : ¬ kd = 12) (h4 : ¬ kd = 13) : (xOpen X d t).2 kd a b = X kd a b := by
  unfold xOpen
  repeat' split
  all_goals first | rfl | exact qSet_k h1 h2 h3 h4
theorem xBind_k {X : gS} {kd a b : Nat} {d t k : Int32} (h1 : ¬ kd = 10) (h2 : ¬ kd = 11) (h3 : ¬ kd = 12) (h4 : ¬ kd = 13) : (xBind X d t k).2 kd a b = X kd a b := by
  unfold xBind
  repeat' split
  all_goals first | rfl | exact (qSet_k h1 h2 h3 h4).trans (qSet_k h1 h2 h3 h4)
theorem xSend_k {X : gS} {kd a b : Nat} {d k : Int32} (h : ¬ kd = 13) : (xSend X d k).2 kd a b = X kd a b := by
  unfold xSend
  repeat' split
  all_goals first | rfl | exact gup_k h
theorem xStore_k {X : gS} {kd a b : Nat} {d p w v : Int32} (h : ¬ kd = 2) : (xStore X d p w v).2 kd a b = X kd a b := by
  unfold xStore
  repeat' split
  all_goals first | rfl | exact gup_k h
theorem xEnd_k {X : gS} {kd a b : Nat} {d r : Int32} (h1 : ¬ kd = 3) (h2 : ¬ kd = 4) (h3 : ¬ kd = 5) : (xEnd X d r).2 kd a b = X kd a b := by
  unfold xEnd
  repeat' split
  all_goals first | rfl | exact eClr_k h1 h2 h3
theorem xFree_k {X : gS} {kd a b : Nat} {d p : Int32} (h : ¬ kd = 1) : (xFree X d p).2 kd a b = X kd a b := by
  unfold xFree
  repeat' split
  all_goals first | rfl | exact gup_k h
theorem xBury_k {X : gS} {kd a b : Nat} {d : Int32} (h : ¬ kd = 0) : xBury X d kd a b = X kd a b := by
  unfold xBury
  split
  · exact gup_k h
  · rfl
theorem xRel_k {X : gS} {kd f e a b : Nat} {d : Int32} (h0 : ¬ kd = 0) (h1 : ¬ kd = 1) (h3 : ¬ kd = 3) (h4 : ¬ kd = 4) (h5 : ¬ kd = 5) : xRel X d f e kd a b = X kd a b := by
  unfold xRel xRel0
  rw [xBury_k h0]
  split
  · exact eClr_k h3 h4 h5
  · rw [gup_k h1]; exact eClr_k h3 h4 h5
theorem xTk_k {X : gS} {kd q h a b : Nat} (h0 : ¬ kd = 0) (h1 : ¬ kd = 1) (h3 : ¬ kd = 3) (h4 : ¬ kd = 4) (h5 : ¬ kd = 5) (h6 : ¬ kd = 6) (h7 : ¬ kd = 7) (h8 : ¬ kd = 8) (h9 : ¬ kd = 9) : xTk X q h kd a b = X kd a b := by
  unfold xTk xTk2 xTk1
  split
  · rw [xRel_k h0 h1 h3 h4 h5, gup_k h6, hClr_k h7 h8 h9]
  · rw [gup_k h6, hClr_k h7 h8 h9]
theorem xUnmap_k {X : gS} {kd a b : Nat} {d h : Int32} (h0 : ¬ kd = 0) (h1 : ¬ kd = 1) (h3 : ¬ kd = 3) (h4 : ¬ kd = 4) (h5 : ¬ kd = 5) (h6 : ¬ kd = 6) (h7 : ¬ kd = 7) (h8 : ¬ kd = 8) (h9 : ¬ kd = 9) : (xUnmap X d h).2 kd a b = X kd a b := by
  unfold xUnmap
  repeat' split
  all_goals first | rfl | exact xTk_k h0 h1 h3 h4 h5 h6 h7 h8 h9
theorem mWipe_k {M : gS} {p kd a b : Nat} (h : ¬ kd = 52) : mWipe M p kd a b = M kd a b := lpS_k (fun i Y a b => gup_k h) _ _ _ _ _
theorem mAlloc_k {M : gS} {kd a b : Nat} {x : Int32} (h1 : ¬ kd = 51) (h2 : ¬ kd = 52) : (mAlloc M x).2 kd a b = M kd a b := by
  unfold mAlloc
  repeat' split
  all_goals first | rfl | exact (mWipe_k h2).trans (gup_k h1)
theorem mGrant_k {M : gS} {kd a b : Nat} {x t p k : Int32} (h1 : ¬ kd = 53) (h2 : ¬ kd = 54) (h3 : ¬ kd = 55) : (mGrant M x t p k).2 kd a b = M kd a b := by
  unfold mGrant mGr1
  repeat' split
  all_goals first | rfl | (show gup _ 55 _ _ _ kd a b = _; rw [gup_k h3, gup_k h2, gup_k h1])
theorem mMap_k {M : gS} {kd a b : Nat} {x f r : Int32} {w : Bool} (h1 : ¬ kd = 56) (h2 : ¬ kd = 57) : (mMap M x f r w).2 kd a b = M kd a b := by
  unfold mMap mMp1
  repeat' split
  all_goals first | rfl | (show gup _ 57 _ _ _ kd a b = _; rw [gup_k h2, gup_k h1])
theorem mOpen_k {M : gS} {kd a b : Nat} {x t : Int32} (h1 : ¬ kd = 58) (h2 : ¬ kd = 59) : (mOpen M x t).2 kd a b = M kd a b := by
  unfold mOpen
  repeat' split
  all_goals first | rfl | (show gup _ 59 _ _ _ kd a b = _; rw [gup_k h2, gup_k h1])
theorem mBind_k {M : gS} {kd a b : Nat} {x t k : Int32} (h1 : ¬ kd = 58) (h2 : ¬ kd = 59) : (mBind M x t k).2 kd a b = M kd a b := by
  unfold mBind mBd1
  repeat' split
  all_goals first | rfl | (show gup _ 59 _ _ _ kd a b = _; rw [gup_k h2, gup_k h1, gup_k h2, gup_k h1])
theorem mSend_k {M : gS} {kd a b : Nat} {x k : Int32} (h : ¬ kd = 60) : (mSend M x k).2 kd a b = M kd a b := by
  unfold mSend
  repeat' split
  all_goals first | rfl | exact gup_k h
theorem mEnd_k {M : gS} {kd a b : Nat} {x r : Int32} (h : ¬ kd = 53) : (mEnd M x r).2 kd a b = M kd a b := by
  unfold mEnd
  repeat' split
  all_goals first | rfl | exact gup_k h
theorem mFree_k {M : gS} {kd a b : Nat} {x p : Int32} (h : ¬ kd = 51) : (mFree M x p).2 kd a b = M kd a b := by
  unfold mFree
  repeat' split
  all_goals first | rfl | exact gup_k h
theorem mTk_k {M : gS} {kd h e a b : Nat} (h0 : ¬ kd = 50) (h1 : ¬ kd = 51) (h3 : ¬ kd = 53) (h6 : ¬ kd = 56) : mTk M h e kd a b = M kd a b := by
  unfold mTk mTk2 mTk3 mTk0
  repeat' split
  all_goals first | exact gup_k h6 | (rw [gup_k h0]; first | (rw [gup_k h1]; exact (gup_k h3).trans (gup_k h6)) | exact (gup_k h3).trans (gup_k h6)) | (rw [gup_k h1]; exact (gup_k h3).trans (gup_k h6)) | exact (gup_k h3).trans (gup_k h6)
theorem xCo1_k {X Y : gS} {v kd a c : Nat} {q b h : Int32} {w : Bool} (h2 : ¬ kd = 2) (h27 : ¬ kd = 27) : xCo1 X Y v q b h w kd a c = Y kd a c := by
  unfold xCo1
  split
  · exact gup_k h2
  · exact gup_k h27
theorem xCo_k {X : gS} {v kd a b : Nat} {q : Int32} {w : Bool} (h0 : ¬ kd = 0) (h1 : ¬ kd = 1) (h2 : ¬ kd = 2) (h3 : ¬ kd = 3) (h4 : ¬ kd = 4) (h5 : ¬ kd = 5) (h6 : ¬ kd = 6) (h7 : ¬ kd = 7) (h8 : ¬ kd = 8) (h9 : ¬ kd = 9) (h27 : ¬ kd = 27) : (xCo X v q w).2 kd a b = X kd a b := by
  unfold xCo xCo2 xCom
  split
  · exact xMap_k h6 h7 h8 h9
  · show (xUnmap _ _ _).2 kd a b = _
    rw [xUnmap_k h0 h1 h3 h4 h5 h6 h7 h8 h9, xCo1_k h2 h27, xMap_k h6 h7 h8 h9]
def hOkA (X : gS) : Prop := ∀ a, a < 5 → hOk X a
def pqA (X : gS) : Prop := ∀ a, a < 5 → ∀ k, k < 4 → X 10 a k = 2 → pqF X a k
theorem hOk_k {X Y : gS} {a : Nat} (h7 : ∀ b, Y 7 a b = X 7 a b) (h8 : ∀ b, Y 8 a b = X 8 a b) (h : hOk X a) : hOk Y a := by
  intro q hq hf
  rw [h7] at hf
  rw [h7, h8]
  exact h q hq hf
theorem pqA_k {X Y : gS} (h10 : ∀ a b, Y 10 a b = X 10 a b) (h11 : ∀ a b, Y 11 a b = X 11 a b) (h12 : ∀ a b, Y 12 a b = X 12 a b) (h : pqA X) : pqA Y := by
  intro a ha k hk hs
  rw [h10] at hs
  have q := h a ha k hk hs
  unfold pqF at q ⊢
  rw [h11, h12]
  exact q
theorem sq_of {Y : gS} {x k : Int32} (h : pqA Y) : xLive Y x = true → xPrt k = true → Y 10 (tN x) (tN k) = 2 → pqF Y (tN x) (tN k) := fun h1 h2 h3 => h _ (ir_live h1).2 _ (ir_prt h2).2 h3
def mpA (M : gS) : Prop := ∀ k, k < 20 → mpOk k M
theorem mpA_k {M N : gS} (h58 : ∀ a, N 58 a 0 = M 58 a 0) (h59 : ∀ a, N 59 a 0 = M 59 a 0) (h : mpA M) : mpA N := by
  intro k hk hs
  rw [h58] at hs
  rw [h59]
  exact h k hk hs
def dvM (M : gS) (v : Nat) : Prop := M 61 v 0 = nI (mF M v + 1) ∧ mF M v < 5 ∧ M 62 v 0 = nI (mB M v) ∧ mB M v < 5 ∧ M 65 v 0 = nI (mG M v) ∧ mG M v < 5 ∧ M 64 v 0 = nI (mRe M v) ∧ mRe M v < 6 ∧ M 63 v 0 = nI (mRp M v) ∧ mRp M v < 20
theorem mF_eq {M : gS} {v : Nat} (h : M 61 v 0 = nI (mF M v + 1)) : M 61 v 0 - 1 = nI (mF M v) := by
  have e : nI (mF M v + 1) - 1 = nI (mF M v) := nI_pred _
  rw [← h] at e
  exact e
theorem ref_nn {M : gS} {x p w : Int32} {s : Bool} (h : mRef M x p w s = 0) : (∃ a, a < 20 ∧ p = nI a) ∧ ∃ b, b < 8 ∧ w = nI b := by
  unfold mRef at h
  split at h
  · split at h
    · exact absurd h (by decide)
    · next hc =>
      have c1 : ¬ p < 0 := fun q => hc (Or.inl q)
      have c2 : ¬ (nI 19 : Int32) < p := fun q => hc (Or.inr (Or.inl q))
      have c3 : ¬ w < 0 := fun q => hc (Or.inr (Or.inr (Or.inl q)))
      have c4 : ¬ (nI 7 : Int32) < w := fun q => hc (Or.inr (Or.inr (Or.inr q)))
      obtain ⟨a, ha, e⟩ := nJ_of (by decide) c1 c2
      obtain ⟨b, hb, e'⟩ := nJ_of (by decide) c3 c4
      exact ⟨⟨a, by omega, e⟩, b, by omega, e'⟩
  · exact absurd h (by decide)
theorem ref_0 {M : gS} {x p w : Int32} {s : Bool} (h : ¬ mRef M x p w s < 0) : mRef M x p w s = 0 := by
  unfold mRef at h ⊢
  split at h
  · next h1 =>
    rw [if_pos h1]
    split at h
    · exact absurd (by decide) h
    · next h2 =>
      rw [if_neg h2]
      split at h
      · next h3 => rw [if_pos h3]
      · exact absurd (by decide) h
  · exact absurd (by decide) h
theorem nI_nle3 {n k : Nat} (hn : n < 2 ^ 31) (h : ¬ nI k ≤ nI n) : n < k := Nat.not_le.mp fun q => h (nI_le q hn)
theorem fidx_le (p : Nat → Bool) : ∀ n i, fidx p n i ≤ i + n := by
  intro n
  induction n with
  | zero => intro i; exact Nat.le_refl _
  | succ n ih =>
    intro i
    unfold fidx
    split
    · omega
    · have := ih (i + 1); omega
theorem mAbs_le (M : gS) : mAbs M ≤ 3 := fidx_le _ 3 0
theorem tr_nn {M : gS} {x : Int32} (h : ¬ mTr M x < 0) : ∃ v, v < 3 ∧ x = nI v ∧ ¬ M 61 v 0 = 0 := by
  unfold mTr at h
  split at h
  · exact absurd (by decide) h
  · next hc =>
    have c1 : ¬ x < 0 := fun q => hc (Or.inl q)
    have c2 : ¬ (nI 2 : Int32) < x := fun q => hc (Or.inr (Or.inl q))
    obtain ⟨a, ha, rfl⟩ := nJ_of (by decide) c1 c2
    refine ⟨a, by omega, rfl, fun q => hc (Or.inr (Or.inr ?_))⟩
    rw [show tN (nI a) = a from nI_clamp (by omega)]
    exact q
theorem mAlloc_1 {M : gS} {x : Int32} (hl : mLive M x = true) (h1 : ¬ mFpg M < 0) (h2 : ¬ 6 ≤ mCnt M x) : (mAlloc M x).1 = mFpg M := by
  unfold mAlloc
  rw [if_pos hl, if_neg (fun q => q.elim h1 h2)]
theorem hOkM_k {M N : gS} {a : Nat} (h56 : ∀ h, N 56 h 0 = M 56 h 0) (h : hOkM M a) : hOkM N a := by
  intro q hq hp
  have e : mE N q = mE M q := by unfold mE; rw [h56]
  rw [h56] at hp ⊢
  rw [e]
  exact h q hq hp
def coMF (M : gS) (A : Int32 × gS) (v : Nat) (q : Int32) (w : Bool) : Prop := ¬ q >>> ((4 : Int32) &&& 31) < 0 ∧ tN (q >>> ((4 : Int32) &&& 31)) < 6 ∧ tN A.1 < 5 ∧ ¬ M 55 (6 * mF M v + tN (q >>> ((4 : Int32) &&& 31))) 0 < 0 ∧ tN (M 55 (6 * mF M v + tN (q >>> ((4 : Int32) &&& 31))) 0) < 20 ∧ mtF (mCo1 M A v q w) (5 * mB M v + tN A.1)
theorem nJ_add8 (a : Nat) : nI a + 8 = nI (a + 8) := nJ_add a 8
theorem mCo1_k {M : gS} {A : Int32 × gS} {v kd a b : Nat} {q : Int32} {w : Bool} (h1 : ¬ kd = 52) (h2 : ¬ kd = 73) : mCo1 M A v q w kd a b = A.2 kd a b := by
  unfold mCo1
  split
  · exact gup_k h1
  · exact gup_k h2
