theorem mStore_k {M : gS} {kd a b : Nat} {x p w v : Int32} (h : ¬ kd = 52) : (mStore M x p w v).2 kd a b = M kd a b := by
  unfold mStore
  split
  · exact gup_k h
  · rfl
theorem mUnmap_k {M : gS} {kd a b : Nat} {x k : Int32} (h : 61 ≤ kd) : (mUnmap M x k).2 kd a b = M kd a b := by
  unfold mUnmap
  split
  · split
    · rfl
    · exact mTk_k (by omega) (by omega) (by omega) (by omega)
  · rfl
theorem xGive_k {X : gS} {kd a b : Nat} {d p t r : Int32} (h : kd = 0 ∨ 14 ≤ kd) : (xGive X d p t r).2 kd a b = X kd a b := by
  unfold xGive
  split
  · split
    · split
      · rfl
      · split
        · split
          · rfl
          · split
            · rfl
            · exact (eClr_k (by omega) (by omega) (by omega)).trans (gup_k (by omega))
        · rfl
    · rfl
  · rfl
theorem mGive_k {M : gS} {kd a b : Nat} {x p t r : Int32} (h : 61 ≤ kd) : (mGive M x p t r).2 kd a b = M kd a b := by
  unfold mGive
  split
  · split
    · split
      · rfl
      · split
        · rfl
        · split
          · rfl
          · exact (gup_k (by omega)).trans (gup_k (by omega))
    · rfl
  · rfl
theorem xUnmap_1 {X : gS} {d k : Int32} {a : Nat} (h : X 0 a 0 = 1) : (xUnmap X d k).2 0 a 0 = 1 := by
  unfold xUnmap
  split
  · split
    · exact xTk_1 h
    · exact h
  · exact h
theorem Rl_c {X M X' M' : gS} {n : Nat} (h : Rl X M n) (hc : Rc X' M') (hx : ∀ kd, kd = 0 ∨ 14 ≤ kd → ∀ a b, X' kd a b = X kd a b) (hm : ∀ kd, 61 ≤ kd → ∀ a b, M' kd a b = M kd a b) : Rl X' M' (n + 1) := Rl_of h hc (fun a _ q => (hx 0 (Or.inl rfl) a 0).trans q) (fun kd k1 _ => hx kd (Or.inr k1)) (fun kd k1 _ => hm kd k1)
theorem mlive_lt {M : gS} {x : Int32} (h : mLive M x = true) : tN x < 5 := by
  obtain ⟨a, ha, rfl⟩ := live_nI h
  rw [tN_nI (by omega)]
  exact ha
theorem dv_x {X M : gS} {n : Nat} (h : Rl X M n) {v : Int32} (hp : xPres X v = true) : dvF X (tN v) := by
  have q := (d_pres h.2.2.2.2.2.2.2.2 v).mp hp
  exact (d_whole h (tN_le (z := v) (k := 2) (by decide) (fun z => q (Or.inr (Or.inl z)))) (fun z => q (Or.inr (Or.inr z)))).2.1
theorem dc_at {X M : gS} {n : Nat} (h : Rl X M n) {v : Int32} (hd : xDc X v = 0) : ∃ k, k < 3 ∧ v = nI k ∧ ¬ M 61 k 0 = 0 := by
  refine tr_nn ?_
  rw [← d_dc h, hd]
  decide
theorem s_des {X M : gS} {n : Nat} (h : Rl X M n) (d : Int32) : (xLive X d = true → lpOk (fun h Y => if Y 7 (tN d) h = -1 then Y else xTk Y (tN d) h) (tkOk (tN d)) 5 0 (xRmD X d)) ∧ (xLive X d = true → lpOk (fun k Y => qCls (xClQ1 Y (tN d) k) (tN d) k) (pqOk (tN d)) 4 0 (xTkA (xRmD X d) (tN d))) ∧ (mLive M d = true → lpOk (fun h Z => if 0 < Z 56 h 0 then mTk Z h (mE Z h) else Z) mtOk 5 (5 * tN d) (mDe1 M (tN d))) ∧ (mLive M d = true → lpOk (fun k Z => mCls (mCl1 Z k) k) mpOk 4 (4 * tN d) (mDe2 (mDe1 M (tN d)) (tN d))) ∧ (xDestroy X d).1 = (mDestroy M d).1 ∧ Rl (xDestroy X d).2 (mDestroy M d).2 (n + 1) := by
  have el : xLive X d = mLive M d := l_live h.1 d
  by_cases hl : mLive M d = true
  · obtain ⟨a, ha, rfl⟩ := live_nI hl
    obtain ⟨p1, p2, p3, p4, p5⟩ := c_destroy h ha
    unfold xDestroy mDestroy
    rw [el, if_pos hl, if_pos hl, tN_nI (by omega)]
    dsimp only
    exact ⟨fun _ => p1, fun _ => p2, fun _ => p3, fun _ => p4, rfl, p5⟩
  · unfold xDestroy mDestroy
    rw [el, if_neg hl, if_neg hl]
    exact ⟨fun q => absurd q hl, fun q => absurd q hl, fun q => absurd q hl, fun q => absurd q hl, rfl, Rl_next h⟩
def stp (L : Nat) (f : Nat → Int32) (n : Nat) (X M : gS) : Prop := ∃ X' M' : gS, Rl X' M' (n + 1) ∧ ∀ r, pw (some (L, f)) 8 119 18 [some (.ref 0), some (.ref 1), some (.ref 152), some (.int (nI (5 * n + 5)))] [] (gE X' M') r → pw (some (L, f)) 8 119 18 [some (.ref 0), some (.ref 1), some (.ref 152), some (.int (nI (5 * n)))] [] (gE X M) r
theorem s_0 {X M : gS} {L n : Nat} {f : Nat → Int32} (hL : L ≤ 2560) (h : Rl X M n) (hi : 5 * n + 5 ≤ L) (hz : f (5 * n) &&& 31 = 0) : stp L f n X M := by
  obtain ⟨c1, c2, c3, c4, c5⟩ := c_create h.c
  exact ⟨_, _, Rl_of h c2 c3 (fun kd k1 _ => c4 kd (by omega)) (fun kd k1 _ => c5 kd (by omega)), fun r hk => lawc_0 hL hi hz c1 hk⟩
theorem s_1 {X M : gS} {L n : Nat} {f : Nat → Int32} (hL : L ≤ 2560) (h : Rl X M n) (hi : 5 * n + 5 ≤ L) (hz : f (5 * n) &&& 31 = 1) : stp L f n X M := by
  obtain ⟨p1, p2, p3, p4, p5, p6⟩ := s_des h (f (5 * n + 1))
  exact ⟨_, _, p6, fun r hk => lawc_1 hL hi hz p1 p2 p3 p4 p5 hk⟩
theorem s_2 {X M : gS} {L n : Nat} {f : Nat → Int32} (hL : L ≤ 2560) (h : Rl X M n) (hi : 5 * n + 5 ≤ L) (hz : f (5 * n) &&& 31 = 2) : stp L f n X M := by
  obtain ⟨c1, c2⟩ := c_alloc h.c (f (5 * n + 1))
  exact ⟨_, _, Rl_c h c2 (fun kd k1 a b => xAlloc_k (by omega) (by omega)) (fun kd k1 a b => mAlloc_k (by omega) (by omega)), fun r hk => lawc_2 hL hi hz c1 hk⟩
theorem s_3 {X M : gS} {L n : Nat} {f : Nat → Int32} (hL : L ≤ 2560) (h : Rl X M n) (hi : 5 * n + 5 ≤ L) (hz : f (5 * n) &&& 31 = 3) : stp L f n X M := by
  obtain ⟨c1, c2⟩ := c_free h.c (f (5 * n + 1)) (f (5 * n + 2))
  exact ⟨_, _, Rl_c h c2 (fun kd k1 a b => xFree_k (by omega)) (fun kd k1 a b => mFree_k (by omega)), fun r hk => lawc_3 hL hi hz c1 hk⟩
theorem s_4 {X M : gS} {L n : Nat} {f : Nat → Int32} (hL : L ≤ 2560) (h : Rl X M n) (hi : 5 * n + 5 ≤ L) (hz : f (5 * n) &&& 31 = 4) : stp L f n X M := by
  obtain ⟨c1, c2⟩ := c_grant h.c (f (5 * n + 1)) (f (5 * n + 2)) (f (5 * n + 3)) (f (5 * n + 4))
  exact ⟨_, _, Rl_c h c2 (fun kd k1 a b => xGrant_k (by omega) (by omega) (by omega)) (fun kd k1 a b => mGrant_k (by omega) (by omega) (by omega)), fun r hk => lawc_4 hL hi hz c1 hk⟩
theorem s_5 {X M : gS} {L n : Nat} {f : Nat → Int32} (hL : L ≤ 2560) (h : Rl X M n) (hi : 5 * n + 5 ≤ L) (hz : f (5 * n) &&& 31 = 5) : stp L f n X M := by
  obtain ⟨c1, c2⟩ := c_end h.c (f (5 * n + 1)) (f (5 * n + 2))
  exact ⟨_, _, Rl_c h c2 (fun kd k1 a b => xEnd_k (by omega) (by omega) (by omega)) (fun kd k1 a b => mEnd_k (by omega)), fun r hk => lawc_5 hL hi hz c1 hk⟩
theorem s_6 {X M : gS} {L n : Nat} {f : Nat → Int32} (hL : L ≤ 2560) (h : Rl X M n) (hi : 5 * n + 5 ≤ L) (hz : f (5 * n) &&& 31 = 6) : stp L f n X M := by
  by_cases hw : f (5 * n + 4) = 0
  · obtain ⟨c1, c2⟩ := c_map h.c (f (5 * n + 1)) (f (5 * n + 2)) (f (5 * n + 3)) false
    exact ⟨_, _, Rl_c h c2 (fun kd k1 a b => xMap_k (by omega) (by omega) (by omega) (by omega)) (fun kd k1 a b => mMap_k (by omega) (by omega)), fun r hk => lawc_6f hL hi hz hw c1 hk⟩
  · obtain ⟨c1, c2⟩ := c_map h.c (f (5 * n + 1)) (f (5 * n + 2)) (f (5 * n + 3)) true
    exact ⟨_, _, Rl_c h c2 (fun kd k1 a b => xMap_k (by omega) (by omega) (by omega) (by omega)) (fun kd k1 a b => mMap_k (by omega) (by omega)), fun r hk => lawc_6t hL hi hz hw c1 hk⟩
theorem s_7 {X M : gS} {L n : Nat} {f : Nat → Int32} (hL : L ≤ 2560) (h : Rl X M n) (hi : 5 * n + 5 ≤ L) (hz : f (5 * n) &&& 31 = 7) : stp L f n X M := by
  obtain ⟨c1, c2⟩ := c_unmap h.c (f (5 * n + 1)) (f (5 * n + 2))
  refine ⟨_, _, Rl_of h c2 (fun a _ q => xUnmap_1 q) (fun kd k1 _ a b => xUnmap_k (by omega) (by omega) (by omega) (by omega) (by omega) (by omega) (by omega) (by omega) (by omega)) (fun kd k1 _ a b => mUnmap_k k1), fun r hk => lawc_7 hL hi hz (fun q1 q2 => (c_tk h.c (ir_live q1).2 (ir_hasH q2).2 (of_decide_eq_false (has_nf q2))).1) (fun q1 j hj q2 => ?_) c1 hk⟩
  have := mlive_lt q1
  exact (hOkM_all h.c _ (by omega) q2).2.2
theorem s_8 {X M : gS} {L n : Nat} {f : Nat → Int32} (hL : L ≤ 2560) (h : Rl X M n) (hi : 5 * n + 5 ≤ L) (hz : f (5 * n) &&& 31 = 8) : stp L f n X M := by
  obtain ⟨c1, c2⟩ := c_give h.c (f (5 * n + 1)) (f (5 * n + 2)) (f (5 * n + 3)) (f (5 * n + 4))
  exact ⟨_, _, Rl_c h c2 (fun kd k1 a b => xGive_k k1) (fun kd k1 a b => mGive_k k1), fun r hk => lawc_8 hL hi hz c1 hk⟩
theorem s_9 {X M : gS} {L n : Nat} {f : Nat → Int32} (hL : L ≤ 2560) (h : Rl X M n) (hi : 5 * n + 5 ≤ L) (hz : f (5 * n) &&& 31 = 9) : stp L f n X M := by
  obtain ⟨c1, c2⟩ := c_store h.c (f (5 * n + 1)) (f (5 * n + 2)) (f (5 * n + 3)) (f (5 * n + 4))
  exact ⟨_, _, Rl_c h c2 (fun kd k1 a b => xStore_k (by omega)) (fun kd k1 a b => mStore_k (by omega)), fun r hk => lawc_9 hL hi hz (fun q => hOkA_of h.c _ (ir_live q).2) (fun q => hOkM_of h.c (mlive_lt q)) c1 hk⟩
theorem s_10 {X M : gS} {L n : Nat} {f : Nat → Int32} (hL : L ≤ 2560) (h : Rl X M n) (hi : 5 * n + 5 ≤ L) (hz : f (5 * n) &&& 31 = 10) : stp L f n X M :=
  ⟨_, _, Rl_next h, fun r hk => lawc_10 hL hi hz (fun q => hOkA_of h.c _ (ir_live q).2) (fun q => hOkM_of h.c (mlive_lt q)) (c_load h.c _ _ _) hk⟩
theorem s_11 {X M : gS} {L n : Nat} {f : Nat → Int32} (hL : L ≤ 2560) (h : Rl X M n) (hi : 5 * n + 5 ≤ L) (hz : f (5 * n) &&& 31 = 11) : stp L f n X M := by
  obtain ⟨c1, c2⟩ := c_open h.c (f (5 * n + 1)) (f (5 * n + 2))
  exact ⟨_, _, Rl_c h c2 (fun kd k1 a b => xOpen_k (by omega) (by omega) (by omega) (by omega)) (fun kd k1 a b => mOpen_k (by omega) (by omega)), fun r hk => lawc_11 hL hi hz c1 hk⟩
theorem s_12 {X M : gS} {L n : Nat} {f : Nat → Int32} (hL : L ≤ 2560) (h : Rl X M n) (hi : 5 * n + 5 ≤ L) (hz : f (5 * n) &&& 31 = 12) : stp L f n X M := by
  obtain ⟨c1, c2⟩ := c_bind h.c (f (5 * n + 1)) (f (5 * n + 2)) (f (5 * n + 3))
  exact ⟨_, _, Rl_c h c2 (fun kd k1 a b => xBind_k (by omega) (by omega) (by omega) (by omega)) (fun kd k1 a b => mBind_k (by omega) (by omega)), fun r hk => lawc_12 hL hi hz c1 hk⟩
theorem s_13 {X M : gS} {L n : Nat} {f : Nat → Int32} (hL : L ≤ 2560) (h : Rl X M n) (hi : 5 * n + 5 ≤ L) (hz : f (5 * n) &&& 31 = 13) : stp L f n X M := by
  obtain ⟨c1, c2⟩ := c_send h.c (f (5 * n + 1)) (f (5 * n + 2))
  exact ⟨_, _, Rl_c h c2 (fun kd k1 a b => xSend_k (by omega)) (fun kd k1 a b => mSend_k (by omega)), fun r hk => lawc_13 hL hi hz (sq_of (pqA_of h.c)) (mpA_of h.c) c1 hk⟩
theorem s_14 {X M : gS} {L n : Nat} {f : Nat → Int32} (hL : L ≤ 2560) (h : Rl X M n) (hi : 5 * n + 5 ≤ L) (hz : f (5 * n) &&& 31 = 14) : stp L f n X M := by
  obtain ⟨c1, c2, c3, c4⟩ := c_next h.c (f (5 * n + 1))
  exact ⟨_, _, Rl_c h c2 (fun kd k1 a b => c3 kd (by omega) a b) (fun kd k1 a b => c4 kd (by omega) a b), fun r hk => lawc_14 hL hi hz c1 hk⟩
theorem s_15 {X M : gS} {L n : Nat} {f : Nat → Int32} (hL : L ≤ 2560) (h : Rl X M n) (hi : 5 * n + 5 ≤ L) (hz : f (5 * n) &&& 31 = 15) : stp L f n X M := by
  obtain ⟨c1, c2⟩ := c_attach h (f (5 * n + 1)) (f (5 * n + 2))
  exact ⟨_, _, c2, fun r hk => lawc_15 hL hi hz c1 hk⟩
theorem su_x {X M : gS} {n : Nat} (h : Rl X M n) (hn : n < 2 ^ 30) {v : Int32} (hd : xDc X v = 0) : ¬ X 15 (tN v) 0 < 0 ∧ tN (X 15 (tN v) 0) < 5 ∧ ¬ X 17 (tN v) 0 < 0 ∧ tN (X 17 (tN v) 0) < 20 ∧ ¬ X 22 (tN v) 0 < 0 ∧ ¬ X 23 (tN v) 0 < 0 ∧ ¬ X 24 (tN v) 0 < 0 := by
  obtain ⟨k, hk, rfl, hp⟩ := dc_at h hd
  rw [tN_nI (by omega)]
  obtain ⟨f, b, rp, re, rh, po, ra, ta, c1, c2, c3, c4, c5, c6, c7, c8, c9, c10, c11, c12, c13, c14, c15, c16, c17, c18, c19, c20, c21, c22, c23, c24, c25, c26, c27, c28, c29, c30, g1⟩ := d_dev h hk hp
  rw [c12, c14, c17, c18, c19, tN_nI (by omega), tN_nI (by omega)]
  exact ⟨nI_pos (by omega), c1, nI_pos (by omega), c4, nI_pos (by omega), nI_pos (by omega), nI_pos (by omega)⟩
theorem su_m {X M : gS} {n v : Nat} (h : Rl X M n) (hn : n < 2 ^ 30) (hv : v < 3) (hp : ¬ M 61 v 0 = 0) : (M 68 v 0 = nI (mPo M v) ∧ mPo M v < 2 ^ 30 ∧ mLive M (nI (mF M v)) = true) ∧ (M 69 v 0 = nI (mRa M v) ∧ mRa M v < 2 ^ 30) ∧ M 70 v 0 = nI (mTa M v) ∧ mTa M v < 2 ^ 30 := by
  obtain ⟨f, b, rp, re, rh, po, ra, ta, c1, c2, c3, c4, c5, c6, c7, c8, c9, c10, c11, c12, c13, c14, c15, c16, c17, c18, c19, c20, c21, c22, c23, c24, c25, c26, c27, c28, c29, c30, g1⟩ := d_dev h hv hp
  have eF : mF M v = f := by unfold mF; rw [c20, nI_pred, tN_nI (by omega)]
  have eO : mPo M v = po := by unfold mPo; rw [c27, tN_nI (by omega)]
  have eR : mRa M v = ra := by unfold mRa; rw [c28, tN_nI (by omega)]
  have eT : mTa M v = ta := by unfold mTa; rw [c29, tN_nI (by omega)]
  rw [eF, eO, eR, eT]
  have el : mLive M (nI f) = true := by
    rw [← l_live h.1 (nI f)]
    exact live_of c1 c11
  exact ⟨⟨c27, by omega, el⟩, ⟨c28, by omega⟩, c29, by omega⟩
theorem s_16 {X M : gS} {L n : Nat} {f : Nat → Int32} (hL : L ≤ 2560) (h : Rl X M n) (hi : 5 * n + 5 ≤ L) (hz : f (5 * n) &&& 31 = 16) : stp L f n X M := by
  have hn : n < 2 ^ 30 := by omega
  have hx : xDc X (f (5 * n + 1)) = 0 → (¬ X 15 (tN (f (5 * n + 1))) 0 < 0 ∧ tN (X 15 (tN (f (5 * n + 1))) 0) < 5 ∧ ¬ X 17 (tN (f (5 * n + 1))) 0 < 0 ∧ tN (X 17 (tN (f (5 * n + 1))) 0) < 20 ∧ ¬ X 22 (tN (f (5 * n + 1))) 0 < 0 ∧ hOkA X ∧ pqA X) := fun hd => by
    obtain ⟨a1, a2, a3, a4, a5, -, -⟩ := su_x h hn hd
    exact ⟨a1, a2, a3, a4, a5, hOkA_of h.c, pqA_of h.c⟩
  have hm : ∀ v, v < 3 → ¬ M 61 v 0 = 0 → M 68 v 0 = nI (mPo M v) ∧ mPo M v < 2 ^ 30 ∧ mLive M (nI (mF M v)) = true ∧ mpA M := fun v hv hp => by
    obtain ⟨⟨a1, a2, a3⟩, -⟩ := su_m h hn hv hp
    exact ⟨a1, a2, a3, mpA_of h.c⟩
  by_cases hw : f (5 * n + 2) = 0
  · obtain ⟨c1, c2⟩ := c_submit (w := false) h hn (f (5 * n + 1)) (f (5 * n + 3)) (f (5 * n + 4))
    exact ⟨_, _, c2, fun r hk => lawc_16f hL hi hz hw (fun q => dv_x h q) hx (fun v hv hp => (d_whole h hv hp).2.2) hm c1 hk⟩
  · obtain ⟨c1, c2⟩ := c_submit (w := true) h hn (f (5 * n + 1)) (f (5 * n + 3)) (f (5 * n + 4))
    exact ⟨_, _, c2, fun r hk => lawc_16t hL hi hz hw (fun q => dv_x h q) hx (fun v hv hp => (d_whole h hv hp).2.2) hm c1 hk⟩
theorem s_17 {X M : gS} {L n : Nat} {f : Nat → Int32} (hL : L ≤ 2560) (h : Rl X M n) (hi : 5 * n + 5 ≤ L) (hz : f (5 * n) &&& 31 = 17) : stp L f n X M := by
  have hn : n < 2 ^ 30 := by omega
  obtain ⟨c1, c2⟩ := c_serve h hn (f (5 * n + 1))
  refine ⟨_, _, c2, fun r hk => lawc_17 hL hi hz (fun q => dv_x h q) (fun hd => ?_) (fun v hv hp => (d_whole h hv hp).2.2) (fun v hv hp => ?_) c1 hk⟩
  · obtain ⟨-, -, a3, a4, -, -, a7⟩ := su_x h hn hd
    refine ⟨a3, a4, a7, pqA_of h.c, ?_⟩
    obtain ⟨k, hk3, ek, hp⟩ := dc_at h hd
    have et : tN (f (5 * n + 1)) = k := by rw [ek, tN_nI (by omega)]
    rw [et]
    exact (co_all h hk3 hp _ _).2.1
  · obtain ⟨-, -, a1, a2⟩ := su_m h hn hv hp
    exact ⟨a1, a2, mpA_of h.c, (co_all h hv hp _ _).2.2.1⟩
theorem s_18 {X M : gS} {L n : Nat} {f : Nat → Int32} (hL : L ≤ 2560) (h : Rl X M n) (hi : 5 * n + 5 ≤ L) (hz : f (5 * n) &&& 31 = 18) : stp L f n X M := by
  have hn : n < 2 ^ 30 := by omega
  obtain ⟨c1, c2⟩ := c_reap h hn (f (5 * n + 1))
  refine ⟨_, _, c2, fun r hk => lawc_18 hL hi hz (fun q => dv_x h q) (fun hd => ?_) (fun v hv hp => (d_whole h hv hp).2.2) (fun v hv hp => ?_) c1 hk⟩
  · obtain ⟨-, -, a3, a4, -, a6, -⟩ := su_x h hn hd
    exact ⟨a3, a4, a6, hOkA_of h.c⟩
  · obtain ⟨-, ⟨a1, a2⟩, -⟩ := su_m h hn hv hp
    exact ⟨a1, a2, fun a ha => hOkM_of h.c ha⟩
theorem s_19 {X M : gS} {L n : Nat} {f : Nat → Int32} (hL : L ≤ 2560) (h : Rl X M n) (hi : 5 * n + 5 ≤ L) (hz : f (5 * n) &&& 31 = 19) : stp L f n X M :=
  ⟨_, _, Rl_next h, fun r hk => lawc_19 hL hi hz (fun q => hOkA_of h.c _ (ir_dom q).2) (fun k hk0 q => ⟨(hOkM_all h.c k hk0 q).1, (hOkM_all h.c k hk0 q).2.1⟩) (c_look h _ _ _) hk⟩
theorem s_all {X M : gS} {L n : Nat} {f : Nat → Int32} (hL : L ≤ 2560) (h : Rl X M n) (hi : 5 * n + 5 ≤ L) : stp L f n X M := by
  obtain ⟨j, hj, ej⟩ := pk_andE (f (5 * n)) (m := 31) 5 (by decide)
  rcases (show j = 0 ∨ j = 1 ∨ j = 2 ∨ j = 3 ∨ j = 4 ∨ j = 5 ∨ j = 6 ∨ j = 7 ∨ j = 8 ∨ j = 9 ∨ j = 10 ∨ j = 11 ∨ j = 12 ∨ j = 13 ∨ j = 14 ∨ j = 15 ∨ j = 16 ∨ j = 17 ∨ j = 18 ∨ j = 19 ∨ 19 < j by omega) with rfl | rfl | rfl | rfl | rfl | rfl | rfl | rfl | rfl | rfl | rfl | rfl | rfl | rfl | rfl | rfl | rfl | rfl | rfl | rfl | hd
  · exact s_0 hL h hi ej
  · exact s_1 hL h hi ej
  · exact s_2 hL h hi ej
  · exact s_3 hL h hi ej
  · exact s_4 hL h hi ej
  · exact s_5 hL h hi ej
  · exact s_6 hL h hi ej
  · exact s_7 hL h hi ej
  · exact s_8 hL h hi ej
  · exact s_9 hL h hi ej
  · exact s_10 hL h hi ej
  · exact s_11 hL h hi ej
  · exact s_12 hL h hi ej
  · exact s_13 hL h hi ej
  · exact s_14 hL h hi ej
  · exact s_15 hL h hi ej
  · exact s_16 hL h hi ej
  · exact s_17 hL h hi ej
  · exact s_18 hL h hi ej
  · exact s_19 hL h hi ej
  · refine ⟨X, M, Rl_next h, fun r hk => lawc_d hL hi ?_ hk⟩
    rw [ej, nI_toInt (by omega)]
    omega
