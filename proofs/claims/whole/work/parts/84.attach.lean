theorem mLive_k {M M' : gS} (h : ∀ a b, M' 50 a b = M 50 a b) (x : Int32) : mLive M' x = mLive M x := by unfold mLive; rw [h]
theorem mFpg_k {M M' : gS} (h : ∀ a b, M' 51 a b = M 51 a b) : mFpg M' = mFpg M := by unfold mFpg; simp only [h]
theorem mCnt_k {M M' : gS} (h : ∀ a b, M' 51 a b = M 51 a b) (x : Int32) : mCnt M' x = mCnt M x := by unfold mCnt; simp only [h]
theorem mFe_k {M M' : gS} (h : ∀ a b, M' 53 a b = M 53 a b) (a : Nat) : mFe M' a = mFe M a := by unfold mFe; simp only [h]
theorem mFh_k {M M' : gS} (h : ∀ a b, M' 56 a b = M 56 a b) (a : Nat) : mFh M' a = mFh M a := by unfold mFh; simp only [h]
theorem ffst_neg {p : Nat → Bool} {n : Nat} (hn : n < 2 ^ 31) : ffst p n 0 = -1 ↔ ffst p n 0 < 0 := by
  rcases ffst_is (p := p) hn with h | ⟨j, hj, h, -⟩
  · rw [h]; decide
  · rw [h]; exact ⟨fun q => absurd q (nI_nm1 (by omega)), fun q => absurd q (nI_pos (by omega))⟩
theorem fidx_c {p q : Nat → Bool} : ∀ (n i : Nat), i + n < 2 ^ 31 → (∀ k, i ≤ k → k < i + n → p k = q k) → (ffst p n i = -1 ∧ fidx q n i = i + n) ∨ ∃ k, i ≤ k ∧ k < i + n ∧ ffst p n i = nI k ∧ fidx q n i = k ∧ p k = true := by
  intro n
  induction n with
  | zero => intro i _ _; exact Or.inl ⟨rfl, rfl⟩
  | succ n ih =>
    intro i hi h
    unfold ffst fidx
    rw [← h i (by omega) (by omega)]
    by_cases hp : p i = true
    · rw [if_pos hp, if_pos hp]
      exact Or.inr ⟨i, by omega, by omega, rfl, rfl, hp⟩
    · rw [if_neg hp, if_neg hp]
      rcases ih (i + 1) (by omega) (fun k h1 h2 => h k (by omega) (by omega)) with ⟨e1, e2⟩ | ⟨k, h1, h2, h3⟩
      · exact Or.inl ⟨e1, by omega⟩
      · exact Or.inr ⟨k, by omega, by omega, h3⟩
theorem abs_eq {X M : gS} {n : Nat} (h : rDev X M n) : (xAbs X = -1 ∧ mAbs M = 3) ∨ ∃ k, k < 3 ∧ xAbs X = nI k ∧ mAbs M = k ∧ X 14 k 0 = 0 := by
  rcases fidx_c (p := fun i => decide (X 14 i 0 = 0)) (q := fun v => decide (M 61 v 0 ≤ 0)) 3 0 (by decide) (fun k _ hk => by
    rcases h k (by omega) with ⟨g1, g2⟩ | ⟨g1, f, b, rp, re, rh, po, ra, ta, c1, c2, c3, c4, c5, c6, c7, c8, c9, c10, c11, c12, c13, c14, c15, c16, c17, c18, c19, c20, -⟩
    · rw [g1, g2]; decide
    · rw [g1, c20]
      have hn : ¬ nI (f + 1) ≤ 0 := i32_c (i32_small (by omega) (by omega))
      simp [hn]) with ⟨e1, e2⟩ | ⟨k, h1, h2, e1, e2, e3⟩
  · exact Or.inl ⟨e1, e2⟩
  · exact Or.inr ⟨k, by omega, e1, e2, by simpa using e3⟩
theorem att_1 {X M : gS} (h : Rc X M) (v : Nat) (f b : Int32) : (xA1 X v f b).1 = (mA1 M v f b).1 ∧ Rc (xA1 X v f b).2 (mA1 M v f b).2 :=
  c_alloc (Rc_k h (fun kd hk p q => vBeg_k (by omega) (by omega) (by omega) (by omega) (by omega) (by omega) (by omega)) (fun kd _ hk p q => (gup_k (by omega)).trans (gup_k (by omega)))) f
theorem att_2 {A B : Int32 × gS} (e : A.1 = B.1) (h : Rc A.2 B.2) (v : Nat) (f b : Int32) : (xA2 A v f b).1 = (mA2 B v f b).1 ∧ Rc (xA2 A v f b).2 (mA2 B v f b).2 := by
  unfold xA2 mA2
  rw [e]
  exact c_grant (Rc_k h (fun kd hk p q => gup_k (by omega)) (fun kd _ hk p q => gup_k (by omega))) _ _ _ _
theorem att_3 {A B : Int32 × gS} (e : A.1 = B.1) (h : Rc A.2 B.2) (v : Nat) (f b : Int32) : (xA3 A v f b).1 = (mA3 B v f b).1 ∧ Rc (xA3 A v f b).2 (mA3 B v f b).2 := by
  unfold xA3 mA3
  rw [e]
  exact c_map (Rc_k h (fun kd hk p q => gup_k (by omega)) (fun kd _ hk p q => gup_k (by omega))) _ _ _ _
theorem att_4 {A B : Int32 × gS} (e : A.1 = B.1) (h : Rc A.2 B.2) (v : Nat) (f b : Int32) : (xA4 A v f b).1 = (mA4 B v f b).1 ∧ Rc (xA4 A v f b).2 (mA4 B v f b).2 := by
  unfold xA4 mA4
  rw [e]
  exact c_open (Rc_k h (fun kd hk p q => gup_k (by omega)) (fun kd _ hk p q => gup_k (by omega))) _ _
theorem att_5 {A B : Int32 × gS} (e : A.1 = B.1) (h : Rc A.2 B.2) (v : Nat) (f b : Int32) : (xA5 A v f b).1 = (mA5 B v f b).1 ∧ Rc (xA5 A v f b).2 (mA5 B v f b).2 := by
  unfold xA5 mA5
  rw [e]
  exact c_bind (Rc_k h (fun kd hk p q => gup_k (by omega)) (fun kd _ hk p q => gup_k (by omega))) _ _ _
theorem mA6_k {B : Int32 × gS} {v kd p q : Nat} (h1 : ¬ kd = 67) (h2 : ¬ kd = 68) (h3 : ¬ kd = 69) (h4 : ¬ kd = 70) (h5 : ¬ kd = 73) : mA6 B v kd p q = B.2 kd p q := by
  unfold mA6
  rw [lpS_k (fun i Y a b => gup_k h5), gup_k h4, gup_k h3, gup_k h2, gup_k h1]
theorem att_6 {A B : Int32 × gS} (h : Rc A.2 B.2) (v : Nat) : Rc (xA6 A v) (mA6 B v) :=
  Rc_k h (fun kd hk p q => gup_k (by omega)) (fun kd _ hk p q => mA6_k (by omega) (by omega) (by omega) (by omega) (by omega))
theorem xAtt_k {X : gS} {v kd p q : Nat} {f b : Int32} (hk : kd = 0 ∨ 14 ≤ kd) (h : kd < 17 ∨ 21 < kd ∨ ¬ p = v) : xAtt X v f b kd p q = vBeg X v f b kd p q := by
  have e : ∀ (Y : gS) (k : Nat) (y : Int32), 17 ≤ k → k ≤ 21 → gup Y k v 0 y kd p q = Y kd p q := fun Y k y h1 h2 => by
    by_cases hkk : kd = k
    · subst hkk
      exact gup_n (fun z => by omega)
    · exact gup_k hkk
  unfold xAtt xA6
  rw [e _ _ _ (by omega) (by omega)]
  unfold xA5
  rw [xBind_k (by omega) (by omega) (by omega) (by omega), e _ _ _ (by omega) (by omega)]
  unfold xA4
  rw [xOpen_k (by omega) (by omega) (by omega) (by omega), e _ _ _ (by omega) (by omega)]
  unfold xA3
  rw [xMap_k (by omega) (by omega) (by omega) (by omega), e _ _ _ (by omega) (by omega)]
  unfold xA2
  rw [xGrant_k (by omega) (by omega) (by omega), e _ _ _ (by omega) (by omega)]
  unfold xA1
  rw [xAlloc_k (by omega) (by omega)]
theorem xAtt_21 {X : gS} {v : Nat} {f b : Int32} : xAtt X v f b 21 v 0 = (xA5 (xA4 (xA3 (xA2 (xA1 X v f b) v f b) v f b) v f b) v f b).1 := gup_s
theorem xAtt_20 {X : gS} {v : Nat} {f b : Int32} : xAtt X v f b 20 v 0 = (xA4 (xA3 (xA2 (xA1 X v f b) v f b) v f b) v f b).1 := by
  unfold xAtt xA6
  rw [gup_k (by decide), xA5, xBind_k (by decide) (by decide) (by decide) (by decide), gup_s]
theorem xAtt_19 {X : gS} {v : Nat} {f b : Int32} : xAtt X v f b 19 v 0 = (xA3 (xA2 (xA1 X v f b) v f b) v f b).1 := by
  unfold xAtt xA6
  rw [gup_k (by decide), xA5, xBind_k (by decide) (by decide) (by decide) (by decide), gup_k (by decide), xA4, xOpen_k (by decide) (by decide) (by decide) (by decide), gup_s]
theorem xAtt_18 {X : gS} {v : Nat} {f b : Int32} : xAtt X v f b 18 v 0 = (xA2 (xA1 X v f b) v f b).1 := by
  unfold xAtt xA6
  rw [gup_k (by decide), xA5, xBind_k (by decide) (by decide) (by decide) (by decide), gup_k (by decide), xA4, xOpen_k (by decide) (by decide) (by decide) (by decide), gup_k (by decide), xA3, xMap_k (by decide) (by decide) (by decide) (by decide), gup_s]
theorem xAtt_17 {X : gS} {v : Nat} {f b : Int32} : xAtt X v f b 17 v 0 = (xA1 X v f b).1 := by
  unfold xAtt xA6
  rw [gup_k (by decide), xA5, xBind_k (by decide) (by decide) (by decide) (by decide), gup_k (by decide), xA4, xOpen_k (by decide) (by decide) (by decide) (by decide), gup_k (by decide), xA3, xMap_k (by decide) (by decide) (by decide) (by decide), gup_k (by decide), xA2, xGrant_k (by decide) (by decide) (by decide), gup_s]
theorem vBeg_n {X : gS} {v v' kd q : Nat} {f b : Int32} (h : ¬ v' = v) : vBeg X v f b kd v' q = X kd v' q := by
  have e : ∀ (Y : gS) (k q' : Nat) (y : Int32), gup Y k v q' y kd v' q = Y kd v' q := fun Y k q' y => by
    by_cases hkk : kd = k
    · subst hkk
      exact gup_n (fun z => h z.1)
    · exact gup_k hkk
  unfold vBeg
  have e2 : ∀ (n i : Nat) (Y : gS), lpS (fun s Y => gup Y 27 v s 0) n i Y kd v' q = Y kd v' q := by
    intro n
    induction n with
    | zero => intro i Y; rfl
    | succ n ih =>
      intro i Y
      show lpS (fun s Y => gup Y 27 v s 0) n (i + 1) (gup Y 27 v i 0) kd v' q = _
      rw [ih, e]
  rw [e2, e, e, e, e, e, e]
theorem vBeg_r {X : gS} {v : Nat} {f b : Int32} : vBeg X v f b 14 v 0 = 1 ∧ vBeg X v f b 15 v 0 = f ∧ vBeg X v f b 16 v 0 = b ∧ vBeg X v f b 22 v 0 = 0 ∧ vBeg X v f b 23 v 0 = 0 ∧ vBeg X v f b 24 v 0 = 0 ∧ ∀ s, s < 8 → vBeg X v f b 27 v s = 0 := by
  unfold vBeg
  refine ⟨?_, ?_, ?_, ?_, ?_, ?_, fun s hs => ?_⟩
  · rw [lpS_k (fun i Y a b => gup_k (by decide)), gup_k (by decide), gup_k (by decide), gup_k (by decide), gup_k (by decide), gup_k (by decide), gup_s]
  · rw [lpS_k (fun i Y a b => gup_k (by decide)), gup_k (by decide), gup_k (by decide), gup_k (by decide), gup_k (by decide), gup_s]
  · rw [lpS_k (fun i Y a b => gup_k (by decide)), gup_k (by decide), gup_k (by decide), gup_k (by decide), gup_s]
  · rw [lpS_k (fun i Y a b => gup_k (by decide)), gup_k (by decide), gup_k (by decide), gup_s]
  · rw [lpS_k (fun i Y a b => gup_k (by decide)), gup_k (by decide), gup_s]
  · rw [lpS_k (fun i Y a b => gup_k (by decide)), gup_s]
  · rcases wipe_at (kd := 27) (ix := fun _ => v) (iy := fun s => s) 8 0 (gup (gup (gup (gup (gup (gup X 14 v 0 1) 15 v 0 f) 16 v 0 b) 22 v 0 0) 23 v 0 0) 24 v 0 0) v s with ⟨h1, -⟩ | ⟨-, h2⟩
    · exact h1
    · exact absurd ⟨s, by omega, by omega, rfl, rfl⟩ h2
theorem mAtt_n {M : gS} {v kd p : Nat} {f b : Int32} (hk : 61 ≤ kd) (h : kd = 71 ∨ kd = 72 ∨ (kd ≤ 70 ∧ ¬ p = v) ∨ (kd = 73 ∧ ¬ (8 * v ≤ p ∧ p < 8 * v + 8))) : mAtt M v f b kd p 0 = M kd p 0 := by
  have e : ∀ (Y : gS) (k : Nat) (y : Int32), k ≤ 70 → gup Y k v 0 y kd p 0 = Y kd p 0 := fun Y k y h1 => by
    by_cases hkk : kd = k
    · subst hkk
      exact gup_n (fun z => by omega)
    · exact gup_k hkk
  have e2 : ∀ Y : gS, lpS (fun s Z => gup Z 73 (8 * v + s) 0 0) 8 0 Y kd p 0 = Y kd p 0 := fun Y => by
    by_cases hkk : kd = 73
    · subst hkk
      rcases wipe_at (kd := 73) (ix := fun s => 8 * v + s) (iy := fun _ => 0) 8 0 Y p 0 with ⟨-, w, h2, h3, h4, -⟩ | ⟨h1, -⟩
      · exact absurd h4 (by omega)
      · exact h1
    · exact lpS_k (fun i Y a b => gup_k hkk) _ _ _ _ _
  unfold mAtt mA6
  rw [e2, e _ _ _ (by omega), e _ _ _ (by omega), e _ _ _ (by omega), e _ _ _ (by omega)]
  unfold mA5
  rw [mBind_k (by omega) (by omega), e _ _ _ (by omega)]
  unfold mA4
  rw [mOpen_k (by omega) (by omega), e _ _ _ (by omega)]
  unfold mA3
  rw [mMap_k (by omega) (by omega), e _ _ _ (by omega)]
  unfold mA2
  rw [mGrant_k (by omega) (by omega) (by omega), e _ _ _ (by omega)]
  unfold mA1
  rw [mAlloc_k (by omega) (by omega), e _ _ _ (by omega), e _ _ _ (by omega)]
theorem mA6_r {B : Int32 × gS} {v : Nat} : mA6 B v 67 v 0 = B.1 ∧ mA6 B v 68 v 0 = 0 ∧ mA6 B v 69 v 0 = 0 ∧ mA6 B v 70 v 0 = 0 ∧ ∀ s, s < 8 → mA6 B v 73 (8 * v + s) 0 = 0 := by
  unfold mA6
  refine ⟨?_, ?_, ?_, ?_, fun s hs => ?_⟩
  · rw [lpS_k (fun i Y a b => gup_k (by decide)), gup_k (by decide), gup_k (by decide), gup_k (by decide), gup_s]
  · rw [lpS_k (fun i Y a b => gup_k (by decide)), gup_k (by decide), gup_k (by decide), gup_s]
  · rw [lpS_k (fun i Y a b => gup_k (by decide)), gup_k (by decide), gup_s]
  · rw [lpS_k (fun i Y a b => gup_k (by decide)), gup_s]
  · rcases wipe_at (kd := 73) (ix := fun s => 8 * v + s) (iy := fun _ => 0) 8 0 (gup (gup (gup (gup B.2 67 v 0 B.1) 68 v 0 0) 69 v 0 0) 70 v 0 0) (8 * v + s) 0 with ⟨h1, -⟩ | ⟨-, h2⟩
    · exact h1
    · exact absurd ⟨s, by omega, by omega, rfl, rfl⟩ h2
theorem mAtt_66 {M : gS} {v : Nat} {f b : Int32} : mAtt M v f b 66 v 0 = (mA4 (mA3 (mA2 (mA1 M v f b) v f b) v f b) v f b).1 := by
  unfold mAtt
  rw [mA6_k (by decide) (by decide) (by decide) (by decide) (by decide), mA5, mBind_k (by decide) (by decide), gup_s]
theorem mAtt_65 {M : gS} {v : Nat} {f b : Int32} : mAtt M v f b 65 v 0 = (mA3 (mA2 (mA1 M v f b) v f b) v f b).1 := by
  unfold mAtt
  rw [mA6_k (by decide) (by decide) (by decide) (by decide) (by decide), mA5, mBind_k (by decide) (by decide), gup_k (by decide), mA4, mOpen_k (by decide) (by decide), gup_s]
theorem mAtt_64 {M : gS} {v : Nat} {f b : Int32} : mAtt M v f b 64 v 0 = (mA2 (mA1 M v f b) v f b).1 := by
  unfold mAtt
  rw [mA6_k (by decide) (by decide) (by decide) (by decide) (by decide), mA5, mBind_k (by decide) (by decide), gup_k (by decide), mA4, mOpen_k (by decide) (by decide), gup_k (by decide), mA3, mMap_k (by decide) (by decide), gup_s]
theorem mAtt_63 {M : gS} {v : Nat} {f b : Int32} : mAtt M v f b 63 v 0 = (mA1 M v f b).1 := by
  unfold mAtt
  rw [mA6_k (by decide) (by decide) (by decide) (by decide) (by decide), mA5, mBind_k (by decide) (by decide), gup_k (by decide), mA4, mOpen_k (by decide) (by decide), gup_k (by decide), mA3, mMap_k (by decide) (by decide), gup_k (by decide), mA2, mGrant_k (by decide) (by decide) (by decide), gup_s]
theorem mAtt_62 {M : gS} {v : Nat} {f b : Int32} : mAtt M v f b 62 v 0 = b := by
  unfold mAtt
  rw [mA6_k (by decide) (by decide) (by decide) (by decide) (by decide), mA5, mBind_k (by decide) (by decide), gup_k (by decide), mA4, mOpen_k (by decide) (by decide), gup_k (by decide), mA3, mMap_k (by decide) (by decide), gup_k (by decide), mA2, mGrant_k (by decide) (by decide) (by decide), gup_k (by decide), mA1, mAlloc_k (by decide) (by decide), gup_s]
theorem mAtt_61 {M : gS} {v : Nat} {f b : Int32} : mAtt M v f b 61 v 0 = f + 1 := by
  unfold mAtt
  rw [mA6_k (by decide) (by decide) (by decide) (by decide) (by decide), mA5, mBind_k (by decide) (by decide), gup_k (by decide), mA4, mOpen_k (by decide) (by decide), gup_k (by decide), mA3, mMap_k (by decide) (by decide), gup_k (by decide), mA2, mGrant_k (by decide) (by decide) (by decide), gup_k (by decide), mA1, mAlloc_k (by decide) (by decide), gup_k (by decide), gup_s]
theorem rng_1 {M : gS} {v j : Nat} {f b : Int32} (hl : mLive M f = true) (h1 : mFpg M = nI j) (hj : j < 20) (h2 : ¬ 6 ≤ mCnt M f) : (mA1 M v f b).1 = nI j ∧ (mA1 M v f b).2 51 j 0 = f + 1 := by
  have k : ∀ kd, kd < 61 → ∀ p q, gup (gup M 61 v 0 (f + 1)) 62 v 0 b kd p q = M kd p q := fun kd hk p q => (gup_k (by omega)).trans (gup_k (by omega))
  have l1 : mLive (gup (gup M 61 v 0 (f + 1)) 62 v 0 b) f = true := by rw [mLive_k (k 50 (by decide))]; exact hl
  have f1 : mFpg (gup (gup M 61 v 0 (f + 1)) 62 v 0 b) = nI j := by rw [mFpg_k (k 51 (by decide))]; exact h1
  have n1 : ¬ (mFpg (gup (gup M 61 v 0 (f + 1)) 62 v 0 b) < 0 ∨ 6 ≤ mCnt (gup (gup M 61 v 0 (f + 1)) 62 v 0 b) f) := by
    rw [f1, mCnt_k (k 51 (by decide))]
    exact fun q => q.elim (nI_pos (by omega)) h2
  unfold mA1 mAlloc
  rw [if_pos l1, if_neg n1, f1, tN_nI (by omega)]
  refine ⟨rfl, ?_⟩
  dsimp only
  rw [mWipe_k (by decide), gup_s]
theorem rng_2 {M : gS} {B : Int32 × gS} {v j a c e : Nat} (hc : c < 5) (ha : a < 5) (hac : ¬ a = c) (h50 : ∀ p q, B.2 50 p q = M 50 p q) (h53 : ∀ p q, B.2 53 p q = M 53 p q) (hl : mLive M (nI a) = true) (e1 : B.1 = nI j) (hj : j < 20) (ho : B.2 51 j 0 = nI a + 1) (he : mFe M a = nI e) (he6 : e < 6) : (mA2 B v (nI a) (nI c)).1 = nI e ∧ (mA2 B v (nI a) (nI c)).2 53 (6 * a + e) 0 = nI c + 1 ∧ (mA2 B v (nI a) (nI c)).2 54 (6 * a + e) 0 = 1 := by
  have l1 : mLive (gup B.2 63 v 0 B.1) (nI a) = true := by rw [mLive_k (fun p q => (gup_k (by decide)).trans (h50 p q))]; exact hl
  have n1 : ¬ (nI c < 0 ∨ 4 < nI c ∨ nI c = nI a ∨ (1 : Int32) < 0 ∨ 2 < (1 : Int32)) := by
    intro q
    rcases q with q | q | q | q | q
    · exact nI_pos (by omega) q
    · exact nI_nlt (a := 4) (b := c) (by omega) (by decide) q
    · exact hac (nI_inj (by omega) (by omega) q).symm
    · exact absurd q (by decide)
    · exact absurd q (by decide)
  have o1 : mOwns (gup B.2 63 v 0 B.1) (nI a) (nI j) = true := by
    unfold mOwns
    rw [gup_k (by decide), tN_nI (by omega), ho, ← l_pag]
    rw [l_pag2.mpr (fun q => q.elim (nI_pos (by omega)) (nI_nlt (a := 19) (b := j) (by omega) (by decide)))]
    simp
  have n2 : ¬ ((1 : Int32) < 2 ∧ mOwns (gup B.2 63 v 0 B.1) (nI a) (nI j) = false) := by rw [o1]; simp
  have f1 : mFe (gup B.2 63 v 0 B.1) a = nI e := by rw [mFe_k (fun p q => (gup_k (by decide)).trans (h53 p q))]; exact he
  unfold mA2 mGrant
  rw [if_pos l1, if_neg n1]
  rw [e1] at n2 f1 ⊢
  rw [if_neg n2, tN_nI (by omega), f1, if_neg (nI_pos (by omega)), tN_nI (by omega)]
  dsimp only
  rw [mGr1_r3, if_pos rfl, mGr1_r4, if_pos rfl]
  exact ⟨rfl, rfl, rfl⟩
theorem rng_3 {M : gS} {B : Int32 × gS} {v a c e k : Nat} (hc : c < 5) (ha : a < 5) (h50 : ∀ p q, B.2 50 p q = M 50 p q) (h56 : ∀ p q, B.2 56 p q = M 56 p q) (hl : mLive M (nI a) = true) (hl2 : mLive M (nI c) = true) (e1 : B.1 = nI e) (he6 : e < 6) (h3 : B.2 53 (6 * a + e) 0 = nI c + 1) (h4 : B.2 54 (6 * a + e) 0 = 1) (hh : mFh M c = nI k) (hk : k < 5) : (mA3 B v (nI a) (nI c)).1 = nI k := by
  have l1 : mLive (gup B.2 64 v 0 B.1) (nI a) = true := by rw [mLive_k (fun p q => (gup_k (by decide)).trans (h50 p q))]; exact hl
  have l2 : mLive (gup B.2 64 v 0 B.1) (nI c) = true := by rw [mLive_k (fun p q => (gup_k (by decide)).trans (h50 p q))]; exact hl2
  have en : mEnt (gup B.2 64 v 0 B.1) a (nI e) = nI (6 * a + e) := by
    unfold mEnt
    rw [tN_nI (by omega), gup_k (by decide), h3, nI_add1]
    have n1 : ¬ (nI e < 0 ∨ 5 < nI e ∨ nI (c + 1) = 0) := fun q => q.elim (nI_pos (by omega)) (fun q => q.elim (nI_nlt (a := 5) (b := e) (by omega) (by decide)) (nI_ne0 (by omega) (by omega)))
    rw [if_neg n1]
  have f1 : mFh (gup B.2 64 v 0 B.1) c = nI k := by rw [mFh_k (fun p q => (gup_k (by decide)).trans (h56 p q))]; exact hh
  have x4 : gup B.2 64 v 0 B.1 54 (6 * a + e) 0 = 1 := by rw [gup_k (by decide)]; exact h4
  have x3 : gup B.2 64 v 0 B.1 53 (6 * a + e) 0 = nI c + 1 := by rw [gup_k (by decide)]; exact h3
  unfold mA3 mMap
  rw [if_pos ⟨l2, l1⟩]
  rw [e1] at en f1 x3 x4 ⊢
  rw [tN_nI (by omega), en, tN_nI (by omega), x3, x4]
  have n1 : ¬ (nI (6 * a + e) < 0 ∨ (1 : Int32) = 2 ∨ ¬ nI c + 1 = nI c + 1) := fun q => q.elim (nI_pos (by omega)) (fun q => q.elim (by decide) (fun q => q rfl))
  have n2 : ¬ (true = true ∧ (1 : Int32) = 0) := fun q => absurd q.2 (by decide)
  rw [if_neg n1, if_neg n2, tN_nI (by omega), f1, if_neg (nI_pos (by omega))]
theorem c_att {X M : gS} {n v a c j e k : Nat} (h : Rl X M n) (hv : v < 3) (ha : a < 5) (hc : c < 5) (hac : ¬ a = c) (la : mLive M (nI a) = true) (lc : mLive M (nI c) = true) (h1 : mFpg M = nI j) (hj : j < 20) (h2 : ¬ 6 ≤ mCnt M (nI a)) (h3 : mFe M a = nI e) (he : e < 6) (h4 : mFh M c = nI k) (hk : k < 5) : Rl (xAtt X v (nI a) (nI c)) (mAtt M v (nI a) (nI c)) (n + 1) := by
  obtain ⟨a1, b1⟩ := att_1 h.c v (nI a) (nI c)
  obtain ⟨a2, b2⟩ := att_2 a1 b1 v (nI a) (nI c)
  obtain ⟨a3, b3⟩ := att_3 a2 b2 v (nI a) (nI c)
  obtain ⟨a4, b4⟩ := att_4 a3 b3 v (nI a) (nI c)
  obtain ⟨a5, b5⟩ := att_5 a4 b4 v (nI a) (nI c)
  have b6 : Rc (xAtt X v (nI a) (nI c)) (mAtt M v (nI a) (nI c)) := att_6 b5 v
  obtain ⟨r1, o1⟩ := rng_1 (v := v) (b := nI c) la h1 hj h2
  have k1 : ∀ kd, kd < 61 → ¬ kd = 51 → ¬ kd = 52 → ∀ p q, (mA1 M v (nI a) (nI c)).2 kd p q = M kd p q := fun kd g1 g2 g3 p q => (mAlloc_k g2 g3).trans ((gup_k (by omega)).trans (gup_k (by omega)))
  obtain ⟨r2, o2, o3⟩ := rng_2 (v := v) hc ha hac (k1 50 (by decide) (by decide) (by decide)) (k1 53 (by decide) (by decide) (by decide)) la r1 hj o1 h3 he
  have k2 : ∀ kd, kd < 61 → ¬ kd = 51 → ¬ kd = 52 → ¬ kd = 53 → ¬ kd = 54 → ¬ kd = 55 → ∀ p q, (mA2 (mA1 M v (nI a) (nI c)) v (nI a) (nI c)).2 kd p q = M kd p q := fun kd g1 g2 g3 g4 g5 g6 p q => (mGrant_k g4 g5 g6).trans ((gup_k (by omega)).trans (k1 kd g1 g2 g3 p q))
  have r3 := rng_3 (v := v) hc ha (k2 50 (by decide) (by decide) (by decide) (by decide) (by decide) (by decide)) (k2 56 (by decide) (by decide) (by decide) (by decide) (by decide) (by decide)) la lc r2 he o2 o3 h4 hk
  have s1 : X 0 a 0 = 1 := by
    have := h.1 a ha
    unfold mLive at la
    simp only [Bool.and_eq_true, decide_eq_true_eq] at la
    rw [tN_nI (by omega)] at la
    rw [← this]
    exact la.2
  refine ⟨b6.1, b6.2.1, b6.2.2.1, b6.2.2.2.1, b6.2.2.2.2.1, b6.2.2.2.2.2.1, b6.2.2.2.2.2.2, fun v' hv' s hs => ?_, fun v' hv' => ?_⟩
  · rw [xAtt_k (by omega) (by omega), xAtt_k (by omega) (by omega), vBeg_k (by decide) (by decide) (by decide) (by decide) (by decide) (by decide) (by decide), vBeg_k (by decide) (by decide) (by decide) (by decide) (by decide) (by decide) (by decide), mAtt_n (by decide) (by omega), mAtt_n (by decide) (by omega)]
    exact h.2.2.2.2.2.2.2.1 v' hv' s hs
  · by_cases hvv : v' = v
    · subst hvv
      right
      obtain ⟨g1, g2, g3, g4, g5, g6, g7⟩ := vBeg_r (X := X) (v := v') (f := nI a) (b := nI c)
      obtain ⟨w1, w2, w3, w4, w5⟩ := mA6_r (B := mA5 (mA4 (mA3 (mA2 (mA1 M v' (nI a) (nI c)) v' (nI a) (nI c)) v' (nI a) (nI c)) v' (nI a) (nI c)) v' (nI a) (nI c)) (v := v')
      refine ⟨by rw [xAtt_k (by omega) (by omega)]; exact g1, a, c, j, e, k, 0, 0, 0, ha, hc, hac, hj, he, hk, by omega, by omega, by omega, by omega, ?_, ?_, ?_, ?_, ?_, ?_, ?_, ?_, ?_, ?_, mAtt_62, ?_, ?_, ?_, ?_, ?_, w2, w3, w4, fun s hs => ?_⟩
      · rw [xAtt_k (by omega) (by omega), vBeg_k (by decide) (by decide) (by decide) (by decide) (by decide) (by decide) (by decide)]; exact s1
      · rw [xAtt_k (by omega) (by omega)]; exact g2
      · rw [xAtt_k (by omega) (by omega)]; exact g3
      · rw [xAtt_17, a1]; exact r1
      · rw [xAtt_18, a2]; exact r2
      · rw [xAtt_19, a3]; exact r3
      · rw [xAtt_k (by omega) (by omega)]; exact g4
      · rw [xAtt_k (by omega) (by omega)]; exact g5
      · rw [xAtt_k (by omega) (by omega)]; exact g6
      · rw [mAtt_61, nI_add1]
      · rw [mAtt_63]; exact r1
      · rw [mAtt_64]; exact r2
      · rw [mAtt_65]; exact r3
      · rw [mAtt_66, xAtt_20]; exact a4.symm
      · rw [xAtt_21]; exact w1.trans a5.symm
      · rw [xAtt_k (by omega) (by omega), g7 s hs]; exact w5 s hs
    · refine dRel_k (fun f _ _ q => ?_) (fun kd z1 z2 _ _ q => ?_) (fun kd z1 z2 => mAtt_n z1 (by omega)) (fun s hs => mAtt_n (by decide) (by omega)) (h.2.2.2.2.2.2.2.2 v' hv')
      · rw [xAtt_k (by omega) (by omega), vBeg_k (by decide) (by decide) (by decide) (by decide) (by decide) (by decide) (by decide)]; exact q
      · rw [xAtt_k (by omega) (by omega), vBeg_n hvv]
theorem c_attach {X M : gS} {n : Nat} (h : Rl X M n) (f b : Int32) : (xAttach X f b).1 = (mAttach M f b).1 ∧ Rl (xAttach X f b).2 (mAttach M f b).2 (n + 1) := by
  unfold xAttach mAttach
  rw [l_live h.1, l_live h.1]
  by_cases hl : mLive M f = true ∧ mLive M b = true
  · rw [if_pos hl, if_pos hl]
    by_cases hfb : f = b
    · rw [if_pos hfb, if_pos hfb]
      exact ⟨rfl, Rl_next h⟩
    · rw [if_neg hfb, if_neg hfb]
      obtain ⟨a, ha, rfl⟩ := live_nI hl.1
      obtain ⟨c, hc, rfl⟩ := live_nI hl.2
      have hg := get_eq h.2.1 (nI a)
      have hR := h.c
      have e1 := l_fe hR.2.2.2.1 ha
      have e2 := l_fh hR.2.2.2.2.2.1 hc
      have e3 := l_fq hR.2.2.2.2.2.2 ha
      have e4 := l_fq hR.2.2.2.2.2.2 hc
      have n1 : mFe M a = -1 ↔ mFe M a < 0 := ffst_neg (by decide)
      have n2 : mFh M c = -1 ↔ mFh M c < 0 := ffst_neg (by decide)
      have n3 : mFq M a = -1 ↔ mFq M a < 0 := ffst_neg (by decide)
      have n4 : mFq M c = -1 ↔ mFq M c < 0 := ffst_neg (by decide)
      have ta : tN (nI a) = a := tN_nI (by omega)
      have tc : tN (nI c) = c := tN_nI (by omega)
      have hA : (xAbs X = -1 ∨ xRf X (nI a) = false ∨ xRb X (nI c) = false) ↔ (3 ≤ nI (mAbs M) ∨ 6 ≤ mCnt M (nI a) ∨ mFpg M < 0 ∨ mFe M (tN (nI a)) < 0 ∨ mFh M (tN (nI c)) < 0 ∨ mFq M (tN (nI a)) < 0 ∨ mFq M (tN (nI c)) < 0) := by
        unfold xRf xRb xCgn
        rw [ta, tc, e1, e2, e3, e4, ← n1, ← n2, ← n3, ← n4]
        have hab : xAbs X = -1 ↔ 3 ≤ nI (mAbs M) := by
          rcases abs_eq h.2.2.2.2.2.2.2.2 with ⟨q1, q2⟩ | ⟨k, hk, q1, q2, -⟩
          · rw [q1, q2]; decide
          · rw [q1, q2]
            have : ∀ k, k < 3 → (nI k = -1 ↔ 3 ≤ nI k) := by decide +kernel
            exact this k hk
        rw [hab]
        simp only [Bool.and_eq_false_iff, Bool.not_eq_false', decide_eq_true_eq]
        rw [hg]
        constructor
        · rintro (q | ((q | q) | q) | q | q)
          · exact Or.inl q
          · exact q.elim (fun q => Or.inr (Or.inr (Or.inl q))) (fun q => Or.inr (Or.inl q))
          · exact Or.inr (Or.inr (Or.inr (Or.inl q)))
          · exact Or.inr (Or.inr (Or.inr (Or.inr (Or.inr (Or.inl q)))))
          · exact Or.inr (Or.inr (Or.inr (Or.inr (Or.inl q))))
          · exact Or.inr (Or.inr (Or.inr (Or.inr (Or.inr (Or.inr q)))))
        · rintro (q | q | q | q | q | q | q)
          · exact Or.inl q
          · exact Or.inr (Or.inl (Or.inl (Or.inl (Or.inr q))))
          · exact Or.inr (Or.inl (Or.inl (Or.inl (Or.inl q))))
          · exact Or.inr (Or.inl (Or.inl (Or.inr q)))
          · exact Or.inr (Or.inr (Or.inl q))
          · exact Or.inr (Or.inl (Or.inr q))
          · exact Or.inr (Or.inr (Or.inr q))
      by_cases hbad : 3 ≤ nI (mAbs M) ∨ 6 ≤ mCnt M (nI a) ∨ mFpg M < 0 ∨ mFe M (tN (nI a)) < 0 ∨ mFh M (tN (nI c)) < 0 ∨ mFq M (tN (nI a)) < 0 ∨ mFq M (tN (nI c)) < 0
      · rw [if_pos (hA.mpr hbad), if_pos hbad]
        exact ⟨rfl, Rl_next h⟩
      · rw [if_neg (fun q => hbad (hA.mp q)), if_neg hbad]
        rcases abs_eq h.2.2.2.2.2.2.2.2 with ⟨q1, q2⟩ | ⟨v, hv, q1, q2, -⟩
        · exact absurd (Or.inl (by rw [q2]; decide)) hbad
        · rw [q1, q2, tN_nI (by omega)]
          rw [ta, tc] at hbad
          obtain ⟨j, hj, ej⟩ := ir_mFpg (fun q => hbad (Or.inr (Or.inr (Or.inl q))))
          obtain ⟨e, he, ee⟩ := ir_mFe (fun q => hbad (Or.inr (Or.inr (Or.inr (Or.inl q)))))
          obtain ⟨k, hk, ek⟩ := ir_mFh (fun q => hbad (Or.inr (Or.inr (Or.inr (Or.inr (Or.inl q))))))
          exact ⟨rfl, c_att h hv ha hc (fun q => hfb (by rw [q])) hl.1 hl.2 ej hj (fun q => hbad (Or.inr (Or.inl q))) ee he ek hk⟩
  · rw [if_neg hl, if_neg hl]
    exact ⟨rfl, Rl_next h⟩
