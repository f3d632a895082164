theorem gup_r {X : gS} {kd a b a' b' : Nat} {v : Int32} : gup X kd a b v kd a' b' = if a' = a ∧ b' = b then v else X kd a' b' := by
  unfold gup
  simp
theorem gup_n {X : gS} {kd a b a' b' : Nat} {v : Int32} (h : ¬ (a' = a ∧ b' = b)) : gup X kd a b v kd a' b' = X kd a' b' := by rw [gup_r, if_neg h]
theorem rSta_k {X M X' M' : gS} (h0 : ∀ a b, X' 0 a b = X 0 a b) (h50 : ∀ a b, M' 50 a b = M 50 a b) (h : rSta X M) : rSta X' M' := fun a ha => by rw [h0, h50]; exact h a ha
theorem rOwn_k {X M X' M' : gS} (h1 : ∀ a b, X' 1 a b = X 1 a b) (h51 : ∀ a b, M' 51 a b = M 51 a b) (h : rOwn X M) : rOwn X' M' := fun p hp => by rw [h1, h51]; exact h p hp
theorem rWrd_k {X M X' M' : gS} (h2 : ∀ a b, X' 2 a b = X 2 a b) (h52 : ∀ a b, M' 52 a b = M 52 a b) (h : rWrd X M) : rWrd X' M' := fun p hp w hw => by rw [h2, h52]; exact h p hp w hw
theorem rEnt_k {X M X' M' : gS} (h3 : ∀ a b, X' 3 a b = X 3 a b) (h4 : ∀ a b, X' 4 a b = X 4 a b) (h5 : ∀ a b, X' 5 a b = X 5 a b) (h53 : ∀ a b, M' 53 a b = M 53 a b) (h54 : ∀ a b, M' 54 a b = M 54 a b) (h55 : ∀ a b, M' 55 a b = M 55 a b) (h : rEnt X M) : rEnt X' M' := fun a ha i hi => by
  unfold eRel
  rw [h3, h4, h5, h53, h54, h55]
  exact h a ha i hi
theorem mMps_k {M M' : gS} (h56 : ∀ a b, M' 56 a b = M 56 a b) (e : Nat) : mMps M' e = mMps M e := cntb_c 25 0 0 0 fun k hk => by simp only [Nat.zero_add, h56]
theorem rCnt_k {X M X' M' : gS} (h6 : ∀ a b, X' 6 a b = X 6 a b) (h56 : ∀ a b, M' 56 a b = M 56 a b) (h : rCnt X M) : rCnt X' M' := fun a ha i hi => by rw [h6, mMps_k h56]; exact h a ha i hi
theorem rHnd_k {X M X' M' : gS} (h3 : ∀ a b, X' 3 a b = X 3 a b) (h4 : ∀ a b, X' 4 a b = X 4 a b) (h7 : ∀ a b, X' 7 a b = X 7 a b) (h8 : ∀ a b, X' 8 a b = X 8 a b) (h9 : ∀ a b, X' 9 a b = X 9 a b) (h56 : ∀ a b, M' 56 a b = M 56 a b) (h57 : ∀ a b, M' 57 a b = M 57 a b) (h : rHnd X M) : rHnd X' M' := fun a ha i hi => by
  unfold hRel
  simp only [h3, h4, h7, h8, h9, h56, h57]
  exact h a ha i hi
theorem rPrt_k {X M X' M' : gS} (h10 : ∀ a b, X' 10 a b = X 10 a b) (h11 : ∀ a b, X' 11 a b = X 11 a b) (h12 : ∀ a b, X' 12 a b = X 12 a b) (h13 : ∀ a b, X' 13 a b = X 13 a b) (h58 : ∀ a b, M' 58 a b = M 58 a b) (h59 : ∀ a b, M' 59 a b = M 59 a b) (h60 : ∀ a b, M' 60 a b = M 60 a b) (h : rPrt X M) : rPrt X' M' := fun a ha i hi => by
  unfold pRel
  simp only [h10, h11, h12, h13, h58, h59, h60]
  exact h a ha i hi
theorem rNot_k {X M X' M' : gS} (h25 : ∀ a b, X' 25 a b = X 25 a b) (h26 : ∀ a b, X' 26 a b = X 26 a b) (h71 : ∀ a b, M' 71 a b = M 71 a b) (h72 : ∀ a b, M' 72 a b = M 72 a b) (h : rNot X M) : rNot X' M' := fun v hv s hs => by rw [h25, h26, h71, h72]; exact h v hv s hs
theorem rDev_k {X M X' M' : gS} {n : Nat} (h0 : ∀ f, f < 5 → X 0 f 0 = 1 → X' 0 f 0 = 1) (hx : ∀ kd, 14 ≤ kd → kd ≤ 27 → ¬ kd = 25 → ¬ kd = 26 → ∀ a b, X' kd a b = X kd a b) (hm : ∀ kd, 61 ≤ kd → kd ≤ 73 → ¬ kd = 71 → ¬ kd = 72 → ∀ a b, M' kd a b = M kd a b) (h : rDev X M n) : rDev X' M' (n + 1) := by
  intro v hv
  rcases h v hv with ⟨g1, g2⟩ | ⟨g1, f, b, rp, re, rh, po, ra, ta, c1, c2, c3, c4, c5, c6, c7, c8, c9, c10, c11, c12, c13, c14, c15, c16, c17, c18, c19, c20, c21, c22, c23, c24, c25, c26, c27, c28, c29, c30⟩
  · exact Or.inl ⟨by rw [hx 14 (by decide) (by decide) (by decide) (by decide)]; exact g1, by rw [hm 61 (by decide) (by decide) (by decide) (by decide)]; exact g2⟩
  · refine Or.inr ⟨by rw [hx 14 (by decide) (by decide) (by decide) (by decide)]; exact g1, f, b, rp, re, rh, po, ra, ta, c1, c2, c3, c4, c5, c6, c7, c8, by omega, by omega, h0 f c1 c11, ?_⟩
    rw [hx 15 (by decide) (by decide) (by decide) (by decide), hx 16 (by decide) (by decide) (by decide) (by decide), hx 17 (by decide) (by decide) (by decide) (by decide), hx 18 (by decide) (by decide) (by decide) (by decide), hx 19 (by decide) (by decide) (by decide) (by decide), hx 20 (by decide) (by decide) (by decide) (by decide), hx 21 (by decide) (by decide) (by decide) (by decide), hx 22 (by decide) (by decide) (by decide) (by decide), hx 23 (by decide) (by decide) (by decide) (by decide), hx 24 (by decide) (by decide) (by decide) (by decide), hm 61 (by decide) (by decide) (by decide) (by decide), hm 62 (by decide) (by decide) (by decide) (by decide), hm 63 (by decide) (by decide) (by decide) (by decide), hm 64 (by decide) (by decide) (by decide) (by decide), hm 65 (by decide) (by decide) (by decide) (by decide), hm 66 (by decide) (by decide) (by decide) (by decide), hm 67 (by decide) (by decide) (by decide) (by decide), hm 68 (by decide) (by decide) (by decide) (by decide), hm 69 (by decide) (by decide) (by decide) (by decide), hm 70 (by decide) (by decide) (by decide) (by decide)]
    refine ⟨c12, c13, c14, c15, c16, c17, c18, c19, c20, c21, c22, c23, c24, c25, c26, c27, c28, c29, fun s hs => ?_⟩
    rw [hm 73 (by decide) (by decide) (by decide) (by decide), hx 27 (by decide) (by decide) (by decide) (by decide)]
    exact c30 s hs
theorem Rl_next {X M : gS} {n : Nat} (h : Rl X M n) : Rl X M (n + 1) := ⟨h.1, h.2.1, h.2.2.1, h.2.2.2.1, h.2.2.2.2.1, h.2.2.2.2.2.1, h.2.2.2.2.2.2.1, h.2.2.2.2.2.2.2.1, rDev_k (fun _ _ q => q) (fun _ _ _ _ _ _ _ => rfl) (fun _ _ _ _ _ _ _ => rfl) h.2.2.2.2.2.2.2.2⟩
theorem fst_c {p q : Nat → Bool} {g g' : Nat → gS} {e : Int32} {X M : gS} : ∀ n i, (∀ k, k < n → p (i + k) = q (i + k)) → (fstS p g e X n i = (e, X) ∧ fstS q g' e M n i = (e, M)) ∨ ∃ k, i ≤ k ∧ k < i + n ∧ p k = true ∧ fstS p g e X n i = (nI k, g k) ∧ fstS q g' e M n i = (nI k, g' k) := by
  intro n
  induction n with
  | zero => intro i _; exact Or.inl ⟨rfl, rfl⟩
  | succ n ih =>
    intro i h
    have h0 := h 0 (by omega)
    simp only [Nat.add_zero] at h0
    unfold fstS
    rw [← h0]
    by_cases hp : p i = true
    · rw [if_pos hp, if_pos hp]
      exact Or.inr ⟨i, by omega, by omega, hp, rfl, rfl⟩
    · rw [if_neg hp, if_neg hp]
      rcases ih (i + 1) (fun k hk => by have := h (k + 1) (by omega); rw [show i + 1 + k = i + (k + 1) by omega]; exact this) with h1 | ⟨k, h1, h2, h3⟩
      · exact Or.inl h1
      · exact Or.inr ⟨k, by omega, by omega, h3⟩
theorem wipe_at {kd : Nat} {ix : Nat → Nat} {iy : Nat → Nat} : ∀ (n i : Nat) (X : gS) (a b : Nat), lpS (fun w Y => gup Y kd (ix w) (iy w) 0) n i X kd a b = 0 ∧ (∃ w, i ≤ w ∧ w < i + n ∧ a = ix w ∧ b = iy w) ∨ lpS (fun w Y => gup Y kd (ix w) (iy w) 0) n i X kd a b = X kd a b ∧ ¬ (∃ w, i ≤ w ∧ w < i + n ∧ a = ix w ∧ b = iy w) := by
  intro n
  induction n with
  | zero => intro i X a b; exact Or.inr ⟨rfl, fun ⟨w, h1, h2, _⟩ => by omega⟩
  | succ n ih =>
    intro i X a b
    show lpS _ n (i + 1) (gup X kd (ix i) (iy i) 0) kd a b = 0 ∧ _ ∨ lpS _ n (i + 1) (gup X kd (ix i) (iy i) 0) kd a b = _ ∧ _
    rcases ih (i + 1) (gup X kd (ix i) (iy i) 0) a b with ⟨h1, w, h2, h3, h4⟩ | ⟨h1, h2⟩
    · exact Or.inl ⟨h1, w, by omega, by omega, h4⟩
    · by_cases hc : a = ix i ∧ b = iy i
      · left
        refine ⟨?_, i, by omega, by omega, hc⟩
        rw [h1, gup_r, if_pos hc]
      · right
        refine ⟨by rw [h1, gup_n hc], fun ⟨w, g1, g2, g3⟩ => ?_⟩
        by_cases hw : w = i
        · subst hw; exact hc g3
        · exact h2 ⟨w, by omega, by omega, g3⟩
theorem xWipe_r {X : gS} {p a b : Nat} : (a = p ∧ b < 8 → xWipe X p 2 a b = 0) ∧ (¬ (a = p ∧ b < 8) → xWipe X p 2 a b = X 2 a b) := by
  rcases wipe_at (kd := 2) (ix := fun _ => p) (iy := fun w => w) 8 0 X a b with ⟨h1, w, h2, h3, h4, h5⟩ | ⟨h1, h2⟩
  · exact ⟨fun _ => h1, fun q => absurd ⟨h4, by omega⟩ q⟩
  · exact ⟨fun q => absurd ⟨b, by omega, by omega, q.1, rfl⟩ h2, fun _ => h1⟩
theorem mWipe_r {M : gS} {p a : Nat} : (8 * p ≤ a ∧ a < 8 * p + 8 → mWipe M p 52 a 0 = 0) ∧ (¬ (8 * p ≤ a ∧ a < 8 * p + 8) → mWipe M p 52 a 0 = M 52 a 0) := by
  rcases wipe_at (kd := 52) (ix := fun w => 8 * p + w) (iy := fun _ => 0) 8 0 M a 0 with ⟨h1, w, h2, h3, h4, h5⟩ | ⟨h1, h2⟩
  · exact ⟨fun _ => h1, fun q => absurd (by omega) q⟩
  · exact ⟨fun q => absurd ⟨a - 8 * p, by omega, by omega, by omega, rfl⟩ h2, fun _ => h1⟩
def cntN (p : Nat → Bool) : Nat → Nat → Nat
  | 0, _ => 0
  | n + 1, i => (if p i = true then 1 else 0) + cntN p n (i + 1)
theorem cntb_N (p : Nat → Bool) : ∀ (n i : Nat) (c : Int32), cntb p n i c = c + nI (cntN p n i) := by
  intro n
  induction n with
  | zero => intro i c; show c = c + nI 0; rw [nI_0, Int32.add_zero]
  | succ n ih =>
    intro i c
    unfold cntb cntN
    rw [ih]
    by_cases hp : p i = true
    · rw [if_pos hp, if_pos hp, ← nJ_add, Int32.add_assoc]
      rfl
    · rw [if_neg hp, if_neg hp, Nat.zero_add]
theorem cntN_le (p : Nat → Bool) : ∀ n i, cntN p n i ≤ n := by
  intro n
  induction n with
  | zero => intro i; exact Nat.le_refl _
  | succ n ih =>
    intro i
    unfold cntN
    have := ih (i + 1)
    split <;> omega
theorem cntN_0 (p : Nat → Bool) : ∀ n i, cntN p n i = 0 → ∀ k, i ≤ k → k < i + n → p k = false := by
  intro n
  induction n with
  | zero => intro i _ k h1 h2; omega
  | succ n ih =>
    intro i h k h1 h2
    unfold cntN at h
    by_cases hk : k = i
    · subst hk
      cases hp : p k
      · rfl
      · rw [hp] at h; simp at h
    · exact ih (i + 1) (by omega) k (by omega) (by omega)
theorem cntN_c {p q : Nat → Bool} : ∀ (n i : Nat), (∀ k, i ≤ k → k < i + n → p k = q k) → cntN p n i = cntN q n i := by
  intro n
  induction n with
  | zero => intro i _; rfl
  | succ n ih =>
    intro i h
    unfold cntN
    rw [h i (by omega) (by omega), ih (i + 1) (fun k h1 h2 => h k (by omega) (by omega))]
theorem cntN_up {p q : Nat → Bool} {j : Nat} : ∀ (n i : Nat), i ≤ j → j < i + n → (∀ k, ¬ k = j → p k = q k) → p j = false → q j = true → cntN q n i = cntN p n i + 1 := by
  intro n
  induction n with
  | zero => intro i h1 h2; omega
  | succ n ih =>
    intro i h1 h2 h3 h4 h5
    unfold cntN
    by_cases hij : i = j
    · subst hij
      rw [h4, h5, cntN_c n (i + 1) (fun k g1 g2 => h3 k (by omega))]
      simp
      omega
    · rw [h3 i hij, ih (i + 1) (by omega) (by omega) h3 h4 h5]
      omega
def mC (M : gS) (e : Nat) : Nat := cntN (fun h => decide (M 56 h 0 = nI (e + 1))) 25 0
theorem mMps_N (M : gS) (e : Nat) : mMps M e = nI (mC M e) := by
  unfold mMps mC
  rw [cntb_N]
  exact Int32.zero_add _
theorem mC_le (M : gS) (e : Nat) : mC M e ≤ 25 := cntN_le _ 25 0
theorem mMps_pos (M : gS) (e : Nat) : 0 < mMps M e ↔ 0 < mC M e := by
  rw [mMps_N, Int32.lt_iff_toInt_lt, nI_toInt (by have := mC_le M e; omega)]
  have : (0 : Int32).toInt = 0 := by decide
  omega
theorem mC_none {M : gS} {e : Nat} (h : ¬ 0 < mMps M e) {k : Nat} (hk : k < 25) : ¬ M 56 k 0 = nI (e + 1) := by
  rw [mMps_pos] at h
  have := cntN_0 _ 25 0 (show mC M e = 0 by omega) k (by omega) (by omega)
  simpa using this
