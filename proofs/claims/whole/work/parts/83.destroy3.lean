theorem lpS_comm {f : Nat → gS → gS} {g : gS → gS} (h : ∀ i Y, f i (g Y) = g (f i Y)) : ∀ (n i : Nat) (Y : gS), lpS f n i (g Y) = g (lpS f n i Y) := by
  intro n
  induction n with
  | zero => intro i Y; rfl
  | succ n ih =>
    intro i Y
    show lpS f n (i + 1) (f i (g Y)) = g (lpS f n (i + 1) (f i Y))
    rw [h, ih]
theorem gup_cm {Y : gS} {kd kd' a b a' b' : Nat} {x y : Int32} (h : ¬ kd = kd') : gup (gup Y kd a b x) kd' a' b' y = gup (gup Y kd' a' b' y) kd a b x := by
  funext k p q
  by_cases h1 : k = kd
  · subst h1
    rw [gup_k h, gup_r, gup_r, gup_k h]
  · by_cases h2 : k = kd'
    · subst h2
      rw [gup_k h1, gup_r, gup_r, gup_k h1]
    · rw [gup_k h2, gup_k h1, gup_k h1, gup_k h2]
theorem gup_2 {Y : gS} {kd a b : Nat} {x y : Int32} : gup (gup Y kd a b x) kd a b y = gup Y kd a b y := by
  funext k p q
  by_cases h1 : k = kd
  · subst h1
    by_cases hc : p = a ∧ q = b
    · obtain ⟨rfl, rfl⟩ := hc
      rw [gup_s, gup_s]
    · rw [gup_n hc, gup_n hc, gup_n hc]
  · rw [gup_k h1, gup_k h1, gup_k h1]
theorem mHeld_k {M M' : gS} (h53 : ∀ a b, M' 53 a b = M 53 a b) (h54 : ∀ a b, M' 54 a b = M 54 a b) (h55 : ∀ a b, M' 55 a b = M 55 a b) (h56 : ∀ a b, M' 56 a b = M 56 a b) (a : Nat) (p : Int32) (b : Bool) : mHeld M' a p b = mHeld M a p b := by
  unfold mHeld
  simp only [h53, h54, h55, mMps_k h56]
theorem mDe4_c {M : gS} {a c : Nat} {x : Int32} : mDe4 (gup M 50 a 0 x) c = gup (mDe4 M c) 50 a 0 x := by
  unfold mDe4
  refine lpS_comm (g := fun Y => gup Y 50 a 0 x) (fun i Y => ?_) 6 (6 * c) M
  rw [mMps_k (fun p q => gup_k (by decide))]
  split
  · exact gup_cm (by decide)
  · rfl
theorem mDe5_c {M : gS} {a c : Nat} {x : Int32} : mDe5 (gup M 50 a 0 x) c = gup (mDe5 M c) 50 a 0 x := by
  unfold mDe5
  refine lpS_comm (g := fun Y => gup Y 50 a 0 x) (fun i Y => ?_) 20 0 M
  have e : ∀ u w, mOwns (gup Y 50 a 0 x) u w = mOwns Y u w := fun u w => by unfold mOwns; rw [gup_k (by decide)]
  rw [e, mHeld_k (fun p q => gup_k (by decide)) (fun p q => gup_k (by decide)) (fun p q => gup_k (by decide)) (fun p q => gup_k (by decide))]
  split
  · exact gup_cm (by decide)
  · rfl
theorem mCnt_N (M : gS) (x : Int32) : ∃ c, c ≤ 20 ∧ mCnt M x = nI c := by
  refine ⟨cntN (fun p => decide (M 51 p 0 = x + 1)) 20 0, cntN_le _ 20 0, ?_⟩
  unfold mCnt
  rw [cntb_N]
  exact Int32.zero_add _
theorem rm_at {kd : Nat} {c : Nat → gS → Prop} [∀ i Y, Decidable (c i Y)] (hc : ∀ i j Y, ¬ i = j → (c i (gup Y kd j 0 0) ↔ c i Y)) : ∀ (n i : Nat) (X : gS) (v : Nat), lpS (fun i Y => if c i Y then gup Y kd i 0 0 else Y) n i X kd v 0 = if i ≤ v ∧ v < i + n ∧ c v X then 0 else X kd v 0 := by
  intro n
  induction n with
  | zero =>
    intro i X v
    have hneg : ¬ (i ≤ v ∧ v < i + 0 ∧ c v X) := fun q => by omega
    rw [if_neg hneg]
    rfl
  | succ n ih =>
    intro i X v
    show lpS (fun i Y => if c i Y then gup Y kd i 0 0 else Y) n (i + 1) (if c i X then gup X kd i 0 0 else X) kd v 0 = _
    rw [ih]
    by_cases hv : v = i
    · subst hv
      have h1 : ¬ (v + 1 ≤ v ∧ v < v + 1 + n ∧ c v (if c v X then gup X kd v 0 0 else X)) := fun q => by omega
      rw [if_neg h1]
      by_cases hx : c v X
      · rw [if_pos hx, if_pos ⟨by omega, by omega, hx⟩]
        exact gup_s
      · have h2 : ¬ (v ≤ v ∧ v < v + (n + 1) ∧ c v X) := fun q => hx q.2.2
        rw [if_neg hx, if_neg h2]
    · have h1 : c v (if c i X then gup X kd i 0 0 else X) ↔ c v X := by
        split
        · exact hc v i X hv
        · exact Iff.rfl
      have h2 : (if c i X then gup X kd i 0 0 else X) kd v 0 = X kd v 0 := by
        split
        · exact gup_n (fun q => hv q.1)
        · rfl
      rw [h2]
      by_cases hx : i ≤ v ∧ v < i + (n + 1) ∧ c v X
      · rw [if_pos hx, if_pos ⟨by omega, by omega, h1.mpr hx.2.2⟩]
      · have h3 : ¬ (i + 1 ≤ v ∧ v < i + 1 + n ∧ c v (if c i X then gup X kd i 0 0 else X)) := fun q => hx ⟨by omega, by omega, h1.mp q.2.2⟩
        rw [if_neg hx, if_neg h3]
theorem rm_nz {kd v p : Nat} {c : Nat → gS → Prop} [∀ i Y, Decidable (c i Y)] (hp : ¬ p = 0) : ∀ (n i : Nat) (X : gS), lpS (fun i Y => if c i Y then gup Y kd i 0 0 else Y) n i X kd v p = X kd v p := by
  intro n
  induction n with
  | zero => intro i X; rfl
  | succ n ih =>
    intro i X
    show lpS (fun i Y => if c i Y then gup Y kd i 0 0 else Y) n (i + 1) (if c i X then gup X kd i 0 0 else X) kd v p = _
    rw [ih]
    split
    · exact gup_n (fun q => hp q.2)
    · rfl
theorem xRmD_r {X : gS} {d : Int32} {v : Nat} (hv : v < 3) : xRmD X d 14 v 0 = if X 15 v 0 = d ∨ X 16 v 0 = d then 0 else X 14 v 0 := by
  unfold xRmD
  rw [rm_at (kd := 14) (c := fun i Y => Y 15 i 0 = d ∨ Y 16 i 0 = d) (fun i j Y _ => by rw [gup_k (by decide), gup_k (by decide)]) 3 0 X v]
  by_cases hc : X 15 v 0 = d ∨ X 16 v 0 = d
  · rw [if_pos hc, if_pos ⟨by omega, by omega, hc⟩]
  · have h2 : ¬ (0 ≤ v ∧ v < 0 + 3 ∧ (X 15 v 0 = d ∨ X 16 v 0 = d)) := fun q => hc q.2.2
    rw [if_neg hc, if_neg h2]
theorem mDe1_r {M : gS} {a v : Nat} (hv : v < 3) : mDe1 M a 61 v 0 = if 0 < M 61 v 0 ∧ (M 61 v 0 = nI (a + 1) ∨ M 62 v 0 = nI a) then 0 else M 61 v 0 := by
  unfold mDe1
  rw [rm_at (kd := 61) (c := fun v Z => 0 < Z 61 v 0 ∧ (Z 61 v 0 = nI (a + 1) ∨ Z 62 v 0 = nI a)) (fun i j Y hij => by rw [gup_n (fun q => hij q.1), gup_k (by decide)]) 3 0 M v]
  by_cases hc : 0 < M 61 v 0 ∧ (M 61 v 0 = nI (a + 1) ∨ M 62 v 0 = nI a)
  · rw [if_pos hc, if_pos ⟨by omega, by omega, hc⟩]
  · have h2 : ¬ (0 ≤ v ∧ v < 0 + 3 ∧ (0 < M 61 v 0 ∧ (M 61 v 0 = nI (a + 1) ∨ M 62 v 0 = nI a))) := fun q => hc q.2.2
    rw [if_neg hc, if_neg h2]
theorem dRel_k {X M X' M' : gS} {n v : Nat} (h0 : ∀ f, f < 5 → X 15 v 0 = nI f → X 0 f 0 = 1 → X' 0 f 0 = 1) (hx : ∀ kd, 14 ≤ kd → kd ≤ 27 → ¬ kd = 25 → ¬ kd = 26 → ∀ b, X' kd v b = X kd v b) (hm : ∀ kd, 61 ≤ kd → kd ≤ 70 → M' kd v 0 = M kd v 0) (h73 : ∀ s, s < 8 → M' 73 (8 * v + s) 0 = M 73 (8 * v + s) 0) (h : dRel X M n v) : dRel X' M' (n + 1) v := by
  rcases h with ⟨g1, g2⟩ | ⟨g1, f, b, rp, re, rh, po, ra, ta, c1, c2, c3, c4, c5, c6, c7, c8, c9, c10, c11, c12, c13, c14, c15, c16, c17, c18, c19, c20, c21, c22, c23, c24, c25, c26, c27, c28, c29, c30⟩
  · exact Or.inl ⟨by rw [hx 14 (by decide) (by decide) (by decide) (by decide)]; exact g1, by rw [hm 61 (by decide) (by decide)]; exact g2⟩
  · refine Or.inr ⟨by rw [hx 14 (by decide) (by decide) (by decide) (by decide)]; exact g1, f, b, rp, re, rh, po, ra, ta, c1, c2, c3, c4, c5, c6, c7, c8, by omega, by omega, h0 f c1 c12 c11, ?_⟩
    rw [hx 15 (by decide) (by decide) (by decide) (by decide), hx 16 (by decide) (by decide) (by decide) (by decide), hx 17 (by decide) (by decide) (by decide) (by decide), hx 18 (by decide) (by decide) (by decide) (by decide), hx 19 (by decide) (by decide) (by decide) (by decide), hx 20 (by decide) (by decide) (by decide) (by decide), hx 21 (by decide) (by decide) (by decide) (by decide), hx 22 (by decide) (by decide) (by decide) (by decide), hx 23 (by decide) (by decide) (by decide) (by decide), hx 24 (by decide) (by decide) (by decide) (by decide), hm 61 (by decide) (by decide), hm 62 (by decide) (by decide), hm 63 (by decide) (by decide), hm 64 (by decide) (by decide), hm 65 (by decide) (by decide), hm 66 (by decide) (by decide), hm 67 (by decide) (by decide), hm 68 (by decide) (by decide), hm 69 (by decide) (by decide), hm 70 (by decide) (by decide)]
    refine ⟨c12, c13, c14, c15, c16, c17, c18, c19, c20, c21, c22, c23, c24, c25, c26, c27, c28, c29, fun s hs => ?_⟩
    rw [h73 s hs, hx 27 (by decide) (by decide) (by decide) (by decide)]
    exact c30 s hs
theorem xDes_k {X : gS} {a kd p q : Nat} (hk : 14 ≤ kd) : xDes2 (xDes1 X (nI a)) (nI a) kd p q = xRmD X (nI a) kd p q := by
  unfold xDes2 xDes1
  rw [xBury_k (by omega)]
  unfold xFrP
  rw [lpS_k (fun i Y p q => by split <;> first | exact gup_k (by omega) | rfl)]
  unfold xClrE
  rw [lpS_k (fun i Y p q => by split <;> first | exact eClr_k (by omega) (by omega) (by omega) | rfl), gup_k (by omega)]
  unfold xClQ
  rw [lpS_k (fun i Y p q => by
    rw [qCls_k (by omega) (by omega) (by omega) (by omega)]
    unfold xClQ1
    split <;> first | exact qCls_k (by omega) (by omega) (by omega) (by omega) | rfl)]
  unfold xTkA
  rw [lpS_k (fun i Y p q => by split <;> first | exact xTk_k (by omega) (by omega) (by omega) (by omega) (by omega) (by omega) (by omega) (by omega) (by omega) | rfl)]
theorem mDes_k {M : gS} {a kd p q : Nat} (hk : 61 ≤ kd) : mDe6 (mDe5 (mDe4 (mDe3 (mDe2 (mDe1 M a) a) a) a) a) a kd p q = mDe1 M a kd p q := by
  unfold mDe6
  rw [gup_k (by omega)]
  unfold mDe5
  rw [lpS_k (fun i Y p q => by split <;> first | exact gup_k (by omega) | rfl)]
  unfold mDe4
  rw [lpS_k (fun i Y p q => by split <;> first | exact gup_k (by omega) | rfl)]
  unfold mDe3
  rw [lpS_k (fun i Y p q => by
    rw [mCls_k (by omega) (by omega)]
    unfold mCl1
    split <;> first | exact mCls_k (by omega) (by omega) | rfl)]
  unfold mDe2
  rw [lpS_k (fun i Y p q => by split <;> first | exact mTk_k (by omega) (by omega) (by omega) (by omega) | rfl)]
theorem xDes2_1 {X : gS} {a f : Nat} (ha : a < 5) (hf : ¬ f = a) : xDes2 X (nI a) 0 f 0 = X 0 f 0 := by
  unfold xDes2
  rw [tN_nI (by omega)]
  have e : ∀ Y, xBury Y (nI a) 0 f 0 = Y 0 f 0 := fun Y => by
    unfold xBury
    rw [tN_nI (by omega)]
    split
    · exact gup_n (fun q => hf q.1)
    · rfl
  rw [e]
  unfold xFrP
  rw [lpS_k (fun i Y p q => by split <;> first | exact gup_k (by omega) | rfl)]
  unfold xClrE
  rw [lpS_k (fun i Y p q => by split <;> first | exact eClr_k (by omega) (by omega) (by omega) | rfl)]
  exact gup_n (fun q => hf q.1)
theorem xClQ_0 {X : gS} {a f : Nat} : xClQ X a 0 f 0 = X 0 f 0 := by
  unfold xClQ
  exact lpS_k (fun i Y p q => by
    rw [qCls_k (by omega) (by omega) (by omega) (by omega)]
    unfold xClQ1
    split <;> first | exact qCls_k (by omega) (by omega) (by omega) (by omega) | rfl) _ _ _ _ _
theorem c_destroy {X M : gS} {n a : Nat} (h : Rl X M n) (ha : a < 5) : lpOk (fun h Y => if Y 7 a h = -1 then Y else xTk Y a h) (tkOk a) 5 0 (xRmD X (nI a)) ∧ lpOk (fun k Y => qCls (xClQ1 Y a k) a k) (pqOk a) 4 0 (xTkA (xRmD X (nI a)) a) ∧ lpOk (fun h Z => if 0 < Z 56 h 0 then mTk Z h (mE Z h) else Z) mtOk 5 (5 * a) (mDe1 M a) ∧ lpOk (fun k Z => mCls (mCl1 Z k) k) mpOk 4 (4 * a) (mDe2 (mDe1 M a) a) ∧ Rl (xDes2 (xDes1 X (nI a)) (nI a)) (mDe6 (mDe5 (mDe4 (mDe3 (mDe2 (mDe1 M a) a) a) a) a) a) (n + 1) := by
  have h1 : Rc (xRmD X (nI a)) (mDe1 M a) := Rc_k h.c (fun kd hk p q => xRmD_k (by omega)) (fun kd _ hk p q => mDe1_k (by omega))
  obtain ⟨t1, t2, t3, t4⟩ := tkA_ind ha 5 0 (xRmD X (nI a)) (mDe1 M a) rfl h1
  have h2 : Rc (xTkA (xRmD X (nI a)) a) (mDe2 (mDe1 M a) a) := t3
  obtain ⟨s1, s2, s3⟩ := cls_ind ha 4 0 (xTkA (xRmD X (nI a)) a) (mDe2 (mDe1 M a) a) rfl h2
  have e1 : xDes1 X (nI a) = xClQ (xTkA (xRmD X (nI a)) a) a := by unfold xDes1; rw [tN_nI (by omega)]
  have h3 : Rc (xDes1 X (nI a)) (mDe3 (mDe2 (mDe1 M a) a) a) := by rw [e1]; exact s3
  have hst : ∀ f, ¬ f = a → X 0 f 0 = 1 → xDes2 (xDes1 X (nI a)) (nI a) 0 f 0 = 1 := fun f hf q => by
    rw [xDes2_1 ha hf, e1, xClQ_0]
    exact t4 f (by rw [xRmD_k (by decide)]; exact q)
  have hfx : ∀ kd, 14 ≤ kd → ∀ p q, xDes2 (xDes1 X (nI a)) (nI a) kd p q = xRmD X (nI a) kd p q := fun kd hk p q => xDes_k hk
  have hfm : ∀ kd, 61 ≤ kd → ∀ p q, mDe6 (mDe5 (mDe4 (mDe3 (mDe2 (mDe1 M a) a) a) a) a) a kd p q = mDe1 M a kd p q := fun kd hk p q => mDes_k hk
  refine ⟨t1, s1, t2, s2, ?_⟩
  have h7 : Rc (xDes2 (xDes1 X (nI a)) (nI a)) (mDe6 (mDe5 (mDe4 (mDe3 (mDe2 (mDe1 M a) a) a) a) a) a) := by
    clear hfx hfm hst
    unfold xDes2
    rw [tN_nI (by omega)]
    revert h3
    generalize xDes1 X (nI a) = Y
    generalize mDe3 (mDe2 (mDe1 M a) a) a = Z
    intro h3
    have h4 := c_sta h3 (p := a) (x := 2)
    have h5 : Rc (xClrE (gup Y 0 a 0 2) a) (mDe4 (gup Z 50 a 0 2) a) := clr_ind ha 6 0 _ _ rfl h4
    have h6 : Rc (xFrP (xClrE (gup Y 0 a 0 2) a) a (nI a)) (mDe5 (mDe4 (gup Z 50 a 0 2) a) a) := frp_ind ha 20 0 _ _ rfl h5
    rw [mDe4_c, mDe5_c] at h6
    revert h6
    generalize xFrP (xClrE (gup Y 0 a 0 2) a) a (nI a) = U
    generalize mDe5 (mDe4 Z a) a = V
    intro h6
    have ec : xCnt U (nI a) = mCnt V (nI a) := by
      rw [l_cnt h6.2.1]
      unfold mCnt
      simp only [gup_k (show ¬ 51 = 50 by decide)]
    obtain ⟨c, hc, e⟩ := mCnt_N V (nI a)
    unfold xBury mDe6
    rw [ec, e, tN_nI (by omega)]
    by_cases h0 : c = 0
    · have z1 : nI c = 0 := by rw [h0]; rfl
      have z2 : ¬ 0 < nI c := by rw [z1]; decide
      rw [if_pos z1, if_neg z2]
      have h8 := c_sta h6 (p := a) (x := 0)
      rw [gup_2] at h8
      exact h8
    · have z2 : 0 < nI c := i32_small (by omega) (by omega)
      have z1 : ¬ nI c = 0 := nI_ne0 (by omega) (by omega)
      rw [if_neg z1, if_pos z2]
      exact h6
  refine ⟨h7.1, h7.2.1, h7.2.2.1, h7.2.2.2.1, h7.2.2.2.2.1, h7.2.2.2.2.2.1, h7.2.2.2.2.2.2, ?_, fun v hv => ?_⟩
  · exact rNot_k (fun p q => (hfx 25 (by decide) p q).trans (xRmD_k (by decide))) (fun p q => (hfx 26 (by decide) p q).trans (xRmD_k (by decide))) (fun p q => (hfm 71 (by decide) p q).trans (mDe1_k (by decide))) (fun p q => (hfm 72 (by decide) p q).trans (mDe1_k (by decide))) h.2.2.2.2.2.2.2.1
  · have hd := h.2.2.2.2.2.2.2.2 v hv
    have ex := hfx 14 (by decide) v 0
    have em := hfm 61 (by decide) v 0
    rw [xRmD_r hv] at ex
    rw [mDe1_r hv] at em
    by_cases hp : M 61 v 0 = 0
    · rcases hd with ⟨g1, g2⟩ | ⟨g1, f, b, rp, re, rh, po, ra, ta, c1, c2, c3, c4, c5, c6, c7, c8, c9, c10, c11, c12, c13, c14, c15, c16, c17, c18, c19, c20, -⟩
      · left
        rw [ex, em, g1, g2]
        exact ⟨by split <;> rfl, by split <;> rfl⟩
      · rw [c20] at hp
        exact absurd hp (nI_ne0 (by omega) (by omega))
    · rcases hd with ⟨g1, g2⟩ | hd
      · exact absurd g2 hp
      · have hd' := hd
        obtain ⟨g1, f, b, rp, re, rh, po, ra, ta, c1, c2, c3, c4, c5, c6, c7, c8, c9, c10, c11, c12, c13, c14, c15, c16, c17, c18, c19, c20, c21, c22, -⟩ := hd
        rw [c12, c13] at ex
        rw [c20, c21] at em
        by_cases hfa : f = a ∨ b = a
        · left
          have k1 : nI f = nI a ∨ nI b = nI a := hfa.elim (fun q => Or.inl (by rw [q])) (fun q => Or.inr (by rw [q]))
          have k2 : 0 < nI (f + 1) ∧ (nI (f + 1) = nI (a + 1) ∨ nI b = nI a) := ⟨i32_small (by omega) (by omega), hfa.elim (fun q => Or.inl (by rw [q])) (fun q => Or.inr (by rw [q]))⟩
          rw [if_pos k1] at ex
          rw [if_pos k2] at em
          exact ⟨ex, em⟩
        · have k1 : ¬ (nI f = nI a ∨ nI b = nI a) := fun q => hfa (q.elim (fun q => Or.inl (nI_inj (by omega) (by omega) q)) (fun q => Or.inr (nI_inj (by omega) (by omega) q)))
          have k2 : ¬ (0 < nI (f + 1) ∧ (nI (f + 1) = nI (a + 1) ∨ nI b = nI a)) := fun q => hfa (q.2.elim (fun q => Or.inl (by have := nI_inj (a := f + 1) (b := a + 1) (by omega) (by omega) q; omega)) (fun q => Or.inr (nI_inj (by omega) (by omega) q)))
          rw [if_neg k1] at ex
          rw [if_neg k2] at em
          refine dRel_k (fun f' hf' q1 q2 => ?_) (fun kd k1 k2 k3 k4 p => ?_) (fun kd k1 k2 => ?_) (fun s hs => ?_) (Or.inr hd')
          · have : f' = f := by rw [c12] at q1; exact (nI_inj (by omega) (by omega) q1).symm
            subst this
            exact hst f' (fun q => hfa (Or.inl q)) q2
          · by_cases hk : kd = 14
            · subst hk
              rw [hfx 14 (by decide)]
              by_cases hp0 : p = 0
              · subst hp0; rw [← hfx 14 (by decide), ex]
              · unfold xRmD
                exact rm_nz hp0 3 0 X
            · exact (hfx kd k1 v p).trans (xRmD_k hk)
          · by_cases hk : kd = 61
            · subst hk
              rw [em, c20]
            · exact (hfm kd k1 v 0).trans (mDe1_k hk)
          · exact (hfm 73 (by decide) _ 0).trans (mDe1_k (by decide))
