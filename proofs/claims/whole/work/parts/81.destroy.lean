theorem Rc_k {X M X' M' : gS} (h : Rc X M) (fx : ∀ kd, kd < 14 → ∀ a b, X' kd a b = X kd a b) (fm : ∀ kd, 50 ≤ kd → kd < 61 → ∀ a b, M' kd a b = M kd a b) : Rc X' M' :=
  rOth h (rPrt_k (fx 10 (by decide)) (fx 11 (by decide)) (fx 12 (by decide)) (fx 13 (by decide)) (fm 58 (by decide) (by decide)) (fm 59 (by decide) (by decide)) (fm 60 (by decide) (by decide)) h.2.2.2.2.2.2) (fun kd hk => fx kd (by omega)) (fun kd h1 h2 => fm kd h1 (by omega))
theorem xRmD_k {X : gS} {d : Int32} {kd a b : Nat} (h : ¬ kd = 14) : xRmD X d kd a b = X kd a b := lpS_k (fun i Y a b => by
  split
  · exact gup_k h
  · rfl) _ _ _ _ _
theorem mDe1_k {M : gS} {c kd a b : Nat} (h : ¬ kd = 61) : mDe1 M c kd a b = M kd a b := lpS_k (fun i Y a b => by
  split
  · exact gup_k h
  · rfl) _ _ _ _ _
theorem xTk_1 {X : gS} {a k f : Nat} (h : X 0 f 0 = 1) : xTk X a k 0 f 0 = 1 := by
  unfold xTk xTk2
  have e : ∀ p q, xTk1 X a k p q 0 f 0 = X 0 f 0 := fun p q => (gup_k (by decide)).trans (hClr_k (by decide) (by decide) (by decide))
  split
  · next hc =>
    have hne : ¬ f = tN (X 7 a k) := by
      intro q
      have h2 := hc.1
      rw [← q, e, h] at h2
      exact absurd h2 (by decide)
    have e2 : ∀ p q p' q', eClr (xTk1 X a k p q) p' q' 0 f 0 = 1 := fun p q p' q' => by rw [eClr_k (by decide) (by decide) (by decide), e]; exact h
    unfold xRel xBury xRel0
    repeat' split
    all_goals first
      | exact e2 _ _ _ _
      | (rw [gup_n (fun q => hne q.1)]; first | exact e2 _ _ _ _ | (rw [gup_k (by decide)]; exact e2 _ _ _ _))
      | (rw [gup_k (by decide)]; exact e2 _ _ _ _)
  · rw [e]; exact h
theorem tkA_ind {a : Nat} (ha : a < 5) : ∀ (n i : Nat) (Y Z : gS), i + n = 5 → Rc Y Z → lpOk (fun h Y => if Y 7 a h = -1 then Y else xTk Y a h) (tkOk a) n i Y ∧ lpOk (fun h Z => if 0 < Z 56 h 0 then mTk Z h (mE Z h) else Z) mtOk n (5 * a + i) Z ∧ Rc (lpS (fun h Y => if Y 7 a h = -1 then Y else xTk Y a h) n i Y) (lpS (fun h Z => if 0 < Z 56 h 0 then mTk Z h (mE Z h) else Z) n (5 * a + i) Z) ∧ ∀ f, Y 0 f 0 = 1 → lpS (fun h Y => if Y 7 a h = -1 then Y else xTk Y a h) n i Y 0 f 0 = 1 := by
  intro n
  induction n with
  | zero => intro i Y Z _ h; exact ⟨trivial, trivial, h, fun _ q => q⟩
  | succ n ih =>
    intro i Y Z hi h
    by_cases hf : Y 7 a i = -1
    · have e0 := (h_free (h.2.2.2.2.2.1 a ha i (by omega))).mp hf
      have e1 : (if Y 7 a i = -1 then Y else xTk Y a i) = Y := if_pos hf
      have e2 : (if 0 < Z 56 (5 * a + i) 0 then mTk Z (5 * a + i) (mE Z (5 * a + i)) else Z) = Z := if_neg (by rw [e0]; decide)
      obtain ⟨g1, g2, g3, g4⟩ := ih (i + 1) Y Z (by omega) h
      refine ⟨⟨fun q => absurd hf (by simpa using q), ?_⟩, ⟨fun q => absurd (show Z 56 (5 * a + i) 0 ≤ 0 by rw [e0]; decide) q, ?_⟩, ?_, ?_⟩
      · show lpOk _ _ n (i + 1) (if Y 7 a i = -1 then Y else xTk Y a i)
        rw [e1]; exact g1
      · show lpOk _ _ n (5 * a + i + 1) (if 0 < Z 56 (5 * a + i) 0 then mTk Z (5 * a + i) (mE Z (5 * a + i)) else Z)
        rw [e2]; exact g2
      · show Rc (lpS _ n (i + 1) (if Y 7 a i = -1 then Y else xTk Y a i)) (lpS _ n (5 * a + i + 1) (if 0 < Z 56 (5 * a + i) 0 then mTk Z (5 * a + i) (mE Z (5 * a + i)) else Z))
        rw [e1, e2]; exact g3
      · show ∀ f, Y 0 f 0 = 1 → lpS _ n (i + 1) (if Y 7 a i = -1 then Y else xTk Y a i) 0 f 0 = 1
        rw [e1]; exact g4
    · obtain ⟨t1, t2, t3⟩ := c_tk h ha (show i < 5 by omega) hf
      obtain ⟨f, e, p, c1, c2, c3, c4, c5, c6, -⟩ := mapped_of h ha (show i < 5 by omega) hf
      have hpos : 0 < Z 56 (5 * a + i) 0 := by rw [c6]; exact i32_small (by omega) (by omega)
      have e1 : (if Y 7 a i = -1 then Y else xTk Y a i) = xTk Y a i := if_neg hf
      have e2 : (if 0 < Z 56 (5 * a + i) 0 then mTk Z (5 * a + i) (mE Z (5 * a + i)) else Z) = mTk Z (5 * a + i) (mE Z (5 * a + i)) := if_pos hpos
      obtain ⟨g1, g2, g3, g4⟩ := ih (i + 1) _ _ (by omega) t3
      refine ⟨⟨fun _ => t1, ?_⟩, ⟨fun _ => t2, ?_⟩, ?_, ?_⟩
      · show lpOk _ _ n (i + 1) (if Y 7 a i = -1 then Y else xTk Y a i)
        rw [e1]; exact g1
      · show lpOk _ _ n (5 * a + i + 1) (if 0 < Z 56 (5 * a + i) 0 then mTk Z (5 * a + i) (mE Z (5 * a + i)) else Z)
        rw [e2]; exact g2
      · show Rc (lpS _ n (i + 1) (if Y 7 a i = -1 then Y else xTk Y a i)) (lpS _ n (5 * a + i + 1) (if 0 < Z 56 (5 * a + i) 0 then mTk Z (5 * a + i) (mE Z (5 * a + i)) else Z))
        rw [e1, e2]; exact g3
      · show ∀ f, Y 0 f 0 = 1 → lpS _ n (i + 1) (if Y 7 a i = -1 then Y else xTk Y a i) 0 f 0 = 1
        rw [e1]; exact fun f q => g4 f (xTk_1 q)
