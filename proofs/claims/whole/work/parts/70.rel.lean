theorem ffst_c {p q : Nat → Bool} : ∀ (n i j : Nat), (∀ k, k < n → p (i + k) = q (j + k)) → i = j → ffst p n i = ffst q n j := by
  intro n
  induction n with
  | zero => intro i j _ _; rfl
  | succ n ih =>
    intro i j h e
    subst e
    have h0 := h 0 (by omega)
    simp only [Nat.add_zero] at h0
    unfold ffst
    rw [h0, ih (i + 1) (i + 1) (fun k hk => by have := h (k + 1) (by omega); rw [show i + 1 + k = i + (k + 1) by omega]; exact this) rfl]
theorem anyb_c {p q : Nat → Bool} : ∀ (n i j : Nat), (∀ k, k < n → p (i + k) = q (j + k)) → anyb p n i = anyb q n j := by
  intro n
  induction n with
  | zero => intro i j _; rfl
  | succ n ih =>
    intro i j h
    have h0 := h 0 (by omega)
    simp only [Nat.add_zero] at h0
    unfold anyb
    rw [h0, ih (i + 1) (j + 1) (fun k hk => by have := h (k + 1) (by omega); rw [show i + 1 + k = i + (k + 1) by omega, show j + 1 + k = j + (k + 1) by omega]; exact this)]
theorem cntb_c {p q : Nat → Bool} : ∀ (n i j : Nat) (c : Int32), (∀ k, k < n → p (i + k) = q (j + k)) → cntb p n i c = cntb q n j c := by
  intro n
  induction n with
  | zero => intro i j c _; rfl
  | succ n ih =>
    intro i j c h
    have h0 := h 0 (by omega)
    simp only [Nat.add_zero] at h0
    unfold cntb
    rw [h0, ih (i + 1) (j + 1) _ (fun k hk => by have := h (k + 1) (by omega); rw [show i + 1 + k = i + (k + 1) by omega, show j + 1 + k = j + (k + 1) by omega]; exact this)]
theorem i_add1 {x y : Int32} : x + 1 = y + 1 ↔ x = y := by
  constructor
  · intro h
    have h2 : x + 1 - 1 = y + 1 - 1 := by rw [h]
    rwa [Int32.add_sub_cancel, Int32.add_sub_cancel] at h2
  · intro h; rw [h]
theorem i_m1 {x : Int32} : x + 1 = 0 ↔ x = -1 := by
  have e : (0 : Int32) = -1 + 1 := by decide
  rw [e]
  exact i_add1
theorem nI_inj {a b : Nat} (ha : a < 2 ^ 31) (hb : b < 2 ^ 31) (h : nI a = nI b) : a = b := by
  have h1 := congrArg Int32.toInt h
  rw [nI_toInt ha, nI_toInt hb] at h1
  omega
theorem nI_nm1 {a : Nat} (ha : a < 2 ^ 31) : ¬ nI a = -1 := by
  intro h
  have h1 := congrArg Int32.toInt h
  rw [nI_toInt ha] at h1
  have : (-1 : Int32).toInt = -1 := by decide
  omega
theorem tN_nI {a : Nat} (ha : a < 2 ^ 31) : tN (nI a) = a := nI_clamp ha
def rOwn (X M : gS) : Prop := ∀ p, p < 20 → M 51 p 0 = X 1 p 0 + 1 ∧ (X 1 p 0 = -1 ∨ ∃ a, a < 5 ∧ X 1 p 0 = nI a)
def rSta (X M : gS) : Prop := ∀ a, a < 5 → M 50 a 0 = X 0 a 0
def rWrd (X M : gS) : Prop := ∀ p, p < 20 → ∀ w, w < 8 → M 52 (8 * p + w) 0 = X 2 p w
def eRel (X M : gS) (a i : Nat) : Prop := (X 3 a i = -1 ∧ M 53 (6 * a + i) 0 = 0 ∧ X 5 a i = -1) ∨ (∃ t, t < 5 ∧ X 3 a i = nI t ∧ M 53 (6 * a + i) 0 = nI (t + 1) ∧ M 54 (6 * a + i) 0 = X 4 a i ∧ ((X 4 a i = 2 ∧ X 5 a i = -1) ∨ ((X 4 a i = 0 ∨ X 4 a i = 1) ∧ ∃ p, p < 20 ∧ X 5 a i = nI p ∧ M 55 (6 * a + i) 0 = nI p)))
def rEnt (X M : gS) : Prop := ∀ a, a < 5 → ∀ i, i < 6 → eRel X M a i
def rCnt (X M : gS) : Prop := ∀ a, a < 5 → ∀ i, i < 6 → X 6 a i = mMps M (6 * a + i)
def hRel (X M : gS) (a h : Nat) : Prop := (X 7 a h = -1 ∧ M 56 (5 * a + h) 0 = 0) ∨ (∃ f e, f < 5 ∧ e < 6 ∧ X 7 a h = nI f ∧ X 8 a h = nI e ∧ M 56 (5 * a + h) 0 = nI (6 * f + e + 1) ∧ M 57 (5 * a + h) 0 = X 9 a h ∧ ¬ X 3 f e = -1 ∧ ¬ X 4 f e = 2)
def rHnd (X M : gS) : Prop := ∀ a, a < 5 → ∀ h, h < 5 → hRel X M a h
def pRel (X M : gS) (a k : Nat) : Prop := M 58 (4 * a + k) 0 = X 10 a k ∧ M 60 (4 * a + k) 0 = X 13 a k ∧ (X 13 a k = 0 ∨ (X 13 a k = 1 ∧ X 10 a k = 2)) ∧ ((X 10 a k = 0) ∨ (X 10 a k = 1 ∧ M 59 (4 * a + k) 0 = X 11 a k) ∨ (X 10 a k = 2 ∧ ∃ b j, b < 5 ∧ j < 4 ∧ X 11 a k = nI b ∧ X 12 a k = nI j ∧ M 59 (4 * a + k) 0 = nI (4 * b + j) ∧ X 10 b j = 2 ∧ X 11 b j = nI a ∧ X 12 b j = nI k))
def rPrt (X M : gS) : Prop := ∀ a, a < 5 → ∀ k, k < 4 → pRel X M a k
def rNot (X M : gS) : Prop := ∀ v, v < 3 → ∀ s, s < 3 → M 71 (3 * v + s) 0 = X 25 v s ∧ M 72 (3 * v + s) 0 = X 26 v s
def dRel (X M : gS) (n v : Nat) : Prop := (X 14 v 0 = 0 ∧ M 61 v 0 = 0) ∨ (X 14 v 0 = 1 ∧ ∃ f b rp re rh po ra ta, f < 5 ∧ b < 5 ∧ ¬ f = b ∧ rp < 20 ∧ re < 6 ∧ rh < 5 ∧ ra ≤ po ∧ po ≤ ra + 3 ∧ po ≤ n ∧ ta ≤ n ∧ X 0 f 0 = 1 ∧ X 15 v 0 = nI f ∧ X 16 v 0 = nI b ∧ X 17 v 0 = nI rp ∧ X 18 v 0 = nI re ∧ X 19 v 0 = nI rh ∧ X 22 v 0 = nI po ∧ X 23 v 0 = nI ra ∧ X 24 v 0 = nI ta ∧ M 61 v 0 = nI (f + 1) ∧ M 62 v 0 = nI b ∧ M 63 v 0 = nI rp ∧ M 64 v 0 = nI re ∧ M 65 v 0 = nI rh ∧ M 66 v 0 = X 20 v 0 ∧ M 67 v 0 = X 21 v 0 ∧ M 68 v 0 = nI po ∧ M 69 v 0 = nI ra ∧ M 70 v 0 = nI ta ∧ ∀ s, s < 8 → M 73 (8 * v + s) 0 = X 27 v s)
def rDev (X M : gS) (n : Nat) : Prop := ∀ v, v < 3 → dRel X M n v
def Rl (X M : gS) (n : Nat) : Prop := rSta X M ∧ rOwn X M ∧ rWrd X M ∧ rEnt X M ∧ rCnt X M ∧ rHnd X M ∧ rPrt X M ∧ rNot X M ∧ rDev X M n
theorem l_dom {d : Int32} : xDom d = (decide (0 ≤ d) && decide (d ≤ 4)) := by
  unfold xDom
  congr 1
  apply decide_eq_decide.mpr
  rw [Int32.lt_iff_toInt_lt, Int32.le_iff_toInt_le]
  have e5 : (5 : Int32).toInt = 5 := by decide
  have e4 : (4 : Int32).toInt = 4 := by decide
  omega
theorem l_pag {d : Int32} : xPag d = (decide (0 ≤ d) && decide (d ≤ 19)) := by
  unfold xPag
  congr 1
  apply decide_eq_decide.mpr
  rw [Int32.lt_iff_toInt_lt, Int32.le_iff_toInt_le]
  have e5 : (20 : Int32).toInt = 20 := by decide
  have e4 : (19 : Int32).toInt = 19 := by decide
  omega
theorem l_live {X M : gS} (h : rSta X M) (d : Int32) : xLive X d = mLive M d := by
  unfold xLive mLive
  rw [← l_dom]
  cases hd : xDom d
  · rfl
  · rw [h _ (ir_dom hd).2]
theorem l_owns {X M : gS} (h : rOwn X M) (d p : Int32) : xOwns X d p = mOwns M d p := by
  unfold xOwns mOwns
  rw [← l_pag]
  cases hd : xPag p
  · rfl
  · rw [(h _ (ir_pag hd).2).1]
    simp only [Bool.true_and]
    exact decide_eq_decide.mpr i_add1.symm
theorem l_cnt {X M : gS} (h : rOwn X M) (d : Int32) : xCnt X d = mCnt M d := by
  refine cntb_c 20 0 0 0 fun k hk => ?_
  simp only [Nat.zero_add]
  rw [(h k hk).1]
  exact decide_eq_decide.mpr i_add1.symm
theorem l_fpg {X M : gS} (h : rOwn X M) : xFpg X = mFpg M := by
  refine ffst_c 20 0 0 (fun k hk => ?_) rfl
  simp only [Nat.zero_add]
  rw [(h k hk).1]
  exact decide_eq_decide.mpr i_m1.symm
theorem e_free {X M : gS} {a i : Nat} (h : eRel X M a i) : X 3 a i = -1 ↔ M 53 (6 * a + i) 0 = 0 := by
  rcases h with ⟨h1, h2, -⟩ | ⟨t, ht, h1, h2, -⟩
  · exact ⟨fun _ => h2, fun _ => h1⟩
  · rw [h1, h2]
    exact ⟨fun q => absurd q (nI_nm1 (by omega)), fun q => absurd q (nI_ne0 (by omega) (by omega))⟩
theorem l_fe {X M : gS} (h : rEnt X M) {a : Nat} (ha : a < 5) : xFe X a = mFe M a := by
  refine ffst_c 6 0 0 (fun k hk => ?_) rfl
  simp only [Nat.zero_add]
  exact decide_eq_decide.mpr (e_free (h a ha k hk))
theorem h_free {X M : gS} {a i : Nat} (h : hRel X M a i) : X 7 a i = -1 ↔ M 56 (5 * a + i) 0 = 0 := by
  rcases h with ⟨h1, h2⟩ | ⟨f, e, hf, he, h1, -, h2, -⟩
  · exact ⟨fun _ => h2, fun _ => h1⟩
  · rw [h1, h2]
    exact ⟨fun q => absurd q (nI_nm1 (by omega)), fun q => absurd q (nI_ne0 (by omega) (by omega))⟩
theorem l_fh {X M : gS} (h : rHnd X M) {a : Nat} (ha : a < 5) : xFh X a = mFh M a := by
  refine ffst_c 5 0 0 (fun k hk => ?_) rfl
  simp only [Nat.zero_add]
  exact decide_eq_decide.mpr (h_free (h a ha k hk))
theorem l_fq {X M : gS} (h : rPrt X M) {a : Nat} (ha : a < 5) : xFq X a = mFq M a := by
  refine ffst_c 4 0 0 (fun k hk => ?_) rfl
  simp only [Nat.zero_add]
  rw [(h a ha k hk).1]
theorem i32_small {a : Nat} (ha : a < 2 ^ 31) (h0 : 0 < a) : 0 < nI a := by
  rw [Int32.lt_iff_toInt_lt, nI_toInt ha]
  have : (0 : Int32).toInt = 0 := by decide
  omega
theorem l_ew {X M : gS} (h : rEnt X M) {a p : Nat} (ha : a < 5) (hp : p < 20) : xEW X a (nI p) = mHeld M a (nI p) false := by
  unfold xEW mHeld
  refine anyb_c 6 0 (6 * a) fun k hk => ?_
  simp only [Nat.zero_add, Bool.not_false, Bool.true_or, Bool.and_true]
  rcases h a ha k hk with ⟨h1, h2, h3⟩ | ⟨t, ht, h1, h2, h3, h4⟩
  · rw [h2, h3]
    have e : ¬ (-1 : Int32) = nI p := fun q => nI_nm1 (by omega) q.symm
    simp [e]
  · have g1 : (0 : Int32) < nI (t + 1) := i32_small (by omega) (by omega)
    rw [h2, h3]
    rcases h4 with ⟨g2, g3⟩ | ⟨g2, q, hq, g3, g4⟩
    · rw [g2, g3]
      have e : ¬ (-1 : Int32) = nI p := fun q => nI_nm1 (by omega) q.symm
      simp [e]
    · rw [g3, g4]
      have e : X 4 a k < 2 := by rcases g2 with g2 | g2 <;> rw [g2] <;> decide
      simp [g1, e]
theorem l_mew {X M : gS} (h : rEnt X M) (hc : rCnt X M) {a p : Nat} (ha : a < 5) (hp : p < 20) : xMEW X a (nI p) = mHeld M a (nI p) true := by
  unfold xMEW mHeld
  refine anyb_c 6 0 (6 * a) fun k hk => ?_
  simp only [Nat.zero_add, Bool.not_true, Bool.false_or]
  rw [hc a ha k hk]
  rcases h a ha k hk with ⟨h1, h2, h3⟩ | ⟨t, ht, h1, h2, h3, h4⟩
  · rw [h2, h3]
    have e : ¬ (-1 : Int32) = nI p := fun q => nI_nm1 (by omega) q.symm
    simp [e]
  · have g1 : (0 : Int32) < nI (t + 1) := i32_small (by omega) (by omega)
    rw [h2, h3]
    rcases h4 with ⟨g2, g3⟩ | ⟨g2, q, hq, g3, g4⟩
    · rw [g2, g3]
      have e : ¬ (-1 : Int32) = nI p := fun q => nI_nm1 (by omega) q.symm
      simp [e]
    · rw [g3, g4]
      have e : X 4 a k < 2 := by rcases g2 with g2 | g2 <;> rw [g2] <;> decide
      simp [g1, e]
