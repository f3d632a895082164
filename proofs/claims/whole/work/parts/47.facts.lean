theorem tN_def (z : Int32) : tN z = z.toInt.toNat := rfl
theorem tN_lt {z : Int32} {k : Nat} (hk : 0 < k ∧ k < 2 ^ 31) (h : ¬ nI k ≤ z) : tN z < k := by
  rw [Int32.le_iff_toInt_le, nI_toInt hk.2] at h
  rw [tN_def]
  omega
theorem tN_lt2 {z : Int32} {k : Nat} (hk : 0 < k ∧ k < 2 ^ 31) (h : z < nI k) : tN z < k := by
  rw [Int32.lt_iff_toInt_lt, nI_toInt hk.2] at h
  rw [tN_def]
  omega
theorem tN_le {z : Int32} {k : Nat} (hk : 0 < k ∧ k < 2 ^ 31) (h : ¬ nI k < z) : tN z < k + 1 := by
  rw [Int32.lt_iff_toInt_lt, nI_toInt hk.2] at h
  rw [tN_def]
  omega
theorem tN_le2 {z : Int32} {k : Nat} (hk : 0 < k ∧ k < 2 ^ 31) (h : z ≤ nI k) : tN z < k + 1 := by
  rw [Int32.le_iff_toInt_le, nI_toInt hk.2] at h
  rw [tN_def]
  omega
theorem ge0 {z : Int32} (h : 0 ≤ z) : ¬ z < 0 := by
  rw [Int32.lt_iff_toInt_lt]
  rw [Int32.le_iff_toInt_le] at h
  omega
theorem ir_dom {z : Int32} (h : xDom z = true) : ¬ z < 0 ∧ tN z < 5 := by
  simp only [xDom, Bool.and_eq_true, decide_eq_true_eq] at h
  exact ⟨ge0 h.1, tN_lt2 (k := 5) (by decide) h.2⟩
theorem ir_pag {z : Int32} (h : xPag z = true) : ¬ z < 0 ∧ tN z < 20 := by
  simp only [xPag, Bool.and_eq_true, decide_eq_true_eq] at h
  exact ⟨ge0 h.1, tN_lt2 (k := 20) (by decide) h.2⟩
theorem ir_prt {z : Int32} (h : xPrt z = true) : ¬ z < 0 ∧ tN z < 4 := by
  simp only [xPrt, Bool.and_eq_true, decide_eq_true_eq] at h
  exact ⟨ge0 h.1, tN_lt2 (k := 4) (by decide) h.2⟩
theorem ir_oth {d z : Int32} (h : xOth d z = true) : ¬ z < 0 ∧ tN z < 5 := by
  simp only [xOth, Bool.and_eq_true] at h
  exact ir_dom h.1
theorem ir_live {X : gS} {z : Int32} (h : xLive X z = true) : ¬ z < 0 ∧ tN z < 5 := by
  simp only [xLive, Bool.and_eq_true] at h
  exact ir_dom h.1
theorem ir_pres {X : gS} {z : Int32} (h : xPres X z = true) : ¬ z < 0 ∧ tN z < 3 := by
  simp only [xPres, Bool.and_eq_true, decide_eq_true_eq] at h
  exact ⟨ge0 h.1.1, tN_lt2 (k := 3) (by decide) h.1.2⟩
theorem ir_owns {X : gS} {d z : Int32} (h : xOwns X d z = true) : ¬ z < 0 ∧ tN z < 20 := by
  simp only [xOwns, Bool.and_eq_true] at h
  exact ir_pag h.1
theorem ir_hasE {X : gS} {a : Nat} {z : Int32} (h : xHasE X a z = true) : ¬ z < 0 ∧ tN z < 6 := by
  simp only [xHasE, Bool.and_eq_true, decide_eq_true_eq] at h
  exact ⟨ge0 h.1.1, tN_lt2 (k := 6) (by decide) h.1.2⟩
theorem ir_hasH {X : gS} {a : Nat} {z : Int32} (h : xHasH X a z = true) : ¬ z < 0 ∧ tN z < 5 := by
  simp only [xHasH, Bool.and_eq_true, decide_eq_true_eq] at h
  exact ⟨ge0 h.1.1, tN_lt2 (k := 5) (by decide) h.1.2⟩
theorem ffst_ir (p : Nat → Bool) : ∀ (n i : Nat), i + n < 2 ^ 31 → ¬ ffst p n i = -1 → ∃ j, i ≤ j ∧ j < i + n ∧ ffst p n i = nI j ∧ p j = true := by
  intro n
  induction n with
  | zero => intro i _ h; exact absurd rfl h
  | succ n ih =>
    intro i hi h
    by_cases hp : p i = true
    · exact ⟨i, by omega, by omega, by simp [ffst, hp], hp⟩
    · rw [show ffst p (n + 1) i = ffst p n (i + 1) from by simp [ffst, hp]] at h ⊢
      obtain ⟨j, h1, h2, h3, h4⟩ := ih (i + 1) (by omega) h
      exact ⟨j, by omega, by omega, h3, h4⟩
theorem ffst_ir0 {p : Nat → Bool} {n : Nat} (hn : n < 2 ^ 31) (h : ¬ ffst p n 0 = -1) : ¬ ffst p n 0 < 0 ∧ tN (ffst p n 0) < n := by
  obtain ⟨j, -, h2, h3, -⟩ := ffst_ir p n 0 (by omega) h
  rw [h3]
  exact ⟨nI_pos (by omega), by show (nI j).toNatClampNeg < n; rw [nI_clamp (by omega)]; omega⟩
theorem ir_fpg {X : gS} (h : ¬ xFpg X = -1) : ¬ xFpg X < 0 ∧ tN (xFpg X) < 20 := ffst_ir0 (by decide) h
theorem ir_get {X : gS} {d : Int32} (h : ¬ xGet X d = -1) : ¬ xGet X d < 0 ∧ tN (xGet X d) < 20 := by
  unfold xGet at h ⊢
  split at h
  · exact absurd rfl h
  · next hc => rw [if_neg hc]; exact ir_fpg h
theorem ir_fe {X : gS} {a : Nat} (h : ¬ xFe X a = -1) : ¬ xFe X a < 0 ∧ tN (xFe X a) < 6 := ffst_ir0 (by decide) h
theorem ir_fh {X : gS} {a : Nat} (h : ¬ xFh X a = -1) : ¬ xFh X a < 0 ∧ tN (xFh X a) < 5 := ffst_ir0 (by decide) h
theorem ir_fq {X : gS} {a : Nat} (h : ¬ xFq X a = -1) : ¬ xFq X a < 0 ∧ tN (xFq X a) < 4 := ffst_ir0 (by decide) h
theorem ir_abs {X : gS} (h : ¬ xAbs X = -1) : ¬ xAbs X < 0 ∧ tN (xAbs X) < 3 := ffst_ir0 (by decide) h
theorem ir_acc {X : gS} {d p w : Int32} {b : Bool} (h : xAcc X d p w b = 0) : (¬ p < 0 ∧ tN p < 20) ∧ ¬ w < 0 ∧ tN w < 8 := by
  unfold xAcc at h
  split at h
  · split at h
    · next h2 =>
      simp only [Bool.and_eq_true, decide_eq_true_eq] at h2
      exact ⟨ir_pag h2.1.1, ge0 h2.1.2, tN_lt2 (k := 8) (by decide) h2.2⟩
    · exact absurd h (by decide)
  · exact absurd h (by decide)
def hOk (X : gS) (a : Nat) : Prop := ∀ h, h < 5 → decide (X 7 a h = -1) = false → ¬ X 7 a h < 0 ∧ tN (X 7 a h) < 5 ∧ ¬ X 8 a h < 0 ∧ tN (X 8 a h) < 6
def tkF (X : gS) (a h : Nat) : Prop := ¬ X 7 a h < 0 ∧ tN (X 7 a h) < 5 ∧ ¬ X 8 a h < 0 ∧ tN (X 8 a h) < 6 ∧ ¬ xTk1 X a h (tN (X 7 a h)) (tN (X 8 a h)) 5 (tN (X 7 a h)) (tN (X 8 a h)) < 0 ∧ tN (xTk1 X a h (tN (X 7 a h)) (tN (X 8 a h)) 5 (tN (X 7 a h)) (tN (X 8 a h))) < 20
def tkOk (a h : Nat) (Y : gS) : Prop := decide (Y 7 a h = -1) = false → tkF Y a h
def pqF (X : gS) (a k : Nat) : Prop := ¬ X 11 a k < 0 ∧ tN (X 11 a k) < 5 ∧ ¬ X 12 a k < 0 ∧ tN (X 12 a k) < 4
def pqOk (a k : Nat) (Y : gS) : Prop := Y 10 a k = 2 → pqF Y a k
def lpOk (f : Nat → gS → gS) (ok : Nat → gS → Prop) : Nat → Nat → gS → Prop
  | 0, _, _ => True
  | n + 1, i, Y => ok i Y ∧ lpOk f ok n (i + 1) (f i Y)
theorem gup_k {X : gS} {kd kd' a b a' b' : Nat} {v : Int32} (h : ¬ kd' = kd) : gup X kd a b v kd' a' b' = X kd' a' b' := if_neg fun q => h q.1
theorem gup_s {X : gS} {kd a b : Nat} {v : Int32} : gup X kd a b v kd a b = v := if_pos ⟨rfl, rfl, rfl⟩
theorem eSet_k {X : gS} {kd a i a' b' : Nat} {t k p : Int32} (h3 : ¬ kd = 3) (h4 : ¬ kd = 4) (h5 : ¬ kd = 5) : eSet X a i t k p kd a' b' = X kd a' b' := by rw [eSet, gup_k h5, gup_k h4, gup_k h3]
theorem eClr_k {X : gS} {kd a i a' b' : Nat} (h3 : ¬ kd = 3) (h4 : ¬ kd = 4) (h5 : ¬ kd = 5) : eClr X a i kd a' b' = X kd a' b' := eSet_k h3 h4 h5
theorem hSet_k {X : gS} {kd a i a' b' : Nat} {t k p : Int32} (h3 : ¬ kd = 7) (h4 : ¬ kd = 8) (h5 : ¬ kd = 9) : hSet X a i t k p kd a' b' = X kd a' b' := by rw [hSet, gup_k h5, gup_k h4, gup_k h3]
theorem hClr_k {X : gS} {kd a i a' b' : Nat} (h3 : ¬ kd = 7) (h4 : ¬ kd = 8) (h5 : ¬ kd = 9) : hClr X a i kd a' b' = X kd a' b' := hSet_k h3 h4 h5
theorem qSet_k {X : gS} {kd a i a' b' : Nat} {t k p : Int32} (h2 : ¬ kd = 10) (h3 : ¬ kd = 11) (h4 : ¬ kd = 12) (h5 : ¬ kd = 13) : qSet X a i t k p kd a' b' = X kd a' b' := by rw [qSet, gup_k h5, gup_k h4, gup_k h3, gup_k h2]
theorem qCls_k {X : gS} {kd a i a' b' : Nat} (h2 : ¬ kd = 10) (h3 : ¬ kd = 11) (h4 : ¬ kd = 12) (h5 : ¬ kd = 13) : qCls X a i kd a' b' = X kd a' b' := qSet_k h2 h3 h4 h5
theorem nI_div6 {e : Nat} (h : e < 30) : nI e / 6 = nI (e / 6) := by
  have : ∀ e, e < 30 → nI e / 6 = nI (e / 6) := by decide +kernel
  exact this e h
theorem live_nI {M : gS} {x : Int32} (h : mLive M x = true) : ∃ a, a < 5 ∧ x = nI a := by
  simp only [mLive, Bool.and_eq_true, decide_eq_true_eq] at h
  refine ⟨tN x, tN_le2 (k := 4) (by decide) h.1.2, ?_⟩
  have h0 := Int32.le_iff_toInt_le.mp h.1.1
  have h4 := Int32.le_iff_toInt_le.mp h.1.2
  apply Int32.toInt_inj.mp
  have e : (x.toInt.toNat : Int) = x.toInt := Int.toNat_of_nonneg h0
  rw [nI_toInt (by rw [tN_def]; have : x.toInt ≤ 4 := h4; omega), tN_def, e]
theorem ir_mowns {M : gS} {x z : Int32} (h : mOwns M x z = true) : ¬ z < 0 ∧ tN z < 20 := by
  simp only [mOwns, Bool.and_eq_true, decide_eq_true_eq] at h
  exact ⟨ge0 h.1.1, tN_le2 (k := 19) (by decide) h.1.2⟩
theorem nI_add1 (a : Nat) : nI a + 1 = nI (a + 1) := (nI_succ a).symm
theorem nI_tN {z : Int32} (h : ¬ z < 0) : z = nI (tN z) := by
  rw [Int32.lt_iff_toInt_lt] at h
  have h0 : 0 ≤ z.toInt := by have : ¬ z.toInt < 0 := h; omega
  have h1 := z.toInt_lt
  apply Int32.toInt_inj.mp
  have e : (z.toInt.toNat : Int) = z.toInt := Int.toNat_of_nonneg h0
  rw [nI_toInt (by rw [tN_def]; omega), tN_def, e]
theorem nJ_of {z : Int32} {k : Nat} (hk : 0 < k ∧ k < 2 ^ 31) (h0 : ¬ z < 0) (h : ¬ nI k < z) : ∃ a, a < k + 1 ∧ z = nI a := ⟨tN z, tN_le hk h, nI_tN h0⟩
theorem le_nlt {x y : Int32} (h : x ≤ y) : ¬ y < x := by
  rw [Int32.lt_iff_toInt_lt]
  rw [Int32.le_iff_toInt_le] at h
  omega
theorem owns_nI {M : gS} {x z : Int32} (h : mOwns M x z = true) : ∃ a, a < 20 ∧ z = nI a := ⟨tN z, (ir_mowns h).2, nI_tN (ir_mowns h).1⟩
theorem ffst_nn {p : Nat → Bool} {n : Nat} (hn : n < 2 ^ 31) (h : ¬ ffst p n 0 < 0) : ∃ j, j < n ∧ ffst p n 0 = nI j := by
  obtain ⟨j, -, h2, h3, -⟩ := ffst_ir p n 0 (by omega) (fun q => h (by rw [q]; decide))
  exact ⟨j, by omega, h3⟩
theorem ir_mFpg {M : gS} (h : ¬ mFpg M < 0) : ∃ j, j < 20 ∧ mFpg M = nI j := ffst_nn (by decide) h
theorem ir_mFe {M : gS} {a : Nat} (h : ¬ mFe M a < 0) : ∃ j, j < 6 ∧ mFe M a = nI j := ffst_nn (by decide) h
theorem ir_mFh {M : gS} {a : Nat} (h : ¬ mFh M a < 0) : ∃ j, j < 5 ∧ mFh M a = nI j := ffst_nn (by decide) h
theorem ir_mFq {M : gS} {a : Nat} (h : ¬ mFq M a < 0) : ∃ j, j < 4 ∧ mFq M a = nI j := ffst_nn (by decide) h
theorem ir_mEnt {M : gS} {a : Nat} {r : Int32} (h : ¬ mEnt M a r < 0) : ∃ j, j < 6 * a + 6 ∧ mEnt M a r = nI j := by
  unfold mEnt at h ⊢
  split at h
  · exact absurd (by decide) h
  · next hc =>
    rw [if_neg hc]
    have h2 := tN_le (z := r) (k := 5) (by decide) (fun q => hc (Or.inr (Or.inl q)))
    exact ⟨6 * a + tN r, by omega, rfl⟩
theorem i32_a {x y : Int32} (h : x ≤ y) : ¬ y < x := by
  rw [Int32.lt_iff_toInt_lt]
  rw [Int32.le_iff_toInt_le] at h
  omega
theorem i32_b {x y : Int32} (h : ¬ x ≤ y) : y < x := by
  rw [Int32.lt_iff_toInt_lt]
  rw [Int32.le_iff_toInt_le] at h
  omega
theorem i32_c {x y : Int32} (h : x < y) : ¬ y ≤ x := by
  rw [Int32.le_iff_toInt_le]
  rw [Int32.lt_iff_toInt_lt] at h
  omega
theorem i32_d {x y : Int32} (h : ¬ x < y) : y ≤ x := by
  rw [Int32.le_iff_toInt_le]
  rw [Int32.lt_iff_toInt_lt] at h
  omega
theorem i64_a {x y : Int64} (h : x ≤ y) : ¬ y < x := by
  rw [Int64.lt_iff_toInt_lt]
  rw [Int64.le_iff_toInt_le] at h
  omega
theorem i64_b {x y : Int64} (h : ¬ x ≤ y) : y < x := by
  rw [Int64.lt_iff_toInt_lt]
  rw [Int64.le_iff_toInt_le] at h
  omega
theorem i64_c {x y : Int64} (h : x < y) : ¬ y ≤ x := by
  rw [Int64.le_iff_toInt_le]
  rw [Int64.lt_iff_toInt_lt] at h
  omega
theorem i64_d {x y : Int64} (h : ¬ x < y) : y ≤ x := by
  rw [Int64.le_iff_toInt_le]
  rw [Int64.lt_iff_toInt_lt] at h
  omega
theorem bI_fit (c : Bool) : fits .boolean (.int (bI c)) = true := by cases c <;> rfl
def mtF (Z : gS) (h : Nat) : Prop := Z 56 h 0 = nI (mE Z h + 1) ∧ mE Z h < 30 ∧ ¬ Z 55 (mE Z h) 0 < 0 ∧ tN (Z 55 (mE Z h) 0) < 20
def mtOk (h : Nat) (Z : gS) : Prop := ¬ Z 56 h 0 ≤ 0 → mtF Z h
def mpOk (k : Nat) (Z : gS) : Prop := Z 58 k 0 = 2 → ¬ Z 59 k 0 < 0 ∧ tN (Z 59 k 0) < 20
def hOkM (M : gS) (a : Nat) : Prop := ∀ h, h < 5 * a + 5 → ¬ M 56 h 0 ≤ 0 → M 56 h 0 = nI (mE M h + 1) ∧ mE M h < 30
theorem mE_eq {M : gS} {h : Nat} (hm : M 56 h 0 = nI (mE M h + 1)) : M 56 h 0 - 1 = nI (mE M h) := by
  have e : nI (mE M h + 1) - 1 = nI (mE M h) := nI_pred _
  rw [← hm] at e
  exact e
def coF (X : gS) (A : Int32 × gS) (v : Nat) (q : Int32) (w : Bool) : Prop := ¬ X 16 v 0 < 0 ∧ tN (X 16 v 0) < 5 ∧ tN A.1 < 5 ∧ ¬ A.2 7 (tN (X 16 v 0)) (tN A.1) < 0 ∧ tN (A.2 7 (tN (X 16 v 0)) (tN A.1)) < 5 ∧ ¬ A.2 8 (tN (X 16 v 0)) (tN A.1) < 0 ∧ tN (A.2 8 (tN (X 16 v 0)) (tN A.1)) < 6 ∧ ¬ xPgO A.2 (tN (X 16 v 0)) (tN A.1) < 0 ∧ tN (xPgO A.2 (tN (X 16 v 0)) (tN A.1)) < 20 ∧
  (xLive (xCo1 X A.2 v q (X 16 v 0) A.1 w) (X 16 v 0) = true → xHasH (xCo1 X A.2 v q (X 16 v 0) A.1 w) (tN (X 16 v 0)) A.1 = true → tkF (xCo1 X A.2 v q (X 16 v 0) A.1 w) (tN (X 16 v 0)) (tN A.1))
def dvF (X : gS) (v : Nat) : Prop := ¬ X 16 v 0 < 0 ∧ tN (X 16 v 0) < 5 ∧ ¬ X 19 v 0 < 0 ∧ tN (X 19 v 0) < 5 ∧ (X 7 (tN (X 16 v 0)) (tN (X 19 v 0)) = X 15 v 0 → X 8 (tN (X 16 v 0)) (tN (X 19 v 0)) = X 18 v 0 → ¬ X 7 (tN (X 16 v 0)) (tN (X 19 v 0)) < 0 ∧ tN (X 7 (tN (X 16 v 0)) (tN (X 19 v 0))) < 5 ∧ ¬ X 8 (tN (X 16 v 0)) (tN (X 19 v 0)) < 0 ∧ tN (X 8 (tN (X 16 v 0)) (tN (X 19 v 0))) < 6)
theorem ir_dc {X : gS} {v : Int32} (h : xDc X v = 0) : ¬ v < 0 ∧ tN v < 3 := by
  unfold xDc at h
  split at h
  · next hp => exact ir_pres hp
  · exact absurd h (by decide)
theorem and7_ir (q : Int32) : ¬ q &&& 7 < 0 ∧ tN (q &&& 7) < 8 := by
  obtain ⟨j, hj, e⟩ := pk_andE q (m := 7) 3 (by decide)
  rw [e]
  exact ⟨nI_pos (by omega), by show (nI j).toNatClampNeg < 8; rw [nI_clamp (by omega)]; omega⟩
theorem rem3_nI {n : Nat} (h : n < 2 ^ 31) : rem3 (nI n) = nI (n % 3) := pk_rem (d := 3) h (by decide) (by decide)
theorem rem3_ir {x : Int32} (h : ¬ x < 0) : ¬ rem3 x < 0 ∧ tN (rem3 x) < 3 ∧ ¬ 2 + rem3 x < 0 ∧ tN (2 + rem3 x) < 8 ∧ ¬ 5 + rem3 x < 0 ∧ tN (5 + rem3 x) < 8 := by
  have hx := nI_tN h
  have hlt : tN x < 2 ^ 31 := by rw [tN_def]; have := x.toInt_lt; omega
  rw [hx, rem3_nI hlt]
  have e2 : 2 + nI (tN x % 3) = nI (2 + tN x % 3) := nJ_add 2 _
  have e5 : 5 + nI (tN x % 3) = nI (5 + tN x % 3) := nJ_add 5 _
  rw [e2, e5]
  refine ⟨nI_pos (by omega), ?_, nI_pos (by omega), ?_, nI_pos (by omega), ?_⟩
  all_goals (show (nI _).toNatClampNeg < _; rw [nI_clamp (by omega)]; omega)
theorem sw7 {w : Int32} (h0 : ¬ w = 0) (h1 : ¬ w = 1) (h2 : ¬ w = 2) (h3 : ¬ w = 3) (h4 : ¬ w = 4) (h5 : ¬ w = 5) (h6 : ¬ w = 6) : w.toInt < 0 ∨ 6 < w.toInt := by
  rw [← Int32.toInt_inj] at h0 h1 h2 h3 h4 h5 h6
  have e0 : (0 : Int32).toInt = 0 := by decide
  have e1 : (1 : Int32).toInt = 1 := by decide
  have e2 : (2 : Int32).toInt = 2 := by decide
  have e3 : (3 : Int32).toInt = 3 := by decide
  have e4 : (4 : Int32).toInt = 4 := by decide
  have e5 : (5 : Int32).toInt = 5 := by decide
  have e6 : (6 : Int32).toInt = 6 := by decide
  rw [e0] at h0; rw [e1] at h1; rw [e2] at h2; rw [e3] at h3; rw [e4] at h4; rw [e5] at h5; rw [e6] at h6
  omega
theorem has_nf {X : gS} {a : Nat} {h : Int32} (q : xHasH X a h = true) : decide (X 7 a (tN h) = -1) = false := by
  simp only [xHasH, Bool.and_eq_true] at q
  simpa using q.2
