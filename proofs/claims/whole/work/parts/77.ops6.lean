theorem orb_any (p : Nat → Bool) : ∀ n i c, orb p n i c = (c || anyb p n i) := by
  intro n
  induction n with
  | zero => intro i c; simp [orb, anyb]
  | succ n ih =>
    intro i c
    unfold orb anyb
    rw [ih]
    cases p i <;> simp
theorem l_may {X M : gS} (h : Rc X M) {a p : Nat} (ha : a < 5) (hp : p < 20) (s : Bool) : (xOwns X (nI a) (nI p) || xMof X a (nI p) s) = mMay M a (nI p) s := by
  unfold mMay
  rw [orb_any, l_owns h.2.1]
  congr 1
  unfold xMof
  refine anyb_c 5 0 (5 * a) fun k hk => ?_
  simp only [Nat.zero_add]
  by_cases hf : X 7 a k = -1
  · have e0 := (h_free (h.2.2.2.2.2.1 a ha k hk)).mp hf
    rw [e0]
    simp [hf]
  · obtain ⟨f, e, q, c1, c2, c3, c4, c5, c6, c7, c8, c9, c10, c11, c12⟩ := mapped_of h ha hk hf
    have e1 : xPgO X a k = nI q := by
      unfold xPgO
      rw [c4, c5, tN_nI (by omega), tN_nI (by omega)]
      exact c10
    have g1 : (0 : Int32) < nI (6 * f + e + 1) := i32_small (by omega) (by omega)
    rw [e1, c12, c11, c7, c6]
    simp only [hf, g1, decide_false, decide_true, Bool.not_false, Bool.true_and]
    exact Bool.and_comm _ _
theorem l_acc {X M : gS} (h : Rc X M) (d p w : Int32) (s : Bool) : xAcc X d p w s = mRef M d p w s := by
  unfold xAcc mRef
  rw [l_live h.1]
  by_cases hl : mLive M d = true
  · rw [if_pos hl, if_pos hl]
    obtain ⟨a, ha, rfl⟩ := live_nI hl
    rw [tN_nI (by omega)]
    have hr : (xPag p && decide (0 ≤ w) && decide (w < 8)) = true ↔ ¬ (p < 0 ∨ 19 < p ∨ w < 0 ∨ 7 < w) := by
      unfold xPag
      simp only [Bool.and_eq_true, decide_eq_true_eq]
      rw [Int32.le_iff_toInt_le, Int32.le_iff_toInt_le, Int32.lt_iff_toInt_lt, Int32.lt_iff_toInt_lt, Int32.lt_iff_toInt_lt, Int32.lt_iff_toInt_lt, Int32.lt_iff_toInt_lt, Int32.lt_iff_toInt_lt]
      have e0 : (0 : Int32).toInt = 0 := by decide
      have e7 : (7 : Int32).toInt = 7 := by decide
      have e8 : (8 : Int32).toInt = 8 := by decide
      have e19 : (19 : Int32).toInt = 19 := by decide
      have e20 : (20 : Int32).toInt = 20 := by decide
      omega
    by_cases hb : p < 0 ∨ 19 < p ∨ w < 0 ∨ 7 < w
    · rw [if_neg (fun q => hr.mp q hb), if_pos hb]
    · rw [if_pos (hr.mpr hb), if_neg hb]
      obtain ⟨pn, hpn, rfl⟩ := nJ_of (k := 19) (by decide) (fun q => hb (Or.inl q)) (fun q => hb (Or.inr (Or.inl q)))
      rw [l_may h ha hpn]
  · rw [if_neg hl, if_neg hl]
theorem c_store {X M : gS} (h : Rc X M) (d p w v : Int32) : (xStore X d p w v).1 = (mStore M d p w v).1 ∧ Rc (xStore X d p w v).2 (mStore M d p w v).2 := by
  unfold xStore mStore
  rw [l_acc h]
  by_cases hz : mRef M d p w true = 0
  · rw [if_pos hz, if_pos hz]
    obtain ⟨⟨pn, hpn, rfl⟩, wn, hwn, rfl⟩ := ref_nn hz
    rw [tN_nI (by omega), tN_nI (by omega)]
    exact ⟨rfl, c_wrd h hpn hwn⟩
  · rw [if_neg hz, if_neg hz]
    exact ⟨rfl, h⟩
theorem hOkA_of {X M : gS} (h : Rc X M) : hOkA X := by
  intro a ha k hk hf
  obtain ⟨f, e, q, c1, c2, c3, c4, c5, -⟩ := mapped_of h ha hk (by simpa using hf)
  rw [c4, c5, tN_nI (by omega), tN_nI (by omega)]
  exact ⟨nI_pos (by omega), c1, nI_pos (by omega), c2⟩
theorem hOkM_all {X M : gS} (h : Rc X M) : ∀ k, k < 25 → ¬ M 56 k 0 = 0 → M 56 k 0 = nI (mE M k + 1) ∧ mE M k < 30 ∧ mtF M k := by
  intro k hk h0
  have hk2 : k = 5 * (k / 5) + k % 5 := by omega
  have hm : ¬ X 7 (k / 5) (k % 5) = -1 := fun q => h0 (by rw [hk2]; exact (h_free (h.2.2.2.2.2.1 (k / 5) (by omega) (k % 5) (by omega))).mp q)
  obtain ⟨f, e, q, c1, c2, c3, c4, c5, c6, c7, c8, c9, c10, c11, c12⟩ := mapped_of h (by omega) (by omega) hm
  rw [← hk2] at c6 c12
  refine ⟨by rw [c12, c6], by omega, ?_⟩
  unfold mtF
  rw [c12, c6, c11, tN_nI (by omega)]
  exact ⟨rfl, by omega, nI_pos (by omega), c3⟩
theorem hOkM_of {X M : gS} (h : Rc X M) {a : Nat} (ha : a < 5) : hOkM M a := fun k hk hp => by
  have q := hOkM_all h k (by omega) (fun z => hp (by rw [z]; decide))
  exact ⟨q.1, q.2.1⟩
theorem pqA_of {X M : gS} (h : Rc X M) : pqA X := by
  intro a ha k hk h2
  obtain ⟨-, -, -, g⟩ := h.2.2.2.2.2.2 a ha k hk
  rcases g with g | ⟨g, -⟩ | ⟨-, b, j, c1, c2, c3, c4, -⟩
  · rw [h2] at g; exact absurd g (by decide)
  · rw [h2] at g; exact absurd g (by decide)
  · unfold pqF
    rw [c3, c4, tN_nI (by omega), tN_nI (by omega)]
    exact ⟨nI_pos (by omega), c1, nI_pos (by omega), c2⟩
theorem mpA_of {X M : gS} (h : Rc X M) : mpA M := by
  intro k hk h2
  have hk2 : k = 4 * (k / 4) + k % 4 := by omega
  obtain ⟨g1, -, -, g⟩ := h.2.2.2.2.2.2 (k / 4) (by omega) (k % 4) (by omega)
  rw [← hk2] at g1 g
  rw [h2] at g1
  rcases g with g | ⟨g, -⟩ | ⟨-, b, j, c1, c2, -, -, c5, -⟩
  · rw [g] at g1; exact absurd g1 (by decide)
  · rw [g] at g1; exact absurd g1 (by decide)
  · rw [c5, tN_nI (by omega)]
    exact ⟨nI_pos (by omega), by omega⟩
