theorem d_dev {X M : gS} {n v : Nat} (h : Rl X M n) (hv : v < 3) (hp : ¬ M 61 v 0 = 0) : ∃ f b rp re rh po ra ta, f < 5 ∧ b < 5 ∧ ¬ f = b ∧ rp < 20 ∧ re < 6 ∧ rh < 5 ∧ ra ≤ po ∧ po ≤ ra + 3 ∧ po ≤ n ∧ ta ≤ n ∧ X 0 f 0 = 1 ∧ X 15 v 0 = nI f ∧ X 16 v 0 = nI b ∧ X 17 v 0 = nI rp ∧ X 18 v 0 = nI re ∧ X 19 v 0 = nI rh ∧ X 22 v 0 = nI po ∧ X 23 v 0 = nI ra ∧ X 24 v 0 = nI ta ∧ M 61 v 0 = nI (f + 1) ∧ M 62 v 0 = nI b ∧ M 63 v 0 = nI rp ∧ M 64 v 0 = nI re ∧ M 65 v 0 = nI rh ∧ M 66 v 0 = X 20 v 0 ∧ M 67 v 0 = X 21 v 0 ∧ M 68 v 0 = nI po ∧ M 69 v 0 = nI ra ∧ M 70 v 0 = nI ta ∧ (∀ s, s < 8 → M 73 (8 * v + s) 0 = X 27 v s) ∧ X 14 v 0 = 1 := by
  rcases h.2.2.2.2.2.2.2.2 v hv with ⟨-, g2⟩ | ⟨g1, f, b, rp, re, rh, po, ra, ta, c1, c2, c3, c4, c5, c6, c7, c8, c9, c10, c11, c12, c13, c14, c15, c16, c17, c18, c19, c20, c21, c22, c23, c24, c25, c26, c27, c28, c29, c30⟩
  · exact absurd g2 hp
  · exact ⟨f, b, rp, re, rh, po, ra, ta, c1, c2, c3, c4, c5, c6, c7, c8, c9, c10, c11, c12, c13, c14, c15, c16, c17, c18, c19, c20, c21, c22, c23, c24, c25, c26, c27, c28, c29, c30, g1⟩
theorem d_whole {X M : gS} {n v : Nat} (h : Rl X M n) (hv : v < 3) (hp : ¬ M 61 v 0 = 0) : xWhole X v = mWh M v ∧ dvF X v ∧ dvM M v := by
  obtain ⟨f, b, rp, re, rh, po, ra, ta, c1, c2, c3, c4, c5, c6, c7, c8, c9, c10, c11, c12, c13, c14, c15, c16, c17, c18, c19, c20, c21, c22, c23, c24, c25, c26, c27, c28, c29, c30, -⟩ := d_dev h hv hp
  have eF : mF M v = f := by unfold mF; rw [c20, nI_pred, tN_nI (by omega)]
  have eB : mB M v = b := by unfold mB; rw [c21, tN_nI (by omega)]
  have eP : mRp M v = rp := by unfold mRp; rw [c22, tN_nI (by omega)]
  have eE : mRe M v = re := by unfold mRe; rw [c23, tN_nI (by omega)]
  have eG : mG M v = rh := by unfold mG; rw [c24, tN_nI (by omega)]
  refine ⟨?_, ?_, ?_⟩
  · unfold xWhole mWh
    rw [c12, c13, c14, c15, c16, eF, eB, eE, eG, c22, tN_nI (by omega), tN_nI (by omega)]
    by_cases hf : X 7 b rh = -1
    · have e0 := (h_free (h.c.2.2.2.2.2.1 b c2 rh c6)).mp hf
      rw [hf, e0]
      have q1 : ¬ (-1 : Int32) = nI f := fun q => nI_nm1 (by omega) q.symm
      have q2 : ¬ (0 : Int32) = nI (6 * f + re + 1) := fun q => nI_ne0 (by omega) (by omega) q.symm
      simp [q1, q2]
    · obtain ⟨f', e', q, d1, d2, d3, d4, d5, d6, d7, d8, d9, d10, d11, d12⟩ := mapped_of h.c c2 c6 hf
      have ep : xPgO X b rh = nI q := by
        unfold xPgO
        rw [d4, d5, tN_nI (by omega), tN_nI (by omega)]
        exact d10
      rw [ep, d4, d5, d6, d7]
      by_cases hq : f' = f ∧ e' = re
      · obtain ⟨rfl, rfl⟩ := hq
        rw [d11]
        simp
      · have q2 : ¬ nI (6 * f' + e' + 1) = nI (6 * f + re + 1) := fun z => by have := nI_inj (by omega) (by omega) z; omega
        by_cases hf' : f' = f
        · have q3 : ¬ nI e' = nI re := fun z => hq ⟨hf', nI_inj (by omega) (by omega) z⟩
          simp [q2, q3]
        · have q3 : ¬ nI f' = nI f := fun z => hf' (nI_inj (by omega) (by omega) z)
          simp [q2, q3]
  · unfold dvF
    rw [c13, c16, c12, c15, tN_nI (by omega), tN_nI (by omega)]
    refine ⟨nI_pos (by omega), c2, nI_pos (by omega), c6, fun q1 q2 => ?_⟩
    rw [q1, q2, tN_nI (by omega), tN_nI (by omega)]
    exact ⟨nI_pos (by omega), c1, nI_pos (by omega), c5⟩
  · unfold dvM
    rw [eF, eB, eP, eE, eG]
    exact ⟨c20, c1, c21, c2, c24, c6, c23, c5, c22, c4⟩
theorem d_dc {X M : gS} {n : Nat} (h : Rl X M n) (v : Int32) : xDc X v = mTr M v := by
  unfold xDc mTr
  have hp := d_pres h.2.2.2.2.2.2.2.2 v
  by_cases hb : v < 0 ∨ 2 < v ∨ M 61 (tN v) 0 = 0
  · rw [if_neg (fun q => hp.mp q hb), if_pos hb]
  · rw [if_pos (hp.mpr hb), if_neg hb, (d_whole h (tN_le (z := v) (k := 2) (by decide) (fun q => hb (Or.inr (Or.inl q)))) (fun q => hb (Or.inr (Or.inr q)))).1]
theorem own_long {x : Int32} (hx : x = -1 ∨ ∃ a, a < 5 ∧ x = nI a) : x.toInt64 = (x + 1).toInt64 - 1 := by
  rcases hx with rfl | ⟨a, ha, rfl⟩
  · decide
  · have : ∀ a, a < 5 → (nI a).toInt64 = (nI a + 1).toInt64 - 1 := by decide +kernel
    exact this a ha
theorem l_dom2 {a : Int32} : xDom a = true ↔ ¬ (a < 0 ∨ 4 < a) := by
  rw [l_dom]
  simp only [Bool.and_eq_true, decide_eq_true_eq]
  exact ⟨fun q z => z.elim (i32_a q.1) (i32_a q.2), fun q => ⟨i32_d (fun z => q (Or.inl z)), i32_d (fun z => q (Or.inr z))⟩⟩
theorem l_pag2 {a : Int32} : xPag a = true ↔ ¬ (a < 0 ∨ 19 < a) := by
  rw [l_pag]
  simp only [Bool.and_eq_true, decide_eq_true_eq]
  exact ⟨fun q z => z.elim (i32_a q.1) (i32_a q.2), fun q => ⟨i32_d (fun z => q (Or.inl z)), i32_d (fun z => q (Or.inr z))⟩⟩
