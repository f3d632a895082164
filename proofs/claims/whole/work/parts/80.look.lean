theorem ent_neg {M : gS} {a : Nat} {r : Int32} (ha : a < 5) : mEnt M a r < 0 ↔ (r < 0 ∨ 5 < r ∨ M 53 (6 * a + tN r) 0 = 0) := by
  unfold mEnt
  by_cases hb : r < 0 ∨ 5 < r ∨ M 53 (6 * a + tN r) 0 = 0
  · rw [if_pos hb]
    exact ⟨fun _ => hb, fun _ => by decide⟩
  · rw [if_neg hb]
    have := tN_le (z := r) (k := 5) (by decide) (fun q => hb (Or.inr (Or.inl q)))
    exact ⟨fun q => absurd q (nI_pos (by omega)), fun q => absurd q hb⟩
theorem lk_2 {X M : gS} {n : Nat} (h : Rl X M n) {a : Nat} (ha : a < 5) (b : Int32) : (if xHasE X a b = true then (X 6 a (tN b)).toInt64 else (-1 : Int64)) = if b < 0 ∨ 5 < b ∨ M 53 (6 * a + tN b) 0 = 0 then -1 else (mMps M (6 * a + tN b)).toInt64 := by
  rcases l_hasE h.c.2.2.2.1 ha b with ⟨e1, i, hi, rfl, hf, e2⟩ | ⟨e1, e2⟩
  · rw [if_pos e1, if_neg (fun q => absurd ((ent_neg ha).mpr q) (by rw [e2]; exact nI_pos (by omega))), tN_nI (by omega), h.c.2.2.2.2.1 a ha i hi]
  · rw [if_neg (by rw [e1]; decide), if_pos ((ent_neg ha).mp e2)]
theorem lk_3 {X M : gS} {n : Nat} (h : Rl X M n) {a : Nat} (ha : a < 5) (b : Int32) : (if xHasH X a b = true then (xPgO X a (tN b)).toInt64 else (-1 : Int64)) = if b < 0 ∨ 4 < b ∨ M 56 (5 * a + tN b) 0 = 0 then -1 else (M 55 (mE M (5 * a + tN b)) 0).toInt64 := by
  rcases l_hasH h.c.2.2.2.2.2.1 ha b with ⟨e1, i, hi, rfl, hf, e2⟩ | ⟨e1, e2⟩
  · obtain ⟨f, e, q, c1, c2, c3, c4, c5, c6, c7, c8, c9, c10, c11, c12⟩ := mapped_of h.c ha hi hf
    have ep : xPgO X a i = nI q := by
      unfold xPgO
      rw [c4, c5, tN_nI (by omega), tN_nI (by omega)]
      exact c10
    rw [if_pos e1, tN_nI (by omega), if_neg e2, ep, c12, c11]
  · rw [if_neg (by rw [e1]; decide), if_pos e2]
theorem c_look {X M : gS} {n : Nat} (h : Rl X M n) (w a b : Int32) : xLook X w a b = mLook M w a b := by
  have hd := l_dom2 (a := a)
  have hp := l_pag2 (a := a)
  have hv := d_pres h.2.2.2.2.2.2.2.2 a
  unfold xLook mLook
  by_cases h0 : a < 0
  · have n1 : ¬ xDom a = true := fun q => hd.mp q (Or.inl h0)
    have n2 : ¬ xPag a = true := fun q => hp.mp q (Or.inl h0)
    have n3 : ¬ xPres X a = true := fun q => hv.mp q (Or.inl h0)
    rw [if_pos (Or.inl h0)]
    simp [n1, n2, n3]
  · by_cases hw : b < 0 ∧ (w = 2 ∨ w = 3 ∨ w = 5)
    · rw [if_pos (Or.inr hw)]
      have n1 : ∀ a, ¬ xHasE X a b = true := fun a q => (ir_hasE q).1 hw.1
      have n2 : ∀ a, ¬ xHasH X a b = true := fun a q => (ir_hasH q).1 hw.1
      have n3 : ¬ 0 ≤ b := i32_c hw.1
      rcases hw.2 with rfl | rfl | rfl
      · simp [n1]
      · simp [n2]
      · simp [n3]
    · have hneg0 : ¬ (a < 0 ∨ (b < 0 ∧ (w = 2 ∨ w = 3 ∨ w = 5))) := fun q => q.elim h0 hw
      rw [if_neg hneg0]
      by_cases w0 : w = 0
      · rw [if_pos w0, if_pos w0]
        by_cases h4 : 4 < a
        · rw [if_neg (fun q => hd.mp q (Or.inr h4)), if_pos h4]
        · rw [if_pos (hd.mpr (fun q => q.elim h0 h4)), if_neg h4, h.1 _ (tN_le (z := a) (k := 4) (by decide) h4)]
      · rw [if_neg w0, if_neg w0]
        by_cases w1 : w = 1
        · rw [if_pos w1, if_pos w1]
          by_cases h4 : 19 < a
          · rw [if_neg (fun q => hp.mp q (Or.inr h4)), if_pos h4]
          · rw [if_pos (hp.mpr (fun q => q.elim h0 h4)), if_neg h4]
            have g := h.2.1 _ (tN_le (z := a) (k := 19) (by decide) h4)
            rw [g.1]
            exact own_long g.2
        · rw [if_neg w1, if_neg w1]
          by_cases w2 : w = 2
          · rw [if_pos w2, if_pos w2]
            have hb : ¬ b < 0 := fun q => hw ⟨q, Or.inl w2⟩
            by_cases h4 : 4 < a
            · rw [if_neg (fun q => hd.mp q.1 (Or.inr h4)), if_pos (Or.inl h4)]
            · have ha := tN_le (z := a) (k := 4) (by decide) h4
              have g := lk_2 h ha b
              have hd' := hd.mpr (fun q => q.elim h0 h4)
              by_cases he : xHasE X (tN a) b = true
              · rw [if_pos he] at g
                rw [if_pos ⟨hd', he⟩, g]
                by_cases hq : 5 < b ∨ M 53 (6 * tN a + tN b) 0 = 0
                · rw [if_pos (Or.inr hq), if_pos (Or.inr hq)]
                · rw [if_neg (fun q => q.elim hb hq), if_neg (fun q => q.elim h4 hq)]
              · rw [if_neg he] at g
                rw [if_neg (fun q => he q.2), g]
                by_cases hq : 5 < b ∨ M 53 (6 * tN a + tN b) 0 = 0
                · rw [if_pos (Or.inr hq), if_pos (Or.inr hq)]
                · rw [if_neg (fun q => q.elim hb hq), if_neg (fun q => q.elim h4 hq)]
          · rw [if_neg w2, if_neg w2]
            by_cases w3 : w = 3
            · rw [if_pos w3, if_pos w3]
              have hb : ¬ b < 0 := fun q => hw ⟨q, Or.inr (Or.inl w3)⟩
              by_cases h4 : 4 < a
              · rw [if_neg (fun q => hd.mp q.1 (Or.inr h4)), if_pos (Or.inl h4)]
              · have ha := tN_le (z := a) (k := 4) (by decide) h4
                have g := lk_3 h ha b
                have hd' := hd.mpr (fun q => q.elim h0 h4)
                by_cases he : xHasH X (tN a) b = true
                · rw [if_pos he] at g
                  rw [if_pos ⟨hd', he⟩, g]
                  by_cases hq : 4 < b ∨ M 56 (5 * tN a + tN b) 0 = 0
                  · rw [if_pos (Or.inr hq), if_pos (Or.inr hq)]
                  · rw [if_neg (fun q => q.elim hb hq), if_neg (fun q => q.elim h4 hq)]
                · rw [if_neg he] at g
                  rw [if_neg (fun q => he q.2), g]
                  by_cases hq : 4 < b ∨ M 56 (5 * tN a + tN b) 0 = 0
                  · rw [if_pos (Or.inr hq), if_pos (Or.inr hq)]
                  · rw [if_neg (fun q => q.elim hb hq), if_neg (fun q => q.elim h4 hq)]
            · rw [if_neg w3, if_neg w3]
              by_cases w4 : w = 4
              · rw [if_pos w4, if_pos w4]
                by_cases h4 : 4 < a
                · rw [if_neg (fun q => hd.mp q (Or.inr h4)), if_pos h4]
                · rw [if_pos (hd.mpr (fun q => q.elim h0 h4)), if_neg h4, l_cnt h.2.1]
              · rw [if_neg w4, if_neg w4]
                by_cases w5 : w = 5
                · rw [if_pos w5, if_pos w5]
                  have hb : ¬ b < 0 := fun q => hw ⟨q, Or.inr (Or.inr w5)⟩
                  by_cases hq : 2 < a ∨ M 61 (tN a) 0 = 0
                  · rw [if_neg (fun q => hv.mp q.1 (Or.inr hq)), if_pos (hq.imp id Or.inr)]
                  · have hp1 := hv.mpr (fun q => q.elim h0 hq)
                    by_cases h7 : 7 < b
                    · have h8 : ¬ b < 8 := by
                        rw [Int32.lt_iff_toInt_lt] at h7 ⊢
                        have e7 : (7 : Int32).toInt = 7 := by decide
                        have e8 : (8 : Int32).toInt = 8 := by decide
                        omega
                      rw [if_neg (fun q => h8 q.2.2), if_pos (Or.inr (Or.inl h7))]
                    · obtain ⟨bn, hbn, rfl⟩ := nJ_of (k := 7) (by decide) hb h7
                      have h8 : nI bn < 8 := nI_lt (a := bn) (b := 8) (by omega) (by decide)
                      have hneg : ¬ (2 < a ∨ 7 < nI bn ∨ M 61 (tN a) 0 = 0) := fun q => q.elim (fun q => hq (Or.inl q)) (fun q => q.elim h7 (fun q => hq (Or.inr q)))
                      rw [if_pos ⟨hp1, i32_d hb, h8⟩, if_neg hneg, pl_eq, tN_nI (by omega)]
                      obtain ⟨f, b', rp, re, rh, po, ra, ta, c1, c2, c3, c4, c5, c6, c7, c8, c9, c10, c11, c12, c13, c14, c15, c16, c17, c18, c19, c20, c21, c22, c23, c24, c25, c26, c27, c28, c29, c30, -⟩ := d_dev h (tN_le (z := a) (k := 2) (by decide) (fun q => hq (Or.inl q))) (fun q => hq (Or.inr q))
                      rw [c30 bn (by omega)]
                · rw [if_neg w5, if_neg w5]
                  by_cases w6 : w = 6
                  · rw [if_pos w6, if_pos w6]
                    by_cases hq : 2 < a ∨ M 61 (tN a) 0 = 0
                    · rw [if_neg (fun q => hv.mp q (Or.inr hq)), if_pos hq]
                    · rw [if_pos (hv.mpr (fun q => q.elim h0 hq)), if_neg hq]
                      obtain ⟨f, b', rp, re, rh, po, ra, ta, c1, c2, c3, c4, c5, c6, c7, c8, c9, c10, c11, c12, c13, c14, c15, c16, c17, c18, c19, c20, c21, c22, c23, c24, c25, c26, c27, c28, c29, c30, -⟩ := d_dev h (tN_le (z := a) (k := 2) (by decide) (fun q => hq (Or.inl q))) (fun q => hq (Or.inr q))
                      unfold xUw
                      rw [c17, c18, c27, c28]
                  · rw [if_neg w6, if_neg w6]
