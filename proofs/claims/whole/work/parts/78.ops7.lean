theorem pl_bits (v : Int32) : (v.toInt64 &&& 4294967295).toBitVec = v.toBitVec.setWidth 64 := by
  show v.toBitVec.signExtend 64 &&& 4294967295#64 = v.toBitVec.setWidth 64
  apply BitVec.eq_of_getLsbD_eq
  intro i hi
  rw [BitVec.getLsbD_and, BitVec.getLsbD_signExtend, BitVec.getLsbD_setWidth]
  by_cases h32 : i < 32
  · have e : (4294967295#64).getLsbD i = true := by
      have : ∀ i, i < 32 → (4294967295#64).getLsbD i = true := by decide +kernel
      exact this i h32
    rw [e]
    simp [hi, h32]
  · have e : (4294967295#64).getLsbD i = false := by
      have : ∀ i, i < 64 → ¬ i < 32 → (4294967295#64).getLsbD i = false := by decide +kernel
      exact this i hi h32
    rw [e]
    have : v.toBitVec.getLsbD i = false := BitVec.getLsbD_of_ge _ _ (by omega)
    simp [this]
theorem pl_int (v : Int32) : (v.toInt64 &&& 4294967295).toInt = (v.toBitVec.toNat : Int) := by
  have h : (v.toInt64 &&& 4294967295).toInt = (v.toBitVec.setWidth 64).toInt := by rw [← pl_bits]; rfl
  rw [h, BitVec.toInt_eq_toNat_of_lt]
  · rw [BitVec.toNat_setWidth]
    have := v.toBitVec.isLt
    omega
  · rw [BitVec.toNat_setWidth]
    have := v.toBitVec.isLt
    omega
theorem v_int (v : Int32) : v.toInt = if v.toBitVec.toNat < 2 ^ 31 then (v.toBitVec.toNat : Int) else (v.toBitVec.toNat : Int) - 2 ^ 32 := by
  show v.toBitVec.toInt = _
  rw [BitVec.toInt_eq_toNat_cond]
  have := v.toBitVec.isLt
  split <;> split <;> omega
theorem pl_eq (v : Int32) : v.toInt64 &&& 4294967295 = mPl v := by
  apply Int64.toInt_inj.mp
  rw [pl_int]
  have hv := v_int v
  have hb := v.toBitVec.isLt
  have h0 : (0 : Int32).toInt = 0 := by decide
  unfold mPl
  split
  · next hn =>
    rw [Int32.lt_iff_toInt_lt, h0] at hn
    have e1 : v.toInt64.toInt = v.toInt := Jvm.Kit.i64_of_i32 v
    rw [Int64.toInt_add, e1]
    show _ = (v.toInt + 4294967296).bmod (2 ^ 64)
    rw [Int.bmod_eq_of_le (by split at hv <;> omega) (by split at hv <;> omega)]
    split at hv <;> omega
  · next hn =>
    rw [Int32.lt_iff_toInt_lt, h0] at hn
    have e1 : v.toInt64.toInt = v.toInt := Jvm.Kit.i64_of_i32 v
    rw [e1]
    split at hv <;> omega
theorem c_load {X M : gS} (h : Rc X M) (d p w : Int32) : xLoad X d p w = mLoad M d p w := by
  unfold xLoad mLoad
  rw [l_acc h]
  by_cases hz : mRef M d p w false = 0
  · rw [if_pos hz, if_neg (by rw [hz]; decide)]
    obtain ⟨⟨pn, hpn, rfl⟩, wn, hwn, rfl⟩ := ref_nn hz
    rw [tN_nI (by omega), tN_nI (by omega), pl_eq, h.2.2.1 pn hpn wn hwn]
  · rw [if_neg hz, if_pos (Classical.byContradiction fun q => hz (ref_0 q))]
theorem Rl_0 : Rl gX0 gM0 0 := by
  refine ⟨fun a ha => by first | rfl | simp [gX0, gM0], fun p hp => ⟨by first | rfl | simp [gX0, gM0], Or.inl (by first | rfl | simp [gX0, gM0])⟩, fun p hp w hw => by first | rfl | simp [gX0, gM0], fun a ha i hi => Or.inl ⟨by first | rfl | simp [gX0, gM0], by first | rfl | simp [gX0, gM0], by first | rfl | simp [gX0, gM0]⟩, fun a ha i hi => ?_, fun a ha k hk => Or.inl ⟨by first | rfl | simp [gX0, gM0], by first | rfl | simp [gX0, gM0]⟩, fun a ha k hk => ⟨by first | rfl | simp [gX0, gM0], by first | rfl | simp [gX0, gM0], Or.inl (by first | rfl | simp [gX0, gM0]), Or.inl (by first | rfl | simp [gX0, gM0])⟩, fun v hv s hs => ⟨by first | rfl | simp [gX0, gM0], by first | rfl | simp [gX0, gM0]⟩, fun v hv => Or.inl ⟨by first | rfl | simp [gX0, gM0], by first | rfl | simp [gX0, gM0]⟩⟩
  have e : mC gM0 (6 * a + i) = 0 := by
    have : ∀ e, e < 30 → mC gM0 e = 0 := by decide +kernel
    exact this _ (by omega)
  rw [mMps_N, e]
  rfl
theorem d_pres {X M : gS} {n : Nat} (h : rDev X M n) (v : Int32) : xPres X v = true ↔ ¬ (v < 0 ∨ 2 < v ∨ M 61 (tN v) 0 = 0) := by
  unfold xPres
  simp only [Bool.and_eq_true, decide_eq_true_eq, Bool.not_eq_true', decide_eq_false_iff_not]
  by_cases h0 : v < 0
  · exact ⟨fun q => absurd h0 (i32_a q.1.1), fun q => absurd (Or.inl h0) q⟩
  · by_cases h2 : 2 < v
    · have h3 : ¬ v < 3 := by
        rw [Int32.lt_iff_toInt_lt] at h2 ⊢
        have e2 : (2 : Int32).toInt = 2 := by decide
        have e3 : (3 : Int32).toInt = 3 := by decide
        omega
      exact ⟨fun q => absurd q.1.2 h3, fun q => absurd (Or.inr (Or.inl h2)) q⟩
    · obtain ⟨vn, hvn, rfl⟩ := nJ_of (k := 2) (by decide) h0 h2
      rw [tN_nI (by omega)]
      have h3 : nI vn < 3 := nI_lt (a := vn) (b := 3) (by omega) (by decide)
      rcases h vn (by omega) with ⟨g1, g2⟩ | ⟨g1, f, b, rp, re, rh, po, ra, ta, c1, c2, c3, c4, c5, c6, c7, c8, c9, c10, c11, c12, c13, c14, c15, c16, c17, c18, c19, c20, c21, -⟩
      · exact ⟨fun q => absurd g1 q.2, fun q => absurd (Or.inr (Or.inr g2)) q⟩
      · constructor
        · intro _ q
          rcases q with q | q | q
          · exact h0 q
          · exact h2 q
          · rw [c20] at q
            exact nI_ne0 (by omega) (by omega) q
        · intro _
          exact ⟨⟨i32_d h0, h3⟩, by rw [g1]; decide⟩
