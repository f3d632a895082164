theorem pm_T_sub {w : Cond} (h : w ∈ pm_T) : w ∈ lw_tbl := (List.mem_filter.mp h).1
theorem pm_nest_in : ∀ w ∈ pm_nest, w ∈ lw_tbl := by decide +kernel
theorem pm_over_in : ∀ C ∈ pm_over, Cond.arrayOver (.object C) ∈ lw_tbl := by decide +kernel
theorem pm_inst_in : ∀ t, t < 8 → ∃ r : vw_C, pm_cl[t]? = some r ∧ Cond.instantiable r.1 r.2.2 ∈ pm_T
  | 0, _ => ⟨_, rfl, pm_in_mem (n := 52) (by decide +kernel)⟩
  | 1, _ => ⟨_, rfl, pm_in_mem (n := 65) (by decide +kernel)⟩
  | 2, _ => ⟨_, rfl, pm_in_mem (n := 157) (by decide +kernel)⟩
  | 3, _ => ⟨_, rfl, pm_in_mem (n := 172) (by decide +kernel)⟩
  | 4, _ => ⟨_, rfl, pm_in_mem (n := 76) (by decide +kernel)⟩
  | 5, _ => ⟨_, rfl, pm_in_mem (n := 99) (by decide +kernel)⟩
  | 6, _ => ⟨_, rfl, pm_in_mem (n := 117) (by decide +kernel)⟩
  | 7, _ => ⟨_, rfl, pm_in_mem (n := 555) (by decide +kernel)⟩
  | n + 8, h => absurd h (by omega)
theorem pm_K_ex {args : Array Value} {s : State} (hts : ∀ w ∈ lw_tbl, w.before args s = true) : ∃ (dC : Nat → ClassId) (dI : Nat → Nat → Nat) (dA : Nat → ClassId), pm_K dC dI dA s := by
  have hT : ∀ w ∈ pm_T, w.before args s = true := fun w h => hts w (pm_T_sub h)
  have h1 : ∀ t : Nat, ∃ q : ClassId × (Nat → Nat), ∀ r : vw_C, pm_cl[t]? = some r → u_Kn s r.1 r.2.1 r.2.2 q.1 q.2 := by
    intro t
    by_cases ht : t < 8
    · obtain ⟨r, hr, hi⟩ := pm_inst_in t ht
      obtain ⟨cC, iS, hk⟩ := u_known hT (pm_u_ok hr) (hT _ hi)
      exact ⟨(cC, iS), fun r' hr' => by cases hr.symm.trans hr'; exact hk⟩
    · exact ⟨(0, fun _ => 0), fun r hr => absurd (pm_cl_lt hr) ht⟩
  have h2 : ∀ k : Nat, ∃ cA : ClassId, ∀ ty : FieldType, pm_at k = some ty → ArrOfT s cA ty ∧ va_RA s cA ty := by
    intro k
    have ho : ∀ C, C ∈ pm_over → ∃ cA : ClassId, ArrOfT s cA (.object C) ∧ va_RA s cA (.object C) := by
      intro C hC
      obtain ⟨comp, c, kk, e1, e2, e3, e4, e5⟩ := Cond.arrayOver_spec (hts _ (pm_over_in C hC))
      exact ⟨c, fun n z => ⟨fun k h => (by cases h), kk, e3, comp, e4⟩, kk, comp, e3, e4, e1, e5⟩
    match k with
    | 0 =>
      obtain ⟨c, kk, comp, e1, e2, e3⟩ := Cond.arrayClass_spec (hT _ pm_T_ints)
      exact ⟨c, fun ty h => by cases h; exact ⟨fun n z => ⟨fun k h => (by cases h), kk, e2, comp, e3⟩, e1⟩⟩
    | 1 =>
      obtain ⟨c, kk, comp, e1, e2, e3⟩ := Cond.arrayClass_spec (hT _ pm_T_booleans)
      exact ⟨c, fun ty h => by cases h; exact ⟨fun n z => ⟨fun k h => (by cases h), kk, e2, comp, e3⟩, e1⟩⟩
    | 2 =>
      obtain ⟨c, e1, e2⟩ := ho RX1 (by decide +kernel)
      exact ⟨c, fun ty h => by cases h; exact ⟨e1, e2⟩⟩
    | 3 =>
      obtain ⟨c, e1, e2⟩ := ho RX2 (by decide +kernel)
      exact ⟨c, fun ty h => by cases h; exact ⟨e1, e2⟩⟩
    | 4 =>
      obtain ⟨c, e1, e2⟩ := ho RX3 (by decide +kernel)
      exact ⟨c, fun ty h => by cases h; exact ⟨e1, e2⟩⟩
    | 5 =>
      obtain ⟨c, e1, e2⟩ := ho RX4 (by decide +kernel)
      exact ⟨c, fun ty h => by cases h; exact ⟨e1, e2⟩⟩
    | 6 =>
      obtain ⟨c, e1, e2⟩ := ho RX5 (by decide +kernel)
      exact ⟨c, fun ty h => by cases h; exact ⟨e1, e2⟩⟩
    | 7 =>
      obtain ⟨c, e1, e2⟩ := ho RX6 (by decide +kernel)
      exact ⟨c, fun ty h => by cases h; exact ⟨e1, e2⟩⟩
    | n + 8 => exact ⟨0, fun ty h => by simp [pm_at, pm_ats] at h⟩
  refine ⟨fun t => (Classical.choose (h1 t)).1, fun t => (Classical.choose (h1 t)).2, fun k => Classical.choose (h2 k), ⟨fun c q hq => Classical.choose_spec (h1 c) q hq, fun k q hk => by simp at hk⟩, fun k ty hk => Classical.choose_spec (h2 k) ty hk, fun w hw => va_Nw.of (pm_nest_tab w hw) (hts w (pm_nest_in w hw)), fun C hC => va_AO.of (hts _ (pm_over_in C hC))⟩
