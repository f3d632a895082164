theorem nw_8_7 : pm_nw 8 7 = some 0 := by decide +kernel
theorem nw_8_10 : pm_nw 8 10 = some 7 := by decide +kernel
theorem law_init {L : Nat} {f : Nat → Int32} {r : pm_R} (hk : pw (some (L, f)) 8 119 18 [some (.ref 0), some (.ref 1), some (.ref 152), some (.int (nI 0))] [] (gE gX0 gM0) r) : pw (some (L, f)) 8 119 0 [some (.ref 0), none, none, none] [] [] r := by
  refine pw_new (t := 0) n_119_0 nw_8_7 rfl ?_
  change pw (some (L, f)) 8 119 3 [some (.ref 0), none, none, none] [.ref 1] gP0 r
  refine pw_dup n_119_3 rfl rfl ?_
  refine pw_spec (a := 0) (as := []) (st := [.ref 1]) n_119_4 cl_8_9 ⟨rfl, rfl, rfl⟩ (sum8 rfl) rfl (pm_run_Call _ _ _ _ _ _ run_X) ?_
  change pw (some (L, f)) 8 119 7 [some (.ref 0), none, none, none] [.ref 1] gP1 r
  refine pw_astore_n (l := [some (.ref 0), some (.ref 1), none, none]) n_119_7 rfl rfl ?_
  refine pw_new (t := 7) n_119_8 nw_8_10 rfl ?_
  rw [gP1_len]
  rw [show gP1 ++ [(7, (List.range (pm_N 7)).map fun j => defaultValue (pm_ft 7 j))] = gP2 from by decide +kernel]
  refine pw_dup n_119_11 rfl rfl ?_
  refine pw_spec (a := 151) (as := []) (st := [.ref 152]) n_119_12 cl_8_12 ⟨rfl, rfl, rfl⟩ (sum8 rfl) rfl (pm_run_Call _ _ _ _ _ _ run_M) ?_
  change pw (some (L, f)) 8 119 15 [some (.ref 0), some (.ref 1), none, none] [.ref 152] (gE gX0 gM0) r
  refine pw_astore_n (l := [some (.ref 0), some (.ref 1), some (.ref 152), none]) n_119_15 rfl rfl ?_
  refine pw_iconst n_119_16 ic_0 rfl ?_
  refine pw_istore_n (l := [some (.ref 0), some (.ref 1), some (.ref 152), some (.int 0)]) n_119_17 rfl rfl ?_
  exact hk
theorem law_end {L i : Nat} {f : Nat → Int32} {Q : pm_H} (hL : L ≤ 2560) (hi : i ≤ L) (h : ¬ i + 5 ≤ L) : pw (some (L, f)) 8 119 18 [some (.ref 0), some (.ref 1), some (.ref 152), some (.int (nI i))] [] Q (some (.int 1), Q) := by
  refine pw_iload_n n_119_18 rfl rfl ?_
  refine pw_aload_n n_119_19 rfl rfl ?_
  refine pw_salen n_119_20 rfl ?_
  refine pw_iconst n_119_21 ic_5 rfl ?_
  refine pw_isub n_119_22 rfl ?_
  refine pw_icmp_gt_t (q := 889) n_119_23 rfl (lw_stop hL hi h) ?_
  refine pw_iconst n_119_889 ic_1 rfl ?_
  exact pw_ireturn (ty := .boolean) n_119_890 rfl rfl rfl
theorem law_loop {L : Nat} {f : Nat → Int32} (hL : L ≤ 2560) {Rl : gS → gS → Nat → Prop} (step : ∀ (X M : gS) (n : Nat), Rl X M n → 5 * n + 5 ≤ L → ∃ X' M' : gS, Rl X' M' (n + 1) ∧ ∀ r, pw (some (L, f)) 8 119 18 [some (.ref 0), some (.ref 1), some (.ref 152), some (.int (nI (5 * n + 5)))] [] (gE X' M') r → pw (some (L, f)) 8 119 18 [some (.ref 0), some (.ref 1), some (.ref 152), some (.int (nI (5 * n)))] [] (gE X M) r) :
    ∀ (k n : Nat) (X M : gS), 5 * n ≤ L → L < 5 * n + 5 * (k + 1) → Rl X M n → ∃ X' M' : gS, pw (some (L, f)) 8 119 18 [some (.ref 0), some (.ref 1), some (.ref 152), some (.int (nI (5 * n)))] [] (gE X M) (some (.int 1), gE X' M') := by
  intro k
  induction k with
  | zero => intro n X M h1 h2 _; exact ⟨X, M, law_end hL h1 (by omega)⟩
  | succ k ih =>
    intro n X M h1 h2 h3
    by_cases h : 5 * n + 5 ≤ L
    · obtain ⟨X', M', h4, h5⟩ := step X M n h3 h
      obtain ⟨X2, M2, h6⟩ := ih (n + 1) X' M' (by omega) (by omega) h4
      exact ⟨X2, M2, h5 _ h6⟩
    · exact ⟨X, M, law_end hL h1 h⟩
theorem law_all {L : Nat} {f : Nat → Int32} (hL : L ≤ 2560) {Rl : gS → gS → Nat → Prop} (h0 : Rl gX0 gM0 0) (step : ∀ (X M : gS) (n : Nat), Rl X M n → 5 * n + 5 ≤ L → ∃ X' M' : gS, Rl X' M' (n + 1) ∧ ∀ r, pw (some (L, f)) 8 119 18 [some (.ref 0), some (.ref 1), some (.ref 152), some (.int (nI (5 * n + 5)))] [] (gE X' M') r → pw (some (L, f)) 8 119 18 [some (.ref 0), some (.ref 1), some (.ref 152), some (.int (nI (5 * n)))] [] (gE X M) r) :
    ∃ X' M' : gS, pw (some (L, f)) 8 119 0 [some (.ref 0), none, none, none] [] [] (some (.int 1), gE X' M') := by
  obtain ⟨X', M', h⟩ := law_loop hL step L 0 gX0 gM0 (by omega) (by omega) h0
  exact ⟨X', M', law_init h⟩
