set_option maxRecDepth 100000 in
set_option maxHeartbeats 4000000 in
theorem w_81 {X M : gS} {x : Int32}  (d : Nat) : pm_Call (d + 1) 81 [.ref 152, .int x] (gE X M) (some (.int (bI (mLive M x))), gE X M) := by
  refine pw_start (d := d) (l := [some (.ref 152), some (.int x)]) (Nat.le_of_ble_eq_true rfl) rfl ?_
  refine pw_iload_n n_81_0 rfl rfl ?_
  refine pw_if_lt (q := 23) n_81_1 rfl rfl (fun h1 => ?_) (fun h1 => ?_)
  ·
    refine pw_iconst n_81_23 ic_0 rfl ?_
    exact pw_ireturn (ty := .boolean) n_81_24 rfl rfl (by first | contradiction | simp [mLive, h1, (i32_c h1), bI_t, bI_f, nI_add1, gup_k, eSet_k, eClr_k, hSet_k, hClr_k, qSet_k, qCls_k])
  ·
    refine pw_iload_n n_81_4 rfl rfl ?_
    refine pw_iconst n_81_5 ic_4 rfl ?_
    refine pw_icmp_gt (q := 23) n_81_6 rfl rfl (fun h2 => ?_) (fun h2 => ?_)
    ·
      refine pw_iconst n_81_23 ic_0 rfl ?_
      exact pw_ireturn (ty := .boolean) n_81_24 rfl rfl (by first | contradiction | simp [mLive, h1, (i32_d h1), h2, (i32_c h2), bI_t, bI_f, nI_add1, gup_k, eSet_k, eClr_k, hSet_k, hClr_k, qSet_k, qCls_k])
    ·
      have h2b := tN_le (z := x) (k := 4) (by decide) h2
      refine pw_aload_n n_81_9 rfl rfl ?_
      refine pw_getf (a := 151) n_81_10 fl_7_7 (by decide) (rdR sh_R_state) rfl ?_
      refine pw_iload_n n_81_13 rfl rfl ?_
      refine pw_iald (a := cM 0) n_81_14 (by assumption) rfl (rdM (sh_M_state (tN x) (by omega)) (by decide)) rfl ?_
      refine pw_iconst n_81_15 ic_1 rfl ?_
      refine pw_icmp_ne (q := 23) n_81_16 rfl rfl (fun h3 => ?_) (fun h3 => ?_)
      ·
        refine pw_iconst n_81_23 ic_0 rfl ?_
        exact pw_ireturn (ty := .boolean) n_81_24 rfl rfl (by first | contradiction | simp [mLive, h1, (i32_d h1), h2, (i32_d h2), h3, bI_t, bI_f, nI_add1, gup_k, eSet_k, eClr_k, hSet_k, hClr_k, qSet_k, qCls_k])
      ·
        refine pw_iconst n_81_19 ic_1 rfl ?_
        refine pw_goto (q := 24) n_81_20 rfl ?_
        exact pw_ireturn (ty := .boolean) n_81_24 rfl rfl (by first | contradiction | simp [mLive, h1, (i32_d h1), h2, (i32_d h2), h3, (Classical.not_not.mp h3), bI_t, bI_f, nI_add1, gup_k, eSet_k, eClr_k, hSet_k, hClr_k, qSet_k, qCls_k])
set_option maxRecDepth 100000 in
set_option maxHeartbeats 4000000 in
theorem w_82 {X M : gS} {x : Int32} {p : Int32}  (d : Nat) : pm_Call (d + 1) 82 [.ref 152, .int x, .int p] (gE X M) (some (.int (bI (mOwns M x p))), gE X M) := by
  refine pw_start (d := d) (l := [some (.ref 152), some (.int x), some (.int p)]) (Nat.le_of_ble_eq_true rfl) rfl ?_
  refine pw_iload_n n_82_0 rfl rfl ?_
  refine pw_if_lt (q := 26) n_82_1 rfl rfl (fun h1 => ?_) (fun h1 => ?_)
  ·
    refine pw_iconst n_82_26 ic_0 rfl ?_
    exact pw_ireturn (ty := .boolean) n_82_27 rfl rfl (by first | contradiction | simp [mOwns, h1, (i32_c h1), bI_t, bI_f, nI_add1, gup_k, eSet_k, eClr_k, hSet_k, hClr_k, qSet_k, qCls_k])
  ·
    refine pw_iload_n n_82_4 rfl rfl ?_
    refine pw_bipush n_82_5 bc_19 rfl ?_
    refine pw_icmp_gt (q := 26) n_82_7 rfl rfl (fun h2 => ?_) (fun h2 => ?_)
    ·
      refine pw_iconst n_82_26 ic_0 rfl ?_
      exact pw_ireturn (ty := .boolean) n_82_27 rfl rfl (by first | contradiction | simp [mOwns, h1, (i32_d h1), h2, (i32_c h2), bI_t, bI_f, nI_add1, gup_k, eSet_k, eClr_k, hSet_k, hClr_k, qSet_k, qCls_k])
    ·
      have h2b := tN_le (z := p) (k := 19) (by decide) h2
      refine pw_aload_n n_82_10 rfl rfl ?_
      refine pw_getf (a := 151) n_82_11 fl_7_13 (by decide) (rdR sh_R_owner) rfl ?_
      refine pw_iload_n n_82_14 rfl rfl ?_
      refine pw_iald (a := cM 1) n_82_15 (by assumption) rfl (rdM (sh_M_owner (tN p) (by omega)) (by decide)) rfl ?_
      refine pw_iload_n n_82_16 rfl rfl ?_
      refine pw_iconst n_82_17 ic_1 rfl ?_
      refine pw_iadd n_82_18 rfl ?_
      refine pw_icmp_ne (q := 26) n_82_19 rfl rfl (fun h3 => ?_) (fun h3 => ?_)
      ·
        refine pw_iconst n_82_26 ic_0 rfl ?_
        exact pw_ireturn (ty := .boolean) n_82_27 rfl rfl (by first | contradiction | simp [mOwns, h1, (i32_d h1), h2, (i32_d h2), h3, bI_t, bI_f, nI_add1, gup_k, eSet_k, eClr_k, hSet_k, hClr_k, qSet_k, qCls_k])
      ·
        refine pw_iconst n_82_22 ic_1 rfl ?_
        refine pw_goto (q := 27) n_82_23 rfl ?_
        exact pw_ireturn (ty := .boolean) n_82_27 rfl rfl (by first | contradiction | simp [mOwns, h1, (i32_d h1), h2, (i32_d h2), h3, (Classical.not_not.mp h3), bI_t, bI_f, nI_add1, gup_k, eSet_k, eClr_k, hSet_k, hClr_k, qSet_k, qCls_k])
set_option maxRecDepth 100000 in
set_option maxHeartbeats 4000000 in
theorem L_83_4 {X M : gS} {x : Int32}   (d : Nat) {r : pm_R} : ∀ (n i : Nat) (c : Int32), i + n = 20 → pw none (d) 83 36 [some (.ref 152), some (.int x), some (.int (cntb (fun p => decide (M 51 p 0 = x + 1)) n i c)), some (.int (nI 20))] [] (gE X M) r → pw none (d) 83 4 [some (.ref 152), some (.int x), some (.int c), some (.int (nI i))] [] (gE X M) r := by
  intro n
  induction n with
  | zero =>
    intro i c hi hk
    obtain rfl : i = 20 := by omega
    refine pw_iload_n n_83_4 rfl rfl ?_
    refine pw_bipush n_83_5 bc_20 rfl ?_
    refine pw_icmp_ge_t (q := 36) n_83_7 rfl (nI_le (a := 20) (b := 20) (by omega) (by omega)) ?_
    exact hk
  | succ n ih =>
    intro i c hi hk
    refine pw_iload_n n_83_4 rfl rfl ?_
    refine pw_bipush n_83_5 bc_20 rfl ?_
    refine pw_icmp_ge_f (q := 36) n_83_7 rfl rfl (nI_ge (a := i) (b := 20) (by omega) (by omega)) ?_
    refine pw_iload_n n_83_10 rfl rfl ?_
    refine pw_aload_n n_83_11 rfl rfl ?_
    refine pw_getf (a := 151) n_83_12 fl_7_13 (by decide) (rdR sh_R_owner) rfl ?_
    refine pw_iload_n n_83_15 rfl rfl ?_
    refine pw_iald (a := cM 1) n_83_16 (nI_pos (by omega)) (nI_clamp (by omega)) (rdM (sh_M_owner i (by omega)) (by decide)) rfl ?_
    refine pw_iload_n n_83_17 rfl rfl ?_
    refine pw_iconst n_83_18 ic_1 rfl ?_
    refine pw_iadd n_83_19 rfl ?_
    refine pw_icmp_ne (q := 27) n_83_20 rfl rfl (fun h1 => ?_) (fun h1 => ?_)
    ·
      refine pw_iconst n_83_27 ic_0 rfl ?_
      refine pw_iadd n_83_28 rfl ?_
      refine pw_istore_n (l := [some (.ref 152), some (.int x), some (.int (c + 0)), some (.int (nI i))]) n_83_29 rfl rfl ?_
      refine pw_iinc (v := nI (i + 1)) (l := [some (.ref 152), some (.int x), some (.int (c + 0)), some (.int (nI (i + 1)))]) n_83_30 rfl (nI_inc i) rfl rfl ?_
      refine pw_goto (q := 4) n_83_33 rfl ?_
      have e0 : (if decide (M 51 i 0 = x + 1) = true then c + 1 else c) = c + 0 := by first | contradiction | simp [h1, bI_t, bI_f, nI_add1, gup_k, eSet_k, eClr_k, hSet_k, hClr_k, qSet_k, qCls_k]
      refine ih (i + 1) (c + 0) (by omega) ?_
      rw [← e0]
      exact hk
    ·
      refine pw_iconst n_83_23 ic_1 rfl ?_
      refine pw_goto (q := 28) n_83_24 rfl ?_
      refine pw_iadd n_83_28 rfl ?_
      refine pw_istore_n (l := [some (.ref 152), some (.int x), some (.int (c + 1)), some (.int (nI i))]) n_83_29 rfl rfl ?_
      refine pw_iinc (v := nI (i + 1)) (l := [some (.ref 152), some (.int x), some (.int (c + 1)), some (.int (nI (i + 1)))]) n_83_30 rfl (nI_inc i) rfl rfl ?_
      refine pw_goto (q := 4) n_83_33 rfl ?_
      have e0 : (if decide (M 51 i 0 = x + 1) = true then c + 1 else c) = c + 1 := by first | contradiction | simp [h1, (Classical.not_not.mp h1), bI_t, bI_f, nI_add1, gup_k, eSet_k, eClr_k, hSet_k, hClr_k, qSet_k, qCls_k]
      refine ih (i + 1) (c + 1) (by omega) ?_
      rw [← e0]
      exact hk
set_option maxRecDepth 100000 in
set_option maxHeartbeats 4000000 in
theorem w_83 {X M : gS} {x : Int32}  (d : Nat) : pm_Call (d + 1) 83 [.ref 152, .int x] (gE X M) (some (.int (mCnt M x)), gE X M) := by
  refine pw_start (d := d) (l := [some (.ref 152), some (.int x), none, none]) (Nat.le_of_ble_eq_true rfl) rfl ?_
  refine pw_iconst n_83_0 ic_0 rfl ?_
  refine pw_istore_n (l := [some (.ref 152), some (.int x), some (.int 0), none]) n_83_1 rfl rfl ?_
  refine pw_iconst n_83_2 ic_0 rfl ?_
  refine pw_istore_n (l := [some (.ref 152), some (.int x), some (.int 0), some (.int 0)]) n_83_3 rfl rfl ?_
  refine L_83_4 (X := X) (M := M)  _ 20 0 0 (by omega) ?_
  refine pw_iload_n n_83_36 rfl rfl ?_
  exact pw_ireturn (ty := .int) n_83_37 rfl rfl (by first | contradiction | simp [mCnt, bI_t, bI_f, nI_add1, gup_k, eSet_k, eClr_k, hSet_k, hClr_k, qSet_k, qCls_k])
set_option maxRecDepth 100000 in
set_option maxHeartbeats 4000000 in
theorem L_84_2 {X M : gS}    (d : Nat) : ∀ n i : Nat, i + n = 20 → pw none (d) 84 2 [some (.ref 152), some (.int (nI i))] [] (gE X M) (some (.int (ffst (fun p => decide (M 51 p 0 = 0)) n i)), gE X M) := by
  intro n
  induction n with
  | zero =>
    intro i hi
    obtain rfl : i = 20 := by omega
    refine pw_iload_n n_84_2 rfl rfl ?_
    refine pw_bipush n_84_3 bc_20 rfl ?_
    refine pw_icmp_ge_t (q := 25) n_84_5 rfl (nI_le (a := 20) (b := 20) (by omega) (by omega)) ?_
    refine pw_iconst n_84_25 ic_m1 rfl ?_
    exact pw_ireturn (ty := .int) n_84_26 rfl rfl (by first | contradiction | simp [ffst, bI_t, bI_f, nI_add1, gup_k, eSet_k, eClr_k, hSet_k, hClr_k, qSet_k, qCls_k])
  | succ n ih =>
    intro i hi
    refine pw_iload_n n_84_2 rfl rfl ?_
    refine pw_bipush n_84_3 bc_20 rfl ?_
    refine pw_icmp_ge_f (q := 25) n_84_5 rfl rfl (nI_ge (a := i) (b := 20) (by omega) (by omega)) ?_
    refine pw_aload_n n_84_8 rfl rfl ?_
    refine pw_getf (a := 151) n_84_9 fl_7_13 (by decide) (rdR sh_R_owner) rfl ?_
    refine pw_iload_n n_84_12 rfl rfl ?_
    refine pw_iald (a := cM 1) n_84_13 (nI_pos (by omega)) (nI_clamp (by omega)) (rdM (sh_M_owner i (by omega)) (by decide)) rfl ?_
    refine pw_if_ne (q := 19) n_84_14 rfl rfl (fun h1 => ?_) (fun h1 => ?_)
    ·
      refine pw_iinc (v := nI (i + 1)) (l := [some (.ref 152), some (.int (nI (i + 1)))]) n_84_19 rfl (nI_inc i) rfl rfl ?_
      refine pw_goto (q := 2) n_84_22 rfl ?_
      rw [show ffst (fun p => decide (M 51 p 0 = 0)) (n + 1) i = ffst (fun p => decide (M 51 p 0 = 0)) n (i + 1) from by first | contradiction | simp [ffst, h1, bI_t, bI_f, nI_add1, gup_k, eSet_k, eClr_k, hSet_k, hClr_k, qSet_k, qCls_k]]
      exact ih (i + 1) (by omega)
    ·
      refine pw_iload_n n_84_17 rfl rfl ?_
      exact pw_ireturn (ty := .int) n_84_18 rfl rfl (by first | contradiction | simp [ffst, h1, (Classical.not_not.mp h1), bI_t, bI_f, nI_add1, gup_k, eSet_k, eClr_k, hSet_k, hClr_k, qSet_k, qCls_k])
set_option maxRecDepth 100000 in
set_option maxHeartbeats 4000000 in
theorem w_84 {X M : gS}   (d : Nat) : pm_Call (d + 1) 84 [.ref 152] (gE X M) (some (.int (mFpg M)), gE X M) := by
  refine pw_start (d := d) (l := [some (.ref 152), none]) (Nat.le_of_ble_eq_true rfl) rfl ?_
  refine pw_iconst n_84_0 ic_0 rfl ?_
  refine pw_istore_n (l := [some (.ref 152), some (.int 0)]) n_84_1 rfl rfl ?_
  exact L_84_2  _ 20 0 (by omega)
set_option maxRecDepth 100000 in
set_option maxHeartbeats 4000000 in
theorem L_85_2 {X M : gS} {a : Nat} (ha : a < 5)  (d : Nat) : ∀ n i : Nat, i + n = 6 → pw none (d) 85 2 [some (.ref 152), some (.int (nI a)), some (.int (nI i))] [] (gE X M) (some (.int (ffst (fun r => decide (M 53 (6 * a + r) 0 = 0)) n i)), gE X M) := by
  intro n
  induction n with
  | zero =>
    intro i hi
    obtain rfl : i = 6 := by omega
    refine pw_iload_n n_85_2 rfl rfl ?_
    refine pw_bipush n_85_3 bc_6 rfl ?_
    refine pw_icmp_ge_t (q := 30) n_85_5 rfl (nI_le (a := 6) (b := 6) (by omega) (by omega)) ?_
    refine pw_iconst n_85_30 ic_m1 rfl ?_
    exact pw_ireturn (ty := .int) n_85_31 rfl rfl (by first | contradiction | simp [ffst, bI_t, bI_f, nI_add1, gup_k, eSet_k, eClr_k, hSet_k, hClr_k, qSet_k, qCls_k])
  | succ n ih =>
    intro i hi
    refine pw_iload_n n_85_2 rfl rfl ?_
    refine pw_bipush n_85_3 bc_6 rfl ?_
    refine pw_icmp_ge_f (q := 30) n_85_5 rfl rfl (nI_ge (a := i) (b := 6) (by omega) (by omega)) ?_
    refine pw_aload_n n_85_8 rfl rfl ?_
    refine pw_getf (a := 151) n_85_9 fl_7_19 (by decide) (rdR sh_R_target) rfl ?_
    refine pw_bipush n_85_12 bc_6 rfl ?_
    refine pw_iload_n n_85_14 rfl rfl ?_
    refine pw_imul n_85_15 rfl (pw_top (nJ_mul 6 a) ?_)
    refine pw_iload_n n_85_16 rfl rfl ?_
    refine pw_iadd n_85_17 rfl (pw_top (nJ_add (6 * a) i) ?_)
    refine pw_iald (a := cM 3) n_85_18 (nI_pos (by omega)) (nI_clamp (by omega)) (rdM (sh_M_target ((6 * a) + i) (by omega)) (by decide)) rfl ?_
    refine pw_if_ne (q := 24) n_85_19 rfl rfl (fun h1 => ?_) (fun h1 => ?_)
    ·
      refine pw_iinc (v := nI (i + 1)) (l := [some (.ref 152), some (.int (nI a)), some (.int (nI (i + 1)))]) n_85_24 rfl (nI_inc i) rfl rfl ?_
      refine pw_goto (q := 2) n_85_27 rfl ?_
      rw [show ffst (fun r => decide (M 53 (6 * a + r) 0 = 0)) (n + 1) i = ffst (fun r => decide (M 53 (6 * a + r) 0 = 0)) n (i + 1) from by first | contradiction | simp [ffst, h1, bI_t, bI_f, nI_add1, gup_k, eSet_k, eClr_k, hSet_k, hClr_k, qSet_k, qCls_k]]
      exact ih (i + 1) (by omega)
    ·
      refine pw_iload_n n_85_22 rfl rfl ?_
      exact pw_ireturn (ty := .int) n_85_23 rfl rfl (by first | contradiction | simp [ffst, h1, (Classical.not_not.mp h1), bI_t, bI_f, nI_add1, gup_k, eSet_k, eClr_k, hSet_k, hClr_k, qSet_k, qCls_k])
set_option maxRecDepth 100000 in
set_option maxHeartbeats 4000000 in
theorem w_85 {X M : gS} {a : Nat} (ha : a < 5) (d : Nat) : pm_Call (d + 1) 85 [.ref 152, .int (nI a)] (gE X M) (some (.int (mFe M a)), gE X M) := by
  refine pw_start (d := d) (l := [some (.ref 152), some (.int (nI a)), none]) (Nat.le_of_ble_eq_true rfl) rfl ?_
  refine pw_iconst n_85_0 ic_0 rfl ?_
  refine pw_istore_n (l := [some (.ref 152), some (.int (nI a)), some (.int 0)]) n_85_1 rfl rfl ?_
  exact L_85_2 ha _ 6 0 (by omega)
set_option maxRecDepth 100000 in
set_option maxHeartbeats 4000000 in
theorem L_86_2 {X M : gS} {a : Nat} (ha : a < 5)  (d : Nat) : ∀ n i : Nat, i + n = 5 → pw none (d) 86 2 [some (.ref 152), some (.int (nI a)), some (.int (nI i))] [] (gE X M) (some (.int (ffst (fun r => decide (M 56 (5 * a + r) 0 = 0)) n i)), gE X M) := by
  intro n
  induction n with
  | zero =>
    intro i hi
    obtain rfl : i = 5 := by omega
    refine pw_iload_n n_86_2 rfl rfl ?_
    refine pw_iconst n_86_3 ic_5 rfl ?_
    refine pw_icmp_ge_t (q := 28) n_86_4 rfl (nI_le (a := 5) (b := 5) (by omega) (by omega)) ?_
    refine pw_iconst n_86_28 ic_m1 rfl ?_
    exact pw_ireturn (ty := .int) n_86_29 rfl rfl (by first | contradiction | simp [ffst, bI_t, bI_f, nI_add1, gup_k, eSet_k, eClr_k, hSet_k, hClr_k, qSet_k, qCls_k])
  | succ n ih =>
    intro i hi
    refine pw_iload_n n_86_2 rfl rfl ?_
    refine pw_iconst n_86_3 ic_5 rfl ?_
    refine pw_icmp_ge_f (q := 28) n_86_4 rfl rfl (nI_ge (a := i) (b := 5) (by omega) (by omega)) ?_
    refine pw_aload_n n_86_7 rfl rfl ?_
    refine pw_getf (a := 151) n_86_8 fl_7_28 (by decide) (rdR sh_R_mapped) rfl ?_
    refine pw_iconst n_86_11 ic_5 rfl ?_
    refine pw_iload_n n_86_12 rfl rfl ?_
    refine pw_imul n_86_13 rfl (pw_top (nJ_mul 5 a) ?_)
    refine pw_iload_n n_86_14 rfl rfl ?_
    refine pw_iadd n_86_15 rfl (pw_top (nJ_add (5 * a) i) ?_)
    refine pw_iald (a := cM 6) n_86_16 (nI_pos (by omega)) (nI_clamp (by omega)) (rdM (sh_M_mapped ((5 * a) + i) (by omega)) (by decide)) rfl ?_
    refine pw_if_ne (q := 22) n_86_17 rfl rfl (fun h1 => ?_) (fun h1 => ?_)
    ·
      refine pw_iinc (v := nI (i + 1)) (l := [some (.ref 152), some (.int (nI a)), some (.int (nI (i + 1)))]) n_86_22 rfl (nI_inc i) rfl rfl ?_
      refine pw_goto (q := 2) n_86_25 rfl ?_
      rw [show ffst (fun r => decide (M 56 (5 * a + r) 0 = 0)) (n + 1) i = ffst (fun r => decide (M 56 (5 * a + r) 0 = 0)) n (i + 1) from by first | contradiction | simp [ffst, h1, bI_t, bI_f, nI_add1, gup_k, eSet_k, eClr_k, hSet_k, hClr_k, qSet_k, qCls_k]]
      exact ih (i + 1) (by omega)
    ·
      refine pw_iload_n n_86_20 rfl rfl ?_
      exact pw_ireturn (ty := .int) n_86_21 rfl rfl (by first | contradiction | simp [ffst, h1, (Classical.not_not.mp h1), bI_t, bI_f, nI_add1, gup_k, eSet_k, eClr_k, hSet_k, hClr_k, qSet_k, qCls_k])
set_option maxRecDepth 100000 in
set_option maxHeartbeats 4000000 in
theorem w_86 {X M : gS} {a : Nat} (ha : a < 5) (d : Nat) : pm_Call (d + 1) 86 [.ref 152, .int (nI a)] (gE X M) (some (.int (mFh M a)), gE X M) := by
  refine pw_start (d := d) (l := [some (.ref 152), some (.int (nI a)), none]) (Nat.le_of_ble_eq_true rfl) rfl ?_
  refine pw_iconst n_86_0 ic_0 rfl ?_
  refine pw_istore_n (l := [some (.ref 152), some (.int (nI a)), some (.int 0)]) n_86_1 rfl rfl ?_
  exact L_86_2 ha _ 5 0 (by omega)
set_option maxRecDepth 100000 in
set_option maxHeartbeats 4000000 in
theorem L_87_2 {X M : gS} {a : Nat} (ha : a < 5)  (d : Nat) : ∀ n i : Nat, i + n = 4 → pw none (d) 87 2 [some (.ref 152), some (.int (nI a)), some (.int (nI i))] [] (gE X M) (some (.int (ffst (fun r => decide (M 58 (4 * a + r) 0 = 0)) n i)), gE X M) := by
  intro n
  induction n with
  | zero =>
    intro i hi
    obtain rfl : i = 4 := by omega
    refine pw_iload_n n_87_2 rfl rfl ?_
    refine pw_iconst n_87_3 ic_4 rfl ?_
    refine pw_icmp_ge_t (q := 28) n_87_4 rfl (nI_le (a := 4) (b := 4) (by omega) (by omega)) ?_
    refine pw_iconst n_87_28 ic_m1 rfl ?_
    exact pw_ireturn (ty := .int) n_87_29 rfl rfl (by first | contradiction | simp [ffst, bI_t, bI_f, nI_add1, gup_k, eSet_k, eClr_k, hSet_k, hClr_k, qSet_k, qCls_k])
  | succ n ih =>
    intro i hi
    refine pw_iload_n n_87_2 rfl rfl ?_
    refine pw_iconst n_87_3 ic_4 rfl ?_
    refine pw_icmp_ge_f (q := 28) n_87_4 rfl rfl (nI_ge (a := i) (b := 4) (by omega) (by omega)) ?_
    refine pw_aload_n n_87_7 rfl rfl ?_
    refine pw_getf (a := 151) n_87_8 fl_7_35 (by decide) (rdR sh_R_port) rfl ?_
    refine pw_iconst n_87_11 ic_4 rfl ?_
    refine pw_iload_n n_87_12 rfl rfl ?_
    refine pw_imul n_87_13 rfl (pw_top (nJ_mul 4 a) ?_)
    refine pw_iload_n n_87_14 rfl rfl ?_
    refine pw_iadd n_87_15 rfl (pw_top (nJ_add (4 * a) i) ?_)
    refine pw_iald (a := cM 8) n_87_16 (nI_pos (by omega)) (nI_clamp (by omega)) (rdM (sh_M_port ((4 * a) + i) (by omega)) (by decide)) rfl ?_
    refine pw_if_ne (q := 22) n_87_17 rfl rfl (fun h1 => ?_) (fun h1 => ?_)
    ·
      refine pw_iinc (v := nI (i + 1)) (l := [some (.ref 152), some (.int (nI a)), some (.int (nI (i + 1)))]) n_87_22 rfl (nI_inc i) rfl rfl ?_
      refine pw_goto (q := 2) n_87_25 rfl ?_
      rw [show ffst (fun r => decide (M 58 (4 * a + r) 0 = 0)) (n + 1) i = ffst (fun r => decide (M 58 (4 * a + r) 0 = 0)) n (i + 1) from by first | contradiction | simp [ffst, h1, bI_t, bI_f, nI_add1, gup_k, eSet_k, eClr_k, hSet_k, hClr_k, qSet_k, qCls_k]]
      exact ih (i + 1) (by omega)
    ·
      refine pw_iload_n n_87_20 rfl rfl ?_
      exact pw_ireturn (ty := .int) n_87_21 rfl rfl (by first | contradiction | simp [ffst, h1, (Classical.not_not.mp h1), bI_t, bI_f, nI_add1, gup_k, eSet_k, eClr_k, hSet_k, hClr_k, qSet_k, qCls_k])
set_option maxRecDepth 100000 in
set_option maxHeartbeats 4000000 in
theorem w_87 {X M : gS} {a : Nat} (ha : a < 5) (d : Nat) : pm_Call (d + 1) 87 [.ref 152, .int (nI a)] (gE X M) (some (.int (mFq M a)), gE X M) := by
  refine pw_start (d := d) (l := [some (.ref 152), some (.int (nI a)), none]) (Nat.le_of_ble_eq_true rfl) rfl ?_
  refine pw_iconst n_87_0 ic_0 rfl ?_
  refine pw_istore_n (l := [some (.ref 152), some (.int (nI a)), some (.int 0)]) n_87_1 rfl rfl ?_
  exact L_87_2 ha _ 4 0 (by omega)
set_option maxRecDepth 100000 in
set_option maxHeartbeats 4000000 in
theorem L_88_4 {X M : gS} {e : Nat} (he : e < 30)  (d : Nat) {r : pm_R} : ∀ (n i : Nat) (c : Int32), i + n = 25 → pw none (d) 88 36 [some (.ref 152), some (.int (nI e)), some (.int (cntb (fun h => decide (M 56 h 0 = nI (e + 1))) n i c)), some (.int (nI 25))] [] (gE X M) r → pw none (d) 88 4 [some (.ref 152), some (.int (nI e)), some (.int c), some (.int (nI i))] [] (gE X M) r := by
  intro n
  induction n with
  | zero =>
    intro i c hi hk
    obtain rfl : i = 25 := by omega
    refine pw_iload_n n_88_4 rfl rfl ?_
    refine pw_bipush n_88_5 bc_25 rfl ?_
    refine pw_icmp_ge_t (q := 36) n_88_7 rfl (nI_le (a := 25) (b := 25) (by omega) (by omega)) ?_
    exact hk
  | succ n ih =>
    intro i c hi hk
    refine pw_iload_n n_88_4 rfl rfl ?_
    refine pw_bipush n_88_5 bc_25 rfl ?_
    refine pw_icmp_ge_f (q := 36) n_88_7 rfl rfl (nI_ge (a := i) (b := 25) (by omega) (by omega)) ?_
    refine pw_iload_n n_88_10 rfl rfl ?_
    refine pw_aload_n n_88_11 rfl rfl ?_
    refine pw_getf (a := 151) n_88_12 fl_7_28 (by decide) (rdR sh_R_mapped) rfl ?_
    refine pw_iload_n n_88_15 rfl rfl ?_
    refine pw_iald (a := cM 6) n_88_16 (nI_pos (by omega)) (nI_clamp (by omega)) (rdM (sh_M_mapped i (by omega)) (by decide)) rfl ?_
    refine pw_iload_n n_88_17 rfl rfl ?_
    refine pw_iconst n_88_18 ic_1 rfl ?_
    refine pw_iadd n_88_19 rfl (pw_top (nJ_add e 1) ?_)
    refine pw_icmp_ne (q := 27) n_88_20 rfl rfl (fun h1 => ?_) (fun h1 => ?_)
    ·
      refine pw_iconst n_88_27 ic_0 rfl ?_
      refine pw_iadd n_88_28 rfl ?_
      refine pw_istore_n (l := [some (.ref 152), some (.int (nI e)), some (.int (c + 0)), some (.int (nI i))]) n_88_29 rfl rfl ?_
      refine pw_iinc (v := nI (i + 1)) (l := [some (.ref 152), some (.int (nI e)), some (.int (c + 0)), some (.int (nI (i + 1)))]) n_88_30 rfl (nI_inc i) rfl rfl ?_
      refine pw_goto (q := 4) n_88_33 rfl ?_
      have e0 : (if decide (M 56 i 0 = nI (e + 1)) = true then c + 1 else c) = c + 0 := by first | contradiction | simp [h1, bI_t, bI_f, nI_add1, gup_k, eSet_k, eClr_k, hSet_k, hClr_k, qSet_k, qCls_k]
      refine ih (i + 1) (c + 0) (by omega) ?_
      rw [← e0]
      exact hk
    ·
      refine pw_iconst n_88_23 ic_1 rfl ?_
      refine pw_goto (q := 28) n_88_24 rfl ?_
      refine pw_iadd n_88_28 rfl ?_
      refine pw_istore_n (l := [some (.ref 152), some (.int (nI e)), some (.int (c + 1)), some (.int (nI i))]) n_88_29 rfl rfl ?_
      refine pw_iinc (v := nI (i + 1)) (l := [some (.ref 152), some (.int (nI e)), some (.int (c + 1)), some (.int (nI (i + 1)))]) n_88_30 rfl (nI_inc i) rfl rfl ?_
      refine pw_goto (q := 4) n_88_33 rfl ?_
      have e0 : (if decide (M 56 i 0 = nI (e + 1)) = true then c + 1 else c) = c + 1 := by first | contradiction | simp [h1, (Classical.not_not.mp h1), bI_t, bI_f, nI_add1, gup_k, eSet_k, eClr_k, hSet_k, hClr_k, qSet_k, qCls_k]
      refine ih (i + 1) (c + 1) (by omega) ?_
      rw [← e0]
      exact hk
set_option maxRecDepth 100000 in
set_option maxHeartbeats 4000000 in
theorem w_88 {X M : gS} {e : Nat} (he : e < 30) (d : Nat) : pm_Call (d + 1) 88 [.ref 152, .int (nI e)] (gE X M) (some (.int (mMps M e)), gE X M) := by
  refine pw_start (d := d) (l := [some (.ref 152), some (.int (nI e)), none, none]) (Nat.le_of_ble_eq_true rfl) rfl ?_
  refine pw_iconst n_88_0 ic_0 rfl ?_
  refine pw_istore_n (l := [some (.ref 152), some (.int (nI e)), some (.int 0), none]) n_88_1 rfl rfl ?_
  refine pw_iconst n_88_2 ic_0 rfl ?_
  refine pw_istore_n (l := [some (.ref 152), some (.int (nI e)), some (.int 0), some (.int 0)]) n_88_3 rfl rfl ?_
  refine L_88_4 (X := X) (M := M) he _ 25 0 0 (by omega) ?_
  refine pw_iload_n n_88_36 rfl rfl ?_
  exact pw_ireturn (ty := .int) n_88_37 rfl rfl (by first | contradiction | simp [mMps, bI_t, bI_f, nI_add1, gup_k, eSet_k, eClr_k, hSet_k, hClr_k, qSet_k, qCls_k])
set_option maxRecDepth 100000 in
set_option maxHeartbeats 4000000 in
theorem L_89_6 {X M : gS} {a : Nat} {p : Int32} {b : Bool} (ha : a < 5)  (d : Nat) : ∀ n i : Nat, i + n = 6 * a + 6 → pw none (d + 1) 89 6 [some (.ref 152), some (.int (nI a)), some (.int p), some (.int (bI b)), some (.int (nI i))] [] (gE X M) (some (.int (bI (anyb (fun e => decide (0 < M 53 e 0) && decide (M 54 e 0 < 2) && decide (M 55 e 0 = p) && (!b || decide (0 < mMps M e))) n i))), gE X M) := by
  intro n
  induction n with
  | zero =>
    intro i hi
    have hi0 : i = 6 * a + 6 := by omega
    subst hi0
    refine pw_iload n_89_6 rfl rfl ?_
    refine pw_bipush n_89_8 bc_6 rfl ?_
    refine pw_iload_n n_89_10 rfl rfl ?_
    refine pw_imul n_89_11 rfl (pw_top (nJ_mul 6 a) ?_)
    refine pw_bipush n_89_12 bc_6 rfl ?_
    refine pw_iadd n_89_14 rfl (pw_top (nJ_add (6 * a) 6) ?_)
    refine pw_icmp_ge_t (q := 71) n_89_15 rfl (nI_le (a := (6 * a) + 6) (b := 6 * a + 6) (by omega) (by omega)) ?_
    refine pw_iconst n_89_71 ic_0 rfl ?_
    exact pw_ireturn (ty := .boolean) n_89_72 rfl rfl (by first | contradiction | simp [anyb, bI_t, bI_f, nI_add1, gup_k, eSet_k, eClr_k, hSet_k, hClr_k, qSet_k, qCls_k])
  | succ n ih =>
    intro i hi
    refine pw_iload n_89_6 rfl rfl ?_
    refine pw_bipush n_89_8 bc_6 rfl ?_
    refine pw_iload_n n_89_10 rfl rfl ?_
    refine pw_imul n_89_11 rfl (pw_top (nJ_mul 6 a) ?_)
    refine pw_bipush n_89_12 bc_6 rfl ?_
    refine pw_iadd n_89_14 rfl (pw_top (nJ_add (6 * a) 6) ?_)
    refine pw_icmp_ge_f (q := 71) n_89_15 rfl rfl (nI_ge (a := i) (b := (6 * a) + 6) (by omega) (by omega)) ?_
    refine pw_aload_n n_89_18 rfl rfl ?_
    refine pw_getf (a := 151) n_89_19 fl_7_19 (by decide) (rdR sh_R_target) rfl ?_
    refine pw_iload n_89_22 rfl rfl ?_
    refine pw_iald (a := cM 3) n_89_24 (nI_pos (by omega)) (nI_clamp (by omega)) (rdM (sh_M_target i (by omega)) (by decide)) rfl ?_
    refine pw_if_le (q := 65) n_89_25 rfl rfl (fun h1 => ?_) (fun h1 => ?_)
    ·
      refine pw_iinc (v := nI (i + 1)) (l := [some (.ref 152), some (.int (nI a)), some (.int p), some (.int (bI b)), some (.int (nI (i + 1)))]) n_89_65 rfl (nI_inc i) rfl rfl ?_
      refine pw_goto (q := 6) n_89_68 rfl ?_
      rw [show anyb (fun e => decide (0 < M 53 e 0) && decide (M 54 e 0 < 2) && decide (M 55 e 0 = p) && (!b || decide (0 < mMps M e))) (n + 1) i = anyb (fun e => decide (0 < M 53 e 0) && decide (M 54 e 0 < 2) && decide (M 55 e 0 = p) && (!b || decide (0 < mMps M e))) n (i + 1) from by first | contradiction | simp [anyb, h1, (i32_a h1), bI_t, bI_f, nI_add1, gup_k, eSet_k, eClr_k, hSet_k, hClr_k, qSet_k, qCls_k]]
      exact ih (i + 1) (by omega)
    ·
      refine pw_aload_n n_89_28 rfl rfl ?_
      refine pw_getf (a := 151) n_89_29 fl_7_22 (by decide) (rdR sh_R_kinds) rfl ?_
      refine pw_iload n_89_32 rfl rfl ?_
      refine pw_iald (a := cM 4) n_89_34 (nI_pos (by omega)) (nI_clamp (by omega)) (rdM (sh_M_kinds i (by omega)) (by decide)) rfl ?_
      refine pw_iconst n_89_35 ic_2 rfl ?_
      refine pw_icmp_ge (q := 65) n_89_36 rfl rfl (fun h2 => ?_) (fun h2 => ?_)
      ·
        refine pw_iinc (v := nI (i + 1)) (l := [some (.ref 152), some (.int (nI a)), some (.int p), some (.int (bI b)), some (.int (nI (i + 1)))]) n_89_65 rfl (nI_inc i) rfl rfl ?_
        refine pw_goto (q := 6) n_89_68 rfl ?_
        rw [show anyb (fun e => decide (0 < M 53 e 0) && decide (M 54 e 0 < 2) && decide (M 55 e 0 = p) && (!b || decide (0 < mMps M e))) (n + 1) i = anyb (fun e => decide (0 < M 53 e 0) && decide (M 54 e 0 < 2) && decide (M 55 e 0 = p) && (!b || decide (0 < mMps M e))) n (i + 1) from by first | contradiction | simp [anyb, h1, (i32_b h1), h2, (i32_a h2), bI_t, bI_f, nI_add1, gup_k, eSet_k, eClr_k, hSet_k, hClr_k, qSet_k, qCls_k]]
        exact ih (i + 1) (by omega)
      ·
        have h2b := tN_lt (z := (M 54 i 0)) (k := 2) (by decide) h2
        refine pw_aload_n n_89_39 rfl rfl ?_
        refine pw_getf (a := 151) n_89_40 fl_7_25 (by decide) (rdR sh_R_entryPage) rfl ?_
        refine pw_iload n_89_43 rfl rfl ?_
        refine pw_iald (a := cM 5) n_89_45 (nI_pos (by omega)) (nI_clamp (by omega)) (rdM (sh_M_entryPage i (by omega)) (by decide)) rfl ?_
        refine pw_iload_n n_89_46 rfl rfl ?_
        refine pw_icmp_ne (q := 65) n_89_47 rfl rfl (fun h3 => ?_) (fun h3 => ?_)
        ·
          refine pw_iinc (v := nI (i + 1)) (l := [some (.ref 152), some (.int (nI a)), some (.int p), some (.int (bI b)), some (.int (nI (i + 1)))]) n_89_65 rfl (nI_inc i) rfl rfl ?_
          refine pw_goto (q := 6) n_89_68 rfl ?_
          rw [show anyb (fun e => decide (0 < M 53 e 0) && decide (M 54 e 0 < 2) && decide (M 55 e 0 = p) && (!b || decide (0 < mMps M e))) (n + 1) i = anyb (fun e => decide (0 < M 53 e 0) && decide (M 54 e 0 < 2) && decide (M 55 e 0 = p) && (!b || decide (0 < mMps M e))) n (i + 1) from by first | contradiction | simp [anyb, h1, (i32_b h1), h2, (i32_b h2), h3, bI_t, bI_f, nI_add1, gup_k, eSet_k, eClr_k, hSet_k, hClr_k, qSet_k, qCls_k]]
          exact ih (i + 1) (by omega)
        ·
          refine pw_iload_n n_89_50 rfl rfl ?_
          refine pw_ifb_eq (q := 63) n_89_51 rfl rfl (fun h4 => ?_) (fun h4 => ?_)
          ·
            refine pw_iconst n_89_63 ic_1 rfl ?_
            exact pw_ireturn (ty := .boolean) n_89_64 rfl rfl (by first | contradiction | simp [anyb, h1, (i32_b h1), h2, (i32_b h2), h3, (Classical.not_not.mp h3), h4, bI_t, bI_f, nI_add1, gup_k, eSet_k, eClr_k, hSet_k, hClr_k, qSet_k, qCls_k])
          ·
            refine pw_aload_n n_89_54 rfl rfl ?_
            refine pw_iload n_89_55 rfl rfl ?_
            refine pw_virtV (a := 151) (as := [.int (nI i)]) (st := []) n_89_57 cl_7_83 ⟨rfl, rfl, rfl⟩ (sum8 rfl) (E_tg sh_R_state) rfl (w_88 (e := i) (by omega) _) ?_
            refine pw_if_le (q := 65) n_89_60 rfl rfl (fun h5 => ?_) (fun h5 => ?_)
            ·
              refine pw_iinc (v := nI (i + 1)) (l := [some (.ref 152), some (.int (nI a)), some (.int p), some (.int (bI b)), some (.int (nI (i + 1)))]) n_89_65 rfl (nI_inc i) rfl rfl ?_
              refine pw_goto (q := 6) n_89_68 rfl ?_
              rw [show anyb (fun e => decide (0 < M 53 e 0) && decide (M 54 e 0 < 2) && decide (M 55 e 0 = p) && (!b || decide (0 < mMps M e))) (n + 1) i = anyb (fun e => decide (0 < M 53 e 0) && decide (M 54 e 0 < 2) && decide (M 55 e 0 = p) && (!b || decide (0 < mMps M e))) n (i + 1) from by first | contradiction | simp [anyb, h1, (i32_b h1), h2, (i32_b h2), h3, (Classical.not_not.mp h3), h4, h5, (i32_a h5), bI_t, bI_f, nI_add1, gup_k, eSet_k, eClr_k, hSet_k, hClr_k, qSet_k, qCls_k]]
              exact ih (i + 1) (by omega)
            ·
              refine pw_iconst n_89_63 ic_1 rfl ?_
              exact pw_ireturn (ty := .boolean) n_89_64 rfl rfl (by first | contradiction | simp [anyb, h1, (i32_b h1), h2, (i32_b h2), h3, (Classical.not_not.mp h3), h4, h5, (i32_b h5), bI_t, bI_f, nI_add1, gup_k, eSet_k, eClr_k, hSet_k, hClr_k, qSet_k, qCls_k])
set_option maxRecDepth 100000 in
set_option maxHeartbeats 4000000 in
theorem w_89 {X M : gS} {a : Nat} {p : Int32} {b : Bool} (ha : a < 5) (d : Nat) : pm_Call (d + 2) 89 [.ref 152, .int (nI a), .int p, .int (bI b)] (gE X M) (some (.int (bI (mHeld M a p b))), gE X M) := by
  refine pw_start (d := d + 1) (l := [some (.ref 152), some (.int (nI a)), some (.int p), some (.int (bI b)), none]) (Nat.le_of_ble_eq_true rfl) rfl ?_
  refine pw_bipush n_89_0 bc_6 rfl ?_
  refine pw_iload_n n_89_2 rfl rfl ?_
  refine pw_imul n_89_3 rfl (pw_top (nJ_mul 6 a) ?_)
  refine pw_istore (l := [some (.ref 152), some (.int (nI a)), some (.int p), some (.int (bI b)), some (.int (nI (6 * a)))]) n_89_4 rfl rfl ?_
  exact L_89_6 ha _ 6 (6 * a) (by omega)
set_option maxRecDepth 100000 in
set_option maxHeartbeats 4000000 in
theorem L_90_2 {X M : gS}    (d : Nat) : ∀ n i : Nat, i + n = 5 → pw none (d) 90 2 [some (.ref 152), some (.int (nI i))] [] (gE X M) (some (.int ((fstS (fun d => decide (M 50 d 0 = 0)) (fun d => gup M 50 d 0 1) (-7) M n i)).1), gE X ((fstS (fun d => decide (M 50 d 0 = 0)) (fun d => gup M 50 d 0 1) (-7) M n i)).2) := by
  intro n
  induction n with
  | zero =>
    intro i hi
    obtain rfl : i = 5 := by omega
    refine pw_iload_n n_90_2 rfl rfl ?_
    refine pw_iconst n_90_3 ic_5 rfl ?_
    refine pw_icmp_ge_t (q := 31) n_90_4 rfl (nI_le (a := 5) (b := 5) (by omega) (by omega)) ?_
    refine pw_bipush n_90_31 bc_m7 rfl ?_
    exact pw_ireturn (ty := .int) n_90_33 rfl rfl (by first | contradiction | simp [fstS, bI_t, bI_f, nI_add1, gup_k, eSet_k, eClr_k, hSet_k, hClr_k, qSet_k, qCls_k])
  | succ n ih =>
    intro i hi
    refine pw_iload_n n_90_2 rfl rfl ?_
    refine pw_iconst n_90_3 ic_5 rfl ?_
    refine pw_icmp_ge_f (q := 31) n_90_4 rfl rfl (nI_ge (a := i) (b := 5) (by omega) (by omega)) ?_
    refine pw_aload_n n_90_7 rfl rfl ?_
    refine pw_getf (a := 151) n_90_8 fl_7_7 (by decide) (rdR sh_R_state) rfl ?_
    refine pw_iload_n n_90_11 rfl rfl ?_
    refine pw_iald (a := cM 0) n_90_12 (nI_pos (by omega)) (nI_clamp (by omega)) (rdM (sh_M_state i (by omega)) (by decide)) rfl ?_
    refine pw_if_ne (q := 25) n_90_13 rfl rfl (fun h1 => ?_) (fun h1 => ?_)
    ·
      refine pw_iinc (v := nI (i + 1)) (l := [some (.ref 152), some (.int (nI (i + 1)))]) n_90_25 rfl (nI_inc i) rfl rfl ?_
      refine pw_goto (q := 2) n_90_28 rfl ?_
      rw [show fstS (fun d => decide (M 50 d 0 = 0)) (fun d => gup M 50 d 0 1) (-7) M (n + 1) i = fstS (fun d => decide (M 50 d 0 = 0)) (fun d => gup M 50 d 0 1) (-7) M n (i + 1) from by first | contradiction | simp [fstS, h1, bI_t, bI_f, nI_add1, gup_k, eSet_k, eClr_k, hSet_k, hClr_k, qSet_k, qCls_k]]
      exact ih (i + 1) (by omega)
    ·
      refine pw_aload_n n_90_16 rfl rfl ?_
      refine pw_getf (a := 151) n_90_17 fl_7_7 (by decide) (rdR sh_R_state) rfl ?_
      refine pw_iload_n n_90_20 rfl rfl ?_
      refine pw_iconst n_90_21 ic_1 rfl ?_
      refine pw_iast (a := cM 0) n_90_22 (nI_pos (by omega)) (nI_clamp (by omega)) (wrM (sh_M_state i (by omega)) (by decide)) rfl ?_
      refine pw_iload_n n_90_23 rfl rfl ?_
      exact pw_ireturn (ty := .int) n_90_24 rfl rfl (by first | contradiction | simp [fstS, h1, (Classical.not_not.mp h1), bI_t, bI_f, nI_add1, gup_k, eSet_k, eClr_k, hSet_k, hClr_k, qSet_k, qCls_k])
set_option maxRecDepth 100000 in
set_option maxHeartbeats 4000000 in
theorem w_90 {X M : gS}   (d : Nat) : pm_Call (d + 1) 90 [.ref 152] (gE X M) (some (.int ((mCreate M).1)), gE X ((mCreate M).2)) := by
  refine pw_start (d := d) (l := [some (.ref 152), none]) (Nat.le_of_ble_eq_true rfl) rfl ?_
  refine pw_iconst n_90_0 ic_0 rfl ?_
  refine pw_istore_n (l := [some (.ref 152), some (.int 0)]) n_90_1 rfl rfl ?_
  exact L_90_2  _ 5 0 (by omega)
set_option maxRecDepth 100000 in
set_option maxHeartbeats 4000000 in
theorem w_91 {X M : gS} {h : Nat} {e : Nat} (hh : h < 25) (hm : M 56 h 0 = nI (e + 1)) (he : e < 30) (p0 : ¬ M 55 e 0 < 0) (p1 : tN (M 55 e 0) < 20) (d : Nat) : pm_Call (d + 3) 91 [.ref 152, .int (nI h)] (gE X M) (none, gE X (mTk M h e)) := by
  refine pw_start (d := d + 2) (l := [some (.ref 152), some (.int (nI h)), none, none]) (Nat.le_of_ble_eq_true rfl) rfl ?_
  refine pw_aload_n n_91_0 rfl rfl ?_
  refine pw_getf (a := 151) n_91_1 fl_7_28 (by decide) (rdR sh_R_mapped) rfl ?_
  refine pw_iload_n n_91_4 rfl rfl ?_
  refine pw_iald (a := cM 6) n_91_5 (nI_pos (by omega)) (nI_clamp (by omega)) (rdM (sh_M_mapped h (by omega)) (by decide)) rfl ?_
  refine pw_iconst n_91_6 ic_1 rfl ?_
  refine pw_isub n_91_7 rfl ?_
  refine pw_top (y := nI e) (by rw [hm]; exact nI_pred e) ?_
  refine pw_istore_n (l := [some (.ref 152), some (.int (nI h)), some (.int (nI e)), none]) n_91_8 rfl rfl ?_
  refine pw_aload_n n_91_9 rfl rfl ?_
  refine pw_getf (a := 151) n_91_10 fl_7_28 (by decide) (rdR sh_R_mapped) rfl ?_
  refine pw_iload_n n_91_13 rfl rfl ?_
  refine pw_iconst n_91_14 ic_0 rfl ?_
  refine pw_iast (a := cM 6) n_91_15 (nI_pos (by omega)) (nI_clamp (by omega)) (wrM (sh_M_mapped h (by omega)) (by decide)) rfl ?_
  refine pw_iload_n n_91_16 rfl rfl ?_
  refine pw_bipush n_91_17 bc_6 rfl ?_
  refine pw_idiv n_91_19 (by decide) rfl ?_
  refine pw_top (y := nI (e / 6)) (nI_div6 he) ?_
  refine pw_istore_n (l := [some (.ref 152), some (.int (nI h)), some (.int (nI e)), some (.int (nI (e / 6)))]) n_91_20 rfl rfl ?_
  refine pw_aload_n n_91_21 rfl rfl ?_
  refine pw_getf (a := 151) n_91_22 fl_7_7 (by decide) (rdR sh_R_state) rfl ?_
  refine pw_iload_n n_91_25 rfl rfl ?_
  refine pw_iald (v := .int (M 50 (e / 6) 0)) (a := cM 0) n_91_26 (nI_pos (by omega)) (nI_clamp (by omega)) (rdM (sh_M_state (e / 6) (by omega)) (by decide)) rfl ?_
  refine pw_iconst n_91_27 ic_2 rfl ?_
  refine pw_icmp_ne (q := 39) n_91_28 rfl rfl (fun h1 => ?_) (fun h1 => ?_)
  ·
    exact pw_return n_91_39 rfl (by first | contradiction | simp [mTk, mTk2, mTk3, mTk0, h1, bI_t, bI_f, nI_add1, gup_k, eSet_k, eClr_k, hSet_k, hClr_k, qSet_k, qCls_k])
  ·
    refine pw_aload_n n_91_31 rfl rfl ?_
    refine pw_iload_n n_91_32 rfl rfl ?_
    refine pw_virtV (a := 151) (as := [.int (nI e)]) (st := []) n_91_33 cl_7_83 ⟨rfl, rfl, rfl⟩ (sum8 rfl) (E_tg sh_R_state) rfl (w_88 (e := e) (by omega) _) ?_
    refine pw_if_le (q := 40) n_91_36 rfl rfl (fun h2 => ?_) (fun h2 => ?_)
    ·
      refine pw_aload_n n_91_40 rfl rfl ?_
      refine pw_getf (a := 151) n_91_41 fl_7_19 (by decide) (rdR sh_R_target) rfl ?_
      refine pw_iload_n n_91_44 rfl rfl ?_
      refine pw_iconst n_91_45 ic_0 rfl ?_
      refine pw_iast (a := cM 3) n_91_46 (nI_pos (by omega)) (nI_clamp (by omega)) (wrM (sh_M_target e (by omega)) (by decide)) rfl ?_
      refine pw_aload_n n_91_47 rfl rfl ?_
      refine pw_iload_n n_91_48 rfl rfl ?_
      refine pw_aload_n n_91_49 rfl rfl ?_
      refine pw_getf (a := 151) n_91_50 fl_7_25 (by decide) (rdR sh_R_entryPage) rfl ?_
      refine pw_iload_n n_91_53 rfl rfl ?_
      refine pw_iald (v := .int (M 55 e 0)) (a := cM 5) n_91_54 (nI_pos (by omega)) (nI_clamp (by omega)) (rdM (sh_M_entryPage e (by omega)) (by decide)) rfl ?_
      refine pw_iconst n_91_55 ic_1 rfl ?_
      refine pw_virtV (a := 151) (as := [.int (nI (e / 6)), .int (M 55 e 0), .int 1]) (st := []) n_91_56 cl_7_87 ⟨rfl, rfl, rfl⟩ (sum8 rfl) (E_tg sh_R_state) rfl (w_89 (a := (e / 6)) (p := (M 55 e 0)) (b := true) (by omega) _) ?_
      refine pw_ifb_ne (q := 74) n_91_59 rfl rfl (fun h3 => ?_) (fun h3 => ?_)
      ·
        refine pw_aload_n n_91_74 rfl rfl ?_
        refine pw_iload_n n_91_75 rfl rfl ?_
        refine pw_virtV (a := 151) (as := [.int (nI (e / 6))]) (st := []) n_91_76 cl_7_91 ⟨rfl, rfl, rfl⟩ (sum8 rfl) (E_tg sh_R_state) rfl (w_83 (x := (nI (e / 6))) _) ?_
        refine pw_if_ne (q := 89) n_91_79 rfl rfl (fun h4 => ?_) (fun h4 => ?_)
        ·
          exact pw_return n_91_89 rfl (by first | contradiction | simp [mTk, mTk2, mTk3, mTk0, h1, (Classical.not_not.mp h1), h2, (i32_a h2), h3, h4, bI_t, bI_f, nI_add1, gup_k, eSet_k, eClr_k, hSet_k, hClr_k, qSet_k, qCls_k])
        ·
          refine pw_aload_n n_91_82 rfl rfl ?_
          refine pw_getf (a := 151) n_91_83 fl_7_7 (by decide) (rdR sh_R_state) rfl ?_
          refine pw_iload_n n_91_86 rfl rfl ?_
          refine pw_iconst n_91_87 ic_0 rfl ?_
          refine pw_iast (a := cM 0) n_91_88 (nI_pos (by omega)) (nI_clamp (by omega)) (wrM (sh_M_state (e / 6) (by omega)) (by decide)) rfl ?_
          exact pw_return n_91_89 rfl (by first | contradiction | simp [mTk, mTk2, mTk3, mTk0, h1, (Classical.not_not.mp h1), h2, (i32_a h2), h3, h4, (Classical.not_not.mp h4), bI_t, bI_f, nI_add1, gup_k, eSet_k, eClr_k, hSet_k, hClr_k, qSet_k, qCls_k])
      ·
        refine pw_aload_n n_91_62 rfl rfl ?_
        refine pw_getf (a := 151) n_91_63 fl_7_13 (by decide) (rdR sh_R_owner) rfl ?_
        refine pw_aload_n n_91_66 rfl rfl ?_
        refine pw_getf (a := 151) n_91_67 fl_7_25 (by decide) (rdR sh_R_entryPage) rfl ?_
        refine pw_iload_n n_91_70 rfl rfl ?_
        refine pw_iald (v := .int (M 55 e 0)) (a := cM 5) n_91_71 (nI_pos (by omega)) (nI_clamp (by omega)) (rdM (sh_M_entryPage e (by omega)) (by decide)) rfl ?_
        refine pw_iconst n_91_72 ic_0 rfl ?_
        refine pw_iast (a := cM 1) n_91_73 (by assumption) rfl (wrM (sh_M_owner (tN (M 55 e 0)) (by omega)) (by decide)) rfl ?_
        refine pw_aload_n n_91_74 rfl rfl ?_
        refine pw_iload_n n_91_75 rfl rfl ?_
        refine pw_virtV (a := 151) (as := [.int (nI (e / 6))]) (st := []) n_91_76 cl_7_91 ⟨rfl, rfl, rfl⟩ (sum8 rfl) (E_tg sh_R_state) rfl (w_83 (x := (nI (e / 6))) _) ?_
        refine pw_if_ne (q := 89) n_91_79 rfl rfl (fun h5 => ?_) (fun h5 => ?_)
        ·
          exact pw_return n_91_89 rfl (by first | contradiction | simp [mTk, mTk2, mTk3, mTk0, h1, (Classical.not_not.mp h1), h2, (i32_a h2), h3, h5, bI_t, bI_f, nI_add1, gup_k, eSet_k, eClr_k, hSet_k, hClr_k, qSet_k, qCls_k])
        ·
          refine pw_aload_n n_91_82 rfl rfl ?_
          refine pw_getf (a := 151) n_91_83 fl_7_7 (by decide) (rdR sh_R_state) rfl ?_
          refine pw_iload_n n_91_86 rfl rfl ?_
          refine pw_iconst n_91_87 ic_0 rfl ?_
          refine pw_iast (a := cM 0) n_91_88 (nI_pos (by omega)) (nI_clamp (by omega)) (wrM (sh_M_state (e / 6) (by omega)) (by decide)) rfl ?_
          exact pw_return n_91_89 rfl (by first | contradiction | simp [mTk, mTk2, mTk3, mTk0, h1, (Classical.not_not.mp h1), h2, (i32_a h2), h3, h5, (Classical.not_not.mp h5), bI_t, bI_f, nI_add1, gup_k, eSet_k, eClr_k, hSet_k, hClr_k, qSet_k, qCls_k])
    ·
      exact pw_return n_91_39 rfl (by first | contradiction | simp [mTk, mTk2, mTk3, mTk0, h1, (Classical.not_not.mp h1), h2, (i32_b h2), bI_t, bI_f, nI_add1, gup_k, eSet_k, eClr_k, hSet_k, hClr_k, qSet_k, qCls_k])
set_option maxRecDepth 100000 in
set_option maxHeartbeats 4000000 in
theorem w_92 {X M : gS} {k : Nat} (hk : k < 20) (d : Nat) : pm_Call (d + 1) 92 [.ref 152, .int (nI k)] (gE X M) (none, gE X (mCls M k)) := by
  refine pw_start (d := d) (l := [some (.ref 152), some (.int (nI k))]) (Nat.le_of_ble_eq_true rfl) rfl ?_
  refine pw_aload_n n_92_0 rfl rfl ?_
  refine pw_getf (a := 151) n_92_1 fl_7_35 (by decide) (rdR sh_R_port) rfl ?_
  refine pw_iload_n n_92_4 rfl rfl ?_
  refine pw_iconst n_92_5 ic_0 rfl ?_
  refine pw_iast (a := cM 8) n_92_6 (nI_pos (by omega)) (nI_clamp (by omega)) (wrM (sh_M_port k (by omega)) (by decide)) rfl ?_
  refine pw_aload_n n_92_7 rfl rfl ?_
  refine pw_getf (a := 151) n_92_8 fl_7_41 (by decide) (rdR sh_R_pending) rfl ?_
  refine pw_iload_n n_92_11 rfl rfl ?_
  refine pw_iconst n_92_12 ic_0 rfl ?_
  refine pw_zast (a := cM 10) n_92_13 (nI_pos (by omega)) (nI_clamp (by omega)) rfl (wrM (sh_M_pending k (by omega)) (by decide)) rfl ?_
  exact pw_return n_92_14 rfl (by first | contradiction | simp [mCls, bI_t, bI_f, nI_add1, gup_k, eSet_k, eClr_k, hSet_k, hClr_k, qSet_k, qCls_k])
