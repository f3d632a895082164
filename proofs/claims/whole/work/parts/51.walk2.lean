set_option maxRecDepth 100000 in
set_option maxHeartbeats 4000000 in
theorem w_21 {X M : gS} {x : Int32}  (d : Nat) : pm_Call (d + 1) 21 [.int x] (gE X M) (some (.int (bI (xDom x))), gE X M) := by
  refine pw_start (d := d) (l := [some (.int x)]) (Nat.le_of_ble_eq_true rfl) rfl ?_
  refine pw_iload_n n_21_0 rfl rfl ?_
  refine pw_if_lt (q := 13) n_21_1 rfl rfl (fun h1 => ?_) (fun h1 => ?_)
  ·
    refine pw_iconst n_21_13 ic_0 rfl ?_
    exact pw_ireturn (ty := .boolean) n_21_14 rfl rfl (by first | (simp [xDom, h1, (i32_c h1), bI_t, bI_f, nI_add1, gup_k, eSet_k, eClr_k, hSet_k, hClr_k, qSet_k, qCls_k]; done) | contradiction)
  ·
    refine pw_iload_n n_21_4 rfl rfl ?_
    refine pw_iconst n_21_5 ic_5 rfl ?_
    refine pw_icmp_ge (q := 13) n_21_6 rfl rfl (fun h2 => ?_) (fun h2 => ?_)
    ·
      refine pw_iconst n_21_13 ic_0 rfl ?_
      exact pw_ireturn (ty := .boolean) n_21_14 rfl rfl (by first | (simp [xDom, h1, (i32_d h1), h2, (i32_a h2), bI_t, bI_f, nI_add1, gup_k, eSet_k, eClr_k, hSet_k, hClr_k, qSet_k, qCls_k]; done) | contradiction)
    ·
      have h2b := tN_lt (z := x) (k := 5) (by decide) h2
      refine pw_iconst n_21_9 ic_1 rfl ?_
      refine pw_goto (q := 14) n_21_10 rfl ?_
      exact pw_ireturn (ty := .boolean) n_21_14 rfl rfl (by first | (simp [xDom, h1, (i32_d h1), h2, (i32_b h2), bI_t, bI_f, nI_add1, gup_k, eSet_k, eClr_k, hSet_k, hClr_k, qSet_k, qCls_k]; done) | contradiction)
set_option maxRecDepth 100000 in
set_option maxHeartbeats 4000000 in
theorem w_23 {X M : gS} {x : Int32}  (d : Nat) : pm_Call (d + 1) 23 [.int x] (gE X M) (some (.int (bI (xPag x))), gE X M) := by
  refine pw_start (d := d) (l := [some (.int x)]) (Nat.le_of_ble_eq_true rfl) rfl ?_
  refine pw_iload_n n_23_0 rfl rfl ?_
  refine pw_if_lt (q := 14) n_23_1 rfl rfl (fun h1 => ?_) (fun h1 => ?_)
  ·
    refine pw_iconst n_23_14 ic_0 rfl ?_
    exact pw_ireturn (ty := .boolean) n_23_15 rfl rfl (by first | (simp [xPag, h1, (i32_c h1), bI_t, bI_f, nI_add1, gup_k, eSet_k, eClr_k, hSet_k, hClr_k, qSet_k, qCls_k]; done) | contradiction)
  ·
    refine pw_iload_n n_23_4 rfl rfl ?_
    refine pw_bipush n_23_5 bc_20 rfl ?_
    refine pw_icmp_ge (q := 14) n_23_7 rfl rfl (fun h2 => ?_) (fun h2 => ?_)
    ·
      refine pw_iconst n_23_14 ic_0 rfl ?_
      exact pw_ireturn (ty := .boolean) n_23_15 rfl rfl (by first | (simp [xPag, h1, (i32_d h1), h2, (i32_a h2), bI_t, bI_f, nI_add1, gup_k, eSet_k, eClr_k, hSet_k, hClr_k, qSet_k, qCls_k]; done) | contradiction)
    ·
      have h2b := tN_lt (z := x) (k := 20) (by decide) h2
      refine pw_iconst n_23_10 ic_1 rfl ?_
      refine pw_goto (q := 15) n_23_11 rfl ?_
      exact pw_ireturn (ty := .boolean) n_23_15 rfl rfl (by first | (simp [xPag, h1, (i32_d h1), h2, (i32_b h2), bI_t, bI_f, nI_add1, gup_k, eSet_k, eClr_k, hSet_k, hClr_k, qSet_k, qCls_k]; done) | contradiction)
set_option maxRecDepth 100000 in
set_option maxHeartbeats 4000000 in
theorem w_24 {X M : gS} {x : Int32}  (d : Nat) : pm_Call (d + 1) 24 [.int x] (gE X M) (some (.int (bI (xPrt x))), gE X M) := by
  refine pw_start (d := d) (l := [some (.int x)]) (Nat.le_of_ble_eq_true rfl) rfl ?_
  refine pw_iload_n n_24_0 rfl rfl ?_
  refine pw_if_lt (q := 13) n_24_1 rfl rfl (fun h1 => ?_) (fun h1 => ?_)
  ·
    refine pw_iconst n_24_13 ic_0 rfl ?_
    exact pw_ireturn (ty := .boolean) n_24_14 rfl rfl (by first | (simp [xPrt, h1, (i32_c h1), bI_t, bI_f, nI_add1, gup_k, eSet_k, eClr_k, hSet_k, hClr_k, qSet_k, qCls_k]; done) | contradiction)
  ·
    refine pw_iload_n n_24_4 rfl rfl ?_
    refine pw_iconst n_24_5 ic_4 rfl ?_
    refine pw_icmp_ge (q := 13) n_24_6 rfl rfl (fun h2 => ?_) (fun h2 => ?_)
    ·
      refine pw_iconst n_24_13 ic_0 rfl ?_
      exact pw_ireturn (ty := .boolean) n_24_14 rfl rfl (by first | (simp [xPrt, h1, (i32_d h1), h2, (i32_a h2), bI_t, bI_f, nI_add1, gup_k, eSet_k, eClr_k, hSet_k, hClr_k, qSet_k, qCls_k]; done) | contradiction)
    ·
      have h2b := tN_lt (z := x) (k := 4) (by decide) h2
      refine pw_iconst n_24_9 ic_1 rfl ?_
      refine pw_goto (q := 14) n_24_10 rfl ?_
      exact pw_ireturn (ty := .boolean) n_24_14 rfl rfl (by first | (simp [xPrt, h1, (i32_d h1), h2, (i32_b h2), bI_t, bI_f, nI_add1, gup_k, eSet_k, eClr_k, hSet_k, hClr_k, qSet_k, qCls_k]; done) | contradiction)
set_option maxRecDepth 100000 in
set_option maxHeartbeats 4000000 in
theorem w_22 {X M : gS} {x : Int32} {t : Int32}  (d : Nat) : pm_Call (d + 2) 22 [.int x, .int t] (gE X M) (some (.int (bI (xOth x t))), gE X M) := by
  refine pw_start (d := d + 1) (l := [some (.int x), some (.int t)]) (Nat.le_of_ble_eq_true rfl) rfl ?_
  refine pw_iload_n n_22_0 rfl rfl ?_
  refine pw_statV (as := [.int t]) (st := []) n_22_1 cl_0_277 ⟨rfl, rfl, rfl⟩ (sum8 rfl) rfl (w_21 (x := t) _) ?_
  refine pw_ifb_eq (q := 16) n_22_4 rfl rfl (fun h1 => ?_) (fun h1 => ?_)
  ·
    refine pw_iconst n_22_16 ic_0 rfl ?_
    exact pw_ireturn (ty := .boolean) n_22_17 rfl rfl (by first | (simp [xOth, h1, bI_t, bI_f, nI_add1, gup_k, eSet_k, eClr_k, hSet_k, hClr_k, qSet_k, qCls_k]; done) | contradiction)
  ·
    obtain ⟨h1a, h1b⟩ := ir_dom h1
    refine pw_iload_n n_22_7 rfl rfl ?_
    refine pw_iload_n n_22_8 rfl rfl ?_
    refine pw_icmp_eq (q := 16) n_22_9 rfl rfl (fun h2 => ?_) (fun h2 => ?_)
    ·
      refine pw_iconst n_22_16 ic_0 rfl ?_
      exact pw_ireturn (ty := .boolean) n_22_17 rfl rfl (by first | (simp [xOth, h1, h2, bI_t, bI_f, nI_add1, gup_k, eSet_k, eClr_k, hSet_k, hClr_k, qSet_k, qCls_k]; done) | contradiction)
    ·
      refine pw_iconst n_22_12 ic_1 rfl ?_
      refine pw_goto (q := 17) n_22_13 rfl ?_
      exact pw_ireturn (ty := .boolean) n_22_17 rfl rfl (by first | (simp [xOth, h1, h2, bI_t, bI_f, nI_add1, gup_k, eSet_k, eClr_k, hSet_k, hClr_k, qSet_k, qCls_k]; done) | contradiction)
set_option maxRecDepth 100000 in
set_option maxHeartbeats 4000000 in
theorem w_25 {X M : gS} {x : Int32}  (d : Nat) : pm_Call (d + 2) 25 [.ref 1, .int x] (gE X M) (some (.int (bI (xLive X x))), gE X M) := by
  refine pw_start (d := d + 1) (l := [some (.ref 1), some (.int x)]) (Nat.le_of_ble_eq_true rfl) rfl ?_
  refine pw_iload_n n_25_0 rfl rfl ?_
  refine pw_statV (as := [.int x]) (st := []) n_25_1 cl_0_277 ⟨rfl, rfl, rfl⟩ (sum8 rfl) rfl (w_21 (x := x) _) ?_
  refine pw_ifb_eq (q := 24) n_25_4 rfl rfl (fun h1 => ?_) (fun h1 => ?_)
  ·
    refine pw_iconst n_25_24 ic_0 rfl ?_
    exact pw_ireturn (ty := .boolean) n_25_25 rfl rfl (by first | (simp [xLive, h1, bI_t, bI_f, nI_add1, gup_k, eSet_k, eClr_k, hSet_k, hClr_k, qSet_k, qCls_k]; done) | contradiction)
  ·
    obtain ⟨h1a, h1b⟩ := ir_dom h1
    refine pw_aload_n n_25_7 rfl rfl ?_
    refine pw_getf (a := 0) n_25_8 fl_0_11 (by decide) (rdR (sh_G_domains)) rfl ?_
    refine pw_iload_n n_25_11 rfl rfl ?_
    refine pw_aald (a := 1) (t := 102) (u := 1) n_25_12 (by assumption) rfl (by decide) rfl (rdR (sh_DA (tN x) (by omega))) rfl ?_
    refine pw_getf (a := cD (tN x)) n_25_13 fl_0_30 (by decide) (rdX (sh_D_state (tN x) (by omega)) (by decide)) rfl ?_
    refine pw_iconst n_25_16 ic_1 rfl ?_
    refine pw_icmp_ne (q := 24) n_25_17 rfl rfl (fun h2 => ?_) (fun h2 => ?_)
    ·
      refine pw_iconst n_25_24 ic_0 rfl ?_
      exact pw_ireturn (ty := .boolean) n_25_25 rfl rfl (by first | (simp [xLive, h1, h2, bI_t, bI_f, nI_add1, gup_k, eSet_k, eClr_k, hSet_k, hClr_k, qSet_k, qCls_k]; done) | contradiction)
    ·
      refine pw_iconst n_25_20 ic_1 rfl ?_
      refine pw_goto (q := 25) n_25_21 rfl ?_
      exact pw_ireturn (ty := .boolean) n_25_25 rfl rfl (by first | (simp [xLive, h1, h2, (Classical.not_not.mp h2), bI_t, bI_f, nI_add1, gup_k, eSet_k, eClr_k, hSet_k, hClr_k, qSet_k, qCls_k]; done) | contradiction)
set_option maxRecDepth 100000 in
set_option maxHeartbeats 4000000 in
theorem w_26 {X M : gS} {v : Int32}  (d : Nat) : pm_Call (d + 1) 26 [.ref 1, .int v] (gE X M) (some (.int (bI (xPres X v))), gE X M) := by
  refine pw_start (d := d) (l := [some (.ref 1), some (.int v)]) (Nat.le_of_ble_eq_true rfl) rfl ?_
  refine pw_iload_n n_26_0 rfl rfl ?_
  refine pw_if_lt (q := 25) n_26_1 rfl rfl (fun h1 => ?_) (fun h1 => ?_)
  ·
    refine pw_iconst n_26_25 ic_0 rfl ?_
    exact pw_ireturn (ty := .boolean) n_26_26 rfl rfl (by first | (simp [xPres, h1, (i32_c h1), bI_t, bI_f, nI_add1, gup_k, eSet_k, eClr_k, hSet_k, hClr_k, qSet_k, qCls_k]; done) | contradiction)
  ·
    refine pw_iload_n n_26_4 rfl rfl ?_
    refine pw_iconst n_26_5 ic_3 rfl ?_
    refine pw_icmp_ge (q := 25) n_26_6 rfl rfl (fun h2 => ?_) (fun h2 => ?_)
    ·
      refine pw_iconst n_26_25 ic_0 rfl ?_
      exact pw_ireturn (ty := .boolean) n_26_26 rfl rfl (by first | (simp [xPres, h1, (i32_d h1), h2, (i32_a h2), bI_t, bI_f, nI_add1, gup_k, eSet_k, eClr_k, hSet_k, hClr_k, qSet_k, qCls_k]; done) | contradiction)
    ·
      have h2b := tN_lt (z := v) (k := 3) (by decide) h2
      refine pw_aload_n n_26_9 rfl rfl ?_
      refine pw_getf (a := 0) n_26_10 fl_0_23 (by decide) (rdR (sh_G_devices)) rfl ?_
      refine pw_iload_n n_26_13 rfl rfl ?_
      refine pw_aald (a := 3) (t := 104) (u := 3) n_26_14 (by assumption) rfl (by decide) rfl (rdR (sh_VA (tN v) (by omega))) rfl ?_
      refine pw_getf (a := cV (tN v)) n_26_15 fl_0_295 (by decide) (rdX (sh_V_present (tN v) (by omega)) (by decide)) rfl ?_
      refine pw_if_eq (q := 25) n_26_18 rfl rfl (fun h3 => ?_) (fun h3 => ?_)
      ·
        refine pw_iconst n_26_25 ic_0 rfl ?_
        exact pw_ireturn (ty := .boolean) n_26_26 rfl rfl (by first | (simp [xPres, h1, (i32_d h1), h2, (i32_b h2), h3, bI_t, bI_f, nI_add1, gup_k, eSet_k, eClr_k, hSet_k, hClr_k, qSet_k, qCls_k]; done) | contradiction)
      ·
        refine pw_iconst n_26_21 ic_1 rfl ?_
        refine pw_goto (q := 26) n_26_22 rfl ?_
        exact pw_ireturn (ty := .boolean) n_26_26 rfl rfl (by first | (simp [xPres, h1, (i32_d h1), h2, (i32_b h2), h3, bI_t, bI_f, nI_add1, gup_k, eSet_k, eClr_k, hSet_k, hClr_k, qSet_k, qCls_k]; done) | contradiction)
set_option maxRecDepth 100000 in
set_option maxHeartbeats 4000000 in
theorem w_27 {X M : gS} {x : Int32} {p : Int32}  (d : Nat) : pm_Call (d + 2) 27 [.ref 1, .int x, .int p] (gE X M) (some (.int (bI (xOwns X x p))), gE X M) := by
  refine pw_start (d := d + 1) (l := [some (.ref 1), some (.int x), some (.int p)]) (Nat.le_of_ble_eq_true rfl) rfl ?_
  refine pw_iload_n n_27_0 rfl rfl ?_
  refine pw_statV (as := [.int p]) (st := []) n_27_1 cl_0_282 ⟨rfl, rfl, rfl⟩ (sum8 rfl) rfl (w_23 (x := p) _) ?_
  refine pw_ifb_eq (q := 24) n_27_4 rfl rfl (fun h1 => ?_) (fun h1 => ?_)
  ·
    refine pw_iconst n_27_24 ic_0 rfl ?_
    exact pw_ireturn (ty := .boolean) n_27_25 rfl rfl (by first | (simp [xOwns, h1, bI_t, bI_f, nI_add1, gup_k, eSet_k, eClr_k, hSet_k, hClr_k, qSet_k, qCls_k]; done) | contradiction)
  ·
    obtain ⟨h1a, h1b⟩ := ir_pag h1
    refine pw_aload_n n_27_7 rfl rfl ?_
    refine pw_getf (a := 0) n_27_8 fl_0_17 (by decide) (rdR (sh_G_pages)) rfl ?_
    refine pw_iload_n n_27_11 rfl rfl ?_
    refine pw_aald (a := 2) (t := 103) (u := 2) n_27_12 (by assumption) rfl (by decide) rfl (rdR (sh_PA (tN p) (by omega))) rfl ?_
    refine pw_getf (a := cP (tN p)) n_27_13 fl_0_61 (by decide) (rdX (sh_P_owner (tN p) (by omega)) (by decide)) rfl ?_
    refine pw_iload_n n_27_16 rfl rfl ?_
    refine pw_icmp_ne (q := 24) n_27_17 rfl rfl (fun h2 => ?_) (fun h2 => ?_)
    ·
      refine pw_iconst n_27_24 ic_0 rfl ?_
      exact pw_ireturn (ty := .boolean) n_27_25 rfl rfl (by first | (simp [xOwns, h1, h2, bI_t, bI_f, nI_add1, gup_k, eSet_k, eClr_k, hSet_k, hClr_k, qSet_k, qCls_k]; done) | contradiction)
    ·
      refine pw_iconst n_27_20 ic_1 rfl ?_
      refine pw_goto (q := 25) n_27_21 rfl ?_
      exact pw_ireturn (ty := .boolean) n_27_25 rfl rfl (by first | (simp [xOwns, h1, h2, (Classical.not_not.mp h2), bI_t, bI_f, nI_add1, gup_k, eSet_k, eClr_k, hSet_k, hClr_k, qSet_k, qCls_k]; done) | contradiction)
set_option maxRecDepth 100000 in
set_option maxHeartbeats 4000000 in
theorem L_28_4 {X M : gS} {x : Int32}   (d : Nat) {r : pm_R} : ∀ (n i : Nat) (c : Int32), i + n = 20 → pw none (d) 28 32 [some (.ref 1), some (.int x), some (.int (cntb (fun p => decide (X 1 p 0 = x)) n i c)), some (.int (nI 20))] [] (gE X M) r → pw none (d) 28 4 [some (.ref 1), some (.int x), some (.int c), some (.int (nI i))] [] (gE X M) r := by
  intro n
  induction n with
  | zero =>
    intro i c hi hk
    obtain rfl : i = 20 := by omega
    refine pw_iload_n n_28_4 rfl rfl ?_
    refine pw_bipush n_28_5 bc_20 rfl ?_
    refine pw_icmp_ge_t (q := 32) n_28_7 rfl (nI_le (a := 20) (b := 20) (by omega) (by omega)) ?_
    exact hk
  | succ n ih =>
    intro i c hi hk
    refine pw_iload_n n_28_4 rfl rfl ?_
    refine pw_bipush n_28_5 bc_20 rfl ?_
    refine pw_icmp_ge_f (q := 32) n_28_7 rfl rfl (nI_ge (a := i) (b := 20) (by omega) (by omega)) ?_
    refine pw_aload_n n_28_10 rfl rfl ?_
    refine pw_getf (a := 0) n_28_11 fl_0_17 (by decide) (rdR (sh_G_pages)) rfl ?_
    refine pw_iload_n n_28_14 rfl rfl ?_
    refine pw_aald (a := 2) (t := 103) (u := 2) n_28_15 (nI_pos (by omega)) (nI_clamp (by omega)) (by decide) rfl (rdR (sh_PA i (by omega))) rfl ?_
    refine pw_getf (a := cP i) n_28_16 fl_0_61 (by decide) (rdX (sh_P_owner i (by omega)) (by decide)) rfl ?_
    refine pw_iload_n n_28_19 rfl rfl ?_
    refine pw_icmp_ne (q := 26) n_28_20 rfl rfl (fun h1 => ?_) (fun h1 => ?_)
    ·
      refine pw_iinc (v := nI (i + 1)) (l := [some (.ref 1), some (.int x), some (.int c), some (.int (nI (i + 1)))]) n_28_26 rfl (nI_inc i) rfl rfl ?_
      refine pw_goto (q := 4) n_28_29 rfl ?_
      have e0 : (if decide (X 1 i 0 = x) = true then c + 1 else c) = c := by first | (simp [h1, bI_t, bI_f, nI_add1, gup_k, eSet_k, eClr_k, hSet_k, hClr_k, qSet_k, qCls_k]; done) | contradiction
      refine ih (i + 1) c (by omega) ?_
      rw [← e0]
      exact hk
    ·
      refine pw_iinc (v := c + 1) (l := [some (.ref 1), some (.int x), some (.int (c + 1)), some (.int (nI i))]) n_28_23 rfl rfl rfl rfl ?_
      refine pw_iinc (v := nI (i + 1)) (l := [some (.ref 1), some (.int x), some (.int (c + 1)), some (.int (nI (i + 1)))]) n_28_26 rfl (nI_inc i) rfl rfl ?_
      refine pw_goto (q := 4) n_28_29 rfl ?_
      have e0 : (if decide (X 1 i 0 = x) = true then c + 1 else c) = c + 1 := by first | (simp [h1, (Classical.not_not.mp h1), bI_t, bI_f, nI_add1, gup_k, eSet_k, eClr_k, hSet_k, hClr_k, qSet_k, qCls_k]; done) | contradiction
      refine ih (i + 1) (c + 1) (by omega) ?_
      rw [← e0]
      exact hk
set_option maxRecDepth 100000 in
set_option maxHeartbeats 4000000 in
theorem w_28 {X M : gS} {x : Int32}  (d : Nat) : pm_Call (d + 1) 28 [.ref 1, .int x] (gE X M) (some (.int (xCnt X x)), gE X M) := by
  refine pw_start (d := d) (l := [some (.ref 1), some (.int x), none, none]) (Nat.le_of_ble_eq_true rfl) rfl ?_
  refine pw_iconst n_28_0 ic_0 rfl ?_
  refine pw_istore_n (l := [some (.ref 1), some (.int x), some (.int 0), none]) n_28_1 rfl rfl ?_
  refine pw_iconst n_28_2 ic_0 rfl ?_
  refine pw_istore_n (l := [some (.ref 1), some (.int x), some (.int 0), some (.int 0)]) n_28_3 rfl rfl ?_
  refine L_28_4 (X := X) (M := M)  _ 20 0 0 (by omega) ?_
  refine pw_iload_n n_28_32 rfl rfl ?_
  exact pw_ireturn (ty := .int) n_28_33 rfl rfl (by first | (simp [xCnt, bI_t, bI_f, nI_add1, gup_k, eSet_k, eClr_k, hSet_k, hClr_k, qSet_k, qCls_k]; done) | contradiction)
set_option maxRecDepth 100000 in
set_option maxHeartbeats 4000000 in
theorem L_30_2 {X M : gS}    (d : Nat) : ∀ n i : Nat, i + n = 20 → pw none (d) 30 2 [some (.ref 1), some (.int (nI i))] [] (gE X M) (some (.int (ffst (fun i => decide (X 1 i 0 = -1)) n i)), gE X M) := by
  intro n
  induction n with
  | zero =>
    intro i hi
    obtain rfl : i = 20 := by omega
    refine pw_iload_n n_30_2 rfl rfl ?_
    refine pw_bipush n_30_3 bc_20 rfl ?_
    refine pw_icmp_ge_t (q := 29) n_30_5 rfl (nI_le (a := 20) (b := 20) (by omega) (by omega)) ?_
    refine pw_iconst n_30_29 ic_m1 rfl ?_
    exact pw_ireturn (ty := .int) n_30_30 rfl rfl (by first | (simp [ffst, bI_t, bI_f, nI_add1, gup_k, eSet_k, eClr_k, hSet_k, hClr_k, qSet_k, qCls_k]; done) | contradiction)
  | succ n ih =>
    intro i hi
    refine pw_iload_n n_30_2 rfl rfl ?_
    refine pw_bipush n_30_3 bc_20 rfl ?_
    refine pw_icmp_ge_f (q := 29) n_30_5 rfl rfl (nI_ge (a := i) (b := 20) (by omega) (by omega)) ?_
    refine pw_aload_n n_30_8 rfl rfl ?_
    refine pw_getf (a := 0) n_30_9 fl_0_17 (by decide) (rdR (sh_G_pages)) rfl ?_
    refine pw_iload_n n_30_12 rfl rfl ?_
    refine pw_aald (a := 2) (t := 103) (u := 2) n_30_13 (nI_pos (by omega)) (nI_clamp (by omega)) (by decide) rfl (rdR (sh_PA i (by omega))) rfl ?_
    refine pw_getf (a := cP i) n_30_14 fl_0_61 (by decide) (rdX (sh_P_owner i (by omega)) (by decide)) rfl ?_
    refine pw_iconst n_30_17 ic_m1 rfl ?_
    refine pw_icmp_ne (q := 23) n_30_18 rfl rfl (fun h1 => ?_) (fun h1 => ?_)
    ·
      refine pw_iinc (v := nI (i + 1)) (l := [some (.ref 1), some (.int (nI (i + 1)))]) n_30_23 rfl (nI_inc i) rfl rfl ?_
      refine pw_goto (q := 2) n_30_26 rfl ?_
      rw [show ffst (fun i => decide (X 1 i 0 = -1)) (n + 1) i = ffst (fun i => decide (X 1 i 0 = -1)) n (i + 1) from by first | (simp [ffst, h1, bI_t, bI_f, nI_add1, gup_k, eSet_k, eClr_k, hSet_k, hClr_k, qSet_k, qCls_k]; done) | contradiction]
      exact ih (i + 1) (by omega)
    ·
      refine pw_iload_n n_30_21 rfl rfl ?_
      exact pw_ireturn (ty := .int) n_30_22 rfl rfl (by first | (simp [ffst, h1, (Classical.not_not.mp h1), bI_t, bI_f, nI_add1, gup_k, eSet_k, eClr_k, hSet_k, hClr_k, qSet_k, qCls_k]; done) | contradiction)
set_option maxRecDepth 100000 in
set_option maxHeartbeats 4000000 in
theorem w_30 {X M : gS}   (d : Nat) : pm_Call (d + 1) 30 [.ref 1] (gE X M) (some (.int (xFpg X)), gE X M) := by
  refine pw_start (d := d) (l := [some (.ref 1), none]) (Nat.le_of_ble_eq_true rfl) rfl ?_
  refine pw_iconst n_30_0 ic_0 rfl ?_
  refine pw_istore_n (l := [some (.ref 1), some (.int 0)]) n_30_1 rfl rfl ?_
  exact L_30_2  _ 20 0 (by omega)
set_option maxRecDepth 100000 in
set_option maxHeartbeats 4000000 in
theorem w_29 {X M : gS} {x : Int32}  (d : Nat) : pm_Call (d + 2) 29 [.ref 1, .int x] (gE X M) (some (.int (xGet X x)), gE X M) := by
  refine pw_start (d := d + 1) (l := [some (.ref 1), some (.int x)]) (Nat.le_of_ble_eq_true rfl) rfl ?_
  refine pw_aload_n n_29_0 rfl rfl ?_
  refine pw_iload_n n_29_1 rfl rfl ?_
  refine pw_virtV (a := 0) (as := [.int x]) (st := []) n_29_2 cl_0_129 ⟨rfl, rfl, rfl⟩ (sum8 rfl) (E_tg sh_G_domains) rfl (w_28 (x := x) _) ?_
  refine pw_bipush n_29_5 bc_6 rfl ?_
  refine pw_icmp_lt (q := 14) n_29_7 rfl rfl (fun h1 => ?_) (fun h1 => ?_)
  ·
    have h1b := tN_lt2 (z := (xCnt X x)) (k := 6) (by decide) h1
    refine pw_aload_n n_29_14 rfl rfl ?_
    refine pw_virtV (a := 0) (as := []) (st := []) n_29_15 cl_0_298 ⟨rfl, rfl, rfl⟩ (sum8 rfl) (E_tg sh_G_domains) rfl (w_30  _) ?_
    exact pw_ireturn (ty := .int) n_29_18 rfl rfl (by first | (simp [xGet, h1, (i32_c h1), bI_t, bI_f, nI_add1, gup_k, eSet_k, eClr_k, hSet_k, hClr_k, qSet_k, qCls_k]; done) | contradiction)
  ·
    refine pw_iconst n_29_10 ic_m1 rfl ?_
    refine pw_goto (q := 18) n_29_11 rfl ?_
    exact pw_ireturn (ty := .int) n_29_18 rfl rfl (by first | (simp [xGet, h1, (i32_d h1), bI_t, bI_f, nI_add1, gup_k, eSet_k, eClr_k, hSet_k, hClr_k, qSet_k, qCls_k]; done) | contradiction)
set_option maxRecDepth 100000 in
set_option maxHeartbeats 4000000 in
theorem w_33 {X M : gS} {a : Nat} {h : Nat} (ha : a < 5) (hh : h < 5) (f0 : ¬ X 7 a h < 0) (f1 : tN (X 7 a h) < 5) (e0 : ¬ X 8 a h < 0) (e1 : tN (X 8 a h) < 6) (d : Nat) : pm_Call (d + 1) 33 [.ref 1, .ref (cH a h + 1)] (gE X M) (some (.ref (cE (tN (X 7 a h)) (tN (X 8 a h)) + 1)), gE X M) := by
  refine pw_start (d := d) (l := [some (.ref 1), some (.ref (cH a h + 1))]) (Nat.le_of_ble_eq_true rfl) rfl ?_
  refine pw_aload_n n_33_0 rfl rfl ?_
  refine pw_getf (a := 0) n_33_1 fl_0_11 (by decide) (rdR (sh_G_domains)) rfl ?_
  refine pw_aload_n n_33_4 rfl rfl ?_
  refine pw_getf (a := cH a h) n_33_5 fl_0_311 (by decide) (rdX (sh_H_from a (by omega) h (by omega)) (by decide)) rfl ?_
  refine pw_aald (a := 1) (t := 102) (u := 1) n_33_8 (by assumption) rfl (by decide) rfl (rdR (sh_DA (tN (X 7 a h)) (by omega))) rfl ?_
  refine pw_getf (a := cD (tN (X 7 a h))) n_33_9 fl_0_81 (by decide) (rdR (sh_D_entries (tN (X 7 a h)) (by omega))) rfl ?_
  refine pw_aload_n n_33_12 rfl rfl ?_
  refine pw_getf (a := cH a h) n_33_13 fl_0_314 (by decide) (rdX (sh_H_ref a (by omega) h (by omega)) (by decide)) rfl ?_
  refine pw_aald (a := cD (tN (X 7 a h)) + 1) (t := 105) (u := 4) n_33_16 (by assumption) rfl (by decide) rfl (rdR (sh_EA (tN (X 7 a h)) (by omega) (tN (X 8 a h)) (by omega))) rfl ?_
  exact pw_areturn n_33_17 rfl (by first | (simp [bI_t, bI_f, nI_add1, gup_k, eSet_k, eClr_k, hSet_k, hClr_k, qSet_k, qCls_k]; done) | contradiction)
set_option maxRecDepth 100000 in
set_option maxHeartbeats 4000000 in
theorem w_34 {X M : gS} {a : Nat} {h : Nat} (ha : a < 5) (hh : h < 5) (f0 : ¬ X 7 a h < 0) (f1 : tN (X 7 a h) < 5) (e0 : ¬ X 8 a h < 0) (e1 : tN (X 8 a h) < 6) (d : Nat) : pm_Call (d + 2) 34 [.ref 1, .ref (cH a h + 1)] (gE X M) (some (.int (xPgO X a h)), gE X M) := by
  refine pw_start (d := d + 1) (l := [some (.ref 1), some (.ref (cH a h + 1))]) (Nat.le_of_ble_eq_true rfl) rfl ?_
  refine pw_aload_n n_34_0 rfl rfl ?_
  refine pw_aload_n n_34_1 rfl rfl ?_
  refine pw_virtV (a := 0) (as := [.ref (cH a h + 1)]) (st := []) n_34_2 cl_0_317 ⟨rfl, rfl, rfl⟩ (sum8 rfl) (E_tg sh_G_domains) rfl (w_33 (a := a) (h := h) (by omega) (by omega) (by assumption) (by assumption) (by assumption) (by assumption) _) ?_
  refine pw_getf (a := cE (tN (X 7 a h)) (tN (X 8 a h))) n_34_5 fl_0_321 (by decide) (rdX (sh_E_page (tN (X 7 a h)) (by omega) (tN (X 8 a h)) (by omega)) (by decide)) rfl ?_
  exact pw_ireturn (ty := .int) n_34_8 rfl rfl (by first | (simp [xPgO, bI_t, bI_f, nI_add1, gup_k, eSet_k, eClr_k, hSet_k, hClr_k, qSet_k, qCls_k]; done) | contradiction)
set_option maxRecDepth 100000 in
set_option maxHeartbeats 4000000 in
theorem w_35 {X M : gS} {a : Nat} {k : Nat} (ha : a < 5) (hk : k < 4) (f0 : ¬ X 11 a k < 0) (f1 : tN (X 11 a k) < 5) (e0 : ¬ X 12 a k < 0) (e1 : tN (X 12 a k) < 4) (d : Nat) : pm_Call (d + 1) 35 [.ref 1, .ref (cQ a k + 1)] (gE X M) (some (.ref (cQ (tN (X 11 a k)) (tN (X 12 a k)) + 1)), gE X M) := by
  refine pw_start (d := d) (l := [some (.ref 1), some (.ref (cQ a k + 1))]) (Nat.le_of_ble_eq_true rfl) rfl ?_
  refine pw_aload_n n_35_0 rfl rfl ?_
  refine pw_getf (a := 0) n_35_1 fl_0_11 (by decide) (rdR (sh_G_domains)) rfl ?_
  refine pw_aload_n n_35_4 rfl rfl ?_
  refine pw_getf (a := cQ a k) n_35_5 fl_0_324 (by decide) (rdX (sh_Q_other a (by omega) k (by omega)) (by decide)) rfl ?_
  refine pw_aald (a := 1) (t := 102) (u := 1) n_35_8 (by assumption) rfl (by decide) rfl (rdR (sh_DA (tN (X 11 a k)) (by omega))) rfl ?_
  refine pw_getf (a := cD (tN (X 11 a k))) n_35_9 fl_0_145 (by decide) (rdR (sh_D_ports (tN (X 11 a k)) (by omega))) rfl ?_
  refine pw_aload_n n_35_12 rfl rfl ?_
  refine pw_getf (a := cQ a k) n_35_13 fl_0_327 (by decide) (rdX (sh_Q_otherPort a (by omega) k (by omega)) (by decide)) rfl ?_
  refine pw_aald (a := cD (tN (X 11 a k)) + 3) (t := 107) (u := 6) n_35_16 (by assumption) rfl (by decide) rfl (rdR (sh_QA (tN (X 11 a k)) (by omega) (tN (X 12 a k)) (by omega))) rfl ?_
  exact pw_areturn n_35_17 rfl (by first | (simp [bI_t, bI_f, nI_add1, gup_k, eSet_k, eClr_k, hSet_k, hClr_k, qSet_k, qCls_k]; done) | contradiction)
set_option maxRecDepth 100000 in
set_option maxHeartbeats 4000000 in
theorem L_32_14 {X M : gS} {x : Int32} {p : Int32} {w : Bool} (x0 : ¬ x < 0) (x1 : tN x < 5) (hok : hOk X (tN x))  (d : Nat) : ∀ n i : Nat, i + n = 5 → pw none (d + 2) 32 14 [some (.ref 1), some (.int x), some (.int p), some (.int (bI w)), some (.ref (cD (tN x) + 3)), some (.int (nI i))] [] (gE X M) (some (.int (bI (anyb (fun h => !decide (X 7 (tN x) h = -1) && (!decide (X 9 (tN x) h = 0) || !w) && decide (xPgO X (tN x) h = p)) n i))), gE X M) := by
  intro n
  induction n with
  | zero =>
    intro i hi
    obtain rfl : i = 5 := by omega
    refine pw_iload n_32_14 rfl rfl ?_
    refine pw_iconst n_32_16 ic_5 rfl ?_
    refine pw_icmp_ge_t (q := 67) n_32_17 rfl (nI_le (a := 5) (b := 5) (by omega) (by omega)) ?_
    refine pw_iconst n_32_67 ic_0 rfl ?_
    exact pw_ireturn (ty := .boolean) n_32_68 rfl rfl (by first | (simp [anyb, bI_t, bI_f, nI_add1, gup_k, eSet_k, eClr_k, hSet_k, hClr_k, qSet_k, qCls_k]; done) | contradiction)
  | succ n ih =>
    intro i hi
    refine pw_iload n_32_14 rfl rfl ?_
    refine pw_iconst n_32_16 ic_5 rfl ?_
    refine pw_icmp_ge_f (q := 67) n_32_17 rfl rfl (nI_ge (a := i) (b := 5) (by omega) (by omega)) ?_
    refine pw_aload n_32_20 rfl rfl ?_
    refine pw_iload n_32_22 rfl rfl ?_
    refine pw_aald (a := cD (tN x) + 2) (t := 106) (u := 5) n_32_24 (nI_pos (by omega)) (nI_clamp (by omega)) (by decide) rfl (rdR (sh_HA (tN x) (by omega) i (by omega))) rfl ?_
    refine pw_virtV (a := cH (tN x) i) (as := []) (st := []) n_32_25 cl_0_305 ⟨rfl, rfl, rfl⟩ (sum8 rfl) (E_tg (sh_H_from (tN x) (by omega) i (by omega))) rfl (w_71 (a := (tN x)) (i := i) (by omega) (by omega) _) ?_
    refine pw_ifb_ne (q := 61) n_32_28 rfl rfl (fun h1 => ?_) (fun h1 => ?_)
    ·
      refine pw_iinc (v := nI (i + 1)) (l := [some (.ref 1), some (.int x), some (.int p), some (.int (bI w)), some (.ref (cD (tN x) + 3)), some (.int (nI (i + 1)))]) n_32_61 rfl (nI_inc i) rfl rfl ?_
      refine pw_goto (q := 14) n_32_64 rfl ?_
      rw [show anyb (fun h => !decide (X 7 (tN x) h = -1) && (!decide (X 9 (tN x) h = 0) || !w) && decide (xPgO X (tN x) h = p)) (n + 1) i = anyb (fun h => !decide (X 7 (tN x) h = -1) && (!decide (X 9 (tN x) h = 0) || !w) && decide (xPgO X (tN x) h = p)) n (i + 1) from by first | (simp [anyb, h1, (of_decide_eq_true h1), bI_t, bI_f, nI_add1, gup_k, eSet_k, eClr_k, hSet_k, hClr_k, qSet_k, qCls_k]; done) | contradiction]
      exact ih (i + 1) (by omega)
    ·
      obtain ⟨f0, f1, e0, e1⟩ := hok i (by omega) h1
      refine pw_aload n_32_31 rfl rfl ?_
      refine pw_iload n_32_33 rfl rfl ?_
      refine pw_aald (a := cD (tN x) + 2) (t := 106) (u := 5) n_32_35 (nI_pos (by omega)) (nI_clamp (by omega)) (by decide) rfl (rdR (sh_HA (tN x) (by omega) i (by omega))) rfl ?_
      refine pw_getf (a := cH (tN x) i) n_32_36 fl_0_308 (by decide) (rdX (sh_H_writing (tN x) (by omega) i (by omega)) (by decide)) rfl ?_
      refine pw_if_ne (q := 46) n_32_39 rfl rfl (fun h2 => ?_) (fun h2 => ?_)
      ·
        refine pw_aload_n n_32_46 rfl rfl ?_
        refine pw_aload n_32_47 rfl rfl ?_
        refine pw_iload n_32_49 rfl rfl ?_
        refine pw_aald (a := cD (tN x) + 2) (t := 106) (u := 5) n_32_51 (nI_pos (by omega)) (nI_clamp (by omega)) (by decide) rfl (rdR (sh_HA (tN x) (by omega) i (by omega))) rfl ?_
        refine pw_virtV (a := 0) (as := [.ref (cH (tN x) i + 1)]) (st := []) n_32_52 cl_0_285 ⟨rfl, rfl, rfl⟩ (sum8 rfl) (E_tg sh_G_domains) rfl (w_34 (a := (tN x)) (h := i) (by omega) (by omega) (by assumption) (by assumption) (by assumption) (by assumption) _) ?_
        refine pw_iload_n n_32_55 rfl rfl ?_
        refine pw_icmp_ne (q := 61) n_32_56 rfl rfl (fun h3 => ?_) (fun h3 => ?_)
        ·
          refine pw_iinc (v := nI (i + 1)) (l := [some (.ref 1), some (.int x), some (.int p), some (.int (bI w)), some (.ref (cD (tN x) + 3)), some (.int (nI (i + 1)))]) n_32_61 rfl (nI_inc i) rfl rfl ?_
          refine pw_goto (q := 14) n_32_64 rfl ?_
          rw [show anyb (fun h => !decide (X 7 (tN x) h = -1) && (!decide (X 9 (tN x) h = 0) || !w) && decide (xPgO X (tN x) h = p)) (n + 1) i = anyb (fun h => !decide (X 7 (tN x) h = -1) && (!decide (X 9 (tN x) h = 0) || !w) && decide (xPgO X (tN x) h = p)) n (i + 1) from by first | (simp [anyb, h1, (of_decide_eq_false h1), h2, h3, bI_t, bI_f, nI_add1, gup_k, eSet_k, eClr_k, hSet_k, hClr_k, qSet_k, qCls_k]; done) | contradiction]
          exact ih (i + 1) (by omega)
        ·
          refine pw_iconst n_32_59 ic_1 rfl ?_
          exact pw_ireturn (ty := .boolean) n_32_60 rfl rfl (by first | (simp [anyb, h1, (of_decide_eq_false h1), h2, h3, (Classical.not_not.mp h3), bI_t, bI_f, nI_add1, gup_k, eSet_k, eClr_k, hSet_k, hClr_k, qSet_k, qCls_k]; done) | contradiction)
      ·
        refine pw_iload_n n_32_42 rfl rfl ?_
        refine pw_ifb_ne (q := 61) n_32_43 rfl rfl (fun h4 => ?_) (fun h4 => ?_)
        ·
          refine pw_iinc (v := nI (i + 1)) (l := [some (.ref 1), some (.int x), some (.int p), some (.int (bI w)), some (.ref (cD (tN x) + 3)), some (.int (nI (i + 1)))]) n_32_61 rfl (nI_inc i) rfl rfl ?_
          refine pw_goto (q := 14) n_32_64 rfl ?_
          rw [show anyb (fun h => !decide (X 7 (tN x) h = -1) && (!decide (X 9 (tN x) h = 0) || !w) && decide (xPgO X (tN x) h = p)) (n + 1) i = anyb (fun h => !decide (X 7 (tN x) h = -1) && (!decide (X 9 (tN x) h = 0) || !w) && decide (xPgO X (tN x) h = p)) n (i + 1) from by first | (simp [anyb, h1, (of_decide_eq_false h1), h2, (Classical.not_not.mp h2), h4, bI_t, bI_f, nI_add1, gup_k, eSet_k, eClr_k, hSet_k, hClr_k, qSet_k, qCls_k]; done) | contradiction]
          exact ih (i + 1) (by omega)
        ·
          refine pw_aload_n n_32_46 rfl rfl ?_
          refine pw_aload n_32_47 rfl rfl ?_
          refine pw_iload n_32_49 rfl rfl ?_
          refine pw_aald (a := cD (tN x) + 2) (t := 106) (u := 5) n_32_51 (nI_pos (by omega)) (nI_clamp (by omega)) (by decide) rfl (rdR (sh_HA (tN x) (by omega) i (by omega))) rfl ?_
          refine pw_virtV (a := 0) (as := [.ref (cH (tN x) i + 1)]) (st := []) n_32_52 cl_0_285 ⟨rfl, rfl, rfl⟩ (sum8 rfl) (E_tg sh_G_domains) rfl (w_34 (a := (tN x)) (h := i) (by omega) (by omega) (by assumption) (by assumption) (by assumption) (by assumption) _) ?_
          refine pw_iload_n n_32_55 rfl rfl ?_
          refine pw_icmp_ne (q := 61) n_32_56 rfl rfl (fun h5 => ?_) (fun h5 => ?_)
          ·
            refine pw_iinc (v := nI (i + 1)) (l := [some (.ref 1), some (.int x), some (.int p), some (.int (bI w)), some (.ref (cD (tN x) + 3)), some (.int (nI (i + 1)))]) n_32_61 rfl (nI_inc i) rfl rfl ?_
            refine pw_goto (q := 14) n_32_64 rfl ?_
            rw [show anyb (fun h => !decide (X 7 (tN x) h = -1) && (!decide (X 9 (tN x) h = 0) || !w) && decide (xPgO X (tN x) h = p)) (n + 1) i = anyb (fun h => !decide (X 7 (tN x) h = -1) && (!decide (X 9 (tN x) h = 0) || !w) && decide (xPgO X (tN x) h = p)) n (i + 1) from by first | (simp [anyb, h1, (of_decide_eq_false h1), h2, (Classical.not_not.mp h2), h4, h5, bI_t, bI_f, nI_add1, gup_k, eSet_k, eClr_k, hSet_k, hClr_k, qSet_k, qCls_k]; done) | contradiction]
            exact ih (i + 1) (by omega)
          ·
            refine pw_iconst n_32_59 ic_1 rfl ?_
            exact pw_ireturn (ty := .boolean) n_32_60 rfl rfl (by first | (simp [anyb, h1, (of_decide_eq_false h1), h2, (Classical.not_not.mp h2), h4, h5, (Classical.not_not.mp h5), bI_t, bI_f, nI_add1, gup_k, eSet_k, eClr_k, hSet_k, hClr_k, qSet_k, qCls_k]; done) | contradiction)
set_option maxRecDepth 100000 in
set_option maxHeartbeats 4000000 in
theorem w_32 {X M : gS} {x : Int32} {p : Int32} {w : Bool} (x0 : ¬ x < 0) (x1 : tN x < 5) (hok : hOk X (tN x)) (d : Nat) : pm_Call (d + 3) 32 [.ref 1, .int x, .int p, .int (bI w)] (gE X M) (some (.int (bI (xMof X (tN x) p w))), gE X M) := by
  refine pw_start (d := d + 2) (l := [some (.ref 1), some (.int x), some (.int p), some (.int (bI w)), none, none]) (Nat.le_of_ble_eq_true rfl) rfl ?_
  refine pw_aload_n n_32_0 rfl rfl ?_
  refine pw_getf (a := 0) n_32_1 fl_0_11 (by decide) (rdR (sh_G_domains)) rfl ?_
  refine pw_iload_n n_32_4 rfl rfl ?_
  refine pw_aald (a := 1) (t := 102) (u := 1) n_32_5 (by assumption) rfl (by decide) rfl (rdR (sh_DA (tN x) (by omega))) rfl ?_
  refine pw_getf (a := cD (tN x)) n_32_6 fl_0_110 (by decide) (rdR (sh_D_handles (tN x) (by omega))) rfl ?_
  refine pw_astore (l := [some (.ref 1), some (.int x), some (.int p), some (.int (bI w)), some (.ref (cD (tN x) + 3)), none]) n_32_9 rfl rfl ?_
  refine pw_iconst n_32_11 ic_0 rfl ?_
  refine pw_istore (l := [some (.ref 1), some (.int x), some (.int p), some (.int (bI w)), some (.ref (cD (tN x) + 3)), some (.int 0)]) n_32_12 rfl rfl ?_
  exact L_32_14 x0 x1 hok _ 5 0 (by omega)
set_option maxRecDepth 100000 in
set_option maxHeartbeats 4000000 in
theorem w_31 {X M : gS} {x : Int32} {p : Int32} {w : Int32} {b : Bool} (hok0 : xLive X x = true → hOk X (tN x)) (d : Nat) : pm_Call (d + 4) 31 [.ref 1, .int x, .int p, .int w, .int (bI b)] (gE X M) (some (.int (xAcc X x p w b)), gE X M) := by
  refine pw_start (d := d + 3) (l := [some (.ref 1), some (.int x), some (.int p), some (.int w), some (.int (bI b))]) (Nat.le_of_ble_eq_true rfl) rfl ?_
  refine pw_aload_n n_31_0 rfl rfl ?_
  refine pw_iload_n n_31_1 rfl rfl ?_
  refine pw_virtV (a := 0) (as := [.int x]) (st := []) n_31_2 cl_0_34 ⟨rfl, rfl, rfl⟩ (sum8 rfl) (E_tg sh_G_domains) rfl (w_25 (x := x) _) ?_
  refine pw_ifb_ne (q := 10) n_31_5 rfl rfl (fun h1 => ?_) (fun h1 => ?_)
  ·
    obtain ⟨h1a, h1b⟩ := ir_live h1
    have hok := hok0 h1
    refine pw_iload_n n_31_10 rfl rfl ?_
    refine pw_statV (as := [.int p]) (st := []) n_31_11 cl_0_282 ⟨rfl, rfl, rfl⟩ (sum8 rfl) rfl (w_23 (x := p) _) ?_
    refine pw_ifb_eq (q := 27) n_31_14 rfl rfl (fun h2 => ?_) (fun h2 => ?_)
    ·
      refine pw_bipush n_31_27 bc_m2 rfl ?_
      exact pw_ireturn (ty := .int) n_31_29 rfl rfl (by first | (simp [xAcc, h1, h2, bI_t, bI_f, nI_add1, gup_k, eSet_k, eClr_k, hSet_k, hClr_k, qSet_k, qCls_k]; done) | contradiction)
    ·
      obtain ⟨h2a, h2b⟩ := ir_pag h2
      refine pw_iload_n n_31_17 rfl rfl ?_
      refine pw_if_lt (q := 27) n_31_18 rfl rfl (fun h3 => ?_) (fun h3 => ?_)
      ·
        refine pw_bipush n_31_27 bc_m2 rfl ?_
        exact pw_ireturn (ty := .int) n_31_29 rfl rfl (by first | (simp [xAcc, h1, h2, h3, (i32_c h3), bI_t, bI_f, nI_add1, gup_k, eSet_k, eClr_k, hSet_k, hClr_k, qSet_k, qCls_k]; done) | contradiction)
      ·
        refine pw_iload_n n_31_21 rfl rfl ?_
        refine pw_bipush n_31_22 bc_8 rfl ?_
        refine pw_icmp_lt (q := 30) n_31_24 rfl rfl (fun h4 => ?_) (fun h4 => ?_)
        ·
          have h4b := tN_lt2 (z := w) (k := 8) (by decide) h4
          refine pw_aload_n n_31_30 rfl rfl ?_
          refine pw_iload_n n_31_31 rfl rfl ?_
          refine pw_iload_n n_31_32 rfl rfl ?_
          refine pw_virtV (a := 0) (as := [.int x, .int p]) (st := []) n_31_33 cl_0_67 ⟨rfl, rfl, rfl⟩ (sum8 rfl) (E_tg sh_G_domains) rfl (w_27 (x := x) (p := p) _) ?_
          refine pw_ifb_ne (q := 50) n_31_36 rfl rfl (fun h5 => ?_) (fun h5 => ?_)
          ·
            obtain ⟨h5a, h5b⟩ := ir_owns h5
            refine pw_iconst n_31_50 ic_0 rfl ?_
            refine pw_goto (q := 56) n_31_51 rfl ?_
            exact pw_ireturn (ty := .int) n_31_56 rfl rfl (by first | (simp [xAcc, h1, h2, h3, (i32_d h3), h4, (i32_c h4), h5, bI_t, bI_f, nI_add1, gup_k, eSet_k, eClr_k, hSet_k, hClr_k, qSet_k, qCls_k]; done) | contradiction)
          ·
            refine pw_aload_n n_31_39 rfl rfl ?_
            refine pw_iload_n n_31_40 rfl rfl ?_
            refine pw_iload_n n_31_41 rfl rfl ?_
            refine pw_iload n_31_42 rfl rfl ?_
            refine pw_virtV (a := 0) (as := [.int x, .int p, .int (bI b)]) (st := []) n_31_44 cl_0_301 ⟨rfl, rfl, rfl⟩ (sum8 rfl) (E_tg sh_G_domains) rfl (w_32 (x := x) (p := p) (w := b) (by assumption) (by assumption) (by assumption) _) ?_
            refine pw_ifb_eq (q := 54) n_31_47 rfl rfl (fun h6 => ?_) (fun h6 => ?_)
            ·
              refine pw_bipush n_31_54 bc_m3 rfl ?_
              exact pw_ireturn (ty := .int) n_31_56 rfl rfl (by first | (simp [xAcc, h1, h2, h3, (i32_d h3), h4, (i32_c h4), h5, h6, bI_t, bI_f, nI_add1, gup_k, eSet_k, eClr_k, hSet_k, hClr_k, qSet_k, qCls_k]; done) | contradiction)
            ·
              refine pw_iconst n_31_50 ic_0 rfl ?_
              refine pw_goto (q := 56) n_31_51 rfl ?_
              exact pw_ireturn (ty := .int) n_31_56 rfl rfl (by first | (simp [xAcc, h1, h2, h3, (i32_d h3), h4, (i32_c h4), h5, h6, bI_t, bI_f, nI_add1, gup_k, eSet_k, eClr_k, hSet_k, hClr_k, qSet_k, qCls_k]; done) | contradiction)
        ·
          refine pw_bipush n_31_27 bc_m2 rfl ?_
          exact pw_ireturn (ty := .int) n_31_29 rfl rfl (by first | (simp [xAcc, h1, h2, h3, (i32_d h3), h4, (i32_d h4), bI_t, bI_f, nI_add1, gup_k, eSet_k, eClr_k, hSet_k, hClr_k, qSet_k, qCls_k]; done) | contradiction)
  ·
    refine pw_iconst n_31_8 ic_m1 rfl ?_
    exact pw_ireturn (ty := .int) n_31_9 rfl rfl (by first | (simp [xAcc, h1, bI_t, bI_f, nI_add1, gup_k, eSet_k, eClr_k, hSet_k, hClr_k, qSet_k, qCls_k]; done) | contradiction)
set_option maxRecDepth 100000 in
set_option maxHeartbeats 4000000 in
theorem w_38 {X M : gS} {x : Int32} (x0 : ¬ x < 0) (x1 : tN x < 5) (d : Nat) : pm_Call (d + 2) 38 [.ref 1, .int x] (gE X M) (none, gE (xBury X x) M) := by
  refine pw_start (d := d + 1) (l := [some (.ref 1), some (.int x)]) (Nat.le_of_ble_eq_true rfl) rfl ?_
  refine pw_aload_n n_38_0 rfl rfl ?_
  refine pw_iload_n n_38_1 rfl rfl ?_
  refine pw_virtV (a := 0) (as := [.int x]) (st := []) n_38_2 cl_0_129 ⟨rfl, rfl, rfl⟩ (sum8 rfl) (E_tg sh_G_domains) rfl (w_28 (x := x) _) ?_
  refine pw_if_ne (q := 18) n_38_5 rfl rfl (fun h1 => ?_) (fun h1 => ?_)
  ·
    exact pw_return n_38_18 rfl (by first | (simp [xBury, h1, bI_t, bI_f, nI_add1, gup_k, eSet_k, eClr_k, hSet_k, hClr_k, qSet_k, qCls_k]; done) | contradiction)
  ·
    refine pw_aload_n n_38_8 rfl rfl ?_
    refine pw_getf (a := 0) n_38_9 fl_0_11 (by decide) (rdR (sh_G_domains)) rfl ?_
    refine pw_iload_n n_38_12 rfl rfl ?_
    refine pw_aald (a := 1) (t := 102) (u := 1) n_38_13 (by assumption) rfl (by decide) rfl (rdR (sh_DA (tN x) (by omega))) rfl ?_
    refine pw_iconst n_38_14 ic_0 rfl ?_
    refine pw_putf (a := cD (tN x)) n_38_15 fl_0_30 (by decide) rfl rfl (Or.inl rfl) (wrX (sh_D_state (tN x) (by omega)) (by decide)) rfl ?_
    exact pw_return n_38_18 rfl (by first | (simp [xBury, h1, (Classical.not_not.mp h1), bI_t, bI_f, nI_add1, gup_k, eSet_k, eClr_k, hSet_k, hClr_k, qSet_k, qCls_k]; done) | contradiction)
set_option maxRecDepth 100000 in
set_option maxHeartbeats 4000000 in
theorem w_37 {X M : gS} {x : Int32} {f : Nat} {e : Nat} (x0 : ¬ x < 0) (x1 : tN x < 5) (hf : f < 5) (he : e < 6) (p0 : ¬ X 5 f e < 0) (p1 : tN (X 5 f e) < 20) (d : Nat) : pm_Call (d + 3) 37 [.ref 1, .int x, .ref (cE f e + 1)] (gE X M) (none, gE (xRel X x f e) M) := by
  refine pw_start (d := d + 2) (l := [some (.ref 1), some (.int x), some (.ref (cE f e + 1)), none]) (Nat.le_of_ble_eq_true rfl) rfl ?_
  refine pw_aload_n n_37_0 rfl rfl ?_
  refine pw_getf (a := cE f e) n_37_1 fl_0_321 (by decide) (rdX (sh_E_page f (by omega) e (by omega)) (by decide)) rfl ?_
  refine pw_istore_n (l := [some (.ref 1), some (.int x), some (.ref (cE f e + 1)), some (.int (X 5 f e))]) n_37_4 rfl rfl ?_
  refine pw_aload_n n_37_5 rfl rfl ?_
  refine pw_virt0 (a := cE f e) (as := []) (st := []) n_37_6 cl_0_98 ⟨rfl, rfl, rfl⟩ (sum8 rfl) (E_tg (sh_E_target f (by omega) e (by omega))) rfl (w_69 (a := f) (i := e) (by omega) (by omega) _) ?_
  refine pw_aload_n n_37_9 rfl rfl ?_
  refine pw_getf (a := 0) n_37_10 fl_0_11 (by decide) (rdR (sh_G_domains)) rfl ?_
  refine pw_iload_n n_37_13 rfl rfl ?_
  refine pw_aald (a := 1) (t := 102) (u := 1) n_37_14 (by assumption) rfl (by decide) rfl (rdR (sh_DA (tN x) (by omega))) rfl ?_
  refine pw_iload_n n_37_15 rfl rfl ?_
  refine pw_virtV (a := cD (tN x)) (as := [.int (X 5 f e)]) (st := []) n_37_16 cl_0_335 ⟨rfl, rfl, rfl⟩ (sum8 rfl) (E_tg (sh_D_state (tN x) (by omega))) rfl (w_55 (a := (tN x)) (p := (X 5 f e)) (by omega) _) ?_
  refine pw_ifb_ne (q := 32) n_37_19 rfl rfl (fun h1 => ?_) (fun h1 => ?_)
  ·
    refine pw_aload_n n_37_32 rfl rfl ?_
    refine pw_iload_n n_37_33 rfl rfl ?_
    refine pw_virt0 (a := 0) (as := [.int x]) (st := []) n_37_34 cl_0_54 ⟨rfl, rfl, rfl⟩ (sum8 rfl) (E_tg sh_G_domains) rfl (w_38 (x := x) (by assumption) (by assumption) _) ?_
    exact pw_return n_37_37 rfl (by first | (simp [xRel, xRel0, h1, bI_t, bI_f, nI_add1, gup_k, eSet_k, eClr_k, hSet_k, hClr_k, qSet_k, qCls_k]; done) | contradiction)
  ·
    refine pw_aload_n n_37_22 rfl rfl ?_
    refine pw_getf (a := 0) n_37_23 fl_0_17 (by decide) (rdR (sh_G_pages)) rfl ?_
    refine pw_iload_n n_37_26 rfl rfl ?_
    refine pw_aald (a := 2) (t := 103) (u := 2) n_37_27 (by assumption) rfl (by decide) rfl (rdR (sh_PA (tN (X 5 f e)) (by omega))) rfl ?_
    refine pw_iconst n_37_28 ic_m1 rfl ?_
    refine pw_putf (a := cP (tN (X 5 f e))) n_37_29 fl_0_61 (by decide) rfl rfl (Or.inl rfl) (wrX (sh_P_owner (tN (X 5 f e)) (by omega)) (by decide)) rfl ?_
    refine pw_aload_n n_37_32 rfl rfl ?_
    refine pw_iload_n n_37_33 rfl rfl ?_
    refine pw_virt0 (a := 0) (as := [.int x]) (st := []) n_37_34 cl_0_54 ⟨rfl, rfl, rfl⟩ (sum8 rfl) (E_tg sh_G_domains) rfl (w_38 (x := x) (by assumption) (by assumption) _) ?_
    exact pw_return n_37_37 rfl (by first | (simp [xRel, xRel0, h1, bI_t, bI_f, nI_add1, gup_k, eSet_k, eClr_k, hSet_k, hClr_k, qSet_k, qCls_k]; done) | contradiction)
set_option maxRecDepth 100000 in
set_option maxHeartbeats 4000000 in
theorem w_36 {X M : gS} {a : Nat} {h : Nat} (ha : a < 5) (hh : h < 5) (f0 : ¬ X 7 a h < 0) (f1 : tN (X 7 a h) < 5) (e0 : ¬ X 8 a h < 0) (e1 : tN (X 8 a h) < 6) (p0 : ¬ xTk1 X a h (tN (X 7 a h)) (tN (X 8 a h)) 5 (tN (X 7 a h)) (tN (X 8 a h)) < 0) (p1 : tN (xTk1 X a h (tN (X 7 a h)) (tN (X 8 a h)) 5 (tN (X 7 a h)) (tN (X 8 a h))) < 20) (d : Nat) : pm_Call (d + 4) 36 [.ref 1, .ref (cH a h + 1)] (gE X M) (none, gE (xTk X a h) M) := by
  refine pw_start (d := d + 3) (l := [some (.ref 1), some (.ref (cH a h + 1)), none, none]) (Nat.le_of_ble_eq_true rfl) rfl ?_
  refine pw_aload_n n_36_0 rfl rfl ?_
  refine pw_getf (a := cH a h) n_36_1 fl_0_311 (by decide) (rdX (sh_H_from a (by omega) h (by omega)) (by decide)) rfl ?_
  refine pw_istore_n (l := [some (.ref 1), some (.ref (cH a h + 1)), some (.int (X 7 a h)), none]) n_36_4 rfl rfl ?_
  refine pw_aload_n n_36_5 rfl rfl ?_
  refine pw_aload_n n_36_6 rfl rfl ?_
  refine pw_virtV (a := 0) (as := [.ref (cH a h + 1)]) (st := []) n_36_7 cl_0_317 ⟨rfl, rfl, rfl⟩ (sum8 rfl) (E_tg sh_G_domains) rfl (w_33 (a := a) (h := h) (by omega) (by omega) (by assumption) (by assumption) (by assumption) (by assumption) _) ?_
  refine pw_astore_n (l := [some (.ref 1), some (.ref (cH a h + 1)), some (.int (X 7 a h)), some (.ref (cE (tN (X 7 a h)) (tN (X 8 a h)) + 1))]) n_36_10 rfl rfl ?_
  refine pw_aload_n n_36_11 rfl rfl ?_
  refine pw_virt0 (a := cH a h) (as := []) (st := []) n_36_12 cl_0_330 ⟨rfl, rfl, rfl⟩ (sum8 rfl) (E_tg (sh_H_from a (by omega) h (by omega))) rfl (w_73 (a := a) (i := h) (by omega) (by omega) _) ?_
  refine pw_aload_n n_36_15 rfl rfl ?_
  refine pw_dup n_36_16 rfl rfl ?_
  refine pw_getf (v := .int (X 6 (tN (X 7 a h)) (tN (X 8 a h)))) (a := cE (tN (X 7 a h)) (tN (X 8 a h))) n_36_17 fl_0_119 (by decide) (rdX (sh_E_mappings (tN (X 7 a h)) (by omega) (tN (X 8 a h)) (by omega)) (by decide)) rfl ?_
  refine pw_iconst n_36_20 ic_1 rfl ?_
  refine pw_isub n_36_21 rfl ?_
  refine pw_putf (a := cE (tN (X 7 a h)) (tN (X 8 a h))) n_36_22 fl_0_119 (by decide) rfl rfl (Or.inl rfl) (wrX (sh_E_mappings (tN (X 7 a h)) (by omega) (tN (X 8 a h)) (by omega)) (by decide)) rfl ?_
  refine pw_aload_n n_36_25 rfl rfl ?_
  refine pw_getf (a := 0) n_36_26 fl_0_11 (by decide) (rdR (sh_G_domains)) rfl ?_
  refine pw_iload_n n_36_29 rfl rfl ?_
  refine pw_aald (a := 1) (t := 102) (u := 1) n_36_30 (by assumption) rfl (by decide) rfl (rdR (sh_DA (tN (X 7 a h)) (by omega))) rfl ?_
  refine pw_getf (v := .int (X 0 (tN (X 7 a h)) 0)) (a := cD (tN (X 7 a h))) n_36_31 fl_0_30 (by decide) (rdX (sh_D_state (tN (X 7 a h)) (by omega)) (by decide)) rfl ?_
  refine pw_iconst n_36_34 ic_2 rfl ?_
  refine pw_icmp_ne (q := 51) n_36_35 rfl rfl (fun h1 => ?_) (fun h1 => ?_)
  ·
    exact pw_return n_36_51 rfl (by first | (simp [xTk, xTk1, xTk2, h1, bI_t, bI_f, nI_add1, gup_k, eSet_k, eClr_k, hSet_k, hClr_k, qSet_k, qCls_k]; done) | contradiction)
  ·
    refine pw_aload_n n_36_38 rfl rfl ?_
    refine pw_virtV (a := cE (tN (X 7 a h)) (tN (X 8 a h))) (as := []) (st := []) n_36_39 cl_0_94 ⟨rfl, rfl, rfl⟩ (sum8 rfl) (E_tg (sh_E_target (tN (X 7 a h)) (by omega) (tN (X 8 a h)) (by omega))) rfl (w_67 (a := (tN (X 7 a h))) (i := (tN (X 8 a h))) (by omega) (by omega) _) ?_
    refine pw_ifb_ne (q := 51) n_36_42 rfl rfl (fun h2 => ?_) (fun h2 => ?_)
    ·
      exact pw_return n_36_51 rfl (by first | (simp [xTk, xTk1, xTk2, h1, (Classical.not_not.mp h1), h2, (of_decide_eq_true h2), (i32_c (of_decide_eq_true h2)), bI_t, bI_f, nI_add1, gup_k, eSet_k, eClr_k, hSet_k, hClr_k, qSet_k, qCls_k]; done) | contradiction)
    ·
      refine pw_aload_n n_36_45 rfl rfl ?_
      refine pw_iload_n n_36_46 rfl rfl ?_
      refine pw_aload_n n_36_47 rfl rfl ?_
      refine pw_virt0 (a := 0) (as := [.int (X 7 a h), .ref (cE (tN (X 7 a h)) (tN (X 8 a h)) + 1)]) (st := []) n_36_48 cl_0_331 ⟨rfl, rfl, rfl⟩ (sum8 rfl) (E_tg sh_G_domains) rfl (w_37 (x := (X 7 a h)) (f := (tN (X 7 a h))) (e := (tN (X 8 a h))) (by assumption) (by assumption) (by omega) (by omega) (by assumption) (by assumption) _) ?_
      exact pw_return n_36_51 rfl (by first | (simp [xTk, xTk1, xTk2, h1, (Classical.not_not.mp h1), h2, (of_decide_eq_false h2), (i32_d (of_decide_eq_false h2)), bI_t, bI_f, nI_add1, gup_k, eSet_k, eClr_k, hSet_k, hClr_k, qSet_k, qCls_k]; done) | contradiction)
set_option maxRecDepth 100000 in
set_option maxHeartbeats 4000000 in
theorem L_39_2 {X M : gS} {x : Int32}   (d : Nat) {r : pm_R} : ∀ (n i : Nat) (Y : gS), i + n = 3 → pw none (d) 39 49 [some (.ref 1), some (.int x), some (.int (nI 3))] [] (gE (lpS (fun i Y => if Y 15 i 0 = x ∨ Y 16 i 0 = x then gup Y 14 i 0 0 else Y) n i Y) M) r → pw none (d) 39 2 [some (.ref 1), some (.int x), some (.int (nI i))] [] (gE Y M) r := by
  intro n
  induction n with
  | zero =>
    intro i Y hi hk
    obtain rfl : i = 3 := by omega
    refine pw_iload_n n_39_2 rfl rfl ?_
    refine pw_iconst n_39_3 ic_3 rfl ?_
    refine pw_icmp_ge_t (q := 49) n_39_4 rfl (nI_le (a := 3) (b := 3) (by omega) (by omega)) ?_
    exact hk
  | succ n ih =>
    intro i Y hi hk
    refine pw_iload_n n_39_2 rfl rfl ?_
    refine pw_iconst n_39_3 ic_3 rfl ?_
    refine pw_icmp_ge_f (q := 49) n_39_4 rfl rfl (nI_ge (a := i) (b := 3) (by omega) (by omega)) ?_
    refine pw_aload_n n_39_7 rfl rfl ?_
    refine pw_getf (a := 0) n_39_8 fl_0_23 (by decide) (rdR (sh_G_devices)) rfl ?_
    refine pw_iload_n n_39_11 rfl rfl ?_
    refine pw_aald (a := 3) (t := 104) (u := 3) n_39_12 (nI_pos (by omega)) (nI_clamp (by omega)) (by decide) rfl (rdR (sh_VA i (by omega))) rfl ?_
    refine pw_getf (a := cV i) n_39_13 fl_0_224 (by decide) (rdX (sh_V_front i (by omega)) (by decide)) rfl ?_
    refine pw_iload_n n_39_16 rfl rfl ?_
    refine pw_icmp_eq (q := 33) n_39_17 rfl rfl (fun h1 => ?_) (fun h1 => ?_)
    ·
      refine pw_aload_n n_39_33 rfl rfl ?_
      refine pw_getf (a := 0) n_39_34 fl_0_23 (by decide) (rdR (sh_G_devices)) rfl ?_
      refine pw_iload_n n_39_37 rfl rfl ?_
      refine pw_aald (a := 3) (t := 104) (u := 3) n_39_38 (nI_pos (by omega)) (nI_clamp (by omega)) (by decide) rfl (rdR (sh_VA i (by omega))) rfl ?_
      refine pw_iconst n_39_39 ic_0 rfl ?_
      refine pw_putf (a := cV i) n_39_40 fl_0_295 (by decide) rfl rfl (Or.inl rfl) (wrX (sh_V_present i (by omega)) (by decide)) rfl ?_
      refine pw_iinc (v := nI (i + 1)) (l := [some (.ref 1), some (.int x), some (.int (nI (i + 1)))]) n_39_43 rfl (nI_inc i) rfl rfl ?_
      refine pw_goto (q := 2) n_39_46 rfl ?_
      have e0 : (if Y 15 i 0 = x ∨ Y 16 i 0 = x then gup Y 14 i 0 0 else Y) = gup Y 14 i 0 0 := by first | (simp [h1, bI_t, bI_f, nI_add1, gup_k, eSet_k, eClr_k, hSet_k, hClr_k, qSet_k, qCls_k]; done) | contradiction
      refine ih (i + 1) (gup Y 14 i 0 0) (by omega) ?_
      rw [← e0]
      exact hk
    ·
      refine pw_aload_n n_39_20 rfl rfl ?_
      refine pw_getf (a := 0) n_39_21 fl_0_23 (by decide) (rdR (sh_G_devices)) rfl ?_
      refine pw_iload_n n_39_24 rfl rfl ?_
      refine pw_aald (a := 3) (t := 104) (u := 3) n_39_25 (nI_pos (by omega)) (nI_clamp (by omega)) (by decide) rfl (rdR (sh_VA i (by omega))) rfl ?_
      refine pw_getf (a := cV i) n_39_26 fl_0_233 (by decide) (rdX (sh_V_back i (by omega)) (by decide)) rfl ?_
      refine pw_iload_n n_39_29 rfl rfl ?_
      refine pw_icmp_ne (q := 43) n_39_30 rfl rfl (fun h2 => ?_) (fun h2 => ?_)
      ·
        refine pw_iinc (v := nI (i + 1)) (l := [some (.ref 1), some (.int x), some (.int (nI (i + 1)))]) n_39_43 rfl (nI_inc i) rfl rfl ?_
        refine pw_goto (q := 2) n_39_46 rfl ?_
        have e0 : (if Y 15 i 0 = x ∨ Y 16 i 0 = x then gup Y 14 i 0 0 else Y) = Y := by first | (simp [h1, h2, bI_t, bI_f, nI_add1, gup_k, eSet_k, eClr_k, hSet_k, hClr_k, qSet_k, qCls_k]; done) | contradiction
        refine ih (i + 1) Y (by omega) ?_
        rw [← e0]
        exact hk
      ·
        refine pw_aload_n n_39_33 rfl rfl ?_
        refine pw_getf (a := 0) n_39_34 fl_0_23 (by decide) (rdR (sh_G_devices)) rfl ?_
        refine pw_iload_n n_39_37 rfl rfl ?_
        refine pw_aald (a := 3) (t := 104) (u := 3) n_39_38 (nI_pos (by omega)) (nI_clamp (by omega)) (by decide) rfl (rdR (sh_VA i (by omega))) rfl ?_
        refine pw_iconst n_39_39 ic_0 rfl ?_
        refine pw_putf (a := cV i) n_39_40 fl_0_295 (by decide) rfl rfl (Or.inl rfl) (wrX (sh_V_present i (by omega)) (by decide)) rfl ?_
        refine pw_iinc (v := nI (i + 1)) (l := [some (.ref 1), some (.int x), some (.int (nI (i + 1)))]) n_39_43 rfl (nI_inc i) rfl rfl ?_
        refine pw_goto (q := 2) n_39_46 rfl ?_
        have e0 : (if Y 15 i 0 = x ∨ Y 16 i 0 = x then gup Y 14 i 0 0 else Y) = gup Y 14 i 0 0 := by first | (simp [h1, h2, (Classical.not_not.mp h2), bI_t, bI_f, nI_add1, gup_k, eSet_k, eClr_k, hSet_k, hClr_k, qSet_k, qCls_k]; done) | contradiction
        refine ih (i + 1) (gup Y 14 i 0 0) (by omega) ?_
        rw [← e0]
        exact hk
set_option maxRecDepth 100000 in
set_option maxHeartbeats 4000000 in
theorem w_39 {X M : gS} {x : Int32}  (d : Nat) : pm_Call (d + 1) 39 [.ref 1, .int x] (gE X M) (none, gE (xRmD X x) M) := by
  refine pw_start (d := d) (l := [some (.ref 1), some (.int x), none]) (Nat.le_of_ble_eq_true rfl) rfl ?_
  refine pw_iconst n_39_0 ic_0 rfl ?_
  refine pw_istore_n (l := [some (.ref 1), some (.int x), some (.int 0)]) n_39_1 rfl rfl ?_
  refine L_39_2 (X := X) (M := M)  _ 3 0 X (by omega) ?_
  exact pw_return n_39_49 rfl (by first | (simp [xRmD, bI_t, bI_f, nI_add1, gup_k, eSet_k, eClr_k, hSet_k, hClr_k, qSet_k, qCls_k]; done) | contradiction)
set_option maxRecDepth 100000 in
set_option maxHeartbeats 4000000 in
theorem L_42_2 {X M : gS} {x : Int32} (x0 : ¬ x < 0) (x1 : tN x < 5)  (d : Nat) {r : pm_R} : ∀ (n i : Nat) (Y : gS), i + n = 20 → pw none (d + 2) 42 50 [some (.ref 1), some (.int x), some (.int (nI 20))] [] (gE (lpS (fun p Y => if Y 1 p 0 = x ∧ xMEW Y (tN x) (nI p) = false then gup Y 1 p 0 (-1) else Y) n i Y) M) r → pw none (d + 2) 42 2 [some (.ref 1), some (.int x), some (.int (nI i))] [] (gE Y M) r := by
  intro n
  induction n with
  | zero =>
    intro i Y hi hk
    obtain rfl : i = 20 := by omega
    refine pw_iload_n n_42_2 rfl rfl ?_
    refine pw_bipush n_42_3 bc_20 rfl ?_
    refine pw_icmp_ge_t (q := 50) n_42_5 rfl (nI_le (a := 20) (b := 20) (by omega) (by omega)) ?_
    exact hk
  | succ n ih =>
    intro i Y hi hk
    refine pw_iload_n n_42_2 rfl rfl ?_
    refine pw_bipush n_42_3 bc_20 rfl ?_
    refine pw_icmp_ge_f (q := 50) n_42_5 rfl rfl (nI_ge (a := i) (b := 20) (by omega) (by omega)) ?_
    refine pw_aload_n n_42_8 rfl rfl ?_
    refine pw_getf (a := 0) n_42_9 fl_0_17 (by decide) (rdR (sh_G_pages)) rfl ?_
    refine pw_iload_n n_42_12 rfl rfl ?_
    refine pw_aald (a := 2) (t := 103) (u := 2) n_42_13 (nI_pos (by omega)) (nI_clamp (by omega)) (by decide) rfl (rdR (sh_PA i (by omega))) rfl ?_
    refine pw_getf (a := cP i) n_42_14 fl_0_61 (by decide) (rdX (sh_P_owner i (by omega)) (by decide)) rfl ?_
    refine pw_iload_n n_42_17 rfl rfl ?_
    refine pw_icmp_ne (q := 44) n_42_18 rfl rfl (fun h1 => ?_) (fun h1 => ?_)
    ·
      refine pw_iinc (v := nI (i + 1)) (l := [some (.ref 1), some (.int x), some (.int (nI (i + 1)))]) n_42_44 rfl (nI_inc i) rfl rfl ?_
      refine pw_goto (q := 2) n_42_47 rfl ?_
      have e0 : (if Y 1 i 0 = x ∧ xMEW Y (tN x) (nI i) = false then gup Y 1 i 0 (-1) else Y) = Y := by first | (simp [h1, bI_t, bI_f, nI_add1, gup_k, eSet_k, eClr_k, hSet_k, hClr_k, qSet_k, qCls_k]; done) | contradiction
      refine ih (i + 1) Y (by omega) ?_
      rw [← e0]
      exact hk
    ·
      refine pw_aload_n n_42_21 rfl rfl ?_
      refine pw_getf (a := 0) n_42_22 fl_0_11 (by decide) (rdR (sh_G_domains)) rfl ?_
      refine pw_iload_n n_42_25 rfl rfl ?_
      refine pw_aald (a := 1) (t := 102) (u := 1) n_42_26 (by assumption) rfl (by decide) rfl (rdR (sh_DA (tN x) (by omega))) rfl ?_
      refine pw_iload_n n_42_27 rfl rfl ?_
      refine pw_virtV (a := cD (tN x)) (as := [.int (nI i)]) (st := []) n_42_28 cl_0_335 ⟨rfl, rfl, rfl⟩ (sum8 rfl) (E_tg (sh_D_state (tN x) (by omega))) rfl (w_55 (a := (tN x)) (p := (nI i)) (by omega) _) ?_
      refine pw_ifb_ne (q := 44) n_42_31 rfl rfl (fun h2 => ?_) (fun h2 => ?_)
      ·
        refine pw_iinc (v := nI (i + 1)) (l := [some (.ref 1), some (.int x), some (.int (nI (i + 1)))]) n_42_44 rfl (nI_inc i) rfl rfl ?_
        refine pw_goto (q := 2) n_42_47 rfl ?_
        have e0 : (if Y 1 i 0 = x ∧ xMEW Y (tN x) (nI i) = false then gup Y 1 i 0 (-1) else Y) = Y := by first | (simp [h1, (Classical.not_not.mp h1), h2, bI_t, bI_f, nI_add1, gup_k, eSet_k, eClr_k, hSet_k, hClr_k, qSet_k, qCls_k]; done) | contradiction
        refine ih (i + 1) Y (by omega) ?_
        rw [← e0]
        exact hk
      ·
        refine pw_aload_n n_42_34 rfl rfl ?_
        refine pw_getf (a := 0) n_42_35 fl_0_17 (by decide) (rdR (sh_G_pages)) rfl ?_
        refine pw_iload_n n_42_38 rfl rfl ?_
        refine pw_aald (a := 2) (t := 103) (u := 2) n_42_39 (nI_pos (by omega)) (nI_clamp (by omega)) (by decide) rfl (rdR (sh_PA i (by omega))) rfl ?_
        refine pw_iconst n_42_40 ic_m1 rfl ?_
        refine pw_putf (a := cP i) n_42_41 fl_0_61 (by decide) rfl rfl (Or.inl rfl) (wrX (sh_P_owner i (by omega)) (by decide)) rfl ?_
        refine pw_iinc (v := nI (i + 1)) (l := [some (.ref 1), some (.int x), some (.int (nI (i + 1)))]) n_42_44 rfl (nI_inc i) rfl rfl ?_
        refine pw_goto (q := 2) n_42_47 rfl ?_
        have e0 : (if Y 1 i 0 = x ∧ xMEW Y (tN x) (nI i) = false then gup Y 1 i 0 (-1) else Y) = gup Y 1 i 0 ((-1)) := by first | (simp [h1, (Classical.not_not.mp h1), h2, bI_t, bI_f, nI_add1, gup_k, eSet_k, eClr_k, hSet_k, hClr_k, qSet_k, qCls_k]; done) | contradiction
        refine ih (i + 1) (gup Y 1 i 0 ((-1))) (by omega) ?_
        rw [← e0]
        exact hk
set_option maxRecDepth 100000 in
set_option maxHeartbeats 4000000 in
theorem w_42 {X M : gS} {x : Int32} (x0 : ¬ x < 0) (x1 : tN x < 5) (d : Nat) : pm_Call (d + 3) 42 [.ref 1, .int x] (gE X M) (none, gE (xFrP X (tN x) x) M) := by
  refine pw_start (d := d + 2) (l := [some (.ref 1), some (.int x), none]) (Nat.le_of_ble_eq_true rfl) rfl ?_
  refine pw_iconst n_42_0 ic_0 rfl ?_
  refine pw_istore_n (l := [some (.ref 1), some (.int x), some (.int 0)]) n_42_1 rfl rfl ?_
  refine L_42_2 (X := X) (M := M) x0 x1 _ 20 0 X (by omega) ?_
  exact pw_return n_42_50 rfl (by first | (simp [xFrP, bI_t, bI_f, nI_add1, gup_k, eSet_k, eClr_k, hSet_k, hClr_k, qSet_k, qCls_k]; done) | contradiction)
set_option maxRecDepth 100000 in
set_option maxHeartbeats 4000000 in
theorem L_43_2 {X M : gS}    (d : Nat) : ∀ n i : Nat, i + n = 3 → pw none (d) 43 2 [some (.ref 1), some (.int (nI i))] [] (gE X M) (some (.int (ffst (fun i => decide (X 14 i 0 = 0)) n i)), gE X M) := by
  intro n
  induction n with
  | zero =>
    intro i hi
    obtain rfl : i = 3 := by omega
    refine pw_iload_n n_43_2 rfl rfl ?_
    refine pw_iconst n_43_3 ic_3 rfl ?_
    refine pw_icmp_ge_t (q := 27) n_43_4 rfl (nI_le (a := 3) (b := 3) (by omega) (by omega)) ?_
    refine pw_iconst n_43_27 ic_m1 rfl ?_
    exact pw_ireturn (ty := .int) n_43_28 rfl rfl (by first | (simp [ffst, bI_t, bI_f, nI_add1, gup_k, eSet_k, eClr_k, hSet_k, hClr_k, qSet_k, qCls_k]; done) | contradiction)
  | succ n ih =>
    intro i hi
    refine pw_iload_n n_43_2 rfl rfl ?_
    refine pw_iconst n_43_3 ic_3 rfl ?_
    refine pw_icmp_ge_f (q := 27) n_43_4 rfl rfl (nI_ge (a := i) (b := 3) (by omega) (by omega)) ?_
    refine pw_aload_n n_43_7 rfl rfl ?_
    refine pw_getf (a := 0) n_43_8 fl_0_23 (by decide) (rdR (sh_G_devices)) rfl ?_
    refine pw_iload_n n_43_11 rfl rfl ?_
    refine pw_aald (a := 3) (t := 104) (u := 3) n_43_12 (nI_pos (by omega)) (nI_clamp (by omega)) (by decide) rfl (rdR (sh_VA i (by omega))) rfl ?_
    refine pw_getf (a := cV i) n_43_13 fl_0_295 (by decide) (rdX (sh_V_present i (by omega)) (by decide)) rfl ?_
    refine pw_if_ne (q := 21) n_43_16 rfl rfl (fun h1 => ?_) (fun h1 => ?_)
    ·
      refine pw_iinc (v := nI (i + 1)) (l := [some (.ref 1), some (.int (nI (i + 1)))]) n_43_21 rfl (nI_inc i) rfl rfl ?_
      refine pw_goto (q := 2) n_43_24 rfl ?_
      rw [show ffst (fun i => decide (X 14 i 0 = 0)) (n + 1) i = ffst (fun i => decide (X 14 i 0 = 0)) n (i + 1) from by first | (simp [ffst, h1, bI_t, bI_f, nI_add1, gup_k, eSet_k, eClr_k, hSet_k, hClr_k, qSet_k, qCls_k]; done) | contradiction]
      exact ih (i + 1) (by omega)
    ·
      refine pw_iload_n n_43_19 rfl rfl ?_
      exact pw_ireturn (ty := .int) n_43_20 rfl rfl (by first | (simp [ffst, h1, (Classical.not_not.mp h1), bI_t, bI_f, nI_add1, gup_k, eSet_k, eClr_k, hSet_k, hClr_k, qSet_k, qCls_k]; done) | contradiction)
set_option maxRecDepth 100000 in
set_option maxHeartbeats 4000000 in
theorem w_43 {X M : gS}   (d : Nat) : pm_Call (d + 1) 43 [.ref 1] (gE X M) (some (.int (xAbs X)), gE X M) := by
  refine pw_start (d := d) (l := [some (.ref 1), none]) (Nat.le_of_ble_eq_true rfl) rfl ?_
  refine pw_iconst n_43_0 ic_0 rfl ?_
  refine pw_istore_n (l := [some (.ref 1), some (.int 0)]) n_43_1 rfl rfl ?_
  exact L_43_2  _ 3 0 (by omega)
set_option maxRecDepth 100000 in
set_option maxHeartbeats 4000000 in
theorem w_44 {X M : gS} {x : Int32} (x0 : ¬ x < 0) (x1 : tN x < 5) (d : Nat) : pm_Call (d + 3) 44 [.ref 1, .int x] (gE X M) (some (.int (bI (xCgn X x))), gE X M) := by
  refine pw_start (d := d + 2) (l := [some (.ref 1), some (.int x)]) (Nat.le_of_ble_eq_true rfl) rfl ?_
  refine pw_aload_n n_44_0 rfl rfl ?_
  refine pw_iload_n n_44_1 rfl rfl ?_
  refine pw_virtV (a := 0) (as := [.int x]) (st := []) n_44_2 cl_0_57 ⟨rfl, rfl, rfl⟩ (sum8 rfl) (E_tg sh_G_domains) rfl (w_29 (x := x) _) ?_
  refine pw_iconst n_44_5 ic_m1 rfl ?_
  refine pw_icmp_eq (q := 26) n_44_6 rfl rfl (fun h1 => ?_) (fun h1 => ?_)
  ·
    refine pw_iconst n_44_26 ic_0 rfl ?_
    exact pw_ireturn (ty := .boolean) n_44_27 rfl rfl (by first | (simp [xCgn, h1, bI_t, bI_f, nI_add1, gup_k, eSet_k, eClr_k, hSet_k, hClr_k, qSet_k, qCls_k]; done) | contradiction)
  ·
    refine pw_aload_n n_44_9 rfl rfl ?_
    refine pw_getf (a := 0) n_44_10 fl_0_11 (by decide) (rdR (sh_G_domains)) rfl ?_
    refine pw_iload_n n_44_13 rfl rfl ?_
    refine pw_aald (a := 1) (t := 102) (u := 1) n_44_14 (by assumption) rfl (by decide) rfl (rdR (sh_DA (tN x) (by omega))) rfl ?_
    refine pw_virtV (a := cD (tN x)) (as := []) (st := []) n_44_15 cl_0_77 ⟨rfl, rfl, rfl⟩ (sum8 rfl) (E_tg (sh_D_state (tN x) (by omega))) rfl (w_56 (a := (tN x)) (by omega) _) ?_
    refine pw_iconst n_44_18 ic_m1 rfl ?_
    refine pw_icmp_eq (q := 26) n_44_19 rfl rfl (fun h2 => ?_) (fun h2 => ?_)
    ·
      refine pw_iconst n_44_26 ic_0 rfl ?_
      exact pw_ireturn (ty := .boolean) n_44_27 rfl rfl (by first | (simp [xCgn, h1, h2, bI_t, bI_f, nI_add1, gup_k, eSet_k, eClr_k, hSet_k, hClr_k, qSet_k, qCls_k]; done) | contradiction)
    ·
      refine pw_iconst n_44_22 ic_1 rfl ?_
      refine pw_goto (q := 27) n_44_23 rfl ?_
      exact pw_ireturn (ty := .boolean) n_44_27 rfl rfl (by first | (simp [xCgn, h1, h2, bI_t, bI_f, nI_add1, gup_k, eSet_k, eClr_k, hSet_k, hClr_k, qSet_k, qCls_k]; done) | contradiction)
set_option maxRecDepth 100000 in
set_option maxHeartbeats 4000000 in
theorem w_45 {X M : gS} {x : Int32} (x0 : ¬ x < 0) (x1 : tN x < 5) (d : Nat) : pm_Call (d + 4) 45 [.ref 1, .int x] (gE X M) (some (.int (bI (xRf X x))), gE X M) := by
  refine pw_start (d := d + 3) (l := [some (.ref 1), some (.int x)]) (Nat.le_of_ble_eq_true rfl) rfl ?_
  refine pw_aload_n n_45_0 rfl rfl ?_
  refine pw_iload_n n_45_1 rfl rfl ?_
  refine pw_virtV (a := 0) (as := [.int x]) (st := []) n_45_2 cl_0_227 ⟨rfl, rfl, rfl⟩ (sum8 rfl) (E_tg sh_G_domains) rfl (w_44 (x := x) (by assumption) (by assumption) _) ?_
  refine pw_ifb_eq (q := 25) n_45_5 rfl rfl (fun h1 => ?_) (fun h1 => ?_)
  ·
    refine pw_iconst n_45_25 ic_0 rfl ?_
    exact pw_ireturn (ty := .boolean) n_45_26 rfl rfl (by first | (simp [xRf, h1, bI_t, bI_f, nI_add1, gup_k, eSet_k, eClr_k, hSet_k, hClr_k, qSet_k, qCls_k]; done) | contradiction)
  ·
    refine pw_aload_n n_45_8 rfl rfl ?_
    refine pw_getf (a := 0) n_45_9 fl_0_11 (by decide) (rdR (sh_G_domains)) rfl ?_
    refine pw_iload_n n_45_12 rfl rfl ?_
    refine pw_aald (a := 1) (t := 102) (u := 1) n_45_13 (by assumption) rfl (by decide) rfl (rdR (sh_DA (tN x) (by omega))) rfl ?_
    refine pw_virtV (a := cD (tN x)) (as := []) (st := []) n_45_14 cl_0_142 ⟨rfl, rfl, rfl⟩ (sum8 rfl) (E_tg (sh_D_state (tN x) (by omega))) rfl (w_58 (a := (tN x)) (by omega) _) ?_
    refine pw_iconst n_45_17 ic_m1 rfl ?_
    refine pw_icmp_eq (q := 25) n_45_18 rfl rfl (fun h2 => ?_) (fun h2 => ?_)
    ·
      refine pw_iconst n_45_25 ic_0 rfl ?_
      exact pw_ireturn (ty := .boolean) n_45_26 rfl rfl (by first | (simp [xRf, h1, h2, bI_t, bI_f, nI_add1, gup_k, eSet_k, eClr_k, hSet_k, hClr_k, qSet_k, qCls_k]; done) | contradiction)
    ·
      refine pw_iconst n_45_21 ic_1 rfl ?_
      refine pw_goto (q := 26) n_45_22 rfl ?_
      exact pw_ireturn (ty := .boolean) n_45_26 rfl rfl (by first | (simp [xRf, h1, h2, bI_t, bI_f, nI_add1, gup_k, eSet_k, eClr_k, hSet_k, hClr_k, qSet_k, qCls_k]; done) | contradiction)
set_option maxRecDepth 100000 in
set_option maxHeartbeats 4000000 in
theorem w_46 {X M : gS} {x : Int32} (x0 : ¬ x < 0) (x1 : tN x < 5) (d : Nat) : pm_Call (d + 3) 46 [.ref 1, .int x] (gE X M) (some (.int (bI (xRb X x))), gE X M) := by
  refine pw_start (d := d + 2) (l := [some (.ref 1), some (.int x)]) (Nat.le_of_ble_eq_true rfl) rfl ?_
  refine pw_aload_n n_46_0 rfl rfl ?_
  refine pw_getf (a := 0) n_46_1 fl_0_11 (by decide) (rdR (sh_G_domains)) rfl ?_
  refine pw_iload_n n_46_4 rfl rfl ?_
  refine pw_aald (a := 1) (t := 102) (u := 1) n_46_5 (by assumption) rfl (by decide) rfl (rdR (sh_DA (tN x) (by omega))) rfl ?_
  refine pw_virtV (a := cD (tN x)) (as := []) (st := []) n_46_6 cl_0_107 ⟨rfl, rfl, rfl⟩ (sum8 rfl) (E_tg (sh_D_state (tN x) (by omega))) rfl (w_57 (a := (tN x)) (by omega) _) ?_
  refine pw_iconst n_46_9 ic_m1 rfl ?_
  refine pw_icmp_eq (q := 30) n_46_10 rfl rfl (fun h1 => ?_) (fun h1 => ?_)
  ·
    refine pw_iconst n_46_30 ic_0 rfl ?_
    exact pw_ireturn (ty := .boolean) n_46_31 rfl rfl (by first | (simp [xRb, h1, bI_t, bI_f, nI_add1, gup_k, eSet_k, eClr_k, hSet_k, hClr_k, qSet_k, qCls_k]; done) | contradiction)
  ·
    refine pw_aload_n n_46_13 rfl rfl ?_
    refine pw_getf (a := 0) n_46_14 fl_0_11 (by decide) (rdR (sh_G_domains)) rfl ?_
    refine pw_iload_n n_46_17 rfl rfl ?_
    refine pw_aald (a := 1) (t := 102) (u := 1) n_46_18 (by assumption) rfl (by decide) rfl (rdR (sh_DA (tN x) (by omega))) rfl ?_
    refine pw_virtV (a := cD (tN x)) (as := []) (st := []) n_46_19 cl_0_142 ⟨rfl, rfl, rfl⟩ (sum8 rfl) (E_tg (sh_D_state (tN x) (by omega))) rfl (w_58 (a := (tN x)) (by omega) _) ?_
    refine pw_iconst n_46_22 ic_m1 rfl ?_
    refine pw_icmp_eq (q := 30) n_46_23 rfl rfl (fun h2 => ?_) (fun h2 => ?_)
    ·
      refine pw_iconst n_46_30 ic_0 rfl ?_
      exact pw_ireturn (ty := .boolean) n_46_31 rfl rfl (by first | (simp [xRb, h1, h2, bI_t, bI_f, nI_add1, gup_k, eSet_k, eClr_k, hSet_k, hClr_k, qSet_k, qCls_k]; done) | contradiction)
    ·
      refine pw_iconst n_46_26 ic_1 rfl ?_
      refine pw_goto (q := 31) n_46_27 rfl ?_
      exact pw_ireturn (ty := .boolean) n_46_31 rfl rfl (by first | (simp [xRb, h1, h2, bI_t, bI_f, nI_add1, gup_k, eSet_k, eClr_k, hSet_k, hClr_k, qSet_k, qCls_k]; done) | contradiction)
set_option maxRecDepth 100000 in
set_option maxHeartbeats 4000000 in
theorem L_40_12 {X M : gS} {x : Int32} (x0 : ¬ x < 0) (x1 : tN x < 5) (hokA : lpOk (fun h Y => if Y 7 (tN x) h = -1 then Y else xTk Y (tN x) h) (tkOk (tN x)) 5 0 X)  (d : Nat) {r : pm_R} : ∀ (n i : Nat) (Y : gS), i + n = 5 → lpOk (fun h Y => if Y 7 (tN x) h = -1 then Y else xTk Y (tN x) h) (tkOk (tN x)) n i Y → pw none (d + 4) 40 39 [some (.ref 1), some (.int x), some (.ref (cD (tN x) + 3)), some (.int (nI 5))] [] (gE (lpS (fun h Y => if Y 7 (tN x) h = -1 then Y else xTk Y (tN x) h) n i Y) M) r → pw none (d + 4) 40 12 [some (.ref 1), some (.int x), some (.ref (cD (tN x) + 3)), some (.int (nI i))] [] (gE Y M) r := by
  intro n
  induction n with
  | zero =>
    intro i Y hi hok hk
    obtain rfl : i = 5 := by omega
    refine pw_iload_n n_40_12 rfl rfl ?_
    refine pw_iconst n_40_13 ic_5 rfl ?_
    refine pw_icmp_ge_t (q := 39) n_40_14 rfl (nI_le (a := 5) (b := 5) (by omega) (by omega)) ?_
    exact hk
  | succ n ih =>
    intro i Y hi hok hk
    refine pw_iload_n n_40_12 rfl rfl ?_
    refine pw_iconst n_40_13 ic_5 rfl ?_
    refine pw_icmp_ge_f (q := 39) n_40_14 rfl rfl (nI_ge (a := i) (b := 5) (by omega) (by omega)) ?_
    refine pw_aload_n n_40_17 rfl rfl ?_
    refine pw_iload_n n_40_18 rfl rfl ?_
    refine pw_aald (a := cD (tN x) + 2) (t := 106) (u := 5) n_40_19 (nI_pos (by omega)) (nI_clamp (by omega)) (by decide) rfl (rdR (sh_HA (tN x) (by omega) i (by omega))) rfl ?_
    refine pw_virtV (a := cH (tN x) i) (as := []) (st := []) n_40_20 cl_0_305 ⟨rfl, rfl, rfl⟩ (sum8 rfl) (E_tg (sh_H_from (tN x) (by omega) i (by omega))) rfl (w_71 (a := (tN x)) (i := i) (by omega) (by omega) _) ?_
    refine pw_ifb_ne (q := 33) n_40_23 rfl rfl (fun h1 => ?_) (fun h1 => ?_)
    ·
      refine pw_iinc (v := nI (i + 1)) (l := [some (.ref 1), some (.int x), some (.ref (cD (tN x) + 3)), some (.int (nI (i + 1)))]) n_40_33 rfl (nI_inc i) rfl rfl ?_
      refine pw_goto (q := 12) n_40_36 rfl ?_
      have e0 : (if Y 7 (tN x) i = -1 then Y else xTk Y (tN x) i) = Y := by first | (simp [h1, (of_decide_eq_true h1), bI_t, bI_f, nI_add1, gup_k, eSet_k, eClr_k, hSet_k, hClr_k, qSet_k, qCls_k]; done) | contradiction
      refine ih (i + 1) Y (by omega) (by rw [← e0]; exact hok.2) ?_
      rw [← e0]
      exact hk
    ·
      obtain ⟨f0, f1, e0, e1, p0, p1⟩ := hok.1 h1
      refine pw_aload_n n_40_26 rfl rfl ?_
      refine pw_aload_n n_40_27 rfl rfl ?_
      refine pw_iload_n n_40_28 rfl rfl ?_
      refine pw_aald (a := cD (tN x) + 2) (t := 106) (u := 5) n_40_29 (nI_pos (by omega)) (nI_clamp (by omega)) (by decide) rfl (rdR (sh_HA (tN x) (by omega) i (by omega))) rfl ?_
      refine pw_virt0 (a := 0) (as := [.ref (cH (tN x) i + 1)]) (st := []) n_40_30 cl_0_125 ⟨rfl, rfl, rfl⟩ (sum8 rfl) (E_tg sh_G_domains) rfl (w_36 (a := (tN x)) (h := i) (by omega) (by omega) (by assumption) (by assumption) (by assumption) (by assumption) (by assumption) (by assumption) _) ?_
      refine pw_iinc (v := nI (i + 1)) (l := [some (.ref 1), some (.int x), some (.ref (cD (tN x) + 3)), some (.int (nI (i + 1)))]) n_40_33 rfl (nI_inc i) rfl rfl ?_
      refine pw_goto (q := 12) n_40_36 rfl ?_
      have e0 : (if Y 7 (tN x) i = -1 then Y else xTk Y (tN x) i) = xTk Y (tN x) i := by first | (simp [h1, (of_decide_eq_false h1), bI_t, bI_f, nI_add1, gup_k, eSet_k, eClr_k, hSet_k, hClr_k, qSet_k, qCls_k]; done) | contradiction
      refine ih (i + 1) (xTk Y (tN x) i) (by omega) (by rw [← e0]; exact hok.2) ?_
      rw [← e0]
      exact hk
set_option maxRecDepth 100000 in
set_option maxHeartbeats 4000000 in
theorem w_40 {X M : gS} {x : Int32} (x0 : ¬ x < 0) (x1 : tN x < 5) (hokA : lpOk (fun h Y => if Y 7 (tN x) h = -1 then Y else xTk Y (tN x) h) (tkOk (tN x)) 5 0 X) (d : Nat) : pm_Call (d + 5) 40 [.ref 1, .int x] (gE X M) (none, gE (xTkA X (tN x)) M) := by
  refine pw_start (d := d + 4) (l := [some (.ref 1), some (.int x), none, none]) (Nat.le_of_ble_eq_true rfl) rfl ?_
  refine pw_aload_n n_40_0 rfl rfl ?_
  refine pw_getf (a := 0) n_40_1 fl_0_11 (by decide) (rdR (sh_G_domains)) rfl ?_
  refine pw_iload_n n_40_4 rfl rfl ?_
  refine pw_aald (a := 1) (t := 102) (u := 1) n_40_5 (by assumption) rfl (by decide) rfl (rdR (sh_DA (tN x) (by omega))) rfl ?_
  refine pw_getf (a := cD (tN x)) n_40_6 fl_0_110 (by decide) (rdR (sh_D_handles (tN x) (by omega))) rfl ?_
  refine pw_astore_n (l := [some (.ref 1), some (.int x), some (.ref (cD (tN x) + 3)), none]) n_40_9 rfl rfl ?_
  refine pw_iconst n_40_10 ic_0 rfl ?_
  refine pw_istore_n (l := [some (.ref 1), some (.int x), some (.ref (cD (tN x) + 3)), some (.int 0)]) n_40_11 rfl rfl ?_
  refine L_40_12 (X := X) (M := M) x0 x1 hokA _ 5 0 X (by omega) hokA ?_
  exact pw_return n_40_39 rfl (by first | (simp [xTkA, bI_t, bI_f, nI_add1, gup_k, eSet_k, eClr_k, hSet_k, hClr_k, qSet_k, qCls_k]; done) | contradiction)
set_option maxRecDepth 100000 in
set_option maxHeartbeats 4000000 in
theorem L_41_12 {X M : gS} {x : Int32} (x0 : ¬ x < 0) (x1 : tN x < 5) (hokA : lpOk (fun k Y => qCls (xClQ1 Y (tN x) k) (tN x) k) (pqOk (tN x)) 4 0 X)  (d : Nat) {r : pm_R} : ∀ (n i : Nat) (Y : gS), i + n = 4 → lpOk (fun k Y => qCls (xClQ1 Y (tN x) k) (tN x) k) (pqOk (tN x)) n i Y → pw none (d + 2) 41 49 [some (.ref 1), some (.int x), some (.ref (cD (tN x) + 4)), some (.int (nI 4))] [] (gE (lpS (fun k Y => qCls (xClQ1 Y (tN x) k) (tN x) k) n i Y) M) r → pw none (d + 2) 41 12 [some (.ref 1), some (.int x), some (.ref (cD (tN x) + 4)), some (.int (nI i))] [] (gE Y M) r := by
  intro n
  induction n with
  | zero =>
    intro i Y hi hok hk
    obtain rfl : i = 4 := by omega
    refine pw_iload_n n_41_12 rfl rfl ?_
    refine pw_iconst n_41_13 ic_4 rfl ?_
    refine pw_icmp_ge_t (q := 49) n_41_14 rfl (nI_le (a := 4) (b := 4) (by omega) (by omega)) ?_
    exact hk
  | succ n ih =>
    intro i Y hi hok hk
    refine pw_iload_n n_41_12 rfl rfl ?_
    refine pw_iconst n_41_13 ic_4 rfl ?_
    refine pw_icmp_ge_f (q := 49) n_41_14 rfl rfl (nI_ge (a := i) (b := 4) (by omega) (by omega)) ?_
    refine pw_aload_n n_41_17 rfl rfl ?_
    refine pw_iload_n n_41_18 rfl rfl ?_
    refine pw_aald (a := cD (tN x) + 3) (t := 107) (u := 6) n_41_19 (nI_pos (by omega)) (nI_clamp (by omega)) (by decide) rfl (rdR (sh_QA (tN x) (by omega) i (by omega))) rfl ?_
    refine pw_getf (a := cQ (tN x) i) n_41_20 fl_0_164 (by decide) (rdX (sh_Q_state (tN x) (by omega) i (by omega)) (by decide)) rfl ?_
    refine pw_iconst n_41_23 ic_2 rfl ?_
    refine pw_icmp_ne (q := 37) n_41_24 rfl rfl (fun h1 => ?_) (fun h1 => ?_)
    ·
      refine pw_aload_n n_41_37 rfl rfl ?_
      refine pw_iload_n n_41_38 rfl rfl ?_
      refine pw_aald (a := cD (tN x) + 3) (t := 107) (u := 6) n_41_39 (nI_pos (by omega)) (nI_clamp (by omega)) (by decide) rfl (rdR (sh_QA (tN x) (by omega) i (by omega))) rfl ?_
      refine pw_virt0 (a := cQ (tN x) i) (as := []) (st := []) n_41_40 cl_0_338 ⟨rfl, rfl, rfl⟩ (sum8 rfl) (E_tg (sh_Q_state (tN x) (by omega) i (by omega))) rfl (w_78 (a := (tN x)) (i := i) (by omega) (by omega) _) ?_
      refine pw_iinc (v := nI (i + 1)) (l := [some (.ref 1), some (.int x), some (.ref (cD (tN x) + 4)), some (.int (nI (i + 1)))]) n_41_43 rfl (nI_inc i) rfl rfl ?_
      refine pw_goto (q := 12) n_41_46 rfl ?_
      have e0 : qCls (xClQ1 Y (tN x) i) (tN x) i = qCls Y (tN x) i := by first | (simp [xClQ1, h1, bI_t, bI_f, nI_add1, gup_k, eSet_k, eClr_k, hSet_k, hClr_k, qSet_k, qCls_k]; done) | contradiction
      refine ih (i + 1) (qCls Y (tN x) i) (by omega) (by rw [← e0]; exact hok.2) ?_
      rw [← e0]
      exact hk
    ·
      obtain ⟨f0, f1, e0, e1⟩ := hok.1 (Classical.not_not.mp h1)
      refine pw_aload_n n_41_27 rfl rfl ?_
      refine pw_aload_n n_41_28 rfl rfl ?_
      refine pw_iload_n n_41_29 rfl rfl ?_
      refine pw_aald (a := cD (tN x) + 3) (t := 107) (u := 6) n_41_30 (nI_pos (by omega)) (nI_clamp (by omega)) (by decide) rfl (rdR (sh_QA (tN x) (by omega) i (by omega))) rfl ?_
      refine pw_virtV (a := 0) (as := [.ref (cQ (tN x) i + 1)]) (st := []) n_41_31 cl_0_165 ⟨rfl, rfl, rfl⟩ (sum8 rfl) (E_tg sh_G_domains) rfl (w_35 (a := (tN x)) (k := i) (by omega) (by omega) (by assumption) (by assumption) (by assumption) (by assumption) _) ?_
      refine pw_virt0 (a := cQ (tN (Y 11 (tN x) i)) (tN (Y 12 (tN x) i))) (as := []) (st := []) n_41_34 cl_0_338 ⟨rfl, rfl, rfl⟩ (sum8 rfl) (E_tg (sh_Q_state (tN (Y 11 (tN x) i)) (by omega) (tN (Y 12 (tN x) i)) (by omega))) rfl (w_78 (a := (tN (Y 11 (tN x) i))) (i := (tN (Y 12 (tN x) i))) (by omega) (by omega) _) ?_
      refine pw_aload_n n_41_37 rfl rfl ?_
      refine pw_iload_n n_41_38 rfl rfl ?_
      refine pw_aald (a := cD (tN x) + 3) (t := 107) (u := 6) n_41_39 (nI_pos (by omega)) (nI_clamp (by omega)) (by decide) rfl (rdR (sh_QA (tN x) (by omega) i (by omega))) rfl ?_
      refine pw_virt0 (a := cQ (tN x) i) (as := []) (st := []) n_41_40 cl_0_338 ⟨rfl, rfl, rfl⟩ (sum8 rfl) (E_tg (sh_Q_state (tN x) (by omega) i (by omega))) rfl (w_78 (a := (tN x)) (i := i) (by omega) (by omega) _) ?_
      refine pw_iinc (v := nI (i + 1)) (l := [some (.ref 1), some (.int x), some (.ref (cD (tN x) + 4)), some (.int (nI (i + 1)))]) n_41_43 rfl (nI_inc i) rfl rfl ?_
      refine pw_goto (q := 12) n_41_46 rfl ?_
      have e0 : qCls (xClQ1 Y (tN x) i) (tN x) i = qCls (qCls Y (tN (Y 11 (tN x) i)) (tN (Y 12 (tN x) i))) (tN x) i := by first | (simp [xClQ1, h1, (Classical.not_not.mp h1), bI_t, bI_f, nI_add1, gup_k, eSet_k, eClr_k, hSet_k, hClr_k, qSet_k, qCls_k]; done) | contradiction
      refine ih (i + 1) (qCls (qCls Y (tN (Y 11 (tN x) i)) (tN (Y 12 (tN x) i))) (tN x) i) (by omega) (by rw [← e0]; exact hok.2) ?_
      rw [← e0]
      exact hk
set_option maxRecDepth 100000 in
set_option maxHeartbeats 4000000 in
theorem w_41 {X M : gS} {x : Int32} (x0 : ¬ x < 0) (x1 : tN x < 5) (hokA : lpOk (fun k Y => qCls (xClQ1 Y (tN x) k) (tN x) k) (pqOk (tN x)) 4 0 X) (d : Nat) : pm_Call (d + 3) 41 [.ref 1, .int x] (gE X M) (none, gE (xClQ X (tN x)) M) := by
  refine pw_start (d := d + 2) (l := [some (.ref 1), some (.int x), none, none]) (Nat.le_of_ble_eq_true rfl) rfl ?_
  refine pw_aload_n n_41_0 rfl rfl ?_
  refine pw_getf (a := 0) n_41_1 fl_0_11 (by decide) (rdR (sh_G_domains)) rfl ?_
  refine pw_iload_n n_41_4 rfl rfl ?_
  refine pw_aald (a := 1) (t := 102) (u := 1) n_41_5 (by assumption) rfl (by decide) rfl (rdR (sh_DA (tN x) (by omega))) rfl ?_
  refine pw_getf (a := cD (tN x)) n_41_6 fl_0_145 (by decide) (rdR (sh_D_ports (tN x) (by omega))) rfl ?_
  refine pw_astore_n (l := [some (.ref 1), some (.int x), some (.ref (cD (tN x) + 4)), none]) n_41_9 rfl rfl ?_
  refine pw_iconst n_41_10 ic_0 rfl ?_
  refine pw_istore_n (l := [some (.ref 1), some (.int x), some (.ref (cD (tN x) + 4)), some (.int 0)]) n_41_11 rfl rfl ?_
  refine L_41_12 (X := X) (M := M) x0 x1 hokA _ 4 0 X (by omega) hokA ?_
  exact pw_return n_41_49 rfl (by first | (simp [xClQ, bI_t, bI_f, nI_add1, gup_k, eSet_k, eClr_k, hSet_k, hClr_k, qSet_k, qCls_k]; done) | contradiction)
