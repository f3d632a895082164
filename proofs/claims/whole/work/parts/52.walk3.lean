set_option maxRecDepth 100000 in
set_option maxHeartbeats 4000000 in
theorem L_1_2 {X M : gS}    (d : Nat) : ∀ n i : Nat, i + n = 5 → pw none (d) 1 2 [some (.ref 1), some (.int (nI i))] [] (gE X M) (some (.int ((fstS (fun d => decide (X 0 d 0 = 0)) (fun d => gup X 0 d 0 1) (-7) X n i)).1), gE ((fstS (fun d => decide (X 0 d 0 = 0)) (fun d => gup X 0 d 0 1) (-7) X n i)).2 M) := by
  intro n
  induction n with
  | zero =>
    intro i hi
    obtain rfl : i = 5 := by omega
    refine pw_iload_n n_1_2 rfl rfl ?_
    refine pw_iconst n_1_3 ic_5 rfl ?_
    refine pw_icmp_ge_t (q := 37) n_1_4 rfl (nI_le (a := 5) (b := 5) (by omega) (by omega)) ?_
    refine pw_bipush n_1_37 bc_m7 rfl ?_
    exact pw_ireturn (ty := .int) n_1_39 rfl rfl (by first | (simp [fstS, bI_t, bI_f, nI_add1, gup_k, eSet_k, eClr_k, hSet_k, hClr_k, qSet_k, qCls_k]; done) | contradiction)
  | succ n ih =>
    intro i hi
    refine pw_iload_n n_1_2 rfl rfl ?_
    refine pw_iconst n_1_3 ic_5 rfl ?_
    refine pw_icmp_ge_f (q := 37) n_1_4 rfl rfl (nI_ge (a := i) (b := 5) (by omega) (by omega)) ?_
    refine pw_aload_n n_1_7 rfl rfl ?_
    refine pw_getf (a := 0) n_1_8 fl_0_11 (by decide) (rdR (sh_G_domains)) rfl ?_
    refine pw_iload_n n_1_11 rfl rfl ?_
    refine pw_aald (a := 1) (t := 102) (u := 1) n_1_12 (nI_pos (by omega)) (nI_clamp (by omega)) (by decide) rfl (rdR (sh_DA i (by omega))) rfl ?_
    refine pw_getf (a := cD i) n_1_13 fl_0_30 (by decide) (rdX (sh_D_state i (by omega)) (by decide)) rfl ?_
    refine pw_if_ne (q := 31) n_1_16 rfl rfl (fun h1 => ?_) (fun h1 => ?_)
    ·
      refine pw_iinc (v := nI (i + 1)) (l := [some (.ref 1), some (.int (nI (i + 1)))]) n_1_31 rfl (nI_inc i) rfl rfl ?_
      refine pw_goto (q := 2) n_1_34 rfl ?_
      rw [show fstS (fun d => decide (X 0 d 0 = 0)) (fun d => gup X 0 d 0 1) (-7) X (n + 1) i = fstS (fun d => decide (X 0 d 0 = 0)) (fun d => gup X 0 d 0 1) (-7) X n (i + 1) from by first | (simp [fstS, h1, bI_t, bI_f, nI_add1, gup_k, eSet_k, eClr_k, hSet_k, hClr_k, qSet_k, qCls_k]; done) | contradiction]
      exact ih (i + 1) (by omega)
    ·
      refine pw_aload_n n_1_19 rfl rfl ?_
      refine pw_getf (a := 0) n_1_20 fl_0_11 (by decide) (rdR (sh_G_domains)) rfl ?_
      refine pw_iload_n n_1_23 rfl rfl ?_
      refine pw_aald (a := 1) (t := 102) (u := 1) n_1_24 (nI_pos (by omega)) (nI_clamp (by omega)) (by decide) rfl (rdR (sh_DA i (by omega))) rfl ?_
      refine pw_iconst n_1_25 ic_1 rfl ?_
      refine pw_putf (a := cD i) n_1_26 fl_0_30 (by decide) rfl rfl (Or.inl rfl) (wrX (sh_D_state i (by omega)) (by decide)) rfl ?_
      refine pw_iload_n n_1_29 rfl rfl ?_
      exact pw_ireturn (ty := .int) n_1_30 rfl rfl (by first | (simp [fstS, h1, (Classical.not_not.mp h1), bI_t, bI_f, nI_add1, gup_k, eSet_k, eClr_k, hSet_k, hClr_k, qSet_k, qCls_k]; done) | contradiction)
set_option maxRecDepth 100000 in
set_option maxHeartbeats 4000000 in
theorem w_1 {X M : gS}   (d : Nat) : pm_Call (d + 1) 1 [.ref 1] (gE X M) (some (.int ((xCreate X).1)), gE ((xCreate X).2) M) := by
  refine pw_start (d := d) (l := [some (.ref 1), none]) (Nat.le_of_ble_eq_true rfl) rfl ?_
  refine pw_iconst n_1_0 ic_0 rfl ?_
  refine pw_istore_n (l := [some (.ref 1), some (.int 0)]) n_1_1 rfl rfl ?_
  exact L_1_2  _ 5 0 (by omega)
set_option maxRecDepth 100000 in
set_option maxHeartbeats 4000000 in
theorem w_3 {X M : gS} {x : Int32}  (d : Nat) : pm_Call (d + 3) 3 [.ref 1, .int x] (gE X M) (some (.int ((xAlloc X x).1)), gE ((xAlloc X x).2) M) := by
  refine pw_start (d := d + 2) (l := [some (.ref 1), some (.int x), none]) (Nat.le_of_ble_eq_true rfl) rfl ?_
  refine pw_aload_n n_3_0 rfl rfl ?_
  refine pw_iload_n n_3_1 rfl rfl ?_
  refine pw_virtV (a := 0) (as := [.int x]) (st := []) n_3_2 cl_0_34 ⟨rfl, rfl, rfl⟩ (sum8 rfl) (E_tg sh_G_domains) rfl (w_25 (x := x) _) ?_
  refine pw_ifb_ne (q := 10) n_3_5 rfl rfl (fun h1 => ?_) (fun h1 => ?_)
  ·
    obtain ⟨h1a, h1b⟩ := ir_live h1
    refine pw_aload_n n_3_10 rfl rfl ?_
    refine pw_iload_n n_3_11 rfl rfl ?_
    refine pw_virtV (a := 0) (as := [.int x]) (st := []) n_3_12 cl_0_57 ⟨rfl, rfl, rfl⟩ (sum8 rfl) (E_tg sh_G_domains) rfl (w_29 (x := x) _) ?_
    refine pw_istore_n (l := [some (.ref 1), some (.int x), some (.int (xGet X x))]) n_3_15 rfl rfl ?_
    refine pw_iload_n n_3_16 rfl rfl ?_
    refine pw_iconst n_3_17 ic_m1 rfl ?_
    refine pw_icmp_ne (q := 24) n_3_18 rfl rfl (fun h2 => ?_) (fun h2 => ?_)
    ·
      obtain ⟨h2a, h2b⟩ := ir_get h2
      refine pw_aload_n n_3_24 rfl rfl ?_
      refine pw_getf (a := 0) n_3_25 fl_0_17 (by decide) (rdR (sh_G_pages)) rfl ?_
      refine pw_iload_n n_3_28 rfl rfl ?_
      refine pw_aald (a := 2) (t := 103) (u := 2) n_3_29 (by assumption) rfl (by decide) rfl (rdR (sh_PA (tN (xGet X x)) (by omega))) rfl ?_
      refine pw_iload_n n_3_30 rfl rfl ?_
      refine pw_putf (a := cP (tN (xGet X x))) n_3_31 fl_0_61 (by decide) rfl rfl (Or.inl rfl) (wrX (sh_P_owner (tN (xGet X x)) (by omega)) (by decide)) rfl ?_
      refine pw_aload_n n_3_34 rfl rfl ?_
      refine pw_getf (a := 0) n_3_35 fl_0_17 (by decide) (rdR (sh_G_pages)) rfl ?_
      refine pw_iload_n n_3_38 rfl rfl ?_
      refine pw_aald (a := 2) (t := 103) (u := 2) n_3_39 (by assumption) rfl (by decide) rfl (rdR (sh_PA (tN (xGet X x)) (by omega))) rfl ?_
      refine pw_virt0 (a := cP (tN (xGet X x))) (as := []) (st := []) n_3_40 cl_0_64 ⟨rfl, rfl, rfl⟩ (sum8 rfl) (E_tg (sh_P_owner (tN (xGet X x)) (by omega))) rfl (w_61 (p := (tN (xGet X x))) (by omega) _) ?_
      refine pw_iload_n n_3_43 rfl rfl ?_
      exact pw_ireturn (ty := .int) n_3_44 rfl rfl (by first | (simp [xAlloc, h1, h2, bI_t, bI_f, nI_add1, gup_k, eSet_k, eClr_k, hSet_k, hClr_k, qSet_k, qCls_k]; done) | contradiction)
    ·
      refine pw_bipush n_3_21 bc_m7 rfl ?_
      exact pw_ireturn (ty := .int) n_3_23 rfl rfl (by first | (simp [xAlloc, h1, h2, (Classical.not_not.mp h2), bI_t, bI_f, nI_add1, gup_k, eSet_k, eClr_k, hSet_k, hClr_k, qSet_k, qCls_k]; done) | contradiction)
  ·
    refine pw_iconst n_3_8 ic_m1 rfl ?_
    exact pw_ireturn (ty := .int) n_3_9 rfl rfl (by first | (simp [xAlloc, h1, bI_t, bI_f, nI_add1, gup_k, eSet_k, eClr_k, hSet_k, hClr_k, qSet_k, qCls_k]; done) | contradiction)
set_option maxRecDepth 100000 in
set_option maxHeartbeats 4000000 in
theorem w_4 {X M : gS} {x : Int32} {p : Int32}  (d : Nat) : pm_Call (d + 3) 4 [.ref 1, .int x, .int p] (gE X M) (some (.int ((xFree X x p).1)), gE ((xFree X x p).2) M) := by
  refine pw_start (d := d + 2) (l := [some (.ref 1), some (.int x), some (.int p)]) (Nat.le_of_ble_eq_true rfl) rfl ?_
  refine pw_aload_n n_4_0 rfl rfl ?_
  refine pw_iload_n n_4_1 rfl rfl ?_
  refine pw_virtV (a := 0) (as := [.int x]) (st := []) n_4_2 cl_0_34 ⟨rfl, rfl, rfl⟩ (sum8 rfl) (E_tg sh_G_domains) rfl (w_25 (x := x) _) ?_
  refine pw_ifb_ne (q := 10) n_4_5 rfl rfl (fun h1 => ?_) (fun h1 => ?_)
  ·
    obtain ⟨h1a, h1b⟩ := ir_live h1
    refine pw_aload_n n_4_10 rfl rfl ?_
    refine pw_iload_n n_4_11 rfl rfl ?_
    refine pw_iload_n n_4_12 rfl rfl ?_
    refine pw_virtV (a := 0) (as := [.int x, .int p]) (st := []) n_4_13 cl_0_67 ⟨rfl, rfl, rfl⟩ (sum8 rfl) (E_tg sh_G_domains) rfl (w_27 (x := x) (p := p) _) ?_
    refine pw_ifb_ne (q := 22) n_4_16 rfl rfl (fun h2 => ?_) (fun h2 => ?_)
    ·
      obtain ⟨h2a, h2b⟩ := ir_owns h2
      refine pw_aload_n n_4_22 rfl rfl ?_
      refine pw_getf (a := 0) n_4_23 fl_0_11 (by decide) (rdR (sh_G_domains)) rfl ?_
      refine pw_iload_n n_4_26 rfl rfl ?_
      refine pw_aald (a := 1) (t := 102) (u := 1) n_4_27 (by assumption) rfl (by decide) rfl (rdR (sh_DA (tN x) (by omega))) rfl ?_
      refine pw_iload_n n_4_28 rfl rfl ?_
      refine pw_virtV (a := cD (tN x)) (as := [.int p]) (st := []) n_4_29 cl_0_71 ⟨rfl, rfl, rfl⟩ (sum8 rfl) (E_tg (sh_D_state (tN x) (by omega))) rfl (w_54 (a := (tN x)) (p := p) (by omega) _) ?_
      refine pw_ifb_eq (q := 38) n_4_32 rfl rfl (fun h3 => ?_) (fun h3 => ?_)
      ·
        refine pw_aload_n n_4_38 rfl rfl ?_
        refine pw_getf (a := 0) n_4_39 fl_0_17 (by decide) (rdR (sh_G_pages)) rfl ?_
        refine pw_iload_n n_4_42 rfl rfl ?_
        refine pw_aald (a := 2) (t := 103) (u := 2) n_4_43 (by assumption) rfl (by decide) rfl (rdR (sh_PA (tN p) (by omega))) rfl ?_
        refine pw_iconst n_4_44 ic_m1 rfl ?_
        refine pw_putf (a := cP (tN p)) n_4_45 fl_0_61 (by decide) rfl rfl (Or.inl rfl) (wrX (sh_P_owner (tN p) (by omega)) (by decide)) rfl ?_
        refine pw_iconst n_4_48 ic_0 rfl ?_
        exact pw_ireturn (ty := .int) n_4_49 rfl rfl (by first | (simp [xFree, h1, h2, h3, bI_t, bI_f, nI_add1, gup_k, eSet_k, eClr_k, hSet_k, hClr_k, qSet_k, qCls_k]; done) | contradiction)
      ·
        refine pw_bipush n_4_35 bc_m4 rfl ?_
        exact pw_ireturn (ty := .int) n_4_37 rfl rfl (by first | (simp [xFree, h1, h2, h3, bI_t, bI_f, nI_add1, gup_k, eSet_k, eClr_k, hSet_k, hClr_k, qSet_k, qCls_k]; done) | contradiction)
    ·
      refine pw_bipush n_4_19 bc_m3 rfl ?_
      exact pw_ireturn (ty := .int) n_4_21 rfl rfl (by first | (simp [xFree, h1, h2, bI_t, bI_f, nI_add1, gup_k, eSet_k, eClr_k, hSet_k, hClr_k, qSet_k, qCls_k]; done) | contradiction)
  ·
    refine pw_iconst n_4_8 ic_m1 rfl ?_
    exact pw_ireturn (ty := .int) n_4_9 rfl rfl (by first | (simp [xFree, h1, bI_t, bI_f, nI_add1, gup_k, eSet_k, eClr_k, hSet_k, hClr_k, qSet_k, qCls_k]; done) | contradiction)
set_option maxRecDepth 100000 in
set_option maxHeartbeats 4000000 in
theorem w_5 {X M : gS} {x : Int32} {t : Int32} {p : Int32} {k : Int32}  (d : Nat) : pm_Call (d + 3) 5 [.ref 1, .int x, .int t, .int p, .int k] (gE X M) (some (.int ((xGrant X x t p k).1)), gE ((xGrant X x t p k).2) M) := by
  refine pw_start (d := d + 2) (l := [some (.ref 1), some (.int x), some (.int t), some (.int p), some (.int k), none]) (Nat.le_of_ble_eq_true rfl) rfl ?_
  refine pw_aload_n n_5_0 rfl rfl ?_
  refine pw_iload_n n_5_1 rfl rfl ?_
  refine pw_virtV (a := 0) (as := [.int x]) (st := []) n_5_2 cl_0_34 ⟨rfl, rfl, rfl⟩ (sum8 rfl) (E_tg sh_G_domains) rfl (w_25 (x := x) _) ?_
  refine pw_ifb_ne (q := 10) n_5_5 rfl rfl (fun h1 => ?_) (fun h1 => ?_)
  ·
    obtain ⟨h1a, h1b⟩ := ir_live h1
    refine pw_iload_n n_5_10 rfl rfl ?_
    refine pw_iload_n n_5_11 rfl rfl ?_
    refine pw_statV (as := [.int x, .int t]) (st := []) n_5_12 cl_0_74 ⟨rfl, rfl, rfl⟩ (sum8 rfl) rfl (w_22 (x := x) (t := t) _) ?_
    refine pw_ifb_eq (q := 29) n_5_15 rfl rfl (fun h2 => ?_) (fun h2 => ?_)
    ·
      refine pw_bipush n_5_29 bc_m2 rfl ?_
      exact pw_ireturn (ty := .int) n_5_31 rfl rfl (by first | (simp [xGrant, h1, h2, bI_t, bI_f, nI_add1, gup_k, eSet_k, eClr_k, hSet_k, hClr_k, qSet_k, qCls_k]; done) | contradiction)
    ·
      obtain ⟨h2a, h2b⟩ := ir_oth h2
      refine pw_iload n_5_18 rfl rfl ?_
      refine pw_if_lt (q := 29) n_5_20 rfl rfl (fun h3 => ?_) (fun h3 => ?_)
      ·
        refine pw_bipush n_5_29 bc_m2 rfl ?_
        exact pw_ireturn (ty := .int) n_5_31 rfl rfl (by first | (simp [xGrant, h1, h2, h3, (i32_c h3), bI_t, bI_f, nI_add1, gup_k, eSet_k, eClr_k, hSet_k, hClr_k, qSet_k, qCls_k]; done) | contradiction)
      ·
        refine pw_iload n_5_23 rfl rfl ?_
        refine pw_iconst n_5_25 ic_2 rfl ?_
        refine pw_icmp_le (q := 32) n_5_26 rfl rfl (fun h4 => ?_) (fun h4 => ?_)
        ·
          have h4b := tN_le2 (z := k) (k := 2) (by decide) h4
          refine pw_iload n_5_32 rfl rfl ?_
          refine pw_iconst n_5_34 ic_2 rfl ?_
          refine pw_icmp_eq (q := 50) n_5_35 rfl rfl (fun h5 => ?_) (fun h5 => ?_)
          ·
            refine pw_aload_n n_5_50 rfl rfl ?_
            refine pw_getf (a := 0) n_5_51 fl_0_11 (by decide) (rdR (sh_G_domains)) rfl ?_
            refine pw_iload_n n_5_54 rfl rfl ?_
            refine pw_aald (a := 1) (t := 102) (u := 1) n_5_55 (by assumption) rfl (by decide) rfl (rdR (sh_DA (tN x) (by omega))) rfl ?_
            refine pw_virtV (a := cD (tN x)) (as := []) (st := []) n_5_56 cl_0_77 ⟨rfl, rfl, rfl⟩ (sum8 rfl) (E_tg (sh_D_state (tN x) (by omega))) rfl (w_56 (a := (tN x)) (by omega) _) ?_
            refine pw_istore (l := [some (.ref 1), some (.int x), some (.int t), some (.int p), some (.int k), some (.int (xFe X (tN x)))]) n_5_59 rfl rfl ?_
            refine pw_iload n_5_61 rfl rfl ?_
            refine pw_iconst n_5_63 ic_m1 rfl ?_
            refine pw_icmp_ne (q := 70) n_5_64 rfl rfl (fun h6 => ?_) (fun h6 => ?_)
            ·
              obtain ⟨h6a, h6b⟩ := ir_fe h6
              refine pw_aload_n n_5_70 rfl rfl ?_
              refine pw_getf (a := 0) n_5_71 fl_0_11 (by decide) (rdR (sh_G_domains)) rfl ?_
              refine pw_iload_n n_5_74 rfl rfl ?_
              refine pw_aald (a := 1) (t := 102) (u := 1) n_5_75 (by assumption) rfl (by decide) rfl (rdR (sh_DA (tN x) (by omega))) rfl ?_
              refine pw_getf (a := cD (tN x)) n_5_76 fl_0_81 (by decide) (rdR (sh_D_entries (tN x) (by omega))) rfl ?_
              refine pw_iload n_5_79 rfl rfl ?_
              refine pw_aald (a := cD (tN x) + 1) (t := 105) (u := 4) n_5_81 (by assumption) rfl (by decide) rfl (rdR (sh_EA (tN x) (by omega) (tN (xFe X (tN x))) (by omega))) rfl ?_
              refine pw_iload_n n_5_82 rfl rfl ?_
              refine pw_iload n_5_83 rfl rfl ?_
              refine pw_iload n_5_85 rfl rfl ?_
              refine pw_iconst n_5_87 ic_2 rfl ?_
              refine pw_icmp_ne (q := 95) n_5_88 rfl rfl (fun h7 => ?_) (fun h7 => ?_)
              ·
                refine pw_iload_n n_5_95 rfl rfl ?_
                refine pw_virt0 (a := cE (tN x) (tN (xFe X (tN x)))) (as := [.int t, .int k, .int p]) (st := []) n_5_96 cl_0_85 ⟨rfl, rfl, rfl⟩ (sum8 rfl) (E_tg (sh_E_target (tN x) (by omega) (tN (xFe X (tN x))) (by omega))) rfl (w_68 (a := (tN x)) (i := (tN (xFe X (tN x)))) (t := t) (k := k) (p := p) (by omega) (by omega) _) ?_
                refine pw_iload n_5_99 rfl rfl ?_
                exact pw_ireturn (ty := .int) n_5_101 rfl rfl (by first | (simp [xGrant, h1, h2, h3, (i32_d h3), h4, (i32_a h4), h5, h6, h7, bI_t, bI_f, nI_add1, gup_k, eSet_k, eClr_k, hSet_k, hClr_k, qSet_k, qCls_k]; done) | contradiction)
              ·
                refine pw_iconst n_5_91 ic_m1 rfl ?_
                refine pw_goto (q := 96) n_5_92 rfl ?_
                refine pw_virt0 (a := cE (tN x) (tN (xFe X (tN x)))) (as := [.int t, .int k, .int ((-1))]) (st := []) n_5_96 cl_0_85 ⟨rfl, rfl, rfl⟩ (sum8 rfl) (E_tg (sh_E_target (tN x) (by omega) (tN (xFe X (tN x))) (by omega))) rfl (w_68 (a := (tN x)) (i := (tN (xFe X (tN x)))) (t := t) (k := k) (p := ((-1))) (by omega) (by omega) _) ?_
                refine pw_iload n_5_99 rfl rfl ?_
                exact pw_ireturn (ty := .int) n_5_101 rfl rfl (by first | (simp [xGrant, h1, h2, h3, (i32_d h3), h4, (i32_a h4), h5, h6, h7, (Classical.not_not.mp h7), bI_t, bI_f, nI_add1, gup_k, eSet_k, eClr_k, hSet_k, hClr_k, qSet_k, qCls_k]; done) | contradiction)
            ·
              refine pw_bipush n_5_67 bc_m7 rfl ?_
              exact pw_ireturn (ty := .int) n_5_69 rfl rfl (by first | (simp [xGrant, h1, h2, h3, (i32_d h3), h4, (i32_a h4), h5, h6, (Classical.not_not.mp h6), bI_t, bI_f, nI_add1, gup_k, eSet_k, eClr_k, hSet_k, hClr_k, qSet_k, qCls_k]; done) | contradiction)
          ·
            refine pw_aload_n n_5_38 rfl rfl ?_
            refine pw_iload_n n_5_39 rfl rfl ?_
            refine pw_iload_n n_5_40 rfl rfl ?_
            refine pw_virtV (a := 0) (as := [.int x, .int p]) (st := []) n_5_41 cl_0_67 ⟨rfl, rfl, rfl⟩ (sum8 rfl) (E_tg sh_G_domains) rfl (w_27 (x := x) (p := p) _) ?_
            refine pw_ifb_ne (q := 50) n_5_44 rfl rfl (fun h8 => ?_) (fun h8 => ?_)
            ·
              obtain ⟨h8a, h8b⟩ := ir_owns h8
              refine pw_aload_n n_5_50 rfl rfl ?_
              refine pw_getf (a := 0) n_5_51 fl_0_11 (by decide) (rdR (sh_G_domains)) rfl ?_
              refine pw_iload_n n_5_54 rfl rfl ?_
              refine pw_aald (a := 1) (t := 102) (u := 1) n_5_55 (by assumption) rfl (by decide) rfl (rdR (sh_DA (tN x) (by omega))) rfl ?_
              refine pw_virtV (a := cD (tN x)) (as := []) (st := []) n_5_56 cl_0_77 ⟨rfl, rfl, rfl⟩ (sum8 rfl) (E_tg (sh_D_state (tN x) (by omega))) rfl (w_56 (a := (tN x)) (by omega) _) ?_
              refine pw_istore (l := [some (.ref 1), some (.int x), some (.int t), some (.int p), some (.int k), some (.int (xFe X (tN x)))]) n_5_59 rfl rfl ?_
              refine pw_iload n_5_61 rfl rfl ?_
              refine pw_iconst n_5_63 ic_m1 rfl ?_
              refine pw_icmp_ne (q := 70) n_5_64 rfl rfl (fun h9 => ?_) (fun h9 => ?_)
              ·
                obtain ⟨h9a, h9b⟩ := ir_fe h9
                refine pw_aload_n n_5_70 rfl rfl ?_
                refine pw_getf (a := 0) n_5_71 fl_0_11 (by decide) (rdR (sh_G_domains)) rfl ?_
                refine pw_iload_n n_5_74 rfl rfl ?_
                refine pw_aald (a := 1) (t := 102) (u := 1) n_5_75 (by assumption) rfl (by decide) rfl (rdR (sh_DA (tN x) (by omega))) rfl ?_
                refine pw_getf (a := cD (tN x)) n_5_76 fl_0_81 (by decide) (rdR (sh_D_entries (tN x) (by omega))) rfl ?_
                refine pw_iload n_5_79 rfl rfl ?_
                refine pw_aald (a := cD (tN x) + 1) (t := 105) (u := 4) n_5_81 (by assumption) rfl (by decide) rfl (rdR (sh_EA (tN x) (by omega) (tN (xFe X (tN x))) (by omega))) rfl ?_
                refine pw_iload_n n_5_82 rfl rfl ?_
                refine pw_iload n_5_83 rfl rfl ?_
                refine pw_iload n_5_85 rfl rfl ?_
                refine pw_iconst n_5_87 ic_2 rfl ?_
                refine pw_icmp_ne (q := 95) n_5_88 rfl rfl (fun h10 => ?_) (fun h10 => ?_)
                ·
                  refine pw_iload_n n_5_95 rfl rfl ?_
                  refine pw_virt0 (a := cE (tN x) (tN (xFe X (tN x)))) (as := [.int t, .int k, .int p]) (st := []) n_5_96 cl_0_85 ⟨rfl, rfl, rfl⟩ (sum8 rfl) (E_tg (sh_E_target (tN x) (by omega) (tN (xFe X (tN x))) (by omega))) rfl (w_68 (a := (tN x)) (i := (tN (xFe X (tN x)))) (t := t) (k := k) (p := p) (by omega) (by omega) _) ?_
                  refine pw_iload n_5_99 rfl rfl ?_
                  exact pw_ireturn (ty := .int) n_5_101 rfl rfl (by first | (simp [xGrant, h1, h2, h3, (i32_d h3), h4, (i32_a h4), h5, h8, h9, h10, bI_t, bI_f, nI_add1, gup_k, eSet_k, eClr_k, hSet_k, hClr_k, qSet_k, qCls_k]; done) | contradiction)
                ·
                  refine pw_iconst n_5_91 ic_m1 rfl ?_
                  refine pw_goto (q := 96) n_5_92 rfl ?_
                  refine pw_virt0 (a := cE (tN x) (tN (xFe X (tN x)))) (as := [.int t, .int k, .int ((-1))]) (st := []) n_5_96 cl_0_85 ⟨rfl, rfl, rfl⟩ (sum8 rfl) (E_tg (sh_E_target (tN x) (by omega) (tN (xFe X (tN x))) (by omega))) rfl (w_68 (a := (tN x)) (i := (tN (xFe X (tN x)))) (t := t) (k := k) (p := ((-1))) (by omega) (by omega) _) ?_
                  refine pw_iload n_5_99 rfl rfl ?_
                  exact pw_ireturn (ty := .int) n_5_101 rfl rfl (by first | (simp [xGrant, h1, h2, h3, (i32_d h3), h4, (i32_a h4), h5, h8, h9, h10, (Classical.not_not.mp h10), bI_t, bI_f, nI_add1, gup_k, eSet_k, eClr_k, hSet_k, hClr_k, qSet_k, qCls_k]; done) | contradiction)
              ·
                refine pw_bipush n_5_67 bc_m7 rfl ?_
                exact pw_ireturn (ty := .int) n_5_69 rfl rfl (by first | (simp [xGrant, h1, h2, h3, (i32_d h3), h4, (i32_a h4), h5, h8, h9, (Classical.not_not.mp h9), bI_t, bI_f, nI_add1, gup_k, eSet_k, eClr_k, hSet_k, hClr_k, qSet_k, qCls_k]; done) | contradiction)
            ·
              refine pw_bipush n_5_47 bc_m3 rfl ?_
              exact pw_ireturn (ty := .int) n_5_49 rfl rfl (by first | (simp [xGrant, h1, h2, h3, (i32_d h3), h4, (i32_a h4), h5, h8, bI_t, bI_f, nI_add1, gup_k, eSet_k, eClr_k, hSet_k, hClr_k, qSet_k, qCls_k]; done) | contradiction)
        ·
          refine pw_bipush n_5_29 bc_m2 rfl ?_
          exact pw_ireturn (ty := .int) n_5_31 rfl rfl (by first | (simp [xGrant, h1, h2, h3, (i32_d h3), h4, (i32_b h4), bI_t, bI_f, nI_add1, gup_k, eSet_k, eClr_k, hSet_k, hClr_k, qSet_k, qCls_k]; done) | contradiction)
  ·
    refine pw_iconst n_5_8 ic_m1 rfl ?_
    exact pw_ireturn (ty := .int) n_5_9 rfl rfl (by first | (simp [xGrant, h1, bI_t, bI_f, nI_add1, gup_k, eSet_k, eClr_k, hSet_k, hClr_k, qSet_k, qCls_k]; done) | contradiction)
set_option maxRecDepth 100000 in
set_option maxHeartbeats 4000000 in
theorem w_6 {X M : gS} {x : Int32} {r : Int32}  (d : Nat) : pm_Call (d + 3) 6 [.ref 1, .int x, .int r] (gE X M) (some (.int ((xEnd X x r).1)), gE ((xEnd X x r).2) M) := by
  refine pw_start (d := d + 2) (l := [some (.ref 1), some (.int x), some (.int r), none]) (Nat.le_of_ble_eq_true rfl) rfl ?_
  refine pw_aload_n n_6_0 rfl rfl ?_
  refine pw_iload_n n_6_1 rfl rfl ?_
  refine pw_virtV (a := 0) (as := [.int x]) (st := []) n_6_2 cl_0_34 ⟨rfl, rfl, rfl⟩ (sum8 rfl) (E_tg sh_G_domains) rfl (w_25 (x := x) _) ?_
  refine pw_ifb_ne (q := 10) n_6_5 rfl rfl (fun h1 => ?_) (fun h1 => ?_)
  ·
    obtain ⟨h1a, h1b⟩ := ir_live h1
    refine pw_aload_n n_6_10 rfl rfl ?_
    refine pw_getf (a := 0) n_6_11 fl_0_11 (by decide) (rdR (sh_G_domains)) rfl ?_
    refine pw_iload_n n_6_14 rfl rfl ?_
    refine pw_aald (a := 1) (t := 102) (u := 1) n_6_15 (by assumption) rfl (by decide) rfl (rdR (sh_DA (tN x) (by omega))) rfl ?_
    refine pw_iload_n n_6_16 rfl rfl ?_
    refine pw_virtV (a := cD (tN x)) (as := [.int r]) (st := []) n_6_17 cl_0_91 ⟨rfl, rfl, rfl⟩ (sum8 rfl) (E_tg (sh_D_state (tN x) (by omega))) rfl (w_52 (a := (tN x)) (r := r) (by omega) _) ?_
    refine pw_ifb_ne (q := 26) n_6_20 rfl rfl (fun h2 => ?_) (fun h2 => ?_)
    ·
      obtain ⟨h2a, h2b⟩ := ir_hasE h2
      refine pw_aload_n n_6_26 rfl rfl ?_
      refine pw_getf (a := 0) n_6_27 fl_0_11 (by decide) (rdR (sh_G_domains)) rfl ?_
      refine pw_iload_n n_6_30 rfl rfl ?_
      refine pw_aald (a := 1) (t := 102) (u := 1) n_6_31 (by assumption) rfl (by decide) rfl (rdR (sh_DA (tN x) (by omega))) rfl ?_
      refine pw_getf (a := cD (tN x)) n_6_32 fl_0_81 (by decide) (rdR (sh_D_entries (tN x) (by omega))) rfl ?_
      refine pw_iload_n n_6_35 rfl rfl ?_
      refine pw_aald (a := cD (tN x) + 1) (t := 105) (u := 4) n_6_36 (by assumption) rfl (by decide) rfl (rdR (sh_EA (tN x) (by omega) (tN r) (by omega))) rfl ?_
      refine pw_astore_n (l := [some (.ref 1), some (.int x), some (.int r), some (.ref (cE (tN x) (tN r) + 1))]) n_6_37 rfl rfl ?_
      refine pw_aload_n n_6_38 rfl rfl ?_
      refine pw_virtV (a := cE (tN x) (tN r)) (as := []) (st := []) n_6_39 cl_0_94 ⟨rfl, rfl, rfl⟩ (sum8 rfl) (E_tg (sh_E_target (tN x) (by omega) (tN r) (by omega))) rfl (w_67 (a := (tN x)) (i := (tN r)) (by omega) (by omega) _) ?_
      refine pw_ifb_eq (q := 48) n_6_42 rfl rfl (fun h3 => ?_) (fun h3 => ?_)
      ·
        refine pw_aload_n n_6_48 rfl rfl ?_
        refine pw_virt0 (a := cE (tN x) (tN r)) (as := []) (st := []) n_6_49 cl_0_98 ⟨rfl, rfl, rfl⟩ (sum8 rfl) (E_tg (sh_E_target (tN x) (by omega) (tN r) (by omega))) rfl (w_69 (a := (tN x)) (i := (tN r)) (by omega) (by omega) _) ?_
        refine pw_iconst n_6_52 ic_0 rfl ?_
        exact pw_ireturn (ty := .int) n_6_53 rfl rfl (by first | (simp [xEnd, h1, h2, h3, (of_decide_eq_false h3), (i32_d (of_decide_eq_false h3)), bI_t, bI_f, nI_add1, gup_k, eSet_k, eClr_k, hSet_k, hClr_k, qSet_k, qCls_k]; done) | contradiction)
      ·
        refine pw_bipush n_6_45 bc_m4 rfl ?_
        exact pw_ireturn (ty := .int) n_6_47 rfl rfl (by first | (simp [xEnd, h1, h2, h3, (of_decide_eq_true h3), (i32_c (of_decide_eq_true h3)), bI_t, bI_f, nI_add1, gup_k, eSet_k, eClr_k, hSet_k, hClr_k, qSet_k, qCls_k]; done) | contradiction)
    ·
      refine pw_bipush n_6_23 bc_m5 rfl ?_
      exact pw_ireturn (ty := .int) n_6_25 rfl rfl (by first | (simp [xEnd, h1, h2, bI_t, bI_f, nI_add1, gup_k, eSet_k, eClr_k, hSet_k, hClr_k, qSet_k, qCls_k]; done) | contradiction)
  ·
    refine pw_iconst n_6_8 ic_m1 rfl ?_
    exact pw_ireturn (ty := .int) n_6_9 rfl rfl (by first | (simp [xEnd, h1, bI_t, bI_f, nI_add1, gup_k, eSet_k, eClr_k, hSet_k, hClr_k, qSet_k, qCls_k]; done) | contradiction)
set_option maxRecDepth 100000 in
set_option maxHeartbeats 4000000 in
theorem w_7 {X M : gS} {x : Int32} {f : Int32} {r : Int32} {w : Bool}  (d : Nat) : pm_Call (d + 3) 7 [.ref 1, .int x, .int f, .int r, .int (bI w)] (gE X M) (some (.int ((xMap X x f r w).1)), gE ((xMap X x f r w).2) M) := by
  refine pw_start (d := d + 2) (l := [some (.ref 1), some (.int x), some (.int f), some (.int r), some (.int (bI w)), none, none]) (Nat.le_of_ble_eq_true rfl) rfl ?_
  refine pw_aload_n n_7_0 rfl rfl ?_
  refine pw_iload_n n_7_1 rfl rfl ?_
  refine pw_virtV (a := 0) (as := [.int x]) (st := []) n_7_2 cl_0_34 ⟨rfl, rfl, rfl⟩ (sum8 rfl) (E_tg sh_G_domains) rfl (w_25 (x := x) _) ?_
  refine pw_ifb_eq (q := 16) n_7_5 rfl rfl (fun h1 => ?_) (fun h1 => ?_)
  ·
    refine pw_iconst n_7_16 ic_m1 rfl ?_
    exact pw_ireturn (ty := .int) n_7_17 rfl rfl (by first | (simp [xMap, xMap1, h1, bI_t, bI_f, nI_add1, gup_k, eSet_k, eClr_k, hSet_k, hClr_k, qSet_k, qCls_k]; done) | contradiction)
  ·
    obtain ⟨h1a, h1b⟩ := ir_live h1
    refine pw_aload_n n_7_8 rfl rfl ?_
    refine pw_iload_n n_7_9 rfl rfl ?_
    refine pw_virtV (a := 0) (as := [.int f]) (st := []) n_7_10 cl_0_34 ⟨rfl, rfl, rfl⟩ (sum8 rfl) (E_tg sh_G_domains) rfl (w_25 (x := f) _) ?_
    refine pw_ifb_ne (q := 18) n_7_13 rfl rfl (fun h2 => ?_) (fun h2 => ?_)
    ·
      obtain ⟨h2a, h2b⟩ := ir_live h2
      refine pw_aload_n n_7_18 rfl rfl ?_
      refine pw_getf (a := 0) n_7_19 fl_0_11 (by decide) (rdR (sh_G_domains)) rfl ?_
      refine pw_iload_n n_7_22 rfl rfl ?_
      refine pw_aald (a := 1) (t := 102) (u := 1) n_7_23 (by assumption) rfl (by decide) rfl (rdR (sh_DA (tN f) (by omega))) rfl ?_
      refine pw_iload_n n_7_24 rfl rfl ?_
      refine pw_virtV (a := cD (tN f)) (as := [.int r]) (st := []) n_7_25 cl_0_91 ⟨rfl, rfl, rfl⟩ (sum8 rfl) (E_tg (sh_D_state (tN f) (by omega))) rfl (w_52 (a := (tN f)) (r := r) (by omega) _) ?_
      refine pw_ifb_ne (q := 34) n_7_28 rfl rfl (fun h3 => ?_) (fun h3 => ?_)
      ·
        obtain ⟨h3a, h3b⟩ := ir_hasE h3
        refine pw_aload_n n_7_34 rfl rfl ?_
        refine pw_getf (a := 0) n_7_35 fl_0_11 (by decide) (rdR (sh_G_domains)) rfl ?_
        refine pw_iload_n n_7_38 rfl rfl ?_
        refine pw_aald (a := 1) (t := 102) (u := 1) n_7_39 (by assumption) rfl (by decide) rfl (rdR (sh_DA (tN f) (by omega))) rfl ?_
        refine pw_getf (a := cD (tN f)) n_7_40 fl_0_81 (by decide) (rdR (sh_D_entries (tN f) (by omega))) rfl ?_
        refine pw_iload_n n_7_43 rfl rfl ?_
        refine pw_aald (a := cD (tN f) + 1) (t := 105) (u := 4) n_7_44 (by assumption) rfl (by decide) rfl (rdR (sh_EA (tN f) (by omega) (tN r) (by omega))) rfl ?_
        refine pw_astore (l := [some (.ref 1), some (.int x), some (.int f), some (.int r), some (.int (bI w)), some (.ref (cE (tN f) (tN r) + 1)), none]) n_7_45 rfl rfl ?_
        refine pw_aload n_7_47 rfl rfl ?_
        refine pw_getf (a := cE (tN f) (tN r)) n_7_49 fl_0_101 (by decide) (rdX (sh_E_kind (tN f) (by omega) (tN r) (by omega)) (by decide)) rfl ?_
        refine pw_iconst n_7_52 ic_2 rfl ?_
        refine pw_icmp_eq (q := 65) n_7_53 rfl rfl (fun h4 => ?_) (fun h4 => ?_)
        ·
          refine pw_bipush n_7_65 bc_m5 rfl ?_
          exact pw_ireturn (ty := .int) n_7_67 rfl rfl (by first | (simp [xMap, xMap1, h1, h2, h3, h4, bI_t, bI_f, nI_add1, gup_k, eSet_k, eClr_k, hSet_k, hClr_k, qSet_k, qCls_k]; done) | contradiction)
        ·
          refine pw_aload n_7_56 rfl rfl ?_
          refine pw_getf (a := cE (tN f) (tN r)) n_7_58 fl_0_104 (by decide) (rdX (sh_E_target (tN f) (by omega) (tN r) (by omega)) (by decide)) rfl ?_
          refine pw_iload_n n_7_61 rfl rfl ?_
          refine pw_icmp_eq (q := 68) n_7_62 rfl rfl (fun h5 => ?_) (fun h5 => ?_)
          ·
            refine pw_iload n_7_68 rfl rfl ?_
            refine pw_ifb_eq (q := 84) n_7_70 rfl rfl (fun h6 => ?_) (fun h6 => ?_)
            ·
              refine pw_aload_n n_7_84 rfl rfl ?_
              refine pw_getf (a := 0) n_7_85 fl_0_11 (by decide) (rdR (sh_G_domains)) rfl ?_
              refine pw_iload_n n_7_88 rfl rfl ?_
              refine pw_aald (a := 1) (t := 102) (u := 1) n_7_89 (by assumption) rfl (by decide) rfl (rdR (sh_DA (tN x) (by omega))) rfl ?_
              refine pw_virtV (a := cD (tN x)) (as := []) (st := []) n_7_90 cl_0_107 ⟨rfl, rfl, rfl⟩ (sum8 rfl) (E_tg (sh_D_state (tN x) (by omega))) rfl (w_57 (a := (tN x)) (by omega) _) ?_
              refine pw_istore (l := [some (.ref 1), some (.int x), some (.int f), some (.int r), some (.int (bI w)), some (.ref (cE (tN f) (tN r) + 1)), some (.int (xFh X (tN x)))]) n_7_93 rfl rfl ?_
              refine pw_iload n_7_95 rfl rfl ?_
              refine pw_iconst n_7_97 ic_m1 rfl ?_
              refine pw_icmp_ne (q := 104) n_7_98 rfl rfl (fun h7 => ?_) (fun h7 => ?_)
              ·
                obtain ⟨h7a, h7b⟩ := ir_fh h7
                refine pw_aload_n n_7_104 rfl rfl ?_
                refine pw_getf (a := 0) n_7_105 fl_0_11 (by decide) (rdR (sh_G_domains)) rfl ?_
                refine pw_iload_n n_7_108 rfl rfl ?_
                refine pw_aald (a := 1) (t := 102) (u := 1) n_7_109 (by assumption) rfl (by decide) rfl (rdR (sh_DA (tN x) (by omega))) rfl ?_
                refine pw_getf (a := cD (tN x)) n_7_110 fl_0_110 (by decide) (rdR (sh_D_handles (tN x) (by omega))) rfl ?_
                refine pw_iload n_7_113 rfl rfl ?_
                refine pw_aald (a := cD (tN x) + 2) (t := 106) (u := 5) n_7_115 (by assumption) rfl (by decide) rfl (rdR (sh_HA (tN x) (by omega) (tN (xFh X (tN x))) (by omega))) rfl ?_
                refine pw_iload_n n_7_116 rfl rfl ?_
                refine pw_iload_n n_7_117 rfl rfl ?_
                refine pw_iload n_7_118 rfl rfl ?_
                refine pw_virt0 (a := cH (tN x) (tN (xFh X (tN x)))) (as := [.int f, .int r, .int (bI w)]) (st := []) n_7_120 cl_0_114 ⟨rfl, rfl, rfl⟩ (sum8 rfl) (E_tg (sh_H_from (tN x) (by omega) (tN (xFh X (tN x))) (by omega))) rfl (w_72 (a := (tN x)) (i := (tN (xFh X (tN x)))) (f := f) (r := r) (w := w) (by omega) (by omega) _) ?_
                refine pw_aload n_7_123 rfl rfl ?_
                refine pw_dup n_7_125 rfl rfl ?_
                refine pw_getf (v := .int (X 6 (tN f) (tN r))) (a := cE (tN f) (tN r)) n_7_126 fl_0_119 (by decide) (rdX (sh_E_mappings (tN f) (by omega) (tN r) (by omega)) (by decide)) rfl ?_
                refine pw_iconst n_7_129 ic_1 rfl ?_
                refine pw_iadd n_7_130 rfl ?_
                refine pw_putf (a := cE (tN f) (tN r)) n_7_131 fl_0_119 (by decide) rfl rfl (Or.inl rfl) (wrX (sh_E_mappings (tN f) (by omega) (tN r) (by omega)) (by decide)) rfl ?_
                refine pw_iload n_7_134 rfl rfl ?_
                exact pw_ireturn (ty := .int) n_7_136 rfl rfl (by first | (simp [xMap, xMap1, h1, h2, h3, h4, h5, h6, h7, bI_t, bI_f, nI_add1, gup_k, eSet_k, eClr_k, hSet_k, hClr_k, qSet_k, qCls_k]; done) | contradiction)
              ·
                refine pw_bipush n_7_101 bc_m7 rfl ?_
                exact pw_ireturn (ty := .int) n_7_103 rfl rfl (by first | (simp [xMap, xMap1, h1, h2, h3, h4, h5, h6, h7, (Classical.not_not.mp h7), bI_t, bI_f, nI_add1, gup_k, eSet_k, eClr_k, hSet_k, hClr_k, qSet_k, qCls_k]; done) | contradiction)
            ·
              refine pw_aload n_7_73 rfl rfl ?_
              refine pw_getf (a := cE (tN f) (tN r)) n_7_75 fl_0_101 (by decide) (rdX (sh_E_kind (tN f) (by omega) (tN r) (by omega)) (by decide)) rfl ?_
              refine pw_if_ne (q := 84) n_7_78 rfl rfl (fun h8 => ?_) (fun h8 => ?_)
              ·
                refine pw_aload_n n_7_84 rfl rfl ?_
                refine pw_getf (a := 0) n_7_85 fl_0_11 (by decide) (rdR (sh_G_domains)) rfl ?_
                refine pw_iload_n n_7_88 rfl rfl ?_
                refine pw_aald (a := 1) (t := 102) (u := 1) n_7_89 (by assumption) rfl (by decide) rfl (rdR (sh_DA (tN x) (by omega))) rfl ?_
                refine pw_virtV (a := cD (tN x)) (as := []) (st := []) n_7_90 cl_0_107 ⟨rfl, rfl, rfl⟩ (sum8 rfl) (E_tg (sh_D_state (tN x) (by omega))) rfl (w_57 (a := (tN x)) (by omega) _) ?_
                refine pw_istore (l := [some (.ref 1), some (.int x), some (.int f), some (.int r), some (.int (bI w)), some (.ref (cE (tN f) (tN r) + 1)), some (.int (xFh X (tN x)))]) n_7_93 rfl rfl ?_
                refine pw_iload n_7_95 rfl rfl ?_
                refine pw_iconst n_7_97 ic_m1 rfl ?_
                refine pw_icmp_ne (q := 104) n_7_98 rfl rfl (fun h9 => ?_) (fun h9 => ?_)
                ·
                  obtain ⟨h9a, h9b⟩ := ir_fh h9
                  refine pw_aload_n n_7_104 rfl rfl ?_
                  refine pw_getf (a := 0) n_7_105 fl_0_11 (by decide) (rdR (sh_G_domains)) rfl ?_
                  refine pw_iload_n n_7_108 rfl rfl ?_
                  refine pw_aald (a := 1) (t := 102) (u := 1) n_7_109 (by assumption) rfl (by decide) rfl (rdR (sh_DA (tN x) (by omega))) rfl ?_
                  refine pw_getf (a := cD (tN x)) n_7_110 fl_0_110 (by decide) (rdR (sh_D_handles (tN x) (by omega))) rfl ?_
                  refine pw_iload n_7_113 rfl rfl ?_
                  refine pw_aald (a := cD (tN x) + 2) (t := 106) (u := 5) n_7_115 (by assumption) rfl (by decide) rfl (rdR (sh_HA (tN x) (by omega) (tN (xFh X (tN x))) (by omega))) rfl ?_
                  refine pw_iload_n n_7_116 rfl rfl ?_
                  refine pw_iload_n n_7_117 rfl rfl ?_
                  refine pw_iload n_7_118 rfl rfl ?_
                  refine pw_virt0 (a := cH (tN x) (tN (xFh X (tN x)))) (as := [.int f, .int r, .int (bI w)]) (st := []) n_7_120 cl_0_114 ⟨rfl, rfl, rfl⟩ (sum8 rfl) (E_tg (sh_H_from (tN x) (by omega) (tN (xFh X (tN x))) (by omega))) rfl (w_72 (a := (tN x)) (i := (tN (xFh X (tN x)))) (f := f) (r := r) (w := w) (by omega) (by omega) _) ?_
                  refine pw_aload n_7_123 rfl rfl ?_
                  refine pw_dup n_7_125 rfl rfl ?_
                  refine pw_getf (v := .int (X 6 (tN f) (tN r))) (a := cE (tN f) (tN r)) n_7_126 fl_0_119 (by decide) (rdX (sh_E_mappings (tN f) (by omega) (tN r) (by omega)) (by decide)) rfl ?_
                  refine pw_iconst n_7_129 ic_1 rfl ?_
                  refine pw_iadd n_7_130 rfl ?_
                  refine pw_putf (a := cE (tN f) (tN r)) n_7_131 fl_0_119 (by decide) rfl rfl (Or.inl rfl) (wrX (sh_E_mappings (tN f) (by omega) (tN r) (by omega)) (by decide)) rfl ?_
                  refine pw_iload n_7_134 rfl rfl ?_
                  exact pw_ireturn (ty := .int) n_7_136 rfl rfl (by first | (simp [xMap, xMap1, h1, h2, h3, h4, h5, h6, h8, h9, bI_t, bI_f, nI_add1, gup_k, eSet_k, eClr_k, hSet_k, hClr_k, qSet_k, qCls_k]; done) | contradiction)
                ·
                  refine pw_bipush n_7_101 bc_m7 rfl ?_
                  exact pw_ireturn (ty := .int) n_7_103 rfl rfl (by first | (simp [xMap, xMap1, h1, h2, h3, h4, h5, h6, h8, h9, (Classical.not_not.mp h9), bI_t, bI_f, nI_add1, gup_k, eSet_k, eClr_k, hSet_k, hClr_k, qSet_k, qCls_k]; done) | contradiction)
              ·
                refine pw_bipush n_7_81 bc_m6 rfl ?_
                exact pw_ireturn (ty := .int) n_7_83 rfl rfl (by first | (simp [xMap, xMap1, h1, h2, h3, h4, h5, h6, h8, (Classical.not_not.mp h8), bI_t, bI_f, nI_add1, gup_k, eSet_k, eClr_k, hSet_k, hClr_k, qSet_k, qCls_k]; done) | contradiction)
          ·
            refine pw_bipush n_7_65 bc_m5 rfl ?_
            exact pw_ireturn (ty := .int) n_7_67 rfl rfl (by first | (simp [xMap, xMap1, h1, h2, h3, h4, h5, bI_t, bI_f, nI_add1, gup_k, eSet_k, eClr_k, hSet_k, hClr_k, qSet_k, qCls_k]; done) | contradiction)
      ·
        refine pw_bipush n_7_31 bc_m5 rfl ?_
        exact pw_ireturn (ty := .int) n_7_33 rfl rfl (by first | (simp [xMap, xMap1, h1, h2, h3, bI_t, bI_f, nI_add1, gup_k, eSet_k, eClr_k, hSet_k, hClr_k, qSet_k, qCls_k]; done) | contradiction)
    ·
      refine pw_iconst n_7_16 ic_m1 rfl ?_
      exact pw_ireturn (ty := .int) n_7_17 rfl rfl (by first | (simp [xMap, xMap1, h1, h2, bI_t, bI_f, nI_add1, gup_k, eSet_k, eClr_k, hSet_k, hClr_k, qSet_k, qCls_k]; done) | contradiction)
set_option maxRecDepth 100000 in
set_option maxHeartbeats 4000000 in
theorem w_8 {X M : gS} {x : Int32} {h : Int32} (tk : xLive X x = true → xHasH X (tN x) h = true → tkF X (tN x) (tN h)) (d : Nat) : pm_Call (d + 5) 8 [.ref 1, .int x, .int h] (gE X M) (some (.int ((xUnmap X x h).1)), gE ((xUnmap X x h).2) M) := by
  refine pw_start (d := d + 4) (l := [some (.ref 1), some (.int x), some (.int h)]) (Nat.le_of_ble_eq_true rfl) rfl ?_
  refine pw_aload_n n_8_0 rfl rfl ?_
  refine pw_iload_n n_8_1 rfl rfl ?_
  refine pw_virtV (a := 0) (as := [.int x]) (st := []) n_8_2 cl_0_34 ⟨rfl, rfl, rfl⟩ (sum8 rfl) (E_tg sh_G_domains) rfl (w_25 (x := x) _) ?_
  refine pw_ifb_ne (q := 10) n_8_5 rfl rfl (fun h1 => ?_) (fun h1 => ?_)
  ·
    obtain ⟨h1a, h1b⟩ := ir_live h1
    refine pw_aload_n n_8_10 rfl rfl ?_
    refine pw_getf (a := 0) n_8_11 fl_0_11 (by decide) (rdR (sh_G_domains)) rfl ?_
    refine pw_iload_n n_8_14 rfl rfl ?_
    refine pw_aald (a := 1) (t := 102) (u := 1) n_8_15 (by assumption) rfl (by decide) rfl (rdR (sh_DA (tN x) (by omega))) rfl ?_
    refine pw_iload_n n_8_16 rfl rfl ?_
    refine pw_virtV (a := cD (tN x)) (as := [.int h]) (st := []) n_8_17 cl_0_122 ⟨rfl, rfl, rfl⟩ (sum8 rfl) (E_tg (sh_D_state (tN x) (by omega))) rfl (w_53 (a := (tN x)) (r := h) (by omega) _) ?_
    refine pw_ifb_ne (q := 26) n_8_20 rfl rfl (fun h2 => ?_) (fun h2 => ?_)
    ·
      obtain ⟨h2a, h2b⟩ := ir_hasH h2
      obtain ⟨f0, f1, e0, e1, p0, p1⟩ := tk (by assumption) h2
      refine pw_aload_n n_8_26 rfl rfl ?_
      refine pw_aload_n n_8_27 rfl rfl ?_
      refine pw_getf (a := 0) n_8_28 fl_0_11 (by decide) (rdR (sh_G_domains)) rfl ?_
      refine pw_iload_n n_8_31 rfl rfl ?_
      refine pw_aald (a := 1) (t := 102) (u := 1) n_8_32 (by assumption) rfl (by decide) rfl (rdR (sh_DA (tN x) (by omega))) rfl ?_
      refine pw_getf (a := cD (tN x)) n_8_33 fl_0_110 (by decide) (rdR (sh_D_handles (tN x) (by omega))) rfl ?_
      refine pw_iload_n n_8_36 rfl rfl ?_
      refine pw_aald (a := cD (tN x) + 2) (t := 106) (u := 5) n_8_37 (by assumption) rfl (by decide) rfl (rdR (sh_HA (tN x) (by omega) (tN h) (by omega))) rfl ?_
      refine pw_virt0 (a := 0) (as := [.ref (cH (tN x) (tN h) + 1)]) (st := []) n_8_38 cl_0_125 ⟨rfl, rfl, rfl⟩ (sum8 rfl) (E_tg sh_G_domains) rfl (w_36 (a := (tN x)) (h := (tN h)) (by omega) (by omega) (by assumption) (by assumption) (by assumption) (by assumption) (by assumption) (by assumption) _) ?_
      refine pw_iconst n_8_41 ic_0 rfl ?_
      exact pw_ireturn (ty := .int) n_8_42 rfl rfl (by first | (simp [xUnmap, h1, h2, bI_t, bI_f, nI_add1, gup_k, eSet_k, eClr_k, hSet_k, hClr_k, qSet_k, qCls_k]; done) | contradiction)
    ·
      refine pw_bipush n_8_23 bc_m5 rfl ?_
      exact pw_ireturn (ty := .int) n_8_25 rfl rfl (by first | (simp [xUnmap, h1, h2, bI_t, bI_f, nI_add1, gup_k, eSet_k, eClr_k, hSet_k, hClr_k, qSet_k, qCls_k]; done) | contradiction)
  ·
    refine pw_iconst n_8_8 ic_m1 rfl ?_
    exact pw_ireturn (ty := .int) n_8_9 rfl rfl (by first | (simp [xUnmap, h1, bI_t, bI_f, nI_add1, gup_k, eSet_k, eClr_k, hSet_k, hClr_k, qSet_k, qCls_k]; done) | contradiction)
set_option maxRecDepth 100000 in
set_option maxHeartbeats 4000000 in
theorem w_9 {X M : gS} {x : Int32} {p : Int32} {t : Int32} {r : Int32}  (d : Nat) : pm_Call (d + 3) 9 [.ref 1, .int x, .int p, .int t, .int r] (gE X M) (some (.int ((xGive X x p t r).1)), gE ((xGive X x p t r).2) M) := by
  refine pw_start (d := d + 2) (l := [some (.ref 1), some (.int x), some (.int p), some (.int t), some (.int r), none]) (Nat.le_of_ble_eq_true rfl) rfl ?_
  refine pw_aload_n n_9_0 rfl rfl ?_
  refine pw_iload_n n_9_1 rfl rfl ?_
  refine pw_virtV (a := 0) (as := [.int x]) (st := []) n_9_2 cl_0_34 ⟨rfl, rfl, rfl⟩ (sum8 rfl) (E_tg sh_G_domains) rfl (w_25 (x := x) _) ?_
  refine pw_ifb_eq (q := 16) n_9_5 rfl rfl (fun h1 => ?_) (fun h1 => ?_)
  ·
    refine pw_iconst n_9_16 ic_m1 rfl ?_
    exact pw_ireturn (ty := .int) n_9_17 rfl rfl (by first | (simp [xGive, h1, bI_t, bI_f, nI_add1, gup_k, eSet_k, eClr_k, hSet_k, hClr_k, qSet_k, qCls_k]; done) | contradiction)
  ·
    obtain ⟨h1a, h1b⟩ := ir_live h1
    refine pw_aload_n n_9_8 rfl rfl ?_
    refine pw_iload_n n_9_9 rfl rfl ?_
    refine pw_virtV (a := 0) (as := [.int t]) (st := []) n_9_10 cl_0_34 ⟨rfl, rfl, rfl⟩ (sum8 rfl) (E_tg sh_G_domains) rfl (w_25 (x := t) _) ?_
    refine pw_ifb_ne (q := 18) n_9_13 rfl rfl (fun h2 => ?_) (fun h2 => ?_)
    ·
      obtain ⟨h2a, h2b⟩ := ir_live h2
      refine pw_aload_n n_9_18 rfl rfl ?_
      refine pw_iload_n n_9_19 rfl rfl ?_
      refine pw_iload_n n_9_20 rfl rfl ?_
      refine pw_virtV (a := 0) (as := [.int x, .int p]) (st := []) n_9_21 cl_0_67 ⟨rfl, rfl, rfl⟩ (sum8 rfl) (E_tg sh_G_domains) rfl (w_27 (x := x) (p := p) _) ?_
      refine pw_ifb_ne (q := 30) n_9_24 rfl rfl (fun h3 => ?_) (fun h3 => ?_)
      ·
        obtain ⟨h3a, h3b⟩ := ir_owns h3
        refine pw_aload_n n_9_30 rfl rfl ?_
        refine pw_getf (a := 0) n_9_31 fl_0_11 (by decide) (rdR (sh_G_domains)) rfl ?_
        refine pw_iload_n n_9_34 rfl rfl ?_
        refine pw_aald (a := 1) (t := 102) (u := 1) n_9_35 (by assumption) rfl (by decide) rfl (rdR (sh_DA (tN x) (by omega))) rfl ?_
        refine pw_iload_n n_9_36 rfl rfl ?_
        refine pw_virtV (a := cD (tN x)) (as := [.int p]) (st := []) n_9_37 cl_0_71 ⟨rfl, rfl, rfl⟩ (sum8 rfl) (E_tg (sh_D_state (tN x) (by omega))) rfl (w_54 (a := (tN x)) (p := p) (by omega) _) ?_
        refine pw_ifb_eq (q := 46) n_9_40 rfl rfl (fun h4 => ?_) (fun h4 => ?_)
        ·
          refine pw_aload_n n_9_46 rfl rfl ?_
          refine pw_getf (a := 0) n_9_47 fl_0_11 (by decide) (rdR (sh_G_domains)) rfl ?_
          refine pw_iload_n n_9_50 rfl rfl ?_
          refine pw_aald (a := 1) (t := 102) (u := 1) n_9_51 (by assumption) rfl (by decide) rfl (rdR (sh_DA (tN t) (by omega))) rfl ?_
          refine pw_iload n_9_52 rfl rfl ?_
          refine pw_virtV (a := cD (tN t)) (as := [.int r]) (st := []) n_9_54 cl_0_91 ⟨rfl, rfl, rfl⟩ (sum8 rfl) (E_tg (sh_D_state (tN t) (by omega))) rfl (w_52 (a := (tN t)) (r := r) (by omega) _) ?_
          refine pw_ifb_ne (q := 63) n_9_57 rfl rfl (fun h5 => ?_) (fun h5 => ?_)
          ·
            obtain ⟨h5a, h5b⟩ := ir_hasE h5
            refine pw_aload_n n_9_63 rfl rfl ?_
            refine pw_getf (a := 0) n_9_64 fl_0_11 (by decide) (rdR (sh_G_domains)) rfl ?_
            refine pw_iload_n n_9_67 rfl rfl ?_
            refine pw_aald (a := 1) (t := 102) (u := 1) n_9_68 (by assumption) rfl (by decide) rfl (rdR (sh_DA (tN t) (by omega))) rfl ?_
            refine pw_getf (a := cD (tN t)) n_9_69 fl_0_81 (by decide) (rdR (sh_D_entries (tN t) (by omega))) rfl ?_
            refine pw_iload n_9_72 rfl rfl ?_
            refine pw_aald (a := cD (tN t) + 1) (t := 105) (u := 4) n_9_74 (by assumption) rfl (by decide) rfl (rdR (sh_EA (tN t) (by omega) (tN r) (by omega))) rfl ?_
            refine pw_astore (l := [some (.ref 1), some (.int x), some (.int p), some (.int t), some (.int r), some (.ref (cE (tN t) (tN r) + 1))]) n_9_75 rfl rfl ?_
            refine pw_aload n_9_77 rfl rfl ?_
            refine pw_getf (a := cE (tN t) (tN r)) n_9_79 fl_0_101 (by decide) (rdX (sh_E_kind (tN t) (by omega) (tN r) (by omega)) (by decide)) rfl ?_
            refine pw_iconst n_9_82 ic_2 rfl ?_
            refine pw_icmp_ne (q := 95) n_9_83 rfl rfl (fun h6 => ?_) (fun h6 => ?_)
            ·
              refine pw_bipush n_9_95 bc_m5 rfl ?_
              exact pw_ireturn (ty := .int) n_9_97 rfl rfl (by first | (simp [xGive, h1, h2, h3, h4, h5, h6, bI_t, bI_f, nI_add1, gup_k, eSet_k, eClr_k, hSet_k, hClr_k, qSet_k, qCls_k]; done) | contradiction)
            ·
              refine pw_aload n_9_86 rfl rfl ?_
              refine pw_getf (a := cE (tN t) (tN r)) n_9_88 fl_0_104 (by decide) (rdX (sh_E_target (tN t) (by omega) (tN r) (by omega)) (by decide)) rfl ?_
              refine pw_iload_n n_9_91 rfl rfl ?_
              refine pw_icmp_eq (q := 98) n_9_92 rfl rfl (fun h7 => ?_) (fun h7 => ?_)
              ·
                refine pw_aload_n n_9_98 rfl rfl ?_
                refine pw_iload_n n_9_99 rfl rfl ?_
                refine pw_virtV (a := 0) (as := [.int t]) (st := []) n_9_100 cl_0_129 ⟨rfl, rfl, rfl⟩ (sum8 rfl) (E_tg sh_G_domains) rfl (w_28 (x := t) _) ?_
                refine pw_bipush n_9_103 bc_6 rfl ?_
                refine pw_icmp_lt (q := 111) n_9_105 rfl rfl (fun h8 => ?_) (fun h8 => ?_)
                ·
                  have h8b := tN_lt2 (z := (xCnt X t)) (k := 6) (by decide) h8
                  refine pw_aload_n n_9_111 rfl rfl ?_
                  refine pw_getf (a := 0) n_9_112 fl_0_17 (by decide) (rdR (sh_G_pages)) rfl ?_
                  refine pw_iload_n n_9_115 rfl rfl ?_
                  refine pw_aald (a := 2) (t := 103) (u := 2) n_9_116 (by assumption) rfl (by decide) rfl (rdR (sh_PA (tN p) (by omega))) rfl ?_
                  refine pw_iload_n n_9_117 rfl rfl ?_
                  refine pw_putf (a := cP (tN p)) n_9_118 fl_0_61 (by decide) rfl rfl (Or.inl rfl) (wrX (sh_P_owner (tN p) (by omega)) (by decide)) rfl ?_
                  refine pw_aload n_9_121 rfl rfl ?_
                  refine pw_virt0 (a := cE (tN t) (tN r)) (as := []) (st := []) n_9_123 cl_0_98 ⟨rfl, rfl, rfl⟩ (sum8 rfl) (E_tg (sh_E_target (tN t) (by omega) (tN r) (by omega))) rfl (w_69 (a := (tN t)) (i := (tN r)) (by omega) (by omega) _) ?_
                  refine pw_iconst n_9_126 ic_0 rfl ?_
                  exact pw_ireturn (ty := .int) n_9_127 rfl rfl (by first | (simp [xGive, h1, h2, h3, h4, h5, h6, (Classical.not_not.mp h6), h7, h8, (i32_c h8), bI_t, bI_f, nI_add1, gup_k, eSet_k, eClr_k, hSet_k, hClr_k, qSet_k, qCls_k]; done) | contradiction)
                ·
                  refine pw_bipush n_9_108 bc_m7 rfl ?_
                  exact pw_ireturn (ty := .int) n_9_110 rfl rfl (by first | (simp [xGive, h1, h2, h3, h4, h5, h6, (Classical.not_not.mp h6), h7, h8, (i32_d h8), bI_t, bI_f, nI_add1, gup_k, eSet_k, eClr_k, hSet_k, hClr_k, qSet_k, qCls_k]; done) | contradiction)
              ·
                refine pw_bipush n_9_95 bc_m5 rfl ?_
                exact pw_ireturn (ty := .int) n_9_97 rfl rfl (by first | (simp [xGive, h1, h2, h3, h4, h5, h6, (Classical.not_not.mp h6), h7, bI_t, bI_f, nI_add1, gup_k, eSet_k, eClr_k, hSet_k, hClr_k, qSet_k, qCls_k]; done) | contradiction)
          ·
            refine pw_bipush n_9_60 bc_m5 rfl ?_
            exact pw_ireturn (ty := .int) n_9_62 rfl rfl (by first | (simp [xGive, h1, h2, h3, h4, h5, bI_t, bI_f, nI_add1, gup_k, eSet_k, eClr_k, hSet_k, hClr_k, qSet_k, qCls_k]; done) | contradiction)
        ·
          refine pw_bipush n_9_43 bc_m4 rfl ?_
          exact pw_ireturn (ty := .int) n_9_45 rfl rfl (by first | (simp [xGive, h1, h2, h3, h4, bI_t, bI_f, nI_add1, gup_k, eSet_k, eClr_k, hSet_k, hClr_k, qSet_k, qCls_k]; done) | contradiction)
      ·
        refine pw_bipush n_9_27 bc_m3 rfl ?_
        exact pw_ireturn (ty := .int) n_9_29 rfl rfl (by first | (simp [xGive, h1, h2, h3, bI_t, bI_f, nI_add1, gup_k, eSet_k, eClr_k, hSet_k, hClr_k, qSet_k, qCls_k]; done) | contradiction)
    ·
      refine pw_iconst n_9_16 ic_m1 rfl ?_
      exact pw_ireturn (ty := .int) n_9_17 rfl rfl (by first | (simp [xGive, h1, h2, bI_t, bI_f, nI_add1, gup_k, eSet_k, eClr_k, hSet_k, hClr_k, qSet_k, qCls_k]; done) | contradiction)
set_option maxRecDepth 100000 in
set_option maxHeartbeats 4000000 in
theorem w_10 {X M : gS} {x : Int32} {p : Int32} {w : Int32} {v : Int32} (hok0 : xLive X x = true → hOk X (tN x)) (d : Nat) : pm_Call (d + 5) 10 [.ref 1, .int x, .int p, .int w, .int v] (gE X M) (some (.int ((xStore X x p w v).1)), gE ((xStore X x p w v).2) M) := by
  refine pw_start (d := d + 4) (l := [some (.ref 1), some (.int x), some (.int p), some (.int w), some (.int v), none]) (Nat.le_of_ble_eq_true rfl) rfl ?_
  refine pw_aload_n n_10_0 rfl rfl ?_
  refine pw_iload_n n_10_1 rfl rfl ?_
  refine pw_iload_n n_10_2 rfl rfl ?_
  refine pw_iload_n n_10_3 rfl rfl ?_
  refine pw_iconst n_10_4 ic_1 rfl ?_
  refine pw_virtV (a := 0) (as := [.int x, .int p, .int w, .int 1]) (st := []) n_10_5 cl_0_132 ⟨rfl, rfl, rfl⟩ (sum8 rfl) (E_tg sh_G_domains) rfl (w_31 (x := x) (p := p) (w := w) (b := true) (by assumption) _) ?_
  refine pw_istore (l := [some (.ref 1), some (.int x), some (.int p), some (.int w), some (.int v), some (.int (xAcc X x p w true))]) n_10_8 rfl rfl ?_
  refine pw_iload n_10_10 rfl rfl ?_
  refine pw_if_ne (q := 28) n_10_12 rfl rfl (fun h1 => ?_) (fun h1 => ?_)
  ·
    refine pw_iload n_10_28 rfl rfl ?_
    exact pw_ireturn (ty := .int) n_10_30 rfl rfl (by first | (simp [xStore, h1, bI_t, bI_f, nI_add1, gup_k, eSet_k, eClr_k, hSet_k, hClr_k, qSet_k, qCls_k]; done) | contradiction)
  ·
    obtain ⟨⟨h1a, h1b⟩, h1c, h1e⟩ := ir_acc (Classical.not_not.mp h1)
    refine pw_aload_n n_10_15 rfl rfl ?_
    refine pw_getf (a := 0) n_10_16 fl_0_17 (by decide) (rdR (sh_G_pages)) rfl ?_
    refine pw_iload_n n_10_19 rfl rfl ?_
    refine pw_aald (a := 2) (t := 103) (u := 2) n_10_20 (by assumption) rfl (by decide) rfl (rdR (sh_PA (tN p) (by omega))) rfl ?_
    refine pw_getf (a := cP (tN p)) n_10_21 fl_0_136 (by decide) (rdR (sh_P_words (tN p) (by omega))) rfl ?_
    refine pw_iload_n n_10_24 rfl rfl ?_
    refine pw_iload n_10_25 rfl rfl ?_
    refine pw_iast (a := cP (tN p) + 1) n_10_27 (by assumption) rfl (wrX (sh_PW (tN p) (by omega) (tN w) (by omega)) (by decide)) rfl ?_
    refine pw_iload n_10_28 rfl rfl ?_
    exact pw_ireturn (ty := .int) n_10_30 rfl rfl (by first | (simp [xStore, h1, (Classical.not_not.mp h1), bI_t, bI_f, nI_add1, gup_k, eSet_k, eClr_k, hSet_k, hClr_k, qSet_k, qCls_k]; done) | contradiction)
set_option maxRecDepth 100000 in
set_option maxHeartbeats 4000000 in
theorem w_11 {X M : gS} {x : Int32} {p : Int32} {w : Int32} (hok0 : xLive X x = true → hOk X (tN x)) (d : Nat) : pm_Call (d + 5) 11 [.ref 1, .int x, .int p, .int w] (gE X M) (some (.long (xLoad X x p w)), gE X M) := by
  refine pw_start (d := d + 4) (l := [some (.ref 1), some (.int x), some (.int p), some (.int w), none]) (Nat.le_of_ble_eq_true rfl) rfl ?_
  refine pw_aload_n n_11_0 rfl rfl ?_
  refine pw_iload_n n_11_1 rfl rfl ?_
  refine pw_iload_n n_11_2 rfl rfl ?_
  refine pw_iload_n n_11_3 rfl rfl ?_
  refine pw_iconst n_11_4 ic_0 rfl ?_
  refine pw_virtV (a := 0) (as := [.int x, .int p, .int w, .int 0]) (st := []) n_11_5 cl_0_132 ⟨rfl, rfl, rfl⟩ (sum8 rfl) (E_tg sh_G_domains) rfl (w_31 (x := x) (p := p) (w := w) (b := false) (by assumption) _) ?_
  refine pw_istore (l := [some (.ref 1), some (.int x), some (.int p), some (.int w), some (.int (xAcc X x p w false))]) n_11_8 rfl rfl ?_
  refine pw_iload n_11_10 rfl rfl ?_
  refine pw_if_ne (q := 34) n_11_12 rfl rfl (fun h1 => ?_) (fun h1 => ?_)
  ·
    refine pw_iload n_11_34 rfl rfl ?_
    refine pw_i2l n_11_36 rfl ?_
    exact pw_lreturn n_11_37 rfl (by first | (simp [xLoad, h1, bI_t, bI_f, nI_add1, gup_k, eSet_k, eClr_k, hSet_k, hClr_k, qSet_k, qCls_k]; done) | contradiction)
  ·
    obtain ⟨⟨h1a, h1b⟩, h1c, h1e⟩ := ir_acc (Classical.not_not.mp h1)
    refine pw_aload_n n_11_15 rfl rfl ?_
    refine pw_getf (a := 0) n_11_16 fl_0_17 (by decide) (rdR (sh_G_pages)) rfl ?_
    refine pw_iload_n n_11_19 rfl rfl ?_
    refine pw_aald (a := 2) (t := 103) (u := 2) n_11_20 (by assumption) rfl (by decide) rfl (rdR (sh_PA (tN p) (by omega))) rfl ?_
    refine pw_getf (a := cP (tN p)) n_11_21 fl_0_136 (by decide) (rdR (sh_P_words (tN p) (by omega))) rfl ?_
    refine pw_iload_n n_11_24 rfl rfl ?_
    refine pw_iald (a := cP (tN p) + 1) n_11_25 (by assumption) rfl (rdX (sh_PW (tN p) (by omega) (tN w) (by omega)) (by decide)) rfl ?_
    refine pw_i2l n_11_26 rfl ?_
    refine pw_ldc2 n_11_27 l2_0_140 rfl ?_
    refine pw_land n_11_30 rfl ?_
    refine pw_goto (q := 37) n_11_31 rfl ?_
    exact pw_lreturn n_11_37 rfl (by first | (simp [xLoad, h1, (Classical.not_not.mp h1), bI_t, bI_f, nI_add1, gup_k, eSet_k, eClr_k, hSet_k, hClr_k, qSet_k, qCls_k]; done) | contradiction)
set_option maxRecDepth 100000 in
set_option maxHeartbeats 4000000 in
theorem w_12 {X M : gS} {x : Int32} {t : Int32}  (d : Nat) : pm_Call (d + 3) 12 [.ref 1, .int x, .int t] (gE X M) (some (.int ((xOpen X x t).1)), gE ((xOpen X x t).2) M) := by
  refine pw_start (d := d + 2) (l := [some (.ref 1), some (.int x), some (.int t), none]) (Nat.le_of_ble_eq_true rfl) rfl ?_
  refine pw_aload_n n_12_0 rfl rfl ?_
  refine pw_iload_n n_12_1 rfl rfl ?_
  refine pw_virtV (a := 0) (as := [.int x]) (st := []) n_12_2 cl_0_34 ⟨rfl, rfl, rfl⟩ (sum8 rfl) (E_tg sh_G_domains) rfl (w_25 (x := x) _) ?_
  refine pw_ifb_ne (q := 10) n_12_5 rfl rfl (fun h1 => ?_) (fun h1 => ?_)
  ·
    obtain ⟨h1a, h1b⟩ := ir_live h1
    refine pw_iload_n n_12_10 rfl rfl ?_
    refine pw_iload_n n_12_11 rfl rfl ?_
    refine pw_statV (as := [.int x, .int t]) (st := []) n_12_12 cl_0_74 ⟨rfl, rfl, rfl⟩ (sum8 rfl) rfl (w_22 (x := x) (t := t) _) ?_
    refine pw_ifb_ne (q := 21) n_12_15 rfl rfl (fun h2 => ?_) (fun h2 => ?_)
    ·
      obtain ⟨h2a, h2b⟩ := ir_oth h2
      refine pw_aload_n n_12_21 rfl rfl ?_
      refine pw_getf (a := 0) n_12_22 fl_0_11 (by decide) (rdR (sh_G_domains)) rfl ?_
      refine pw_iload_n n_12_25 rfl rfl ?_
      refine pw_aald (a := 1) (t := 102) (u := 1) n_12_26 (by assumption) rfl (by decide) rfl (rdR (sh_DA (tN x) (by omega))) rfl ?_
      refine pw_virtV (a := cD (tN x)) (as := []) (st := []) n_12_27 cl_0_142 ⟨rfl, rfl, rfl⟩ (sum8 rfl) (E_tg (sh_D_state (tN x) (by omega))) rfl (w_58 (a := (tN x)) (by omega) _) ?_
      refine pw_istore_n (l := [some (.ref 1), some (.int x), some (.int t), some (.int (xFq X (tN x)))]) n_12_30 rfl rfl ?_
      refine pw_iload_n n_12_31 rfl rfl ?_
      refine pw_iconst n_12_32 ic_m1 rfl ?_
      refine pw_icmp_ne (q := 39) n_12_33 rfl rfl (fun h3 => ?_) (fun h3 => ?_)
      ·
        obtain ⟨h3a, h3b⟩ := ir_fq h3
        refine pw_aload_n n_12_39 rfl rfl ?_
        refine pw_getf (a := 0) n_12_40 fl_0_11 (by decide) (rdR (sh_G_domains)) rfl ?_
        refine pw_iload_n n_12_43 rfl rfl ?_
        refine pw_aald (a := 1) (t := 102) (u := 1) n_12_44 (by assumption) rfl (by decide) rfl (rdR (sh_DA (tN x) (by omega))) rfl ?_
        refine pw_getf (a := cD (tN x)) n_12_45 fl_0_145 (by decide) (rdR (sh_D_ports (tN x) (by omega))) rfl ?_
        refine pw_iload_n n_12_48 rfl rfl ?_
        refine pw_aald (a := cD (tN x) + 3) (t := 107) (u := 6) n_12_49 (by assumption) rfl (by decide) rfl (rdR (sh_QA (tN x) (by omega) (tN (xFq X (tN x))) (by omega))) rfl ?_
        refine pw_iload_n n_12_50 rfl rfl ?_
        refine pw_virt0 (a := cQ (tN x) (tN (xFq X (tN x)))) (as := [.int t]) (st := []) n_12_51 cl_0_149 ⟨rfl, rfl, rfl⟩ (sum8 rfl) (E_tg (sh_Q_state (tN x) (by omega) (tN (xFq X (tN x))) (by omega))) rfl (w_76 (a := (tN x)) (i := (tN (xFq X (tN x)))) (t := t) (by omega) (by omega) _) ?_
        refine pw_iload_n n_12_54 rfl rfl ?_
        exact pw_ireturn (ty := .int) n_12_55 rfl rfl (by first | (simp [xOpen, h1, h2, h3, bI_t, bI_f, nI_add1, gup_k, eSet_k, eClr_k, hSet_k, hClr_k, qSet_k, qCls_k]; done) | contradiction)
      ·
        refine pw_bipush n_12_36 bc_m7 rfl ?_
        exact pw_ireturn (ty := .int) n_12_38 rfl rfl (by first | (simp [xOpen, h1, h2, h3, (Classical.not_not.mp h3), bI_t, bI_f, nI_add1, gup_k, eSet_k, eClr_k, hSet_k, hClr_k, qSet_k, qCls_k]; done) | contradiction)
    ·
      refine pw_bipush n_12_18 bc_m2 rfl ?_
      exact pw_ireturn (ty := .int) n_12_20 rfl rfl (by first | (simp [xOpen, h1, h2, bI_t, bI_f, nI_add1, gup_k, eSet_k, eClr_k, hSet_k, hClr_k, qSet_k, qCls_k]; done) | contradiction)
  ·
    refine pw_iconst n_12_8 ic_m1 rfl ?_
    exact pw_ireturn (ty := .int) n_12_9 rfl rfl (by first | (simp [xOpen, h1, bI_t, bI_f, nI_add1, gup_k, eSet_k, eClr_k, hSet_k, hClr_k, qSet_k, qCls_k]; done) | contradiction)
set_option maxRecDepth 100000 in
set_option maxHeartbeats 4000000 in
theorem w_13 {X M : gS} {x : Int32} {t : Int32} {k : Int32}  (d : Nat) : pm_Call (d + 3) 13 [.ref 1, .int x, .int t, .int k] (gE X M) (some (.int ((xBind X x t k).1)), gE ((xBind X x t k).2) M) := by
  refine pw_start (d := d + 2) (l := [some (.ref 1), some (.int x), some (.int t), some (.int k), none]) (Nat.le_of_ble_eq_true rfl) rfl ?_
  refine pw_aload_n n_13_0 rfl rfl ?_
  refine pw_iload_n n_13_1 rfl rfl ?_
  refine pw_virtV (a := 0) (as := [.int x]) (st := []) n_13_2 cl_0_34 ⟨rfl, rfl, rfl⟩ (sum8 rfl) (E_tg sh_G_domains) rfl (w_25 (x := x) _) ?_
  refine pw_ifb_eq (q := 16) n_13_5 rfl rfl (fun h1 => ?_) (fun h1 => ?_)
  ·
    refine pw_iconst n_13_16 ic_m1 rfl ?_
    exact pw_ireturn (ty := .int) n_13_17 rfl rfl (by first | (simp [xBind, h1, bI_t, bI_f, nI_add1, gup_k, eSet_k, eClr_k, hSet_k, hClr_k, qSet_k, qCls_k]; done) | contradiction)
  ·
    obtain ⟨h1a, h1b⟩ := ir_live h1
    refine pw_aload_n n_13_8 rfl rfl ?_
    refine pw_iload_n n_13_9 rfl rfl ?_
    refine pw_virtV (a := 0) (as := [.int t]) (st := []) n_13_10 cl_0_34 ⟨rfl, rfl, rfl⟩ (sum8 rfl) (E_tg sh_G_domains) rfl (w_25 (x := t) _) ?_
    refine pw_ifb_ne (q := 18) n_13_13 rfl rfl (fun h2 => ?_) (fun h2 => ?_)
    ·
      obtain ⟨h2a, h2b⟩ := ir_live h2
      refine pw_iload_n n_13_18 rfl rfl ?_
      refine pw_statV (as := [.int k]) (st := []) n_13_19 cl_0_154 ⟨rfl, rfl, rfl⟩ (sum8 rfl) rfl (w_24 (x := k) _) ?_
      refine pw_ifb_eq (q := 43) n_13_22 rfl rfl (fun h3 => ?_) (fun h3 => ?_)
      ·
        refine pw_bipush n_13_43 bc_m8 rfl ?_
        exact pw_ireturn (ty := .int) n_13_45 rfl rfl (by first | (simp [xBind, h1, h2, h3, bI_t, bI_f, nI_add1, gup_k, eSet_k, eClr_k, hSet_k, hClr_k, qSet_k, qCls_k]; done) | contradiction)
      ·
        obtain ⟨h3a, h3b⟩ := ir_prt h3
        refine pw_aload_n n_13_25 rfl rfl ?_
        refine pw_getf (a := 0) n_13_26 fl_0_11 (by decide) (rdR (sh_G_domains)) rfl ?_
        refine pw_iload_n n_13_29 rfl rfl ?_
        refine pw_aald (a := 1) (t := 102) (u := 1) n_13_30 (by assumption) rfl (by decide) rfl (rdR (sh_DA (tN t) (by omega))) rfl ?_
        refine pw_getf (a := cD (tN t)) n_13_31 fl_0_145 (by decide) (rdR (sh_D_ports (tN t) (by omega))) rfl ?_
        refine pw_iload_n n_13_34 rfl rfl ?_
        refine pw_aald (a := cD (tN t) + 3) (t := 107) (u := 6) n_13_35 (by assumption) rfl (by decide) rfl (rdR (sh_QA (tN t) (by omega) (tN k) (by omega))) rfl ?_
        refine pw_iload_n n_13_36 rfl rfl ?_
        refine pw_virtV (a := cQ (tN t) (tN k)) (as := [.int x]) (st := []) n_13_37 cl_0_157 ⟨rfl, rfl, rfl⟩ (sum8 rfl) (E_tg (sh_Q_state (tN t) (by omega) (tN k) (by omega))) rfl (w_75 (a := (tN t)) (i := (tN k)) (x := x) (by omega) (by omega) _) ?_
        refine pw_ifb_ne (q := 46) n_13_40 rfl rfl (fun h4 => ?_) (fun h4 => ?_)
        ·
          refine pw_aload_n n_13_46 rfl rfl ?_
          refine pw_getf (a := 0) n_13_47 fl_0_11 (by decide) (rdR (sh_G_domains)) rfl ?_
          refine pw_iload_n n_13_50 rfl rfl ?_
          refine pw_aald (a := 1) (t := 102) (u := 1) n_13_51 (by assumption) rfl (by decide) rfl (rdR (sh_DA (tN x) (by omega))) rfl ?_
          refine pw_virtV (a := cD (tN x)) (as := []) (st := []) n_13_52 cl_0_142 ⟨rfl, rfl, rfl⟩ (sum8 rfl) (E_tg (sh_D_state (tN x) (by omega))) rfl (w_58 (a := (tN x)) (by omega) _) ?_
          refine pw_istore (l := [some (.ref 1), some (.int x), some (.int t), some (.int k), some (.int (xFq X (tN x)))]) n_13_55 rfl rfl ?_
          refine pw_iload n_13_57 rfl rfl ?_
          refine pw_iconst n_13_59 ic_m1 rfl ?_
          refine pw_icmp_ne (q := 66) n_13_60 rfl rfl (fun h5 => ?_) (fun h5 => ?_)
          ·
            obtain ⟨h5a, h5b⟩ := ir_fq h5
            refine pw_aload_n n_13_66 rfl rfl ?_
            refine pw_getf (a := 0) n_13_67 fl_0_11 (by decide) (rdR (sh_G_domains)) rfl ?_
            refine pw_iload_n n_13_70 rfl rfl ?_
            refine pw_aald (a := 1) (t := 102) (u := 1) n_13_71 (by assumption) rfl (by decide) rfl (rdR (sh_DA (tN x) (by omega))) rfl ?_
            refine pw_getf (a := cD (tN x)) n_13_72 fl_0_145 (by decide) (rdR (sh_D_ports (tN x) (by omega))) rfl ?_
            refine pw_iload n_13_75 rfl rfl ?_
            refine pw_aald (a := cD (tN x) + 3) (t := 107) (u := 6) n_13_77 (by assumption) rfl (by decide) rfl (rdR (sh_QA (tN x) (by omega) (tN (xFq X (tN x))) (by omega))) rfl ?_
            refine pw_iload_n n_13_78 rfl rfl ?_
            refine pw_iload_n n_13_79 rfl rfl ?_
            refine pw_virt0 (a := cQ (tN x) (tN (xFq X (tN x)))) (as := [.int t, .int k]) (st := []) n_13_80 cl_0_160 ⟨rfl, rfl, rfl⟩ (sum8 rfl) (E_tg (sh_Q_state (tN x) (by omega) (tN (xFq X (tN x))) (by omega))) rfl (w_77 (a := (tN x)) (i := (tN (xFq X (tN x)))) (t := t) (p := k) (by omega) (by omega) _) ?_
            refine pw_aload_n n_13_83 rfl rfl ?_
            refine pw_getf (a := 0) n_13_84 fl_0_11 (by decide) (rdR (sh_G_domains)) rfl ?_
            refine pw_iload_n n_13_87 rfl rfl ?_
            refine pw_aald (a := 1) (t := 102) (u := 1) n_13_88 (by assumption) rfl (by decide) rfl (rdR (sh_DA (tN t) (by omega))) rfl ?_
            refine pw_getf (a := cD (tN t)) n_13_89 fl_0_145 (by decide) (rdR (sh_D_ports (tN t) (by omega))) rfl ?_
            refine pw_iload_n n_13_92 rfl rfl ?_
            refine pw_aald (a := cD (tN t) + 3) (t := 107) (u := 6) n_13_93 (by assumption) rfl (by decide) rfl (rdR (sh_QA (tN t) (by omega) (tN k) (by omega))) rfl ?_
            refine pw_iload_n n_13_94 rfl rfl ?_
            refine pw_iload n_13_95 rfl rfl ?_
            refine pw_virt0 (a := cQ (tN t) (tN k)) (as := [.int x, .int (xFq X (tN x))]) (st := []) n_13_97 cl_0_160 ⟨rfl, rfl, rfl⟩ (sum8 rfl) (E_tg (sh_Q_state (tN t) (by omega) (tN k) (by omega))) rfl (w_77 (a := (tN t)) (i := (tN k)) (t := x) (p := (xFq X (tN x))) (by omega) (by omega) _) ?_
            refine pw_iload n_13_100 rfl rfl ?_
            exact pw_ireturn (ty := .int) n_13_102 rfl rfl (by first | (simp [xBind, h1, h2, h3, h4, h5, bI_t, bI_f, nI_add1, gup_k, eSet_k, eClr_k, hSet_k, hClr_k, qSet_k, qCls_k]; done) | contradiction)
          ·
            refine pw_bipush n_13_63 bc_m7 rfl ?_
            exact pw_ireturn (ty := .int) n_13_65 rfl rfl (by first | (simp [xBind, h1, h2, h3, h4, h5, (Classical.not_not.mp h5), bI_t, bI_f, nI_add1, gup_k, eSet_k, eClr_k, hSet_k, hClr_k, qSet_k, qCls_k]; done) | contradiction)
        ·
          refine pw_bipush n_13_43 bc_m8 rfl ?_
          exact pw_ireturn (ty := .int) n_13_45 rfl rfl (by first | (simp [xBind, h1, h2, h3, h4, bI_t, bI_f, nI_add1, gup_k, eSet_k, eClr_k, hSet_k, hClr_k, qSet_k, qCls_k]; done) | contradiction)
    ·
      refine pw_iconst n_13_16 ic_m1 rfl ?_
      exact pw_ireturn (ty := .int) n_13_17 rfl rfl (by first | (simp [xBind, h1, h2, bI_t, bI_f, nI_add1, gup_k, eSet_k, eClr_k, hSet_k, hClr_k, qSet_k, qCls_k]; done) | contradiction)
set_option maxRecDepth 100000 in
set_option maxHeartbeats 4000000 in
theorem w_14 {X M : gS} {x : Int32} {k : Int32} (pq : xLive X x = true → xPrt k = true → X 10 (tN x) (tN k) = 2 → pqF X (tN x) (tN k)) (d : Nat) : pm_Call (d + 3) 14 [.ref 1, .int x, .int k] (gE X M) (some (.int ((xSend X x k).1)), gE ((xSend X x k).2) M) := by
  refine pw_start (d := d + 2) (l := [some (.ref 1), some (.int x), some (.int k), none, none]) (Nat.le_of_ble_eq_true rfl) rfl ?_
  refine pw_aload_n n_14_0 rfl rfl ?_
  refine pw_iload_n n_14_1 rfl rfl ?_
  refine pw_virtV (a := 0) (as := [.int x]) (st := []) n_14_2 cl_0_34 ⟨rfl, rfl, rfl⟩ (sum8 rfl) (E_tg sh_G_domains) rfl (w_25 (x := x) _) ?_
  refine pw_ifb_ne (q := 10) n_14_5 rfl rfl (fun h1 => ?_) (fun h1 => ?_)
  ·
    obtain ⟨h1a, h1b⟩ := ir_live h1
    refine pw_iload_n n_14_10 rfl rfl ?_
    refine pw_statV (as := [.int k]) (st := []) n_14_11 cl_0_154 ⟨rfl, rfl, rfl⟩ (sum8 rfl) rfl (w_24 (x := k) _) ?_
    refine pw_ifb_eq (q := 35) n_14_14 rfl rfl (fun h2 => ?_) (fun h2 => ?_)
    ·
      refine pw_bipush n_14_35 bc_m8 rfl ?_
      exact pw_ireturn (ty := .int) n_14_37 rfl rfl (by first | (simp [xSend, h1, h2, bI_t, bI_f, nI_add1, gup_k, eSet_k, eClr_k, hSet_k, hClr_k, qSet_k, qCls_k]; done) | contradiction)
    ·
      obtain ⟨h2a, h2b⟩ := ir_prt h2
      refine pw_aload_n n_14_17 rfl rfl ?_
      refine pw_getf (a := 0) n_14_18 fl_0_11 (by decide) (rdR (sh_G_domains)) rfl ?_
      refine pw_iload_n n_14_21 rfl rfl ?_
      refine pw_aald (a := 1) (t := 102) (u := 1) n_14_22 (by assumption) rfl (by decide) rfl (rdR (sh_DA (tN x) (by omega))) rfl ?_
      refine pw_getf (a := cD (tN x)) n_14_23 fl_0_145 (by decide) (rdR (sh_D_ports (tN x) (by omega))) rfl ?_
      refine pw_iload_n n_14_26 rfl rfl ?_
      refine pw_aald (a := cD (tN x) + 3) (t := 107) (u := 6) n_14_27 (by assumption) rfl (by decide) rfl (rdR (sh_QA (tN x) (by omega) (tN k) (by omega))) rfl ?_
      refine pw_getf (a := cQ (tN x) (tN k)) n_14_28 fl_0_164 (by decide) (rdX (sh_Q_state (tN x) (by omega) (tN k) (by omega)) (by decide)) rfl ?_
      refine pw_iconst n_14_31 ic_2 rfl ?_
      refine pw_icmp_eq (q := 38) n_14_32 rfl rfl (fun h3 => ?_) (fun h3 => ?_)
      ·
        obtain ⟨f0, f1, e0, e1⟩ := pq (by assumption) (by assumption) h3
        refine pw_aload_n n_14_38 rfl rfl ?_
        refine pw_aload_n n_14_39 rfl rfl ?_
        refine pw_getf (a := 0) n_14_40 fl_0_11 (by decide) (rdR (sh_G_domains)) rfl ?_
        refine pw_iload_n n_14_43 rfl rfl ?_
        refine pw_aald (a := 1) (t := 102) (u := 1) n_14_44 (by assumption) rfl (by decide) rfl (rdR (sh_DA (tN x) (by omega))) rfl ?_
        refine pw_getf (a := cD (tN x)) n_14_45 fl_0_145 (by decide) (rdR (sh_D_ports (tN x) (by omega))) rfl ?_
        refine pw_iload_n n_14_48 rfl rfl ?_
        refine pw_aald (a := cD (tN x) + 3) (t := 107) (u := 6) n_14_49 (by assumption) rfl (by decide) rfl (rdR (sh_QA (tN x) (by omega) (tN k) (by omega))) rfl ?_
        refine pw_virtV (a := 0) (as := [.ref (cQ (tN x) (tN k) + 1)]) (st := []) n_14_50 cl_0_165 ⟨rfl, rfl, rfl⟩ (sum8 rfl) (E_tg sh_G_domains) rfl (w_35 (a := (tN x)) (k := (tN k)) (by omega) (by omega) (by assumption) (by assumption) (by assumption) (by assumption) _) ?_
        refine pw_astore_n (l := [some (.ref 1), some (.int x), some (.int k), some (.ref (cQ (tN (X 11 (tN x) (tN k))) (tN (X 12 (tN x) (tN k))) + 1)), none]) n_14_53 rfl rfl ?_
        refine pw_aload_n n_14_54 rfl rfl ?_
        refine pw_getf (a := cQ (tN (X 11 (tN x) (tN k))) (tN (X 12 (tN x) (tN k)))) n_14_55 fl_0_169 (by decide) (rdX (sh_Q_pending (tN (X 11 (tN x) (tN k))) (by omega) (tN (X 12 (tN x) (tN k))) (by omega)) (by decide)) rfl ?_
        refine pw_if_eq (q := 65) n_14_58 rfl rfl (fun h4 => ?_) (fun h4 => ?_)
        ·
          refine pw_iconst n_14_65 ic_1 rfl ?_
          refine pw_istore (l := [some (.ref 1), some (.int x), some (.int k), some (.ref (cQ (tN (X 11 (tN x) (tN k))) (tN (X 12 (tN x) (tN k))) + 1)), some (.int 1)]) n_14_66 rfl rfl ?_
          refine pw_aload_n n_14_68 rfl rfl ?_
          refine pw_iconst n_14_69 ic_1 rfl ?_
          refine pw_putf (a := cQ (tN (X 11 (tN x) (tN k))) (tN (X 12 (tN x) (tN k)))) n_14_70 fl_0_169 (by decide) rfl rfl (Or.inl rfl) (wrX (sh_Q_pending (tN (X 11 (tN x) (tN k))) (by omega) (tN (X 12 (tN x) (tN k))) (by omega)) (by decide)) rfl ?_
          refine pw_iload n_14_73 rfl rfl ?_
          exact pw_ireturn (ty := .int) n_14_75 rfl rfl (by first | (simp [xSend, h1, h2, h3, h4, bI_t, bI_f, nI_add1, gup_k, eSet_k, eClr_k, hSet_k, hClr_k, qSet_k, qCls_k]; done) | contradiction)
        ·
          refine pw_iconst n_14_61 ic_0 rfl ?_
          refine pw_goto (q := 66) n_14_62 rfl ?_
          refine pw_istore (l := [some (.ref 1), some (.int x), some (.int k), some (.ref (cQ (tN (X 11 (tN x) (tN k))) (tN (X 12 (tN x) (tN k))) + 1)), some (.int 0)]) n_14_66 rfl rfl ?_
          refine pw_aload_n n_14_68 rfl rfl ?_
          refine pw_iconst n_14_69 ic_1 rfl ?_
          refine pw_putf (a := cQ (tN (X 11 (tN x) (tN k))) (tN (X 12 (tN x) (tN k)))) n_14_70 fl_0_169 (by decide) rfl rfl (Or.inl rfl) (wrX (sh_Q_pending (tN (X 11 (tN x) (tN k))) (by omega) (tN (X 12 (tN x) (tN k))) (by omega)) (by decide)) rfl ?_
          refine pw_iload n_14_73 rfl rfl ?_
          exact pw_ireturn (ty := .int) n_14_75 rfl rfl (by first | (simp [xSend, h1, h2, h3, h4, bI_t, bI_f, nI_add1, gup_k, eSet_k, eClr_k, hSet_k, hClr_k, qSet_k, qCls_k]; done) | contradiction)
      ·
        refine pw_bipush n_14_35 bc_m8 rfl ?_
        exact pw_ireturn (ty := .int) n_14_37 rfl rfl (by first | (simp [xSend, h1, h2, h3, bI_t, bI_f, nI_add1, gup_k, eSet_k, eClr_k, hSet_k, hClr_k, qSet_k, qCls_k]; done) | contradiction)
  ·
    refine pw_iconst n_14_8 ic_m1 rfl ?_
    exact pw_ireturn (ty := .int) n_14_9 rfl rfl (by first | (simp [xSend, h1, bI_t, bI_f, nI_add1, gup_k, eSet_k, eClr_k, hSet_k, hClr_k, qSet_k, qCls_k]; done) | contradiction)
set_option maxRecDepth 100000 in
set_option maxHeartbeats 4000000 in
theorem L_15_22 {X M : gS} {x : Int32}  (x1 : tN x < 5) (d : Nat) : ∀ n i : Nat, i + n = 4 → pw none (d + 2) 15 22 [some (.ref 1), some (.int x), some (.ref (cD (tN x) + 4)), some (.int (nI i))] [] (gE X M) (some (.int ((fstS (fun k => !decide (X 13 (tN x) k = 0)) (fun k => gup X 13 (tN x) k 0) (-11) X n i)).1), gE ((fstS (fun k => !decide (X 13 (tN x) k = 0)) (fun k => gup X 13 (tN x) k 0) (-11) X n i)).2 M) := by
  intro n
  induction n with
  | zero =>
    intro i hi
    obtain rfl : i = 4 := by omega
    refine pw_iload_n n_15_22 rfl rfl ?_
    refine pw_iconst n_15_23 ic_4 rfl ?_
    refine pw_icmp_ge_t (q := 51) n_15_24 rfl (nI_le (a := 4) (b := 4) (by omega) (by omega)) ?_
    refine pw_bipush n_15_51 bc_m11 rfl ?_
    exact pw_ireturn (ty := .int) n_15_53 rfl rfl (by first | (simp [fstS, bI_t, bI_f, nI_add1, gup_k, eSet_k, eClr_k, hSet_k, hClr_k, qSet_k, qCls_k]; done) | contradiction)
  | succ n ih =>
    intro i hi
    refine pw_iload_n n_15_22 rfl rfl ?_
    refine pw_iconst n_15_23 ic_4 rfl ?_
    refine pw_icmp_ge_f (q := 51) n_15_24 rfl rfl (nI_ge (a := i) (b := 4) (by omega) (by omega)) ?_
    refine pw_aload_n n_15_27 rfl rfl ?_
    refine pw_iload_n n_15_28 rfl rfl ?_
    refine pw_aald (a := cD (tN x) + 3) (t := 107) (u := 6) n_15_29 (nI_pos (by omega)) (nI_clamp (by omega)) (by decide) rfl (rdR (sh_QA (tN x) (by omega) i (by omega))) rfl ?_
    refine pw_getf (a := cQ (tN x) i) n_15_30 fl_0_169 (by decide) (rdX (sh_Q_pending (tN x) (by omega) i (by omega)) (by decide)) rfl ?_
    refine pw_if_eq (q := 45) n_15_33 rfl rfl (fun h1 => ?_) (fun h1 => ?_)
    ·
      refine pw_iinc (v := nI (i + 1)) (l := [some (.ref 1), some (.int x), some (.ref (cD (tN x) + 4)), some (.int (nI (i + 1)))]) n_15_45 rfl (nI_inc i) rfl rfl ?_
      refine pw_goto (q := 22) n_15_48 rfl ?_
      rw [show fstS (fun k => !decide (X 13 (tN x) k = 0)) (fun k => gup X 13 (tN x) k 0) (-11) X (n + 1) i = fstS (fun k => !decide (X 13 (tN x) k = 0)) (fun k => gup X 13 (tN x) k 0) (-11) X n (i + 1) from by first | (simp [fstS, h1, bI_t, bI_f, nI_add1, gup_k, eSet_k, eClr_k, hSet_k, hClr_k, qSet_k, qCls_k]; done) | contradiction]
      exact ih (i + 1) (by omega)
    ·
      refine pw_aload_n n_15_36 rfl rfl ?_
      refine pw_iload_n n_15_37 rfl rfl ?_
      refine pw_aald (a := cD (tN x) + 3) (t := 107) (u := 6) n_15_38 (nI_pos (by omega)) (nI_clamp (by omega)) (by decide) rfl (rdR (sh_QA (tN x) (by omega) i (by omega))) rfl ?_
      refine pw_iconst n_15_39 ic_0 rfl ?_
      refine pw_putf (a := cQ (tN x) i) n_15_40 fl_0_169 (by decide) rfl rfl (Or.inl rfl) (wrX (sh_Q_pending (tN x) (by omega) i (by omega)) (by decide)) rfl ?_
      refine pw_iload_n n_15_43 rfl rfl ?_
      exact pw_ireturn (ty := .int) n_15_44 rfl rfl (by first | (simp [fstS, h1, bI_t, bI_f, nI_add1, gup_k, eSet_k, eClr_k, hSet_k, hClr_k, qSet_k, qCls_k]; done) | contradiction)
set_option maxRecDepth 100000 in
set_option maxHeartbeats 4000000 in
theorem w_15 {X M : gS} {x : Int32}  (d : Nat) : pm_Call (d + 3) 15 [.ref 1, .int x] (gE X M) (some (.int ((xNext X x).1)), gE ((xNext X x).2) M) := by
  refine pw_start (d := d + 2) (l := [some (.ref 1), some (.int x), none, none]) (Nat.le_of_ble_eq_true rfl) rfl ?_
  refine pw_aload_n n_15_0 rfl rfl ?_
  refine pw_iload_n n_15_1 rfl rfl ?_
  refine pw_virtV (a := 0) (as := [.int x]) (st := []) n_15_2 cl_0_34 ⟨rfl, rfl, rfl⟩ (sum8 rfl) (E_tg sh_G_domains) rfl (w_25 (x := x) _) ?_
  refine pw_ifb_ne (q := 10) n_15_5 rfl rfl (fun h1 => ?_) (fun h1 => ?_)
  ·
    obtain ⟨h1a, h1b⟩ := ir_live h1
    refine pw_aload_n n_15_10 rfl rfl ?_
    refine pw_getf (a := 0) n_15_11 fl_0_11 (by decide) (rdR (sh_G_domains)) rfl ?_
    refine pw_iload_n n_15_14 rfl rfl ?_
    refine pw_aald (a := 1) (t := 102) (u := 1) n_15_15 (by assumption) rfl (by decide) rfl (rdR (sh_DA (tN x) (by omega))) rfl ?_
    refine pw_getf (a := cD (tN x)) n_15_16 fl_0_145 (by decide) (rdR (sh_D_ports (tN x) (by omega))) rfl ?_
    refine pw_astore_n (l := [some (.ref 1), some (.int x), some (.ref (cD (tN x) + 4)), none]) n_15_19 rfl rfl ?_
    refine pw_iconst n_15_20 ic_0 rfl ?_
    refine pw_istore_n (l := [some (.ref 1), some (.int x), some (.ref (cD (tN x) + 4)), some (.int 0)]) n_15_21 rfl rfl ?_
    rw [show xNext X x = fstS (fun k => !decide (X 13 (tN x) k = 0)) (fun k => gup X 13 (tN x) k 0) (-11) X 4 0 from by first | (simp [xNext, h1, bI_t, bI_f, nI_add1, gup_k, eSet_k, eClr_k, hSet_k, hClr_k, qSet_k, qCls_k]; done) | contradiction]
    exact L_15_22  (by omega) _ 4 0 (by omega)
  ·
    refine pw_iconst n_15_8 ic_m1 rfl ?_
    exact pw_ireturn (ty := .int) n_15_9 rfl rfl (by first | (simp [xNext, h1, bI_t, bI_f, nI_add1, gup_k, eSet_k, eClr_k, hSet_k, hClr_k, qSet_k, qCls_k]; done) | contradiction)
set_option maxRecDepth 100000 in
set_option maxHeartbeats 4000000 in
theorem w_2 {X M : gS} {x : Int32} (hokA : xLive X x = true → lpOk (fun h Y => if Y 7 (tN x) h = -1 then Y else xTk Y (tN x) h) (tkOk (tN x)) 5 0 (xRmD X x)) (hokB : xLive X x = true → lpOk (fun k Y => qCls (xClQ1 Y (tN x) k) (tN x) k) (pqOk (tN x)) 4 0 (xTkA (xRmD X x) (tN x))) (d : Nat) : pm_Call (d + 6) 2 [.ref 1, .int x] (gE X M) (some (.int ((xDestroy X x).1)), gE ((xDestroy X x).2) M) := by
  refine pw_start (d := d + 5) (l := [some (.ref 1), some (.int x)]) (Nat.le_of_ble_eq_true rfl) rfl ?_
  refine pw_aload_n n_2_0 rfl rfl ?_
  refine pw_iload_n n_2_1 rfl rfl ?_
  refine pw_virtV (a := 0) (as := [.int x]) (st := []) n_2_2 cl_0_34 ⟨rfl, rfl, rfl⟩ (sum8 rfl) (E_tg sh_G_domains) rfl (w_25 (x := x) _) ?_
  refine pw_ifb_ne (q := 10) n_2_5 rfl rfl (fun h1 => ?_) (fun h1 => ?_)
  ·
    obtain ⟨h1a, h1b⟩ := ir_live h1
    have hokA1 := hokA h1
    have hokB1 := hokB h1
    refine pw_aload_n n_2_10 rfl rfl ?_
    refine pw_iload_n n_2_11 rfl rfl ?_
    refine pw_virt0 (a := 0) (as := [.int x]) (st := []) n_2_12 cl_0_38 ⟨rfl, rfl, rfl⟩ (sum8 rfl) (E_tg sh_G_domains) rfl (w_39 (x := x) _) ?_
    refine pw_aload_n n_2_15 rfl rfl ?_
    refine pw_iload_n n_2_16 rfl rfl ?_
    refine pw_virt0 (a := 0) (as := [.int x]) (st := []) n_2_17 cl_0_42 ⟨rfl, rfl, rfl⟩ (sum8 rfl) (E_tg sh_G_domains) rfl (w_40 (x := x) (by assumption) (by assumption) hokA1 _) ?_
    refine pw_aload_n n_2_20 rfl rfl ?_
    refine pw_iload_n n_2_21 rfl rfl ?_
    refine pw_virt0 (a := 0) (as := [.int x]) (st := []) n_2_22 cl_0_45 ⟨rfl, rfl, rfl⟩ (sum8 rfl) (E_tg sh_G_domains) rfl (w_41 (x := x) (by assumption) (by assumption) hokB1 _) ?_
    refine pw_aload_n n_2_25 rfl rfl ?_
    refine pw_getf (a := 0) n_2_26 fl_0_11 (by decide) (rdR (sh_G_domains)) rfl ?_
    refine pw_iload_n n_2_29 rfl rfl ?_
    refine pw_aald (a := 1) (t := 102) (u := 1) n_2_30 (by assumption) rfl (by decide) rfl (rdR (sh_DA (tN x) (by omega))) rfl ?_
    refine pw_iconst n_2_31 ic_2 rfl ?_
    refine pw_putf (a := cD (tN x)) n_2_32 fl_0_30 (by decide) rfl rfl (Or.inl rfl) (wrX (sh_D_state (tN x) (by omega)) (by decide)) rfl ?_
    refine pw_aload_n n_2_35 rfl rfl ?_
    refine pw_getf (a := 0) n_2_36 fl_0_11 (by decide) (rdR (sh_G_domains)) rfl ?_
    refine pw_iload_n n_2_39 rfl rfl ?_
    refine pw_aald (a := 1) (t := 102) (u := 1) n_2_40 (by assumption) rfl (by decide) rfl (rdR (sh_DA (tN x) (by omega))) rfl ?_
    refine pw_virt0 (a := cD (tN x)) (as := []) (st := []) n_2_41 cl_0_48 ⟨rfl, rfl, rfl⟩ (sum8 rfl) (E_tg (sh_D_state (tN x) (by omega))) rfl (w_59 (a := (tN x)) (by omega) _) ?_
    refine pw_aload_n n_2_44 rfl rfl ?_
    refine pw_iload_n n_2_45 rfl rfl ?_
    refine pw_virt0 (a := 0) (as := [.int x]) (st := []) n_2_46 cl_0_51 ⟨rfl, rfl, rfl⟩ (sum8 rfl) (E_tg sh_G_domains) rfl (w_42 (x := x) (by assumption) (by assumption) _) ?_
    refine pw_aload_n n_2_49 rfl rfl ?_
    refine pw_iload_n n_2_50 rfl rfl ?_
    refine pw_virt0 (a := 0) (as := [.int x]) (st := []) n_2_51 cl_0_54 ⟨rfl, rfl, rfl⟩ (sum8 rfl) (E_tg sh_G_domains) rfl (w_38 (x := x) (by assumption) (by assumption) _) ?_
    refine pw_iconst n_2_54 ic_0 rfl ?_
    exact pw_ireturn (ty := .int) n_2_55 rfl rfl (by first | (simp [xDestroy, xDes1, xDes2, h1, bI_t, bI_f, nI_add1, gup_k, eSet_k, eClr_k, hSet_k, hClr_k, qSet_k, qCls_k]; done) | contradiction)
  ·
    refine pw_iconst n_2_8 ic_m1 rfl ?_
    exact pw_ireturn (ty := .int) n_2_9 rfl rfl (by first | (simp [xDestroy, xDes1, xDes2, h1, bI_t, bI_f, nI_add1, gup_k, eSet_k, eClr_k, hSet_k, hClr_k, qSet_k, qCls_k]; done) | contradiction)
