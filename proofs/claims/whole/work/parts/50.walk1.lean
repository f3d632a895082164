set_option maxRecDepth 100000 in
set_option maxHeartbeats 4000000 in
theorem w_66 {X M : gS} {a : Nat} {i : Nat} (ha : a < 5) (hi : i < 6) (d : Nat) : pm_Call (d + 1) 66 [.ref (cE a i + 1)] (gE X M) (some (.int (bI (decide (X 3 a i = -1)))), gE X M) := by
  refine pw_start (d := d) (l := [some (.ref (cE a i + 1))]) (Nat.le_of_ble_eq_true rfl) rfl ?_
  refine pw_aload_n n_66_0 rfl rfl ?_
  refine pw_getf (a := cE a i) n_66_1 fl_4_9 (by decide) (rdX (sh_E_target a (by omega) i (by omega)) (by decide)) rfl ?_
  refine pw_iconst n_66_4 ic_m1 rfl ?_
  refine pw_icmp_ne (q := 12) n_66_5 rfl rfl (fun h1 => ?_) (fun h1 => ?_)
  ·
    refine pw_iconst n_66_12 ic_0 rfl ?_
    exact pw_ireturn (ty := .boolean) n_66_13 rfl rfl (by first | (simp [h1, bI_t, bI_f, nI_add1, gup_k, eSet_k, eClr_k, hSet_k, hClr_k, qSet_k, qCls_k]; done) | contradiction)
  ·
    refine pw_iconst n_66_8 ic_1 rfl ?_
    refine pw_goto (q := 13) n_66_9 rfl ?_
    exact pw_ireturn (ty := .boolean) n_66_13 rfl rfl (by first | (simp [h1, (Classical.not_not.mp h1), bI_t, bI_f, nI_add1, gup_k, eSet_k, eClr_k, hSet_k, hClr_k, qSet_k, qCls_k]; done) | contradiction)
set_option maxRecDepth 100000 in
set_option maxHeartbeats 4000000 in
theorem w_67 {X M : gS} {a : Nat} {i : Nat} (ha : a < 5) (hi : i < 6) (d : Nat) : pm_Call (d + 1) 67 [.ref (cE a i + 1)] (gE X M) (some (.int (bI (decide (0 < X 6 a i)))), gE X M) := by
  refine pw_start (d := d) (l := [some (.ref (cE a i + 1))]) (Nat.le_of_ble_eq_true rfl) rfl ?_
  refine pw_aload_n n_67_0 rfl rfl ?_
  refine pw_getf (a := cE a i) n_67_1 fl_4_21 (by decide) (rdX (sh_E_mappings a (by omega) i (by omega)) (by decide)) rfl ?_
  refine pw_if_le (q := 11) n_67_4 rfl rfl (fun h1 => ?_) (fun h1 => ?_)
  ·
    refine pw_iconst n_67_11 ic_0 rfl ?_
    exact pw_ireturn (ty := .boolean) n_67_12 rfl rfl (by first | (simp [h1, (i32_a h1), bI_t, bI_f, nI_add1, gup_k, eSet_k, eClr_k, hSet_k, hClr_k, qSet_k, qCls_k]; done) | contradiction)
  ·
    refine pw_iconst n_67_7 ic_1 rfl ?_
    refine pw_goto (q := 12) n_67_8 rfl ?_
    exact pw_ireturn (ty := .boolean) n_67_12 rfl rfl (by first | (simp [h1, (i32_b h1), bI_t, bI_f, nI_add1, gup_k, eSet_k, eClr_k, hSet_k, hClr_k, qSet_k, qCls_k]; done) | contradiction)
set_option maxRecDepth 100000 in
set_option maxHeartbeats 4000000 in
theorem w_68 {X M : gS} {a : Nat} {i : Nat} {t : Int32} {k : Int32} {p : Int32} (ha : a < 5) (hi : i < 6) (d : Nat) : pm_Call (d + 1) 68 [.ref (cE a i + 1), .int t, .int k, .int p] (gE X M) (none, gE (eSet X a i t k p) M) := by
  refine pw_start (d := d) (l := [some (.ref (cE a i + 1)), some (.int t), some (.int k), some (.int p)]) (Nat.le_of_ble_eq_true rfl) rfl ?_
  refine pw_aload_n n_68_0 rfl rfl ?_
  refine pw_iload_n n_68_1 rfl rfl ?_
  refine pw_putf (a := cE a i) n_68_2 fl_4_9 (by decide) rfl rfl (Or.inl rfl) (wrX (sh_E_target a (by omega) i (by omega)) (by decide)) rfl ?_
  refine pw_aload_n n_68_5 rfl rfl ?_
  refine pw_iload_n n_68_6 rfl rfl ?_
  refine pw_putf (a := cE a i) n_68_7 fl_4_15 (by decide) rfl rfl (Or.inl rfl) (wrX (sh_E_kind a (by omega) i (by omega)) (by decide)) rfl ?_
  refine pw_aload_n n_68_10 rfl rfl ?_
  refine pw_iload_n n_68_11 rfl rfl ?_
  refine pw_putf (a := cE a i) n_68_12 fl_4_18 (by decide) rfl rfl (Or.inl rfl) (wrX (sh_E_page a (by omega) i (by omega)) (by decide)) rfl ?_
  exact pw_return n_68_15 rfl (by first | (simp [eSet, bI_t, bI_f, nI_add1, gup_k, eSet_k, eClr_k, hSet_k, hClr_k, qSet_k, qCls_k]; done) | contradiction)
set_option maxRecDepth 100000 in
set_option maxHeartbeats 4000000 in
theorem w_69 {X M : gS} {a : Nat} {i : Nat} (ha : a < 5) (hi : i < 6) (d : Nat) : pm_Call (d + 2) 69 [.ref (cE a i + 1)] (gE X M) (none, gE (eClr X a i) M) := by
  refine pw_start (d := d + 1) (l := [some (.ref (cE a i + 1))]) (Nat.le_of_ble_eq_true rfl) rfl ?_
  refine pw_aload_n n_69_0 rfl rfl ?_
  refine pw_iconst n_69_1 ic_m1 rfl ?_
  refine pw_iconst n_69_2 ic_0 rfl ?_
  refine pw_iconst n_69_3 ic_m1 rfl ?_
  refine pw_virt0 (a := cE a i) (as := [.int ((-1)), .int 0, .int ((-1))]) (st := []) n_69_4 cl_4_24 ⟨rfl, rfl, rfl⟩ (sum8 rfl) (E_tg (sh_E_target a (by omega) i (by omega))) rfl (w_68 (a := a) (i := i) (t := ((-1))) (k := 0) (p := ((-1))) (by omega) (by omega) _) ?_
  exact pw_return n_69_7 rfl (by first | (simp [eClr, bI_t, bI_f, nI_add1, gup_k, eSet_k, eClr_k, hSet_k, hClr_k, qSet_k, qCls_k]; done) | contradiction)
set_option maxRecDepth 100000 in
set_option maxHeartbeats 4000000 in
theorem w_71 {X M : gS} {a : Nat} {i : Nat} (ha : a < 5) (hi : i < 5) (d : Nat) : pm_Call (d + 1) 71 [.ref (cH a i + 1)] (gE X M) (some (.int (bI (decide (X 7 a i = -1)))), gE X M) := by
  refine pw_start (d := d) (l := [some (.ref (cH a i + 1))]) (Nat.le_of_ble_eq_true rfl) rfl ?_
  refine pw_aload_n n_71_0 rfl rfl ?_
  refine pw_getf (a := cH a i) n_71_1 fl_5_9 (by decide) (rdX (sh_H_from a (by omega) i (by omega)) (by decide)) rfl ?_
  refine pw_iconst n_71_4 ic_m1 rfl ?_
  refine pw_icmp_ne (q := 12) n_71_5 rfl rfl (fun h1 => ?_) (fun h1 => ?_)
  ·
    refine pw_iconst n_71_12 ic_0 rfl ?_
    exact pw_ireturn (ty := .boolean) n_71_13 rfl rfl (by first | (simp [h1, bI_t, bI_f, nI_add1, gup_k, eSet_k, eClr_k, hSet_k, hClr_k, qSet_k, qCls_k]; done) | contradiction)
  ·
    refine pw_iconst n_71_8 ic_1 rfl ?_
    refine pw_goto (q := 13) n_71_9 rfl ?_
    exact pw_ireturn (ty := .boolean) n_71_13 rfl rfl (by first | (simp [h1, (Classical.not_not.mp h1), bI_t, bI_f, nI_add1, gup_k, eSet_k, eClr_k, hSet_k, hClr_k, qSet_k, qCls_k]; done) | contradiction)
set_option maxRecDepth 100000 in
set_option maxHeartbeats 4000000 in
theorem w_72 {X M : gS} {a : Nat} {i : Nat} {f : Int32} {r : Int32} {w : Bool} (ha : a < 5) (hi : i < 5) (d : Nat) : pm_Call (d + 1) 72 [.ref (cH a i + 1), .int f, .int r, .int (bI w)] (gE X M) (none, gE (hSet X a i f r (bI w)) M) := by
  refine pw_start (d := d) (l := [some (.ref (cH a i + 1)), some (.int f), some (.int r), some (.int (bI w))]) (Nat.le_of_ble_eq_true rfl) rfl ?_
  refine pw_aload_n n_72_0 rfl rfl ?_
  refine pw_iload_n n_72_1 rfl rfl ?_
  refine pw_putf (a := cH a i) n_72_2 fl_5_9 (by decide) rfl rfl (Or.inl rfl) (wrX (sh_H_from a (by omega) i (by omega)) (by decide)) rfl ?_
  refine pw_aload_n n_72_5 rfl rfl ?_
  refine pw_iload_n n_72_6 rfl rfl ?_
  refine pw_putf (a := cH a i) n_72_7 fl_5_15 (by decide) rfl rfl (Or.inl rfl) (wrX (sh_H_ref a (by omega) i (by omega)) (by decide)) rfl ?_
  refine pw_aload_n n_72_10 rfl rfl ?_
  refine pw_iload_n n_72_11 rfl rfl ?_
  refine pw_putf (a := cH a i) n_72_12 fl_5_18 (by decide) (bI_nar _) (bI_fit _) (Or.inl rfl) (wrX (sh_H_writing a (by omega) i (by omega)) (by decide)) rfl ?_
  exact pw_return n_72_15 rfl (by first | (simp [hSet, bI_t, bI_f, nI_add1, gup_k, eSet_k, eClr_k, hSet_k, hClr_k, qSet_k, qCls_k]; done) | contradiction)
set_option maxRecDepth 100000 in
set_option maxHeartbeats 4000000 in
theorem w_73 {X M : gS} {a : Nat} {i : Nat} (ha : a < 5) (hi : i < 5) (d : Nat) : pm_Call (d + 2) 73 [.ref (cH a i + 1)] (gE X M) (none, gE (hClr X a i) M) := by
  refine pw_start (d := d + 1) (l := [some (.ref (cH a i + 1))]) (Nat.le_of_ble_eq_true rfl) rfl ?_
  refine pw_aload_n n_73_0 rfl rfl ?_
  refine pw_iconst n_73_1 ic_m1 rfl ?_
  refine pw_iconst n_73_2 ic_m1 rfl ?_
  refine pw_iconst n_73_3 ic_0 rfl ?_
  refine pw_virt0 (a := cH a i) (as := [.int ((-1)), .int ((-1)), .int 0]) (st := []) n_73_4 cl_5_22 ⟨rfl, rfl, rfl⟩ (sum8 rfl) (E_tg (sh_H_from a (by omega) i (by omega))) rfl (w_72 (a := a) (i := i) (f := ((-1))) (r := ((-1))) (w := false) (by omega) (by omega) _) ?_
  exact pw_return n_73_7 rfl (by first | (simp [hClr, bI, bI_t, bI_f, nI_add1, gup_k, eSet_k, eClr_k, hSet_k, hClr_k, qSet_k, qCls_k]; done) | contradiction)
set_option maxRecDepth 100000 in
set_option maxHeartbeats 4000000 in
theorem w_79 {X M : gS} {a : Nat} {i : Nat} {s : Int32} {o : Int32} {p : Int32} (ha : a < 5) (hi : i < 4) (d : Nat) : pm_Call (d + 1) 79 [.ref (cQ a i + 1), .int s, .int o, .int p] (gE X M) (none, gE (qSet X a i s o p) M) := by
  refine pw_start (d := d) (l := [some (.ref (cQ a i + 1)), some (.int s), some (.int o), some (.int p)]) (Nat.le_of_ble_eq_true rfl) rfl ?_
  refine pw_aload_n n_79_0 rfl rfl ?_
  refine pw_iload_n n_79_1 rfl rfl ?_
  refine pw_putf (a := cQ a i) n_79_2 fl_6_9 (by decide) rfl rfl (Or.inl rfl) (wrX (sh_Q_state a (by omega) i (by omega)) (by decide)) rfl ?_
  refine pw_aload_n n_79_5 rfl rfl ?_
  refine pw_iload_n n_79_6 rfl rfl ?_
  refine pw_putf (a := cQ a i) n_79_7 fl_6_15 (by decide) rfl rfl (Or.inl rfl) (wrX (sh_Q_other a (by omega) i (by omega)) (by decide)) rfl ?_
  refine pw_aload_n n_79_10 rfl rfl ?_
  refine pw_iload_n n_79_11 rfl rfl ?_
  refine pw_putf (a := cQ a i) n_79_12 fl_6_18 (by decide) rfl rfl (Or.inl rfl) (wrX (sh_Q_otherPort a (by omega) i (by omega)) (by decide)) rfl ?_
  refine pw_aload_n n_79_15 rfl rfl ?_
  refine pw_iconst n_79_16 ic_0 rfl ?_
  refine pw_putf (a := cQ a i) n_79_17 fl_6_21 (by decide) rfl rfl (Or.inl rfl) (wrX (sh_Q_pending a (by omega) i (by omega)) (by decide)) rfl ?_
  exact pw_return n_79_20 rfl (by first | (simp [qSet, bI_t, bI_f, nI_add1, gup_k, eSet_k, eClr_k, hSet_k, hClr_k, qSet_k, qCls_k]; done) | contradiction)
set_option maxRecDepth 100000 in
set_option maxHeartbeats 4000000 in
theorem w_75 {X M : gS} {a : Nat} {i : Nat} {x : Int32} (ha : a < 5) (hi : i < 4) (d : Nat) : pm_Call (d + 1) 75 [.ref (cQ a i + 1), .int x] (gE X M) (some (.int (bI (xWt X a i x))), gE X M) := by
  refine pw_start (d := d) (l := [some (.ref (cQ a i + 1)), some (.int x)]) (Nat.le_of_ble_eq_true rfl) rfl ?_
  refine pw_aload_n n_75_0 rfl rfl ?_
  refine pw_getf (a := cQ a i) n_75_1 fl_6_9 (by decide) (rdX (sh_Q_state a (by omega) i (by omega)) (by decide)) rfl ?_
  refine pw_iconst n_75_4 ic_1 rfl ?_
  refine pw_icmp_ne (q := 20) n_75_5 rfl rfl (fun h1 => ?_) (fun h1 => ?_)
  ·
    refine pw_iconst n_75_20 ic_0 rfl ?_
    exact pw_ireturn (ty := .boolean) n_75_21 rfl rfl (by first | (simp [xWt, h1, bI_t, bI_f, nI_add1, gup_k, eSet_k, eClr_k, hSet_k, hClr_k, qSet_k, qCls_k]; done) | contradiction)
  ·
    refine pw_aload_n n_75_8 rfl rfl ?_
    refine pw_getf (a := cQ a i) n_75_9 fl_6_15 (by decide) (rdX (sh_Q_other a (by omega) i (by omega)) (by decide)) rfl ?_
    refine pw_iload_n n_75_12 rfl rfl ?_
    refine pw_icmp_ne (q := 20) n_75_13 rfl rfl (fun h2 => ?_) (fun h2 => ?_)
    ·
      refine pw_iconst n_75_20 ic_0 rfl ?_
      exact pw_ireturn (ty := .boolean) n_75_21 rfl rfl (by first | (simp [xWt, h1, (Classical.not_not.mp h1), h2, bI_t, bI_f, nI_add1, gup_k, eSet_k, eClr_k, hSet_k, hClr_k, qSet_k, qCls_k]; done) | contradiction)
    ·
      refine pw_iconst n_75_16 ic_1 rfl ?_
      refine pw_goto (q := 21) n_75_17 rfl ?_
      exact pw_ireturn (ty := .boolean) n_75_21 rfl rfl (by first | (simp [xWt, h1, (Classical.not_not.mp h1), h2, (Classical.not_not.mp h2), bI_t, bI_f, nI_add1, gup_k, eSet_k, eClr_k, hSet_k, hClr_k, qSet_k, qCls_k]; done) | contradiction)
set_option maxRecDepth 100000 in
set_option maxHeartbeats 4000000 in
theorem w_76 {X M : gS} {a : Nat} {i : Nat} {t : Int32} (ha : a < 5) (hi : i < 4) (d : Nat) : pm_Call (d + 2) 76 [.ref (cQ a i + 1), .int t] (gE X M) (none, gE (qSet X a i 1 t (-1)) M) := by
  refine pw_start (d := d + 1) (l := [some (.ref (cQ a i + 1)), some (.int t)]) (Nat.le_of_ble_eq_true rfl) rfl ?_
  refine pw_aload_n n_76_0 rfl rfl ?_
  refine pw_iconst n_76_1 ic_1 rfl ?_
  refine pw_iload_n n_76_2 rfl rfl ?_
  refine pw_iconst n_76_3 ic_m1 rfl ?_
  refine pw_virt0 (a := cQ a i) (as := [.int 1, .int t, .int ((-1))]) (st := []) n_76_4 cl_6_25 ⟨rfl, rfl, rfl⟩ (sum8 rfl) (E_tg (sh_Q_state a (by omega) i (by omega))) rfl (w_79 (a := a) (i := i) (s := 1) (o := t) (p := ((-1))) (by omega) (by omega) _) ?_
  exact pw_return n_76_7 rfl (by first | (simp [bI_t, bI_f, nI_add1, gup_k, eSet_k, eClr_k, hSet_k, hClr_k, qSet_k, qCls_k]; done) | contradiction)
set_option maxRecDepth 100000 in
set_option maxHeartbeats 4000000 in
theorem w_77 {X M : gS} {a : Nat} {i : Nat} {t : Int32} {p : Int32} (ha : a < 5) (hi : i < 4) (d : Nat) : pm_Call (d + 2) 77 [.ref (cQ a i + 1), .int t, .int p] (gE X M) (none, gE (qSet X a i 2 t p) M) := by
  refine pw_start (d := d + 1) (l := [some (.ref (cQ a i + 1)), some (.int t), some (.int p)]) (Nat.le_of_ble_eq_true rfl) rfl ?_
  refine pw_aload_n n_77_0 rfl rfl ?_
  refine pw_iconst n_77_1 ic_2 rfl ?_
  refine pw_iload_n n_77_2 rfl rfl ?_
  refine pw_iload_n n_77_3 rfl rfl ?_
  refine pw_virt0 (a := cQ a i) (as := [.int 2, .int t, .int p]) (st := []) n_77_4 cl_6_25 ⟨rfl, rfl, rfl⟩ (sum8 rfl) (E_tg (sh_Q_state a (by omega) i (by omega))) rfl (w_79 (a := a) (i := i) (s := 2) (o := t) (p := p) (by omega) (by omega) _) ?_
  exact pw_return n_77_7 rfl (by first | (simp [bI_t, bI_f, nI_add1, gup_k, eSet_k, eClr_k, hSet_k, hClr_k, qSet_k, qCls_k]; done) | contradiction)
set_option maxRecDepth 100000 in
set_option maxHeartbeats 4000000 in
theorem w_78 {X M : gS} {a : Nat} {i : Nat} (ha : a < 5) (hi : i < 4) (d : Nat) : pm_Call (d + 2) 78 [.ref (cQ a i + 1)] (gE X M) (none, gE (qCls X a i) M) := by
  refine pw_start (d := d + 1) (l := [some (.ref (cQ a i + 1))]) (Nat.le_of_ble_eq_true rfl) rfl ?_
  refine pw_aload_n n_78_0 rfl rfl ?_
  refine pw_iconst n_78_1 ic_0 rfl ?_
  refine pw_iconst n_78_2 ic_m1 rfl ?_
  refine pw_iconst n_78_3 ic_m1 rfl ?_
  refine pw_virt0 (a := cQ a i) (as := [.int 0, .int ((-1)), .int ((-1))]) (st := []) n_78_4 cl_6_25 ⟨rfl, rfl, rfl⟩ (sum8 rfl) (E_tg (sh_Q_state a (by omega) i (by omega))) rfl (w_79 (a := a) (i := i) (s := 0) (o := ((-1))) (p := ((-1))) (by omega) (by omega) _) ?_
  exact pw_return n_78_7 rfl (by first | (simp [qCls, bI_t, bI_f, nI_add1, gup_k, eSet_k, eClr_k, hSet_k, hClr_k, qSet_k, qCls_k]; done) | contradiction)
set_option maxRecDepth 100000 in
set_option maxHeartbeats 4000000 in
theorem w_64 {X M : gS} {v : Nat} (hv : v < 3) (d : Nat) : pm_Call (d + 1) 64 [.ref (cV v + 1)] (gE X M) (some (.int (xUw X v)), gE X M) := by
  refine pw_start (d := d) (l := [some (.ref (cV v + 1))]) (Nat.le_of_ble_eq_true rfl) rfl ?_
  refine pw_aload_n n_64_0 rfl rfl ?_
  refine pw_getf (a := cV v) n_64_1 fl_3_37 (by decide) (rdX (sh_V_posted v (by omega)) (by decide)) rfl ?_
  refine pw_aload_n n_64_4 rfl rfl ?_
  refine pw_getf (a := cV v) n_64_5 fl_3_40 (by decide) (rdX (sh_V_reaped v (by omega)) (by decide)) rfl ?_
  refine pw_isub n_64_8 rfl ?_
  exact pw_ireturn (ty := .int) n_64_9 rfl rfl (by first | (simp [xUw, bI_t, bI_f, nI_add1, gup_k, eSet_k, eClr_k, hSet_k, hClr_k, qSet_k, qCls_k]; done) | contradiction)
set_option maxRecDepth 100000 in
set_option maxHeartbeats 4000000 in
theorem w_52 {X M : gS} {a : Nat} {r : Int32} (ha : a < 5) (d : Nat) : pm_Call (d + 2) 52 [.ref (cD a + 1), .int r] (gE X M) (some (.int (bI (xHasE X a r))), gE X M) := by
  refine pw_start (d := d + 1) (l := [some (.ref (cD a + 1)), some (.int r)]) (Nat.le_of_ble_eq_true rfl) rfl ?_
  refine pw_iload_n n_52_0 rfl rfl ?_
  refine pw_if_lt (q := 26) n_52_1 rfl rfl (fun h1 => ?_) (fun h1 => ?_)
  ·
    refine pw_iconst n_52_26 ic_0 rfl ?_
    exact pw_ireturn (ty := .boolean) n_52_27 rfl rfl (by first | (simp [xHasE, h1, (i32_c h1), bI_t, bI_f, nI_add1, gup_k, eSet_k, eClr_k, hSet_k, hClr_k, qSet_k, qCls_k]; done) | contradiction)
  ·
    refine pw_iload_n n_52_4 rfl rfl ?_
    refine pw_bipush n_52_5 bc_6 rfl ?_
    refine pw_icmp_ge (q := 26) n_52_7 rfl rfl (fun h2 => ?_) (fun h2 => ?_)
    ·
      refine pw_iconst n_52_26 ic_0 rfl ?_
      exact pw_ireturn (ty := .boolean) n_52_27 rfl rfl (by first | (simp [xHasE, h1, (i32_d h1), h2, (i32_a h2), bI_t, bI_f, nI_add1, gup_k, eSet_k, eClr_k, hSet_k, hClr_k, qSet_k, qCls_k]; done) | contradiction)
    ·
      have h2b := tN_lt (z := r) (k := 6) (by decide) h2
      refine pw_aload_n n_52_10 rfl rfl ?_
      refine pw_getf (a := cD a) n_52_11 fl_1_17 (by decide) (rdR (sh_D_entries a (by omega))) rfl ?_
      refine pw_iload_n n_52_14 rfl rfl ?_
      refine pw_aald (a := cD a + 1) (t := 105) (u := 4) n_52_15 (by assumption) rfl (by decide) rfl (rdR (sh_EA a (by omega) (tN r) (by omega))) rfl ?_
      refine pw_virtV (a := cE a (tN r)) (as := []) (st := []) n_52_16 cl_1_36 ⟨rfl, rfl, rfl⟩ (sum8 rfl) (E_tg (sh_E_target a (by omega) (tN r) (by omega))) rfl (w_66 (a := a) (i := (tN r)) (by omega) (by omega) _) ?_
      refine pw_ifb_ne (q := 26) n_52_19 rfl rfl (fun h3 => ?_) (fun h3 => ?_)
      ·
        refine pw_iconst n_52_26 ic_0 rfl ?_
        exact pw_ireturn (ty := .boolean) n_52_27 rfl rfl (by first | (simp [xHasE, h1, (i32_d h1), h2, (i32_b h2), h3, (of_decide_eq_true h3), bI_t, bI_f, nI_add1, gup_k, eSet_k, eClr_k, hSet_k, hClr_k, qSet_k, qCls_k]; done) | contradiction)
      ·
        refine pw_iconst n_52_22 ic_1 rfl ?_
        refine pw_goto (q := 27) n_52_23 rfl ?_
        exact pw_ireturn (ty := .boolean) n_52_27 rfl rfl (by first | (simp [xHasE, h1, (i32_d h1), h2, (i32_b h2), h3, (of_decide_eq_false h3), bI_t, bI_f, nI_add1, gup_k, eSet_k, eClr_k, hSet_k, hClr_k, qSet_k, qCls_k]; done) | contradiction)
set_option maxRecDepth 100000 in
set_option maxHeartbeats 4000000 in
theorem w_53 {X M : gS} {a : Nat} {r : Int32} (ha : a < 5) (d : Nat) : pm_Call (d + 2) 53 [.ref (cD a + 1), .int r] (gE X M) (some (.int (bI (xHasH X a r))), gE X M) := by
  refine pw_start (d := d + 1) (l := [some (.ref (cD a + 1)), some (.int r)]) (Nat.le_of_ble_eq_true rfl) rfl ?_
  refine pw_iload_n n_53_0 rfl rfl ?_
  refine pw_if_lt (q := 25) n_53_1 rfl rfl (fun h1 => ?_) (fun h1 => ?_)
  ·
    refine pw_iconst n_53_25 ic_0 rfl ?_
    exact pw_ireturn (ty := .boolean) n_53_26 rfl rfl (by first | (simp [xHasH, h1, (i32_c h1), bI_t, bI_f, nI_add1, gup_k, eSet_k, eClr_k, hSet_k, hClr_k, qSet_k, qCls_k]; done) | contradiction)
  ·
    refine pw_iload_n n_53_4 rfl rfl ?_
    refine pw_iconst n_53_5 ic_5 rfl ?_
    refine pw_icmp_ge (q := 25) n_53_6 rfl rfl (fun h2 => ?_) (fun h2 => ?_)
    ·
      refine pw_iconst n_53_25 ic_0 rfl ?_
      exact pw_ireturn (ty := .boolean) n_53_26 rfl rfl (by first | (simp [xHasH, h1, (i32_d h1), h2, (i32_a h2), bI_t, bI_f, nI_add1, gup_k, eSet_k, eClr_k, hSet_k, hClr_k, qSet_k, qCls_k]; done) | contradiction)
    ·
      have h2b := tN_lt (z := r) (k := 5) (by decide) h2
      refine pw_aload_n n_53_9 rfl rfl ?_
      refine pw_getf (a := cD a) n_53_10 fl_1_23 (by decide) (rdR (sh_D_handles a (by omega))) rfl ?_
      refine pw_iload_n n_53_13 rfl rfl ?_
      refine pw_aald (a := cD a + 2) (t := 106) (u := 5) n_53_14 (by assumption) rfl (by decide) rfl (rdR (sh_HA a (by omega) (tN r) (by omega))) rfl ?_
      refine pw_virtV (a := cH a (tN r)) (as := []) (st := []) n_53_15 cl_1_40 ⟨rfl, rfl, rfl⟩ (sum8 rfl) (E_tg (sh_H_from a (by omega) (tN r) (by omega))) rfl (w_71 (a := a) (i := (tN r)) (by omega) (by omega) _) ?_
      refine pw_ifb_ne (q := 25) n_53_18 rfl rfl (fun h3 => ?_) (fun h3 => ?_)
      ·
        refine pw_iconst n_53_25 ic_0 rfl ?_
        exact pw_ireturn (ty := .boolean) n_53_26 rfl rfl (by first | (simp [xHasH, h1, (i32_d h1), h2, (i32_b h2), h3, (of_decide_eq_true h3), bI_t, bI_f, nI_add1, gup_k, eSet_k, eClr_k, hSet_k, hClr_k, qSet_k, qCls_k]; done) | contradiction)
      ·
        refine pw_iconst n_53_21 ic_1 rfl ?_
        refine pw_goto (q := 26) n_53_22 rfl ?_
        exact pw_ireturn (ty := .boolean) n_53_26 rfl rfl (by first | (simp [xHasH, h1, (i32_d h1), h2, (i32_b h2), h3, (of_decide_eq_false h3), bI_t, bI_f, nI_add1, gup_k, eSet_k, eClr_k, hSet_k, hClr_k, qSet_k, qCls_k]; done) | contradiction)
set_option maxRecDepth 100000 in
set_option maxHeartbeats 4000000 in
theorem L_54_2 {X M : gS} {a : Nat} {p : Int32} (ha : a < 5)  (d : Nat) : ∀ n i : Nat, i + n = 6 → pw none (d) 54 2 [some (.ref (cD a + 1)), some (.int p), some (.int (nI i))] [] (gE X M) (some (.int (bI (anyb (fun i => decide (X 5 a i = p)) n i))), gE X M) := by
  intro n
  induction n with
  | zero =>
    intro i hi
    obtain rfl : i = 6 := by omega
    refine pw_iload_n n_54_2 rfl rfl ?_
    refine pw_bipush n_54_3 bc_6 rfl ?_
    refine pw_icmp_ge_t (q := 29) n_54_5 rfl (nI_le (a := 6) (b := 6) (by omega) (by omega)) ?_
    refine pw_iconst n_54_29 ic_0 rfl ?_
    exact pw_ireturn (ty := .boolean) n_54_30 rfl rfl (by first | (simp [anyb, bI_t, bI_f, nI_add1, gup_k, eSet_k, eClr_k, hSet_k, hClr_k, qSet_k, qCls_k]; done) | contradiction)
  | succ n ih =>
    intro i hi
    refine pw_iload_n n_54_2 rfl rfl ?_
    refine pw_bipush n_54_3 bc_6 rfl ?_
    refine pw_icmp_ge_f (q := 29) n_54_5 rfl rfl (nI_ge (a := i) (b := 6) (by omega) (by omega)) ?_
    refine pw_aload_n n_54_8 rfl rfl ?_
    refine pw_getf (a := cD a) n_54_9 fl_1_17 (by decide) (rdR (sh_D_entries a (by omega))) rfl ?_
    refine pw_iload_n n_54_12 rfl rfl ?_
    refine pw_aald (a := cD a + 1) (t := 105) (u := 4) n_54_13 (nI_pos (by omega)) (nI_clamp (by omega)) (by decide) rfl (rdR (sh_EA a (by omega) i (by omega))) rfl ?_
    refine pw_getf (a := cE a i) n_54_14 fl_1_41 (by decide) (rdX (sh_E_page a (by omega) i (by omega)) (by decide)) rfl ?_
    refine pw_iload_n n_54_17 rfl rfl ?_
    refine pw_icmp_ne (q := 23) n_54_18 rfl rfl (fun h1 => ?_) (fun h1 => ?_)
    ·
      refine pw_iinc (v := nI (i + 1)) (l := [some (.ref (cD a + 1)), some (.int p), some (.int (nI (i + 1)))]) n_54_23 rfl (nI_inc i) rfl rfl ?_
      refine pw_goto (q := 2) n_54_26 rfl ?_
      rw [show anyb (fun i => decide (X 5 a i = p)) (n + 1) i = anyb (fun i => decide (X 5 a i = p)) n (i + 1) from by first | (simp [anyb, h1, bI_t, bI_f, nI_add1, gup_k, eSet_k, eClr_k, hSet_k, hClr_k, qSet_k, qCls_k]; done) | contradiction]
      exact ih (i + 1) (by omega)
    ·
      refine pw_iconst n_54_21 ic_1 rfl ?_
      exact pw_ireturn (ty := .boolean) n_54_22 rfl rfl (by first | (simp [anyb, h1, (Classical.not_not.mp h1), bI_t, bI_f, nI_add1, gup_k, eSet_k, eClr_k, hSet_k, hClr_k, qSet_k, qCls_k]; done) | contradiction)
set_option maxRecDepth 100000 in
set_option maxHeartbeats 4000000 in
theorem w_54 {X M : gS} {a : Nat} {p : Int32} (ha : a < 5) (d : Nat) : pm_Call (d + 1) 54 [.ref (cD a + 1), .int p] (gE X M) (some (.int (bI (xEW X a p))), gE X M) := by
  refine pw_start (d := d) (l := [some (.ref (cD a + 1)), some (.int p), none]) (Nat.le_of_ble_eq_true rfl) rfl ?_
  refine pw_iconst n_54_0 ic_0 rfl ?_
  refine pw_istore_n (l := [some (.ref (cD a + 1)), some (.int p), some (.int 0)]) n_54_1 rfl rfl ?_
  exact L_54_2 ha _ 6 0 (by omega)
set_option maxRecDepth 100000 in
set_option maxHeartbeats 4000000 in
theorem L_55_2 {X M : gS} {a : Nat} {p : Int32} (ha : a < 5)  (d : Nat) : ∀ n i : Nat, i + n = 6 → pw none (d + 1) 55 2 [some (.ref (cD a + 1)), some (.int p), some (.int (nI i))] [] (gE X M) (some (.int (bI (anyb (fun i => decide (X 5 a i = p) && decide (0 < X 6 a i)) n i))), gE X M) := by
  intro n
  induction n with
  | zero =>
    intro i hi
    obtain rfl : i = 6 := by omega
    refine pw_iload_n n_55_2 rfl rfl ?_
    refine pw_bipush n_55_3 bc_6 rfl ?_
    refine pw_icmp_ge_t (q := 41) n_55_5 rfl (nI_le (a := 6) (b := 6) (by omega) (by omega)) ?_
    refine pw_iconst n_55_41 ic_0 rfl ?_
    exact pw_ireturn (ty := .boolean) n_55_42 rfl rfl (by first | (simp [anyb, bI_t, bI_f, nI_add1, gup_k, eSet_k, eClr_k, hSet_k, hClr_k, qSet_k, qCls_k]; done) | contradiction)
  | succ n ih =>
    intro i hi
    refine pw_iload_n n_55_2 rfl rfl ?_
    refine pw_bipush n_55_3 bc_6 rfl ?_
    refine pw_icmp_ge_f (q := 41) n_55_5 rfl rfl (nI_ge (a := i) (b := 6) (by omega) (by omega)) ?_
    refine pw_aload_n n_55_8 rfl rfl ?_
    refine pw_getf (a := cD a) n_55_9 fl_1_17 (by decide) (rdR (sh_D_entries a (by omega))) rfl ?_
    refine pw_iload_n n_55_12 rfl rfl ?_
    refine pw_aald (a := cD a + 1) (t := 105) (u := 4) n_55_13 (nI_pos (by omega)) (nI_clamp (by omega)) (by decide) rfl (rdR (sh_EA a (by omega) i (by omega))) rfl ?_
    refine pw_getf (a := cE a i) n_55_14 fl_1_41 (by decide) (rdX (sh_E_page a (by omega) i (by omega)) (by decide)) rfl ?_
    refine pw_iload_n n_55_17 rfl rfl ?_
    refine pw_icmp_ne (q := 35) n_55_18 rfl rfl (fun h1 => ?_) (fun h1 => ?_)
    ·
      refine pw_iinc (v := nI (i + 1)) (l := [some (.ref (cD a + 1)), some (.int p), some (.int (nI (i + 1)))]) n_55_35 rfl (nI_inc i) rfl rfl ?_
      refine pw_goto (q := 2) n_55_38 rfl ?_
      rw [show anyb (fun i => decide (X 5 a i = p) && decide (0 < X 6 a i)) (n + 1) i = anyb (fun i => decide (X 5 a i = p) && decide (0 < X 6 a i)) n (i + 1) from by first | (simp [anyb, h1, bI_t, bI_f, nI_add1, gup_k, eSet_k, eClr_k, hSet_k, hClr_k, qSet_k, qCls_k]; done) | contradiction]
      exact ih (i + 1) (by omega)
    ·
      refine pw_aload_n n_55_21 rfl rfl ?_
      refine pw_getf (a := cD a) n_55_22 fl_1_17 (by decide) (rdR (sh_D_entries a (by omega))) rfl ?_
      refine pw_iload_n n_55_25 rfl rfl ?_
      refine pw_aald (a := cD a + 1) (t := 105) (u := 4) n_55_26 (nI_pos (by omega)) (nI_clamp (by omega)) (by decide) rfl (rdR (sh_EA a (by omega) i (by omega))) rfl ?_
      refine pw_virtV (a := cE a i) (as := []) (st := []) n_55_27 cl_1_44 ⟨rfl, rfl, rfl⟩ (sum8 rfl) (E_tg (sh_E_target a (by omega) i (by omega))) rfl (w_67 (a := a) (i := i) (by omega) (by omega) _) ?_
      refine pw_ifb_eq (q := 35) n_55_30 rfl rfl (fun h2 => ?_) (fun h2 => ?_)
      ·
        refine pw_iinc (v := nI (i + 1)) (l := [some (.ref (cD a + 1)), some (.int p), some (.int (nI (i + 1)))]) n_55_35 rfl (nI_inc i) rfl rfl ?_
        refine pw_goto (q := 2) n_55_38 rfl ?_
        rw [show anyb (fun i => decide (X 5 a i = p) && decide (0 < X 6 a i)) (n + 1) i = anyb (fun i => decide (X 5 a i = p) && decide (0 < X 6 a i)) n (i + 1) from by first | (simp [anyb, h1, (Classical.not_not.mp h1), h2, (of_decide_eq_false h2), (i32_d (of_decide_eq_false h2)), bI_t, bI_f, nI_add1, gup_k, eSet_k, eClr_k, hSet_k, hClr_k, qSet_k, qCls_k]; done) | contradiction]
        exact ih (i + 1) (by omega)
      ·
        refine pw_iconst n_55_33 ic_1 rfl ?_
        exact pw_ireturn (ty := .boolean) n_55_34 rfl rfl (by first | (simp [anyb, h1, (Classical.not_not.mp h1), h2, (of_decide_eq_true h2), (i32_c (of_decide_eq_true h2)), bI_t, bI_f, nI_add1, gup_k, eSet_k, eClr_k, hSet_k, hClr_k, qSet_k, qCls_k]; done) | contradiction)
set_option maxRecDepth 100000 in
set_option maxHeartbeats 4000000 in
theorem w_55 {X M : gS} {a : Nat} {p : Int32} (ha : a < 5) (d : Nat) : pm_Call (d + 2) 55 [.ref (cD a + 1), .int p] (gE X M) (some (.int (bI (xMEW X a p))), gE X M) := by
  refine pw_start (d := d + 1) (l := [some (.ref (cD a + 1)), some (.int p), none]) (Nat.le_of_ble_eq_true rfl) rfl ?_
  refine pw_iconst n_55_0 ic_0 rfl ?_
  refine pw_istore_n (l := [some (.ref (cD a + 1)), some (.int p), some (.int 0)]) n_55_1 rfl rfl ?_
  exact L_55_2 ha _ 6 0 (by omega)
set_option maxRecDepth 100000 in
set_option maxHeartbeats 4000000 in
theorem L_56_2 {X M : gS} {a : Nat} (ha : a < 5)  (d : Nat) : ∀ n i : Nat, i + n = 6 → pw none (d + 1) 56 2 [some (.ref (cD a + 1)), some (.int (nI i))] [] (gE X M) (some (.int (ffst (fun i => decide (X 3 a i = -1)) n i)), gE X M) := by
  intro n
  induction n with
  | zero =>
    intro i hi
    obtain rfl : i = 6 := by omega
    refine pw_iload_n n_56_2 rfl rfl ?_
    refine pw_bipush n_56_3 bc_6 rfl ?_
    refine pw_icmp_ge_t (q := 28) n_56_5 rfl (nI_le (a := 6) (b := 6) (by omega) (by omega)) ?_
    refine pw_iconst n_56_28 ic_m1 rfl ?_
    exact pw_ireturn (ty := .int) n_56_29 rfl rfl (by first | (simp [ffst, bI_t, bI_f, nI_add1, gup_k, eSet_k, eClr_k, hSet_k, hClr_k, qSet_k, qCls_k]; done) | contradiction)
  | succ n ih =>
    intro i hi
    refine pw_iload_n n_56_2 rfl rfl ?_
    refine pw_bipush n_56_3 bc_6 rfl ?_
    refine pw_icmp_ge_f (q := 28) n_56_5 rfl rfl (nI_ge (a := i) (b := 6) (by omega) (by omega)) ?_
    refine pw_aload_n n_56_8 rfl rfl ?_
    refine pw_getf (a := cD a) n_56_9 fl_1_17 (by decide) (rdR (sh_D_entries a (by omega))) rfl ?_
    refine pw_iload_n n_56_12 rfl rfl ?_
    refine pw_aald (a := cD a + 1) (t := 105) (u := 4) n_56_13 (nI_pos (by omega)) (nI_clamp (by omega)) (by decide) rfl (rdR (sh_EA a (by omega) i (by omega))) rfl ?_
    refine pw_virtV (a := cE a i) (as := []) (st := []) n_56_14 cl_1_36 ⟨rfl, rfl, rfl⟩ (sum8 rfl) (E_tg (sh_E_target a (by omega) i (by omega))) rfl (w_66 (a := a) (i := i) (by omega) (by omega) _) ?_
    refine pw_ifb_eq (q := 22) n_56_17 rfl rfl (fun h1 => ?_) (fun h1 => ?_)
    ·
      refine pw_iinc (v := nI (i + 1)) (l := [some (.ref (cD a + 1)), some (.int (nI (i + 1)))]) n_56_22 rfl (nI_inc i) rfl rfl ?_
      refine pw_goto (q := 2) n_56_25 rfl ?_
      rw [show ffst (fun i => decide (X 3 a i = -1)) (n + 1) i = ffst (fun i => decide (X 3 a i = -1)) n (i + 1) from by first | (simp [ffst, h1, (of_decide_eq_false h1), bI_t, bI_f, nI_add1, gup_k, eSet_k, eClr_k, hSet_k, hClr_k, qSet_k, qCls_k]; done) | contradiction]
      exact ih (i + 1) (by omega)
    ·
      refine pw_iload_n n_56_20 rfl rfl ?_
      exact pw_ireturn (ty := .int) n_56_21 rfl rfl (by first | (simp [ffst, h1, (of_decide_eq_true h1), bI_t, bI_f, nI_add1, gup_k, eSet_k, eClr_k, hSet_k, hClr_k, qSet_k, qCls_k]; done) | contradiction)
set_option maxRecDepth 100000 in
set_option maxHeartbeats 4000000 in
theorem w_56 {X M : gS} {a : Nat} (ha : a < 5) (d : Nat) : pm_Call (d + 2) 56 [.ref (cD a + 1)] (gE X M) (some (.int (xFe X a)), gE X M) := by
  refine pw_start (d := d + 1) (l := [some (.ref (cD a + 1)), none]) (Nat.le_of_ble_eq_true rfl) rfl ?_
  refine pw_iconst n_56_0 ic_0 rfl ?_
  refine pw_istore_n (l := [some (.ref (cD a + 1)), some (.int 0)]) n_56_1 rfl rfl ?_
  exact L_56_2 ha _ 6 0 (by omega)
set_option maxRecDepth 100000 in
set_option maxHeartbeats 4000000 in
theorem L_57_2 {X M : gS} {a : Nat} (ha : a < 5)  (d : Nat) : ∀ n i : Nat, i + n = 5 → pw none (d + 1) 57 2 [some (.ref (cD a + 1)), some (.int (nI i))] [] (gE X M) (some (.int (ffst (fun i => decide (X 7 a i = -1)) n i)), gE X M) := by
  intro n
  induction n with
  | zero =>
    intro i hi
    obtain rfl : i = 5 := by omega
    refine pw_iload_n n_57_2 rfl rfl ?_
    refine pw_iconst n_57_3 ic_5 rfl ?_
    refine pw_icmp_ge_t (q := 27) n_57_4 rfl (nI_le (a := 5) (b := 5) (by omega) (by omega)) ?_
    refine pw_iconst n_57_27 ic_m1 rfl ?_
    exact pw_ireturn (ty := .int) n_57_28 rfl rfl (by first | (simp [ffst, bI_t, bI_f, nI_add1, gup_k, eSet_k, eClr_k, hSet_k, hClr_k, qSet_k, qCls_k]; done) | contradiction)
  | succ n ih =>
    intro i hi
    refine pw_iload_n n_57_2 rfl rfl ?_
    refine pw_iconst n_57_3 ic_5 rfl ?_
    refine pw_icmp_ge_f (q := 27) n_57_4 rfl rfl (nI_ge (a := i) (b := 5) (by omega) (by omega)) ?_
    refine pw_aload_n n_57_7 rfl rfl ?_
    refine pw_getf (a := cD a) n_57_8 fl_1_23 (by decide) (rdR (sh_D_handles a (by omega))) rfl ?_
    refine pw_iload_n n_57_11 rfl rfl ?_
    refine pw_aald (a := cD a + 2) (t := 106) (u := 5) n_57_12 (nI_pos (by omega)) (nI_clamp (by omega)) (by decide) rfl (rdR (sh_HA a (by omega) i (by omega))) rfl ?_
    refine pw_virtV (a := cH a i) (as := []) (st := []) n_57_13 cl_1_40 ⟨rfl, rfl, rfl⟩ (sum8 rfl) (E_tg (sh_H_from a (by omega) i (by omega))) rfl (w_71 (a := a) (i := i) (by omega) (by omega) _) ?_
    refine pw_ifb_eq (q := 21) n_57_16 rfl rfl (fun h1 => ?_) (fun h1 => ?_)
    ·
      refine pw_iinc (v := nI (i + 1)) (l := [some (.ref (cD a + 1)), some (.int (nI (i + 1)))]) n_57_21 rfl (nI_inc i) rfl rfl ?_
      refine pw_goto (q := 2) n_57_24 rfl ?_
      rw [show ffst (fun i => decide (X 7 a i = -1)) (n + 1) i = ffst (fun i => decide (X 7 a i = -1)) n (i + 1) from by first | (simp [ffst, h1, (of_decide_eq_false h1), bI_t, bI_f, nI_add1, gup_k, eSet_k, eClr_k, hSet_k, hClr_k, qSet_k, qCls_k]; done) | contradiction]
      exact ih (i + 1) (by omega)
    ·
      refine pw_iload_n n_57_19 rfl rfl ?_
      exact pw_ireturn (ty := .int) n_57_20 rfl rfl (by first | (simp [ffst, h1, (of_decide_eq_true h1), bI_t, bI_f, nI_add1, gup_k, eSet_k, eClr_k, hSet_k, hClr_k, qSet_k, qCls_k]; done) | contradiction)
set_option maxRecDepth 100000 in
set_option maxHeartbeats 4000000 in
theorem w_57 {X M : gS} {a : Nat} (ha : a < 5) (d : Nat) : pm_Call (d + 2) 57 [.ref (cD a + 1)] (gE X M) (some (.int (xFh X a)), gE X M) := by
  refine pw_start (d := d + 1) (l := [some (.ref (cD a + 1)), none]) (Nat.le_of_ble_eq_true rfl) rfl ?_
  refine pw_iconst n_57_0 ic_0 rfl ?_
  refine pw_istore_n (l := [some (.ref (cD a + 1)), some (.int 0)]) n_57_1 rfl rfl ?_
  exact L_57_2 ha _ 5 0 (by omega)
set_option maxRecDepth 100000 in
set_option maxHeartbeats 4000000 in
theorem L_58_2 {X M : gS} {a : Nat} (ha : a < 5)  (d : Nat) : ∀ n i : Nat, i + n = 4 → pw none (d) 58 2 [some (.ref (cD a + 1)), some (.int (nI i))] [] (gE X M) (some (.int (ffst (fun i => decide (X 10 a i = 0)) n i)), gE X M) := by
  intro n
  induction n with
  | zero =>
    intro i hi
    obtain rfl : i = 4 := by omega
    refine pw_iload_n n_58_2 rfl rfl ?_
    refine pw_iconst n_58_3 ic_4 rfl ?_
    refine pw_icmp_ge_t (q := 27) n_58_4 rfl (nI_le (a := 4) (b := 4) (by omega) (by omega)) ?_
    refine pw_iconst n_58_27 ic_m1 rfl ?_
    exact pw_ireturn (ty := .int) n_58_28 rfl rfl (by first | (simp [ffst, bI_t, bI_f, nI_add1, gup_k, eSet_k, eClr_k, hSet_k, hClr_k, qSet_k, qCls_k]; done) | contradiction)
  | succ n ih =>
    intro i hi
    refine pw_iload_n n_58_2 rfl rfl ?_
    refine pw_iconst n_58_3 ic_4 rfl ?_
    refine pw_icmp_ge_f (q := 27) n_58_4 rfl rfl (nI_ge (a := i) (b := 4) (by omega) (by omega)) ?_
    refine pw_aload_n n_58_7 rfl rfl ?_
    refine pw_getf (a := cD a) n_58_8 fl_1_29 (by decide) (rdR (sh_D_ports a (by omega))) rfl ?_
    refine pw_iload_n n_58_11 rfl rfl ?_
    refine pw_aald (a := cD a + 3) (t := 107) (u := 6) n_58_12 (nI_pos (by omega)) (nI_clamp (by omega)) (by decide) rfl (rdR (sh_QA a (by omega) i (by omega))) rfl ?_
    refine pw_getf (a := cQ a i) n_58_13 fl_1_47 (by decide) (rdX (sh_Q_state a (by omega) i (by omega)) (by decide)) rfl ?_
    refine pw_if_ne (q := 21) n_58_16 rfl rfl (fun h1 => ?_) (fun h1 => ?_)
    ·
      refine pw_iinc (v := nI (i + 1)) (l := [some (.ref (cD a + 1)), some (.int (nI (i + 1)))]) n_58_21 rfl (nI_inc i) rfl rfl ?_
      refine pw_goto (q := 2) n_58_24 rfl ?_
      rw [show ffst (fun i => decide (X 10 a i = 0)) (n + 1) i = ffst (fun i => decide (X 10 a i = 0)) n (i + 1) from by first | (simp [ffst, h1, bI_t, bI_f, nI_add1, gup_k, eSet_k, eClr_k, hSet_k, hClr_k, qSet_k, qCls_k]; done) | contradiction]
      exact ih (i + 1) (by omega)
    ·
      refine pw_iload_n n_58_19 rfl rfl ?_
      exact pw_ireturn (ty := .int) n_58_20 rfl rfl (by first | (simp [ffst, h1, (Classical.not_not.mp h1), bI_t, bI_f, nI_add1, gup_k, eSet_k, eClr_k, hSet_k, hClr_k, qSet_k, qCls_k]; done) | contradiction)
set_option maxRecDepth 100000 in
set_option maxHeartbeats 4000000 in
theorem w_58 {X M : gS} {a : Nat} (ha : a < 5) (d : Nat) : pm_Call (d + 1) 58 [.ref (cD a + 1)] (gE X M) (some (.int (xFq X a)), gE X M) := by
  refine pw_start (d := d) (l := [some (.ref (cD a + 1)), none]) (Nat.le_of_ble_eq_true rfl) rfl ?_
  refine pw_iconst n_58_0 ic_0 rfl ?_
  refine pw_istore_n (l := [some (.ref (cD a + 1)), some (.int 0)]) n_58_1 rfl rfl ?_
  exact L_58_2 ha _ 4 0 (by omega)
set_option maxRecDepth 100000 in
set_option maxHeartbeats 4000000 in
theorem L_59_2 {X M : gS} {a : Nat} (ha : a < 5)  (d : Nat) {r : pm_R} : ∀ (n i : Nat) (Y : gS), i + n = 6 → pw none (d + 2) 59 35 [some (.ref (cD a + 1)), some (.int (nI 6))] [] (gE (lpS (fun i Y => if 0 < Y 6 a i then Y else eClr Y a i) n i Y) M) r → pw none (d + 2) 59 2 [some (.ref (cD a + 1)), some (.int (nI i))] [] (gE Y M) r := by
  intro n
  induction n with
  | zero =>
    intro i Y hi hk
    obtain rfl : i = 6 := by omega
    refine pw_iload_n n_59_2 rfl rfl ?_
    refine pw_bipush n_59_3 bc_6 rfl ?_
    refine pw_icmp_ge_t (q := 35) n_59_5 rfl (nI_le (a := 6) (b := 6) (by omega) (by omega)) ?_
    exact hk
  | succ n ih =>
    intro i Y hi hk
    refine pw_iload_n n_59_2 rfl rfl ?_
    refine pw_bipush n_59_3 bc_6 rfl ?_
    refine pw_icmp_ge_f (q := 35) n_59_5 rfl rfl (nI_ge (a := i) (b := 6) (by omega) (by omega)) ?_
    refine pw_aload_n n_59_8 rfl rfl ?_
    refine pw_getf (a := cD a) n_59_9 fl_1_17 (by decide) (rdR (sh_D_entries a (by omega))) rfl ?_
    refine pw_iload_n n_59_12 rfl rfl ?_
    refine pw_aald (a := cD a + 1) (t := 105) (u := 4) n_59_13 (nI_pos (by omega)) (nI_clamp (by omega)) (by decide) rfl (rdR (sh_EA a (by omega) i (by omega))) rfl ?_
    refine pw_virtV (a := cE a i) (as := []) (st := []) n_59_14 cl_1_44 ⟨rfl, rfl, rfl⟩ (sum8 rfl) (E_tg (sh_E_target a (by omega) i (by omega))) rfl (w_67 (a := a) (i := i) (by omega) (by omega) _) ?_
    refine pw_ifb_ne (q := 29) n_59_17 rfl rfl (fun h1 => ?_) (fun h1 => ?_)
    ·
      refine pw_iinc (v := nI (i + 1)) (l := [some (.ref (cD a + 1)), some (.int (nI (i + 1)))]) n_59_29 rfl (nI_inc i) rfl rfl ?_
      refine pw_goto (q := 2) n_59_32 rfl ?_
      have e0 : (if 0 < Y 6 a i then Y else eClr Y a i) = Y := by first | (simp [h1, (of_decide_eq_true h1), (i32_c (of_decide_eq_true h1)), bI_t, bI_f, nI_add1, gup_k, eSet_k, eClr_k, hSet_k, hClr_k, qSet_k, qCls_k]; done) | contradiction
      refine ih (i + 1) Y (by omega) ?_
      rw [← e0]
      exact hk
    ·
      refine pw_aload_n n_59_20 rfl rfl ?_
      refine pw_getf (a := cD a) n_59_21 fl_1_17 (by decide) (rdR (sh_D_entries a (by omega))) rfl ?_
      refine pw_iload_n n_59_24 rfl rfl ?_
      refine pw_aald (a := cD a + 1) (t := 105) (u := 4) n_59_25 (nI_pos (by omega)) (nI_clamp (by omega)) (by decide) rfl (rdR (sh_EA a (by omega) i (by omega))) rfl ?_
      refine pw_virt0 (a := cE a i) (as := []) (st := []) n_59_26 cl_1_48 ⟨rfl, rfl, rfl⟩ (sum8 rfl) (E_tg (sh_E_target a (by omega) i (by omega))) rfl (w_69 (a := a) (i := i) (by omega) (by omega) _) ?_
      refine pw_iinc (v := nI (i + 1)) (l := [some (.ref (cD a + 1)), some (.int (nI (i + 1)))]) n_59_29 rfl (nI_inc i) rfl rfl ?_
      refine pw_goto (q := 2) n_59_32 rfl ?_
      have e0 : (if 0 < Y 6 a i then Y else eClr Y a i) = eClr Y a i := by first | (simp [h1, (of_decide_eq_false h1), (i32_d (of_decide_eq_false h1)), bI_t, bI_f, nI_add1, gup_k, eSet_k, eClr_k, hSet_k, hClr_k, qSet_k, qCls_k]; done) | contradiction
      refine ih (i + 1) (eClr Y a i) (by omega) ?_
      rw [← e0]
      exact hk
set_option maxRecDepth 100000 in
set_option maxHeartbeats 4000000 in
theorem w_59 {X M : gS} {a : Nat} (ha : a < 5) (d : Nat) : pm_Call (d + 3) 59 [.ref (cD a + 1)] (gE X M) (none, gE (xClrE X a) M) := by
  refine pw_start (d := d + 2) (l := [some (.ref (cD a + 1)), none]) (Nat.le_of_ble_eq_true rfl) rfl ?_
  refine pw_iconst n_59_0 ic_0 rfl ?_
  refine pw_istore_n (l := [some (.ref (cD a + 1)), some (.int 0)]) n_59_1 rfl rfl ?_
  refine L_59_2 (X := X) (M := M) ha _ 6 0 X (by omega) ?_
  exact pw_return n_59_35 rfl (by first | (simp [xClrE, bI_t, bI_f, nI_add1, gup_k, eSet_k, eClr_k, hSet_k, hClr_k, qSet_k, qCls_k]; done) | contradiction)
set_option maxRecDepth 100000 in
set_option maxHeartbeats 4000000 in
theorem L_61_2 {X M : gS} {p : Nat} (hp : p < 20)  (d : Nat) {r : pm_R} : ∀ (n i : Nat) (Y : gS), i + n = 8 → pw none (d) 61 21 [some (.ref (cP p + 1)), some (.int (nI 8))] [] (gE (lpS (fun w Y => gup Y 2 p w 0) n i Y) M) r → pw none (d) 61 2 [some (.ref (cP p + 1)), some (.int (nI i))] [] (gE Y M) r := by
  intro n
  induction n with
  | zero =>
    intro i Y hi hk
    obtain rfl : i = 8 := by omega
    refine pw_iload_n n_61_2 rfl rfl ?_
    refine pw_bipush n_61_3 bc_8 rfl ?_
    refine pw_icmp_ge_t (q := 21) n_61_5 rfl (nI_le (a := 8) (b := 8) (by omega) (by omega)) ?_
    exact hk
  | succ n ih =>
    intro i Y hi hk
    refine pw_iload_n n_61_2 rfl rfl ?_
    refine pw_bipush n_61_3 bc_8 rfl ?_
    refine pw_icmp_ge_f (q := 21) n_61_5 rfl rfl (nI_ge (a := i) (b := 8) (by omega) (by omega)) ?_
    refine pw_aload_n n_61_8 rfl rfl ?_
    refine pw_getf (a := cP p) n_61_9 fl_2_15 (by decide) (rdR (sh_P_words p (by omega))) rfl ?_
    refine pw_iload_n n_61_12 rfl rfl ?_
    refine pw_iconst n_61_13 ic_0 rfl ?_
    refine pw_iast (a := cP p + 1) n_61_14 (nI_pos (by omega)) (nI_clamp (by omega)) (wrX (sh_PW p (by omega) i (by omega)) (by decide)) rfl ?_
    refine pw_iinc (v := nI (i + 1)) (l := [some (.ref (cP p + 1)), some (.int (nI (i + 1)))]) n_61_15 rfl (nI_inc i) rfl rfl ?_
    refine pw_goto (q := 2) n_61_18 rfl ?_
    have e0 : gup Y 2 p i 0 = gup Y 2 p i 0 := by first | (simp [bI_t, bI_f, nI_add1, gup_k, eSet_k, eClr_k, hSet_k, hClr_k, qSet_k, qCls_k]; done) | contradiction
    refine ih (i + 1) (gup Y 2 p i 0) (by omega) ?_
    rw [← e0]
    exact hk
set_option maxRecDepth 100000 in
set_option maxHeartbeats 4000000 in
theorem w_61 {X M : gS} {p : Nat} (hp : p < 20) (d : Nat) : pm_Call (d + 1) 61 [.ref (cP p + 1)] (gE X M) (none, gE (xWipe X p) M) := by
  refine pw_start (d := d) (l := [some (.ref (cP p + 1)), none]) (Nat.le_of_ble_eq_true rfl) rfl ?_
  refine pw_iconst n_61_0 ic_0 rfl ?_
  refine pw_istore_n (l := [some (.ref (cP p + 1)), some (.int 0)]) n_61_1 rfl rfl ?_
  refine L_61_2 (X := X) (M := M) hp _ 8 0 X (by omega) ?_
  exact pw_return n_61_21 rfl (by first | (simp [xWipe, bI_t, bI_f, nI_add1, gup_k, eSet_k, eClr_k, hSet_k, hClr_k, qSet_k, qCls_k]; done) | contradiction)
set_option maxRecDepth 100000 in
set_option maxHeartbeats 4000000 in
theorem L_63_32 {X M : gS} {v : Nat} {f : Int32} {b : Int32} (hv : v < 3)  (d : Nat) {r : pm_R} : ∀ (n i : Nat) (Y : gS), i + n = 8 → pw none (d) 63 51 [some (.ref (cV v + 1)), some (.int f), some (.int b), some (.int (nI 8))] [] (gE (lpS (fun s Y => gup Y 27 v s 0) n i Y) M) r → pw none (d) 63 32 [some (.ref (cV v + 1)), some (.int f), some (.int b), some (.int (nI i))] [] (gE Y M) r := by
  intro n
  induction n with
  | zero =>
    intro i Y hi hk
    obtain rfl : i = 8 := by omega
    refine pw_iload_n n_63_32 rfl rfl ?_
    refine pw_bipush n_63_33 bc_8 rfl ?_
    refine pw_icmp_ge_t (q := 51) n_63_35 rfl (nI_le (a := 8) (b := 8) (by omega) (by omega)) ?_
    exact hk
  | succ n ih =>
    intro i Y hi hk
    refine pw_iload_n n_63_32 rfl rfl ?_
    refine pw_bipush n_63_33 bc_8 rfl ?_
    refine pw_icmp_ge_f (q := 51) n_63_35 rfl rfl (nI_ge (a := i) (b := 8) (by omega) (by omega)) ?_
    refine pw_aload_n n_63_38 rfl rfl ?_
    refine pw_getf (a := cV v) n_63_39 fl_3_53 (by decide) (rdR (sh_V_disk v (by omega))) rfl ?_
    refine pw_iload_n n_63_42 rfl rfl ?_
    refine pw_iconst n_63_43 ic_0 rfl ?_
    refine pw_iast (a := cV v + 3) n_63_44 (nI_pos (by omega)) (nI_clamp (by omega)) (wrX (sh_DK v (by omega) i (by omega)) (by decide)) rfl ?_
    refine pw_iinc (v := nI (i + 1)) (l := [some (.ref (cV v + 1)), some (.int f), some (.int b), some (.int (nI (i + 1)))]) n_63_45 rfl (nI_inc i) rfl rfl ?_
    refine pw_goto (q := 32) n_63_48 rfl ?_
    have e0 : gup Y 27 v i 0 = gup Y 27 v i 0 := by first | (simp [bI_t, bI_f, nI_add1, gup_k, eSet_k, eClr_k, hSet_k, hClr_k, qSet_k, qCls_k]; done) | contradiction
    refine ih (i + 1) (gup Y 27 v i 0) (by omega) ?_
    rw [← e0]
    exact hk
set_option maxRecDepth 100000 in
set_option maxHeartbeats 4000000 in
theorem w_63 {X M : gS} {v : Nat} {f : Int32} {b : Int32} (hv : v < 3) (d : Nat) : pm_Call (d + 1) 63 [.ref (cV v + 1), .int f, .int b] (gE X M) (none, gE (vBeg X v f b) M) := by
  refine pw_start (d := d) (l := [some (.ref (cV v + 1)), some (.int f), some (.int b), none]) (Nat.le_of_ble_eq_true rfl) rfl ?_
  refine pw_aload_n n_63_0 rfl rfl ?_
  refine pw_iconst n_63_1 ic_1 rfl ?_
  refine pw_putf (a := cV v) n_63_2 fl_3_9 (by decide) rfl rfl (Or.inl rfl) (wrX (sh_V_present v (by omega)) (by decide)) rfl ?_
  refine pw_aload_n n_63_5 rfl rfl ?_
  refine pw_iload_n n_63_6 rfl rfl ?_
  refine pw_putf (a := cV v) n_63_7 fl_3_15 (by decide) rfl rfl (Or.inl rfl) (wrX (sh_V_front v (by omega)) (by decide)) rfl ?_
  refine pw_aload_n n_63_10 rfl rfl ?_
  refine pw_iload_n n_63_11 rfl rfl ?_
  refine pw_putf (a := cV v) n_63_12 fl_3_19 (by decide) rfl rfl (Or.inl rfl) (wrX (sh_V_back v (by omega)) (by decide)) rfl ?_
  refine pw_aload_n n_63_15 rfl rfl ?_
  refine pw_iconst n_63_16 ic_0 rfl ?_
  refine pw_putf (a := cV v) n_63_17 fl_3_37 (by decide) rfl rfl (Or.inl rfl) (wrX (sh_V_posted v (by omega)) (by decide)) rfl ?_
  refine pw_aload_n n_63_20 rfl rfl ?_
  refine pw_iconst n_63_21 ic_0 rfl ?_
  refine pw_putf (a := cV v) n_63_22 fl_3_40 (by decide) rfl rfl (Or.inl rfl) (wrX (sh_V_reaped v (by omega)) (by decide)) rfl ?_
  refine pw_aload_n n_63_25 rfl rfl ?_
  refine pw_iconst n_63_26 ic_0 rfl ?_
  refine pw_putf (a := cV v) n_63_27 fl_3_43 (by decide) rfl rfl (Or.inl rfl) (wrX (sh_V_taken v (by omega)) (by decide)) rfl ?_
  refine pw_iconst n_63_30 ic_0 rfl ?_
  refine pw_istore_n (l := [some (.ref (cV v + 1)), some (.int f), some (.int b), some (.int 0)]) n_63_31 rfl rfl ?_
  refine L_63_32 (X := X) (M := M) hv _ 8 0 (gup (gup (gup (gup (gup (gup X 14 v 0 1) 15 v 0 f) 16 v 0 b) 22 v 0 0) 23 v 0 0) 24 v 0 0) (by omega) ?_
  exact pw_return n_63_51 rfl (by first | (simp [vBeg, bI_t, bI_f, nI_add1, gup_k, eSet_k, eClr_k, hSet_k, hClr_k, qSet_k, qCls_k]; done) | contradiction)
