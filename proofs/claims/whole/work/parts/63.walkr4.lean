set_option maxRecDepth 100000 in
set_option maxHeartbeats 4000000 in
theorem w_104 {X M : gS} {x : Int32} {p : Int32} {w : Int32} {v : Int32} (hok0 : mLive M x = true → hOkM M (tN x)) (d : Nat) : pm_Call (d + 4) 104 [.ref 152, .int x, .int p, .int w, .int v] (gE X M) (some (.int ((mStore M x p w v).1)), gE X ((mStore M x p w v).2)) := by
  refine pw_start (d := d + 3) (l := [some (.ref 152), some (.int x), some (.int p), some (.int w), some (.int v), none]) (Nat.le_of_ble_eq_true rfl) rfl ?_
  refine pw_aload_n n_104_0 rfl rfl ?_
  refine pw_iload_n n_104_1 rfl rfl ?_
  refine pw_iload_n n_104_2 rfl rfl ?_
  refine pw_iload_n n_104_3 rfl rfl ?_
  refine pw_iconst n_104_4 ic_1 rfl ?_
  refine pw_virtV (a := 151) (as := [.int x, .int p, .int w, .int 1]) (st := []) n_104_5 cl_7_126 ⟨rfl, rfl, rfl⟩ (sum8 rfl) (E_tg sh_R_state) rfl (w_103 (x := x) (p := p) (w := w) (s := true) (by assumption) _) ?_
  refine pw_istore (l := [some (.ref 152), some (.int x), some (.int p), some (.int w), some (.int v), some (.int (mRef M x p w true))]) n_104_8 rfl rfl ?_
  refine pw_iload n_104_10 rfl rfl ?_
  refine pw_if_ne (q := 28) n_104_12 rfl rfl (fun h1 => ?_) (fun h1 => ?_)
  ·
    refine pw_iload n_104_28 rfl rfl ?_
    exact pw_ireturn (ty := .int) n_104_30 rfl rfl (by first | (simp [mStore, h1, bI_t, bI_f, nI_add1, gup_k, eSet_k, eClr_k, hSet_k, hClr_k, qSet_k, qCls_k]; done) | contradiction | (split <;> first | rfl | (simp_all; done)) | simp [mStore, h1, bI_t, bI_f, nI_add1, gup_k, eSet_k, eClr_k, hSet_k, hClr_k, qSet_k, qCls_k])
  ·
    obtain ⟨⟨pn, hpn, rfl⟩, wn, hwn, rfl⟩ := ref_nn (Classical.not_not.mp h1)
    have tpn : tN (nI pn) = pn := nI_clamp (by omega)
    have twn : tN (nI wn) = wn := nI_clamp (by omega)
    refine pw_aload_n n_104_15 rfl rfl ?_
    refine pw_getf (a := 151) n_104_16 fl_7_16 (by decide) (rdR sh_R_words) rfl ?_
    refine pw_bipush n_104_19 bc_8 rfl ?_
    refine pw_iload_n n_104_21 rfl rfl ?_
    refine pw_imul n_104_22 rfl (pw_top (nJ_mul 8 pn) ?_)
    refine pw_iload_n n_104_23 rfl rfl ?_
    refine pw_iadd n_104_24 rfl (pw_top (nJ_add (8 * pn) wn) ?_)
    refine pw_iload n_104_25 rfl rfl ?_
    refine pw_iast (a := cM 2) n_104_27 (nI_pos (by omega)) (nI_clamp (by omega)) (wrM (sh_M_words ((8 * pn) + wn) (by omega)) (by decide)) rfl ?_
    refine pw_iload n_104_28 rfl rfl ?_
    exact pw_ireturn (ty := .int) n_104_30 rfl rfl (by first | (simp [mStore, h1, (Classical.not_not.mp h1), tpn, twn, (Classical.not_not.mp h1), bI_t, bI_f, nI_add1, gup_k, eSet_k, eClr_k, hSet_k, hClr_k, qSet_k, qCls_k]; done) | contradiction | (split <;> first | rfl | (simp_all; done)) | simp [mStore, h1, (Classical.not_not.mp h1), tpn, twn, (Classical.not_not.mp h1), bI_t, bI_f, nI_add1, gup_k, eSet_k, eClr_k, hSet_k, hClr_k, qSet_k, qCls_k])
set_option maxRecDepth 100000 in
set_option maxHeartbeats 4000000 in
theorem w_106 {X M : gS} {x : Int32} {p : Int32} {w : Int32} (hok0 : mLive M x = true → hOkM M (tN x)) (d : Nat) : pm_Call (d + 4) 106 [.ref 152, .int x, .int p, .int w] (gE X M) (some (.long (mLoad M x p w)), gE X M) := by
  refine pw_start (d := d + 3) (l := [some (.ref 152), some (.int x), some (.int p), some (.int w), none]) (Nat.le_of_ble_eq_true rfl) rfl ?_
  refine pw_aload_n n_106_0 rfl rfl ?_
  refine pw_iload_n n_106_1 rfl rfl ?_
  refine pw_iload_n n_106_2 rfl rfl ?_
  refine pw_iload_n n_106_3 rfl rfl ?_
  refine pw_iconst n_106_4 ic_0 rfl ?_
  refine pw_virtV (a := 151) (as := [.int x, .int p, .int w, .int 0]) (st := []) n_106_5 cl_7_126 ⟨rfl, rfl, rfl⟩ (sum8 rfl) (E_tg sh_R_state) rfl (w_103 (x := x) (p := p) (w := w) (s := false) (by assumption) _) ?_
  refine pw_istore (l := [some (.ref 152), some (.int x), some (.int p), some (.int w), some (.int (mRef M x p w false))]) n_106_8 rfl rfl ?_
  refine pw_iload n_106_10 rfl rfl ?_
  refine pw_if_ge (q := 21) n_106_12 rfl rfl (fun h1 => ?_) (fun h1 => ?_)
  ·
    obtain ⟨⟨pn, hpn, rfl⟩, wn, hwn, rfl⟩ := ref_nn (ref_0 (ge0 h1))
    have tpn : tN (nI pn) = pn := nI_clamp (by omega)
    have twn : tN (nI wn) = wn := nI_clamp (by omega)
    refine pw_aload_n n_106_21 rfl rfl ?_
    refine pw_getf (a := 151) n_106_22 fl_7_16 (by decide) (rdR sh_R_words) rfl ?_
    refine pw_bipush n_106_25 bc_8 rfl ?_
    refine pw_iload_n n_106_27 rfl rfl ?_
    refine pw_imul n_106_28 rfl (pw_top (nJ_mul 8 pn) ?_)
    refine pw_iload_n n_106_29 rfl rfl ?_
    refine pw_iadd n_106_30 rfl (pw_top (nJ_add (8 * pn) wn) ?_)
    refine pw_iald (a := cM 2) n_106_31 (nI_pos (by omega)) (nI_clamp (by omega)) (rdM (sh_M_words ((8 * pn) + wn) (by omega)) (by decide)) rfl ?_
    refine pw_statV (as := [.int (M 52 ((8 * pn) + wn) 0)]) (st := []) n_106_32 cl_7_132 ⟨rfl, rfl, rfl⟩ (sum8 rfl) rfl (w_105 (v := (M 52 ((8 * pn) + wn) 0)) _) ?_
    exact pw_lreturn n_106_35 rfl (by first | (simp [mLoad, h1, (i32_a h1), tpn, twn, (ref_0 (ge0 h1)), bI_t, bI_f, nI_add1, gup_k, eSet_k, eClr_k, hSet_k, hClr_k, qSet_k, qCls_k]; done) | contradiction | (split <;> first | rfl | (simp_all; done)) | simp [mLoad, h1, (i32_a h1), tpn, twn, (ref_0 (ge0 h1)), bI_t, bI_f, nI_add1, gup_k, eSet_k, eClr_k, hSet_k, hClr_k, qSet_k, qCls_k])
  ·
    refine pw_iload n_106_15 rfl rfl ?_
    refine pw_i2l n_106_17 rfl ?_
    refine pw_goto (q := 35) n_106_18 rfl ?_
    exact pw_lreturn n_106_35 rfl (by first | (simp [mLoad, h1, (i32_b h1), bI_t, bI_f, nI_add1, gup_k, eSet_k, eClr_k, hSet_k, hClr_k, qSet_k, qCls_k]; done) | contradiction | (split <;> first | rfl | (simp_all; done)) | simp [mLoad, h1, (i32_b h1), bI_t, bI_f, nI_add1, gup_k, eSet_k, eClr_k, hSet_k, hClr_k, qSet_k, qCls_k])
set_option maxRecDepth 100000 in
set_option maxHeartbeats 4000000 in
theorem w_109 {X M : gS} {x : Int32} {k : Int32} (mp : mpA M) (d : Nat) : pm_Call (d + 2) 109 [.ref 152, .int x, .int k] (gE X M) (some (.int ((mSend M x k).1)), gE X ((mSend M x k).2)) := by
  refine pw_start (d := d + 1) (l := [some (.ref 152), some (.int x), some (.int k), none]) (Nat.le_of_ble_eq_true rfl) rfl ?_
  refine pw_aload_n n_109_0 rfl rfl ?_
  refine pw_iload_n n_109_1 rfl rfl ?_
  refine pw_virtV (a := 151) (as := [.int x]) (st := []) n_109_2 cl_7_94 ⟨rfl, rfl, rfl⟩ (sum8 rfl) (E_tg sh_R_state) rfl (w_81 (x := x) _) ?_
  refine pw_ifb_ne (q := 10) n_109_5 rfl rfl (fun h1 => ?_) (fun h1 => ?_)
  ·
    obtain ⟨xn, hxn, rfl⟩ := live_nI h1
    have txn : tN (nI xn) = xn := nI_clamp (by omega)
    refine pw_iload_n n_109_10 rfl rfl ?_
    refine pw_if_lt (q := 33) n_109_11 rfl rfl (fun h2 => ?_) (fun h2 => ?_)
    ·
      refine pw_bipush n_109_33 bc_m8 rfl ?_
      exact pw_ireturn (ty := .int) n_109_35 rfl rfl (by first | (simp [mSend, h1, txn, h2, (i32_c h2), bI_t, bI_f, nI_add1, gup_k, eSet_k, eClr_k, hSet_k, hClr_k, qSet_k, qCls_k]; done) | contradiction | (split <;> first | rfl | (simp_all; done)) | simp [mSend, h1, txn, h2, (i32_c h2), bI_t, bI_f, nI_add1, gup_k, eSet_k, eClr_k, hSet_k, hClr_k, qSet_k, qCls_k])
    ·
      refine pw_iload_n n_109_14 rfl rfl ?_
      refine pw_iconst n_109_15 ic_3 rfl ?_
      refine pw_icmp_gt (q := 33) n_109_16 rfl rfl (fun h3 => ?_) (fun h3 => ?_)
      ·
        refine pw_bipush n_109_33 bc_m8 rfl ?_
        exact pw_ireturn (ty := .int) n_109_35 rfl rfl (by first | (simp [mSend, h1, txn, h2, (i32_d h2), h3, (i32_c h3), bI_t, bI_f, nI_add1, gup_k, eSet_k, eClr_k, hSet_k, hClr_k, qSet_k, qCls_k]; done) | contradiction | (split <;> first | rfl | (simp_all; done)) | simp [mSend, h1, txn, h2, (i32_d h2), h3, (i32_c h3), bI_t, bI_f, nI_add1, gup_k, eSet_k, eClr_k, hSet_k, hClr_k, qSet_k, qCls_k])
      ·
        have h3b := tN_le (z := k) (k := 3) (by decide) h3
        obtain ⟨kn, hkn, rfl⟩ := nJ_of (k := 3) (by decide) h2 h3
        have tkn : tN (nI kn) = kn := nI_clamp (by omega)
        refine pw_aload_n n_109_19 rfl rfl ?_
        refine pw_getf (a := 151) n_109_20 fl_7_35 (by decide) (rdR sh_R_port) rfl ?_
        refine pw_iconst n_109_23 ic_4 rfl ?_
        refine pw_iload_n n_109_24 rfl rfl ?_
        refine pw_imul n_109_25 rfl (pw_top (nJ_mul 4 xn) ?_)
        refine pw_iload_n n_109_26 rfl rfl ?_
        refine pw_iadd n_109_27 rfl (pw_top (nJ_add (4 * xn) kn) ?_)
        refine pw_iald (a := cM 8) n_109_28 (nI_pos (by omega)) (nI_clamp (by omega)) (rdM (sh_M_port ((4 * xn) + kn) (by omega)) (by decide)) rfl ?_
        refine pw_iconst n_109_29 ic_2 rfl ?_
        refine pw_icmp_eq (q := 36) n_109_30 rfl rfl (fun h4 => ?_) (fun h4 => ?_)
        ·
          obtain ⟨f0, f1⟩ := mp (4 * xn + kn) (by omega) h4
          refine pw_aload_n n_109_36 rfl rfl ?_
          refine pw_getf (a := 151) n_109_37 fl_7_41 (by decide) (rdR sh_R_pending) rfl ?_
          refine pw_aload_n n_109_40 rfl rfl ?_
          refine pw_getf (a := 151) n_109_41 fl_7_38 (by decide) (rdR sh_R_far) rfl ?_
          refine pw_iconst n_109_44 ic_4 rfl ?_
          refine pw_iload_n n_109_45 rfl rfl ?_
          refine pw_imul n_109_46 rfl (pw_top (nJ_mul 4 xn) ?_)
          refine pw_iload_n n_109_47 rfl rfl ?_
          refine pw_iadd n_109_48 rfl (pw_top (nJ_add (4 * xn) kn) ?_)
          refine pw_iald (a := cM 9) n_109_49 (nI_pos (by omega)) (nI_clamp (by omega)) (rdM (sh_M_far ((4 * xn) + kn) (by omega)) (by decide)) rfl ?_
          refine pw_top (y := nI (tN (M 59 (4 * xn + kn) 0))) (nI_tN f0) ?_
          refine pw_zald (a := cM 10) n_109_50 (nI_pos (by omega)) (nI_clamp (by omega)) (rdM (sh_M_pending (tN (M 59 (4 * xn + kn) 0)) (by omega)) (by decide)) rfl ?_
          refine pw_istore_n (l := [some (.ref 152), some (.int (nI xn)), some (.int (nI kn)), some (.int (M 60 (tN (M 59 (4 * xn + kn) 0)) 0))]) n_109_51 rfl rfl ?_
          refine pw_aload_n n_109_52 rfl rfl ?_
          refine pw_getf (a := 151) n_109_53 fl_7_41 (by decide) (rdR sh_R_pending) rfl ?_
          refine pw_aload_n n_109_56 rfl rfl ?_
          refine pw_getf (a := 151) n_109_57 fl_7_38 (by decide) (rdR sh_R_far) rfl ?_
          refine pw_iconst n_109_60 ic_4 rfl ?_
          refine pw_iload_n n_109_61 rfl rfl ?_
          refine pw_imul n_109_62 rfl (pw_top (nJ_mul 4 xn) ?_)
          refine pw_iload_n n_109_63 rfl rfl ?_
          refine pw_iadd n_109_64 rfl (pw_top (nJ_add (4 * xn) kn) ?_)
          refine pw_iald (a := cM 9) n_109_65 (nI_pos (by omega)) (nI_clamp (by omega)) (rdM (sh_M_far ((4 * xn) + kn) (by omega)) (by decide)) rfl ?_
          refine pw_top (y := nI (tN (M 59 (4 * xn + kn) 0))) (nI_tN f0) ?_
          refine pw_iconst n_109_66 ic_1 rfl ?_
          refine pw_zast (a := cM 10) n_109_67 (nI_pos (by omega)) (nI_clamp (by omega)) rfl (wrM (sh_M_pending (tN (M 59 (4 * xn + kn) 0)) (by omega)) (by decide)) rfl ?_
          refine pw_iload_n n_109_68 rfl rfl ?_
          refine pw_if_eq (q := 76) n_109_69 rfl rfl (fun h5 => ?_) (fun h5 => ?_)
          ·
            refine pw_iconst n_109_76 ic_1 rfl ?_
            exact pw_ireturn (ty := .int) n_109_77 rfl rfl (by first | (simp [mSend, h1, txn, h2, (i32_d h2), h3, (i32_d h3), tkn, h4, h5, bI_t, bI_f, nI_add1, gup_k, eSet_k, eClr_k, hSet_k, hClr_k, qSet_k, qCls_k]; done) | contradiction | (split <;> first | rfl | (simp_all; done)) | simp [mSend, h1, txn, h2, (i32_d h2), h3, (i32_d h3), tkn, h4, h5, bI_t, bI_f, nI_add1, gup_k, eSet_k, eClr_k, hSet_k, hClr_k, qSet_k, qCls_k])
          ·
            refine pw_iconst n_109_72 ic_0 rfl ?_
            refine pw_goto (q := 77) n_109_73 rfl ?_
            exact pw_ireturn (ty := .int) n_109_77 rfl rfl (by first | (simp [mSend, h1, txn, h2, (i32_d h2), h3, (i32_d h3), tkn, h4, h5, bI_t, bI_f, nI_add1, gup_k, eSet_k, eClr_k, hSet_k, hClr_k, qSet_k, qCls_k]; done) | contradiction | (split <;> first | rfl | (simp_all; done)) | simp [mSend, h1, txn, h2, (i32_d h2), h3, (i32_d h3), tkn, h4, h5, bI_t, bI_f, nI_add1, gup_k, eSet_k, eClr_k, hSet_k, hClr_k, qSet_k, qCls_k])
        ·
          refine pw_bipush n_109_33 bc_m8 rfl ?_
          exact pw_ireturn (ty := .int) n_109_35 rfl rfl (by first | (simp [mSend, h1, txn, h2, (i32_d h2), h3, (i32_d h3), tkn, h4, bI_t, bI_f, nI_add1, gup_k, eSet_k, eClr_k, hSet_k, hClr_k, qSet_k, qCls_k]; done) | contradiction | (split <;> first | rfl | (simp_all; done)) | simp [mSend, h1, txn, h2, (i32_d h2), h3, (i32_d h3), tkn, h4, bI_t, bI_f, nI_add1, gup_k, eSet_k, eClr_k, hSet_k, hClr_k, qSet_k, qCls_k])
  ·
    refine pw_iconst n_109_8 ic_m1 rfl ?_
    exact pw_ireturn (ty := .int) n_109_9 rfl rfl (by first | (simp [mSend, h1, bI_t, bI_f, nI_add1, gup_k, eSet_k, eClr_k, hSet_k, hClr_k, qSet_k, qCls_k]; done) | contradiction | (split <;> first | rfl | (simp_all; done)) | simp [mSend, h1, bI_t, bI_f, nI_add1, gup_k, eSet_k, eClr_k, hSet_k, hClr_k, qSet_k, qCls_k])
set_option maxRecDepth 100000 in
set_option maxHeartbeats 4000000 in
theorem w_112 {X M : gS} {x : Int32} (dv : ∀ v, v < 3 → ¬ M 61 v 0 = 0 → dvM M v) (d : Nat) : pm_Call (d + 1) 112 [.ref 152, .int x] (gE X M) (some (.int (mTr M x)), gE X M) := by
  refine pw_start (d := d) (l := [some (.ref 152), some (.int x), none, none]) (Nat.le_of_ble_eq_true rfl) rfl ?_
  refine pw_iload_n n_112_0 rfl rfl ?_
  refine pw_if_lt (q := 18) n_112_1 rfl rfl (fun h1 => ?_) (fun h1 => ?_)
  ·
    refine pw_bipush n_112_18 bc_m9 rfl ?_
    exact pw_ireturn (ty := .int) n_112_20 rfl rfl (by first | (simp [mTr, mWh, h1, (i32_c h1), bI_t, bI_f, nI_add1, gup_k, eSet_k, eClr_k, hSet_k, hClr_k, qSet_k, qCls_k]; done) | contradiction | (split <;> first | rfl | (simp_all; done)) | simp [mTr, mWh, h1, (i32_c h1), bI_t, bI_f, nI_add1, gup_k, eSet_k, eClr_k, hSet_k, hClr_k, qSet_k, qCls_k])
  ·
    refine pw_iload_n n_112_4 rfl rfl ?_
    refine pw_iconst n_112_5 ic_2 rfl ?_
    refine pw_icmp_gt (q := 18) n_112_6 rfl rfl (fun h2 => ?_) (fun h2 => ?_)
    ·
      refine pw_bipush n_112_18 bc_m9 rfl ?_
      exact pw_ireturn (ty := .int) n_112_20 rfl rfl (by first | (simp [mTr, mWh, h1, (i32_d h1), h2, (i32_c h2), bI_t, bI_f, nI_add1, gup_k, eSet_k, eClr_k, hSet_k, hClr_k, qSet_k, qCls_k]; done) | contradiction | (split <;> first | rfl | (simp_all; done)) | simp [mTr, mWh, h1, (i32_d h1), h2, (i32_c h2), bI_t, bI_f, nI_add1, gup_k, eSet_k, eClr_k, hSet_k, hClr_k, qSet_k, qCls_k])
    ·
      have h2b := tN_le (z := x) (k := 2) (by decide) h2
      obtain ⟨xn, hxn, rfl⟩ := nJ_of (k := 2) (by decide) h1 h2
      have txn : tN (nI xn) = xn := nI_clamp (by omega)
      refine pw_aload_n n_112_9 rfl rfl ?_
      refine pw_getf (a := 151) n_112_10 fl_7_44 (by decide) (rdR sh_R_front) rfl ?_
      refine pw_iload_n n_112_13 rfl rfl ?_
      refine pw_iald (a := cM 11) n_112_14 (nI_pos (by omega)) (nI_clamp (by omega)) (rdM (sh_M_front xn (by omega)) (by decide)) rfl ?_
      refine pw_if_ne (q := 21) n_112_15 rfl rfl (fun h3 => ?_) (fun h3 => ?_)
      ·
        obtain ⟨hf, f5, hb, b5, hg, g5, hre, r6, hrp, p20⟩ := dv xn (by omega) h3
        refine pw_iconst n_112_21 ic_5 rfl ?_
        refine pw_aload_n n_112_22 rfl rfl ?_
        refine pw_getf (a := 151) n_112_23 fl_7_47 (by decide) (rdR sh_R_back) rfl ?_
        refine pw_iload_n n_112_26 rfl rfl ?_
        refine pw_iald (a := cM 12) n_112_27 (nI_pos (by omega)) (nI_clamp (by omega)) (rdM (sh_M_back xn (by omega)) (by decide)) rfl ?_
        refine pw_top (y := nI (mB M xn)) hb ?_
        refine pw_imul n_112_28 rfl (pw_top (nJ_mul 5 (mB M xn)) ?_)
        refine pw_aload_n n_112_29 rfl rfl ?_
        refine pw_getf (a := 151) n_112_30 fl_7_56 (by decide) (rdR sh_R_ringHandle) rfl ?_
        refine pw_iload_n n_112_33 rfl rfl ?_
        refine pw_iald (a := cM 15) n_112_34 (nI_pos (by omega)) (nI_clamp (by omega)) (rdM (sh_M_ringHandle xn (by omega)) (by decide)) rfl ?_
        refine pw_top (y := nI (mG M xn)) hg ?_
        refine pw_iadd n_112_35 rfl (pw_top (nJ_add (5 * (mB M xn)) (mG M xn)) ?_)
        refine pw_istore_n (l := [some (.ref 152), some (.int (nI xn)), some (.int (nI ((5 * (mB M xn)) + (mG M xn)))), none]) n_112_36 rfl rfl ?_
        refine pw_bipush n_112_37 bc_6 rfl ?_
        refine pw_aload_n n_112_39 rfl rfl ?_
        refine pw_getf (a := 151) n_112_40 fl_7_44 (by decide) (rdR sh_R_front) rfl ?_
        refine pw_iload_n n_112_43 rfl rfl ?_
        refine pw_iald (a := cM 11) n_112_44 (nI_pos (by omega)) (nI_clamp (by omega)) (rdM (sh_M_front xn (by omega)) (by decide)) rfl ?_
        refine pw_iconst n_112_45 ic_1 rfl ?_
        refine pw_isub n_112_46 rfl ?_
        refine pw_top (y := nI (mF M xn)) (mF_eq hf) ?_
        refine pw_imul n_112_47 rfl (pw_top (nJ_mul 6 (mF M xn)) ?_)
        refine pw_aload_n n_112_48 rfl rfl ?_
        refine pw_getf (a := 151) n_112_49 fl_7_53 (by decide) (rdR sh_R_ringEntry) rfl ?_
        refine pw_iload_n n_112_52 rfl rfl ?_
        refine pw_iald (a := cM 14) n_112_53 (nI_pos (by omega)) (nI_clamp (by omega)) (rdM (sh_M_ringEntry xn (by omega)) (by decide)) rfl ?_
        refine pw_top (y := nI (mRe M xn)) hre ?_
        refine pw_iadd n_112_54 rfl (pw_top (nJ_add (6 * (mF M xn)) (mRe M xn)) ?_)
        refine pw_istore_n (l := [some (.ref 152), some (.int (nI xn)), some (.int (nI ((5 * (mB M xn)) + (mG M xn)))), some (.int (nI ((6 * (mF M xn)) + (mRe M xn))))]) n_112_55 rfl rfl ?_
        refine pw_aload_n n_112_56 rfl rfl ?_
        refine pw_getf (a := 151) n_112_57 fl_7_28 (by decide) (rdR sh_R_mapped) rfl ?_
        refine pw_iload_n n_112_60 rfl rfl ?_
        refine pw_iald (a := cM 6) n_112_61 (nI_pos (by omega)) (nI_clamp (by omega)) (rdM (sh_M_mapped ((5 * (mB M xn)) + (mG M xn)) (by omega)) (by decide)) rfl ?_
        refine pw_iload_n n_112_62 rfl rfl ?_
        refine pw_iconst n_112_63 ic_1 rfl ?_
        refine pw_iadd n_112_64 rfl (pw_top (nJ_add ((6 * (mF M xn)) + (mRe M xn)) 1) ?_)
        refine pw_icmp_ne (q := 96) n_112_65 rfl rfl (fun h4 => ?_) (fun h4 => ?_)
        ·
          refine pw_bipush n_112_96 bc_m10 rfl ?_
          exact pw_ireturn (ty := .int) n_112_98 rfl rfl (by first | (simp [mTr, mWh, h1, (i32_d h1), h2, (i32_d h2), txn, h3, h4, bI_t, bI_f, nI_add1, gup_k, eSet_k, eClr_k, hSet_k, hClr_k, qSet_k, qCls_k]; done) | contradiction | (split <;> first | rfl | (simp_all; done)) | simp [mTr, mWh, h1, (i32_d h1), h2, (i32_d h2), txn, h3, h4, bI_t, bI_f, nI_add1, gup_k, eSet_k, eClr_k, hSet_k, hClr_k, qSet_k, qCls_k])
        ·
          refine pw_aload_n n_112_68 rfl rfl ?_
          refine pw_getf (a := 151) n_112_69 fl_7_31 (by decide) (rdR sh_R_writes) rfl ?_
          refine pw_iload_n n_112_72 rfl rfl ?_
          refine pw_zald (a := cM 7) n_112_73 (nI_pos (by omega)) (nI_clamp (by omega)) (rdM (sh_M_writes ((5 * (mB M xn)) + (mG M xn)) (by omega)) (by decide)) rfl ?_
          refine pw_if_eq (q := 96) n_112_74 rfl rfl (fun h5 => ?_) (fun h5 => ?_)
          ·
            refine pw_bipush n_112_96 bc_m10 rfl ?_
            exact pw_ireturn (ty := .int) n_112_98 rfl rfl (by first | (simp [mTr, mWh, h1, (i32_d h1), h2, (i32_d h2), txn, h3, h4, (Classical.not_not.mp h4), h5, bI_t, bI_f, nI_add1, gup_k, eSet_k, eClr_k, hSet_k, hClr_k, qSet_k, qCls_k]; done) | contradiction | (split <;> first | rfl | (simp_all; done)) | simp [mTr, mWh, h1, (i32_d h1), h2, (i32_d h2), txn, h3, h4, (Classical.not_not.mp h4), h5, bI_t, bI_f, nI_add1, gup_k, eSet_k, eClr_k, hSet_k, hClr_k, qSet_k, qCls_k])
          ·
            refine pw_aload_n n_112_77 rfl rfl ?_
            refine pw_getf (a := 151) n_112_78 fl_7_25 (by decide) (rdR sh_R_entryPage) rfl ?_
            refine pw_iload_n n_112_81 rfl rfl ?_
            refine pw_iald (a := cM 5) n_112_82 (nI_pos (by omega)) (nI_clamp (by omega)) (rdM (sh_M_entryPage ((6 * (mF M xn)) + (mRe M xn)) (by omega)) (by decide)) rfl ?_
            refine pw_aload_n n_112_83 rfl rfl ?_
            refine pw_getf (a := 151) n_112_84 fl_7_50 (by decide) (rdR sh_R_ring) rfl ?_
            refine pw_iload_n n_112_87 rfl rfl ?_
            refine pw_iald (a := cM 13) n_112_88 (nI_pos (by omega)) (nI_clamp (by omega)) (rdM (sh_M_ring xn (by omega)) (by decide)) rfl ?_
            refine pw_icmp_ne (q := 96) n_112_89 rfl rfl (fun h6 => ?_) (fun h6 => ?_)
            ·
              refine pw_bipush n_112_96 bc_m10 rfl ?_
              exact pw_ireturn (ty := .int) n_112_98 rfl rfl (by first | (simp [mTr, mWh, h1, (i32_d h1), h2, (i32_d h2), txn, h3, h4, (Classical.not_not.mp h4), h5, h6, bI_t, bI_f, nI_add1, gup_k, eSet_k, eClr_k, hSet_k, hClr_k, qSet_k, qCls_k]; done) | contradiction | (split <;> first | rfl | (simp_all; done)) | simp [mTr, mWh, h1, (i32_d h1), h2, (i32_d h2), txn, h3, h4, (Classical.not_not.mp h4), h5, h6, bI_t, bI_f, nI_add1, gup_k, eSet_k, eClr_k, hSet_k, hClr_k, qSet_k, qCls_k])
            ·
              refine pw_iconst n_112_92 ic_0 rfl ?_
              refine pw_goto (q := 98) n_112_93 rfl ?_
              exact pw_ireturn (ty := .int) n_112_98 rfl rfl (by first | (simp [mTr, mWh, h1, (i32_d h1), h2, (i32_d h2), txn, h3, h4, (Classical.not_not.mp h4), h5, h6, (Classical.not_not.mp h6), bI_t, bI_f, nI_add1, gup_k, eSet_k, eClr_k, hSet_k, hClr_k, qSet_k, qCls_k]; done) | contradiction | (split <;> first | rfl | (simp_all; done)) | simp [mTr, mWh, h1, (i32_d h1), h2, (i32_d h2), txn, h3, h4, (Classical.not_not.mp h4), h5, h6, (Classical.not_not.mp h6), bI_t, bI_f, nI_add1, gup_k, eSet_k, eClr_k, hSet_k, hClr_k, qSet_k, qCls_k])
      ·
        refine pw_bipush n_112_18 bc_m9 rfl ?_
        exact pw_ireturn (ty := .int) n_112_20 rfl rfl (by first | (simp [mTr, mWh, h1, (i32_d h1), h2, (i32_d h2), txn, h3, (Classical.not_not.mp h3), bI_t, bI_f, nI_add1, gup_k, eSet_k, eClr_k, hSet_k, hClr_k, qSet_k, qCls_k]; done) | contradiction | (split <;> first | rfl | (simp_all; done)) | simp [mTr, mWh, h1, (i32_d h1), h2, (i32_d h2), txn, h3, (Classical.not_not.mp h3), bI_t, bI_f, nI_add1, gup_k, eSet_k, eClr_k, hSet_k, hClr_k, qSet_k, qCls_k])
set_option maxRecDepth 100000 in
set_option maxHeartbeats 4000000 in
theorem L_111_28 {X M : gS} {fa : Nat} {ba : Nat}   (d : Nat) {r : pm_R} : ∀ (n i : Nat), i + n = 3 → pw none (d + 2) 111 48 [some (.ref 152), some (.int (nI fa)), some (.int (nI ba)), some (.int (nI (fidx (fun v => decide (M 61 v 0 ≤ 0)) n i))), none, none] [] (gE X M) r → pw none (d + 2) 111 28 [some (.ref 152), some (.int (nI fa)), some (.int (nI ba)), some (.int (nI i)), none, none] [] (gE X M) r := by
  intro n
  induction n with
  | zero =>
    intro i hi hk
    obtain rfl : i = 3 := by omega
    refine pw_iload_n n_111_28 rfl rfl ?_
    refine pw_iconst n_111_29 ic_3 rfl ?_
    refine pw_icmp_ge_t (q := 48) n_111_30 rfl (nI_le (a := 3) (b := 3) (by omega) (by omega)) ?_
    exact hk
  | succ n ih =>
    intro i hi hk
    refine pw_iload_n n_111_28 rfl rfl ?_
    refine pw_iconst n_111_29 ic_3 rfl ?_
    refine pw_icmp_ge_f (q := 48) n_111_30 rfl rfl (nI_ge (a := i) (b := 3) (by omega) (by omega)) ?_
    refine pw_aload_n n_111_33 rfl rfl ?_
    refine pw_getf (a := 151) n_111_34 fl_7_44 (by decide) (rdR sh_R_front) rfl ?_
    refine pw_iload_n n_111_37 rfl rfl ?_
    refine pw_iald (a := cM 11) n_111_38 (nI_pos (by omega)) (nI_clamp (by omega)) (rdM (sh_M_front i (by omega)) (by decide)) rfl ?_
    refine pw_if_le (q := 48) n_111_39 rfl rfl (fun h1 => ?_) (fun h1 => ?_)
    ·
      rw [show fidx (fun v => decide (M 61 v 0 ≤ 0)) (n + 1) i = i from by simp [fidx, h1, (i32_a h1)]] at hk
      exact hk
    ·
      refine pw_iinc (v := nI (i + 1)) (l := [some (.ref 152), some (.int (nI fa)), some (.int (nI ba)), some (.int (nI (i + 1))), none, none]) n_111_42 rfl (nI_inc i) rfl rfl ?_
      refine pw_goto (q := 28) n_111_45 rfl ?_
      rw [show fidx (fun v => decide (M 61 v 0 ≤ 0)) (n + 1) i = fidx (fun v => decide (M 61 v 0 ≤ 0)) n (i + 1) from by simp [fidx, h1, (i32_b h1)]] at hk
      refine ih (i + 1) (by omega) ?_
      exact hk
set_option maxRecDepth 100000 in
set_option maxHeartbeats 4000000 in
theorem L_111_236 {X M : gS} {fa : Nat} {ba : Nat} {v : Nat} (hv : v < 3)  (d : Nat) {r : pm_R} : ∀ (n i : Nat) (Z : gS), i + n = 8 → pw none (d + 2) 111 262 [some (.ref 152), some (.int (nI fa)), some (.int (nI ba)), some (.int (nI v)), some (.int 1), some (.int (nI 8))] [] (gE X (lpS (fun s Z => gup Z 73 (8 * v + s) 0 0) n i Z)) r → pw none (d + 2) 111 236 [some (.ref 152), some (.int (nI fa)), some (.int (nI ba)), some (.int (nI v)), some (.int 1), some (.int (nI i))] [] (gE X Z) r := by
  intro n
  induction n with
  | zero =>
    intro i Z hi hk
    obtain rfl : i = 8 := by omega
    refine pw_iload n_111_236 rfl rfl ?_
    refine pw_bipush n_111_238 bc_8 rfl ?_
    refine pw_icmp_ge_t (q := 262) n_111_240 rfl (nI_le (a := 8) (b := 8) (by omega) (by omega)) ?_
    exact hk
  | succ n ih =>
    intro i Z hi hk
    refine pw_iload n_111_236 rfl rfl ?_
    refine pw_bipush n_111_238 bc_8 rfl ?_
    refine pw_icmp_ge_f (q := 262) n_111_240 rfl rfl (nI_ge (a := i) (b := 8) (by omega) (by omega)) ?_
    refine pw_aload_n n_111_243 rfl rfl ?_
    refine pw_getf (a := 151) n_111_244 fl_7_80 (by decide) (rdR sh_R_disk) rfl ?_
    refine pw_bipush n_111_247 bc_8 rfl ?_
    refine pw_iload_n n_111_249 rfl rfl ?_
    refine pw_imul n_111_250 rfl (pw_top (nJ_mul 8 v) ?_)
    refine pw_iload n_111_251 rfl rfl ?_
    refine pw_iadd n_111_253 rfl (pw_top (nJ_add (8 * v) i) ?_)
    refine pw_iconst n_111_254 ic_0 rfl ?_
    refine pw_iast (a := cM 23) n_111_255 (nI_pos (by omega)) (nI_clamp (by omega)) (wrM (sh_M_disk ((8 * v) + i) (by omega)) (by decide)) rfl ?_
    refine pw_iinc (v := nI (i + 1)) (l := [some (.ref 152), some (.int (nI fa)), some (.int (nI ba)), some (.int (nI v)), some (.int 1), some (.int (nI (i + 1)))]) n_111_256 rfl (nI_inc i) rfl rfl ?_
    refine pw_goto (q := 236) n_111_259 rfl ?_
    have e0 : gup Z 73 (8 * v + i) 0 0 = gup Z 73 ((8 * v) + i) 0 0 := by first | (simp [bI_t, bI_f, nI_add1, gup_k, eSet_k, eClr_k, hSet_k, hClr_k, qSet_k, qCls_k]; done) | contradiction | (split <;> first | rfl | (simp_all; done)) | simp [bI_t, bI_f, nI_add1, gup_k, eSet_k, eClr_k, hSet_k, hClr_k, qSet_k, qCls_k]
    refine ih (i + 1) (gup Z 73 ((8 * v) + i) 0 0) (by omega) ?_
    rw [← e0]
    exact hk
set_option maxRecDepth 100000 in
set_option maxHeartbeats 4000000 in
theorem w_111 {X M : gS} {f : Int32} {b : Int32}  (d : Nat) : pm_Call (d + 3) 111 [.ref 152, .int f, .int b] (gE X M) (some (.int ((mAttach M f b).1)), gE X ((mAttach M f b).2)) := by
  refine pw_start (d := d + 2) (l := [some (.ref 152), some (.int f), some (.int b), none, none, none]) (Nat.le_of_ble_eq_true rfl) rfl ?_
  have hab := mAbs_le M
  refine pw_aload_n n_111_0 rfl rfl ?_
  refine pw_iload_n n_111_1 rfl rfl ?_
  refine pw_virtV (a := 151) (as := [.int f]) (st := []) n_111_2 cl_7_94 ⟨rfl, rfl, rfl⟩ (sum8 rfl) (E_tg sh_R_state) rfl (w_81 (x := f) _) ?_
  refine pw_ifb_eq (q := 16) n_111_5 rfl rfl (fun h1 => ?_) (fun h1 => ?_)
  ·
    refine pw_iconst n_111_16 ic_m1 rfl ?_
    exact pw_ireturn (ty := .int) n_111_17 rfl rfl (by first | (simp [mAttach, mAtt, mA1, mA2, mA3, mA4, mA5, mA6, h1, bI_t, bI_f, nI_add1, gup_k, eSet_k, eClr_k, hSet_k, hClr_k, qSet_k, qCls_k]; done) | contradiction | (split <;> first | rfl | (simp_all; done)) | simp [mAttach, mAtt, mA1, mA2, mA3, mA4, mA5, mA6, h1, bI_t, bI_f, nI_add1, gup_k, eSet_k, eClr_k, hSet_k, hClr_k, qSet_k, qCls_k])
  ·
    obtain ⟨fn, hfn, rfl⟩ := live_nI h1
    have tfn : tN (nI fn) = fn := nI_clamp (by omega)
    refine pw_aload_n n_111_8 rfl rfl ?_
    refine pw_iload_n n_111_9 rfl rfl ?_
    refine pw_virtV (a := 151) (as := [.int b]) (st := []) n_111_10 cl_7_94 ⟨rfl, rfl, rfl⟩ (sum8 rfl) (E_tg sh_R_state) rfl (w_81 (x := b) _) ?_
    refine pw_ifb_ne (q := 18) n_111_13 rfl rfl (fun h2 => ?_) (fun h2 => ?_)
    ·
      obtain ⟨bn, hbn, rfl⟩ := live_nI h2
      have tbn : tN (nI bn) = bn := nI_clamp (by omega)
      refine pw_iload_n n_111_18 rfl rfl ?_
      refine pw_iload_n n_111_19 rfl rfl ?_
      refine pw_icmp_ne (q := 26) n_111_20 rfl rfl (fun h3 => ?_) (fun h3 => ?_)
      ·
        refine pw_iconst n_111_26 ic_0 rfl ?_
        refine pw_istore_n (l := [some (.ref 152), some (.int (nI fn)), some (.int (nI bn)), some (.int 0), none, none]) n_111_27 rfl rfl ?_
        refine L_111_28 (X := X) (M := M) (fa := fn) (ba := bn) _ 3 0 (by omega) ?_
        change pw none _ _ _ [some (.ref 152), some (.int (nI fn)), some (.int (nI bn)), some (.int (nI (mAbs M))), none, none] _ _ _
        refine pw_iload_n n_111_48 rfl rfl ?_
        refine pw_iconst n_111_49 ic_3 rfl ?_
        refine pw_icmp_ge (q := 82) n_111_50 rfl rfl (fun h4 => ?_) (fun h4 => ?_)
        ·
          refine pw_iconst n_111_82 ic_0 rfl ?_
          refine pw_istore (l := [some (.ref 152), some (.int (nI fn)), some (.int (nI bn)), some (.int (nI (mAbs M))), some (.int 0), none]) n_111_83 rfl rfl ?_
          refine pw_iload n_111_85 rfl rfl ?_
          refine pw_if_eq_t (q := 114) n_111_87 rfl (by decide) ?_
          refine pw_bipush n_111_114 bc_m7 rfl ?_
          exact pw_ireturn (ty := .int) n_111_116 rfl rfl (by first | (simp [mAttach, mAtt, mA1, mA2, mA3, mA4, mA5, mA6, h1, tfn, h2, tbn, h3, h4, (i32_a h4), bI_t, bI_f, nI_add1, gup_k, eSet_k, eClr_k, hSet_k, hClr_k, qSet_k, qCls_k]; done) | contradiction | (split <;> first | rfl | (simp_all; done)) | simp [mAttach, mAtt, mA1, mA2, mA3, mA4, mA5, mA6, h1, tfn, h2, tbn, h3, h4, (i32_a h4), bI_t, bI_f, nI_add1, gup_k, eSet_k, eClr_k, hSet_k, hClr_k, qSet_k, qCls_k])
        ·
          have hv3 : mAbs M < 3 := nI_nle3 (k := 3) (by omega) h4
          refine pw_aload_n n_111_53 rfl rfl ?_
          refine pw_iload_n n_111_54 rfl rfl ?_
          refine pw_virtV (a := 151) (as := [.int (nI fn)]) (st := []) n_111_55 cl_7_91 ⟨rfl, rfl, rfl⟩ (sum8 rfl) (E_tg sh_R_state) rfl (w_83 (x := (nI fn)) _) ?_
          refine pw_bipush n_111_58 bc_6 rfl ?_
          refine pw_icmp_ge (q := 82) n_111_60 rfl rfl (fun h5 => ?_) (fun h5 => ?_)
          ·
            refine pw_iconst n_111_82 ic_0 rfl ?_
            refine pw_istore (l := [some (.ref 152), some (.int (nI fn)), some (.int (nI bn)), some (.int (nI (mAbs M))), some (.int 0), none]) n_111_83 rfl rfl ?_
            refine pw_iload n_111_85 rfl rfl ?_
            refine pw_if_eq_t (q := 114) n_111_87 rfl (by decide) ?_
            refine pw_bipush n_111_114 bc_m7 rfl ?_
            exact pw_ireturn (ty := .int) n_111_116 rfl rfl (by first | (simp [mAttach, mAtt, mA1, mA2, mA3, mA4, mA5, mA6, h1, tfn, h2, tbn, h3, h4, (i32_b h4), h5, (i32_a h5), bI_t, bI_f, nI_add1, gup_k, eSet_k, eClr_k, hSet_k, hClr_k, qSet_k, qCls_k]; done) | contradiction | (split <;> first | rfl | (simp_all; done)) | simp [mAttach, mAtt, mA1, mA2, mA3, mA4, mA5, mA6, h1, tfn, h2, tbn, h3, h4, (i32_b h4), h5, (i32_a h5), bI_t, bI_f, nI_add1, gup_k, eSet_k, eClr_k, hSet_k, hClr_k, qSet_k, qCls_k])
          ·
            have h5b := tN_lt (z := (mCnt M (nI fn))) (k := 6) (by decide) h5
            refine pw_aload_n n_111_63 rfl rfl ?_
            refine pw_virtV (a := 151) (as := []) (st := []) n_111_64 cl_7_109 ⟨rfl, rfl, rfl⟩ (sum8 rfl) (E_tg sh_R_state) rfl (w_84  _) ?_
            refine pw_if_lt (q := 82) n_111_67 rfl rfl (fun h6 => ?_) (fun h6 => ?_)
            ·
              refine pw_iconst n_111_82 ic_0 rfl ?_
              refine pw_istore (l := [some (.ref 152), some (.int (nI fn)), some (.int (nI bn)), some (.int (nI (mAbs M))), some (.int 0), none]) n_111_83 rfl rfl ?_
              refine pw_iload n_111_85 rfl rfl ?_
              refine pw_if_eq_t (q := 114) n_111_87 rfl (by decide) ?_
              refine pw_bipush n_111_114 bc_m7 rfl ?_
              exact pw_ireturn (ty := .int) n_111_116 rfl rfl (by first | (simp [mAttach, mAtt, mA1, mA2, mA3, mA4, mA5, mA6, h1, tfn, h2, tbn, h3, h4, (i32_b h4), h5, (i32_b h5), h6, (i32_c h6), bI_t, bI_f, nI_add1, gup_k, eSet_k, eClr_k, hSet_k, hClr_k, qSet_k, qCls_k]; done) | contradiction | (split <;> first | rfl | (simp_all; done)) | simp [mAttach, mAtt, mA1, mA2, mA3, mA4, mA5, mA6, h1, tfn, h2, tbn, h3, h4, (i32_b h4), h5, (i32_b h5), h6, (i32_c h6), bI_t, bI_f, nI_add1, gup_k, eSet_k, eClr_k, hSet_k, hClr_k, qSet_k, qCls_k])
            ·
              obtain ⟨sh6, hsh6, esh6⟩ := ir_mFpg h6
              have tsh6 : tN (nI sh6) = sh6 := nI_clamp (by omega)
              have qsh6 : ¬ nI sh6 < 0 := nI_pos (by omega)
              try rw [esh6]
              refine pw_aload_n n_111_70 rfl rfl ?_
              refine pw_iload_n n_111_71 rfl rfl ?_
              refine pw_virtV (a := 151) (as := [.int (nI fn)]) (st := []) n_111_72 cl_7_113 ⟨rfl, rfl, rfl⟩ (sum8 rfl) (E_tg sh_R_state) rfl (w_85 (a := fn) (by omega) _) ?_
              refine pw_if_lt (q := 82) n_111_75 rfl rfl (fun h7 => ?_) (fun h7 => ?_)
              ·
                refine pw_iconst n_111_82 ic_0 rfl ?_
                refine pw_istore (l := [some (.ref 152), some (.int (nI fn)), some (.int (nI bn)), some (.int (nI (mAbs M))), some (.int 0), none]) n_111_83 rfl rfl ?_
                refine pw_iload n_111_85 rfl rfl ?_
                refine pw_if_eq_t (q := 114) n_111_87 rfl (by decide) ?_
                refine pw_bipush n_111_114 bc_m7 rfl ?_
                exact pw_ireturn (ty := .int) n_111_116 rfl rfl (by first | (simp [mAttach, mAtt, mA1, mA2, mA3, mA4, mA5, mA6, h1, tfn, h2, tbn, h3, h4, (i32_b h4), h5, (i32_b h5), h6, (i32_d h6), esh6, tsh6, qsh6, (i32_d qsh6), h7, (i32_c h7), bI_t, bI_f, nI_add1, gup_k, eSet_k, eClr_k, hSet_k, hClr_k, qSet_k, qCls_k]; done) | contradiction | (split <;> first | rfl | (simp_all; done)) | simp [mAttach, mAtt, mA1, mA2, mA3, mA4, mA5, mA6, h1, tfn, h2, tbn, h3, h4, (i32_b h4), h5, (i32_b h5), h6, (i32_d h6), esh6, tsh6, qsh6, (i32_d qsh6), h7, (i32_c h7), bI_t, bI_f, nI_add1, gup_k, eSet_k, eClr_k, hSet_k, hClr_k, qSet_k, qCls_k])
              ·
                obtain ⟨sh7, hsh7, esh7⟩ := ir_mFe h7
                have tsh7 : tN (nI sh7) = sh7 := nI_clamp (by omega)
                have qsh7 : ¬ nI sh7 < 0 := nI_pos (by omega)
                try rw [esh7]
                refine pw_iconst n_111_78 ic_1 rfl ?_
                refine pw_goto (q := 83) n_111_79 rfl ?_
                refine pw_istore (l := [some (.ref 152), some (.int (nI fn)), some (.int (nI bn)), some (.int (nI (mAbs M))), some (.int 1), none]) n_111_83 rfl rfl ?_
                refine pw_iload n_111_85 rfl rfl ?_
                refine pw_if_eq_f (q := 114) n_111_87 rfl rfl (by decide) ?_
                refine pw_aload_n n_111_90 rfl rfl ?_
                refine pw_iload_n n_111_91 rfl rfl ?_
                refine pw_virtV (a := 151) (as := [.int (nI bn)]) (st := []) n_111_92 cl_7_120 ⟨rfl, rfl, rfl⟩ (sum8 rfl) (E_tg sh_R_state) rfl (w_86 (a := bn) (by omega) _) ?_
                refine pw_if_lt (q := 114) n_111_95 rfl rfl (fun h8 => ?_) (fun h8 => ?_)
                ·
                  refine pw_bipush n_111_114 bc_m7 rfl ?_
                  exact pw_ireturn (ty := .int) n_111_116 rfl rfl (by first | (simp [mAttach, mAtt, mA1, mA2, mA3, mA4, mA5, mA6, h1, tfn, h2, tbn, h3, h4, (i32_b h4), h5, (i32_b h5), h6, (i32_d h6), esh6, tsh6, qsh6, (i32_d qsh6), h7, (i32_d h7), esh7, tsh7, qsh7, (i32_d qsh7), h8, (i32_c h8), bI_t, bI_f, nI_add1, gup_k, eSet_k, eClr_k, hSet_k, hClr_k, qSet_k, qCls_k]; done) | contradiction | (split <;> first | rfl | (simp_all; done)) | simp [mAttach, mAtt, mA1, mA2, mA3, mA4, mA5, mA6, h1, tfn, h2, tbn, h3, h4, (i32_b h4), h5, (i32_b h5), h6, (i32_d h6), esh6, tsh6, qsh6, (i32_d qsh6), h7, (i32_d h7), esh7, tsh7, qsh7, (i32_d qsh7), h8, (i32_c h8), bI_t, bI_f, nI_add1, gup_k, eSet_k, eClr_k, hSet_k, hClr_k, qSet_k, qCls_k])
                ·
                  obtain ⟨sh8, hsh8, esh8⟩ := ir_mFh h8
                  have tsh8 : tN (nI sh8) = sh8 := nI_clamp (by omega)
                  have qsh8 : ¬ nI sh8 < 0 := nI_pos (by omega)
                  try rw [esh8]
                  refine pw_aload_n n_111_98 rfl rfl ?_
                  refine pw_iload_n n_111_99 rfl rfl ?_
                  refine pw_virtV (a := 151) (as := [.int (nI fn)]) (st := []) n_111_100 cl_7_136 ⟨rfl, rfl, rfl⟩ (sum8 rfl) (E_tg sh_R_state) rfl (w_87 (a := fn) (by omega) _) ?_
                  refine pw_if_lt (q := 114) n_111_103 rfl rfl (fun h9 => ?_) (fun h9 => ?_)
                  ·
                    refine pw_bipush n_111_114 bc_m7 rfl ?_
                    exact pw_ireturn (ty := .int) n_111_116 rfl rfl (by first | (simp [mAttach, mAtt, mA1, mA2, mA3, mA4, mA5, mA6, h1, tfn, h2, tbn, h3, h4, (i32_b h4), h5, (i32_b h5), h6, (i32_d h6), esh6, tsh6, qsh6, (i32_d qsh6), h7, (i32_d h7), esh7, tsh7, qsh7, (i32_d qsh7), h8, (i32_d h8), esh8, tsh8, qsh8, (i32_d qsh8), h9, (i32_c h9), bI_t, bI_f, nI_add1, gup_k, eSet_k, eClr_k, hSet_k, hClr_k, qSet_k, qCls_k]; done) | contradiction | (split <;> first | rfl | (simp_all; done)) | simp [mAttach, mAtt, mA1, mA2, mA3, mA4, mA5, mA6, h1, tfn, h2, tbn, h3, h4, (i32_b h4), h5, (i32_b h5), h6, (i32_d h6), esh6, tsh6, qsh6, (i32_d qsh6), h7, (i32_d h7), esh7, tsh7, qsh7, (i32_d qsh7), h8, (i32_d h8), esh8, tsh8, qsh8, (i32_d qsh8), h9, (i32_c h9), bI_t, bI_f, nI_add1, gup_k, eSet_k, eClr_k, hSet_k, hClr_k, qSet_k, qCls_k])
                  ·
                    obtain ⟨sh9, hsh9, esh9⟩ := ir_mFq h9
                    have tsh9 : tN (nI sh9) = sh9 := nI_clamp (by omega)
                    have qsh9 : ¬ nI sh9 < 0 := nI_pos (by omega)
                    try rw [esh9]
                    refine pw_aload_n n_111_106 rfl rfl ?_
                    refine pw_iload_n n_111_107 rfl rfl ?_
                    refine pw_virtV (a := 151) (as := [.int (nI bn)]) (st := []) n_111_108 cl_7_136 ⟨rfl, rfl, rfl⟩ (sum8 rfl) (E_tg sh_R_state) rfl (w_87 (a := bn) (by omega) _) ?_
                    refine pw_if_ge (q := 117) n_111_111 rfl rfl (fun h10 => ?_) (fun h10 => ?_)
                    ·
                      obtain ⟨sh10, hsh10, esh10⟩ := ir_mFq (ge0 h10)
                      have tsh10 : tN (nI sh10) = sh10 := nI_clamp (by omega)
                      have qsh10 : ¬ nI sh10 < 0 := nI_pos (by omega)
                      try rw [esh10]
                      refine pw_aload_n n_111_117 rfl rfl ?_
                      refine pw_getf (a := 151) n_111_118 fl_7_44 (by decide) (rdR sh_R_front) rfl ?_
                      refine pw_iload_n n_111_121 rfl rfl ?_
                      refine pw_iload_n n_111_122 rfl rfl ?_
                      refine pw_iconst n_111_123 ic_1 rfl ?_
                      refine pw_iadd n_111_124 rfl (pw_top (nJ_add fn 1) ?_)
                      refine pw_iast (a := cM 11) n_111_125 (nI_pos (by omega)) (nI_clamp (by omega)) (wrM (sh_M_front (mAbs M) (by omega)) (by decide)) rfl ?_
                      refine pw_aload_n n_111_126 rfl rfl ?_
                      refine pw_getf (a := 151) n_111_127 fl_7_47 (by decide) (rdR sh_R_back) rfl ?_
                      refine pw_iload_n n_111_130 rfl rfl ?_
                      refine pw_iload_n n_111_131 rfl rfl ?_
                      refine pw_iast (a := cM 12) n_111_132 (nI_pos (by omega)) (nI_clamp (by omega)) (wrM (sh_M_back (mAbs M) (by omega)) (by decide)) rfl ?_
                      refine pw_aload_n n_111_133 rfl rfl ?_
                      refine pw_getf (a := 151) n_111_134 fl_7_50 (by decide) (rdR sh_R_ring) rfl ?_
                      refine pw_iload_n n_111_137 rfl rfl ?_
                      refine pw_aload_n n_111_138 rfl rfl ?_
                      refine pw_iload_n n_111_139 rfl rfl ?_
                      refine pw_virtV (a := 151) (as := [.int (nI fn)]) (st := [.int (nI (mAbs M)), .ref (cM 13 + 1)]) n_111_140 cl_7_139 ⟨rfl, rfl, rfl⟩ (sum8 rfl) (E_tg sh_R_state) rfl (w_94 (x := (nI fn)) _) ?_
                      generalize gA1 : mAlloc (gup (gup M 61 (mAbs M) 0 (nI (fn + 1))) 62 (mAbs M) 0 (nI bn)) (nI fn) = A1
                      refine pw_iast (a := cM 13) n_111_143 (nI_pos (by omega)) (nI_clamp (by omega)) (wrM (sh_M_ring (mAbs M) (by omega)) (by decide)) rfl ?_
                      refine pw_aload_n n_111_144 rfl rfl ?_
                      refine pw_getf (a := 151) n_111_145 fl_7_53 (by decide) (rdR sh_R_ringEntry) rfl ?_
                      refine pw_iload_n n_111_148 rfl rfl ?_
                      refine pw_aload_n n_111_149 rfl rfl ?_
                      refine pw_iload_n n_111_150 rfl rfl ?_
                      refine pw_iload_n n_111_151 rfl rfl ?_
                      refine pw_aload_n n_111_152 rfl rfl ?_
                      refine pw_getf (a := 151) n_111_153 fl_7_50 (by decide) (rdR sh_R_ring) rfl ?_
                      refine pw_iload_n n_111_156 rfl rfl ?_
                      refine pw_iald (a := cM 13) n_111_157 (nI_pos (by omega)) (nI_clamp (by omega)) (rdM (sh_M_ring (mAbs M) (by omega)) (by decide)) rfl ?_
                      refine pw_top (y := A1.1) (by simp [xCo_k, gup_k, gup_s, vBeg_k, eSet_k, eClr_k, hSet_k, hClr_k, qSet_k, qCls_k, xAlloc_k, xGrant_k, xMap_k, xOpen_k, xBind_k, xSend_k, xStore_k, xEnd_k, xFree_k, xUnmap_k, mAlloc_k, mGrant_k, mMap_k, mOpen_k, mBind_k, mSend_k, mEnd_k, mFree_k, mTk_k]) ?_
                      refine pw_iconst n_111_158 ic_1 rfl ?_
                      refine pw_virtV (a := 151) (as := [.int (nI fn), .int (nI bn), .int A1.1, .int 1]) (st := [.int (nI (mAbs M)), .ref (cM 14 + 1)]) n_111_159 cl_7_142 ⟨rfl, rfl, rfl⟩ (sum8 rfl) (E_tg sh_R_state) rfl (w_96 (x := (nI fn)) (t := (nI bn)) (p := A1.1) (k := 1) _) ?_
                      generalize gA2 : mGrant (gup A1.2 63 (mAbs M) 0 A1.1) (nI fn) (nI bn) A1.1 1 = A2
                      refine pw_iast (a := cM 14) n_111_162 (nI_pos (by omega)) (nI_clamp (by omega)) (wrM (sh_M_ringEntry (mAbs M) (by omega)) (by decide)) rfl ?_
                      refine pw_aload_n n_111_163 rfl rfl ?_
                      refine pw_getf (a := 151) n_111_164 fl_7_56 (by decide) (rdR sh_R_ringHandle) rfl ?_
                      refine pw_iload_n n_111_167 rfl rfl ?_
                      refine pw_aload_n n_111_168 rfl rfl ?_
                      refine pw_iload_n n_111_169 rfl rfl ?_
                      refine pw_iload_n n_111_170 rfl rfl ?_
                      refine pw_aload_n n_111_171 rfl rfl ?_
                      refine pw_getf (a := 151) n_111_172 fl_7_53 (by decide) (rdR sh_R_ringEntry) rfl ?_
                      refine pw_iload_n n_111_175 rfl rfl ?_
                      refine pw_iald (a := cM 14) n_111_176 (nI_pos (by omega)) (nI_clamp (by omega)) (rdM (sh_M_ringEntry (mAbs M) (by omega)) (by decide)) rfl ?_
                      refine pw_top (y := A2.1) (by simp [xCo_k, gup_k, gup_s, vBeg_k, eSet_k, eClr_k, hSet_k, hClr_k, qSet_k, qCls_k, xAlloc_k, xGrant_k, xMap_k, xOpen_k, xBind_k, xSend_k, xStore_k, xEnd_k, xFree_k, xUnmap_k, mAlloc_k, mGrant_k, mMap_k, mOpen_k, mBind_k, mSend_k, mEnd_k, mFree_k, mTk_k]) ?_
                      refine pw_iconst n_111_177 ic_1 rfl ?_
                      refine pw_virtV (a := 151) (as := [.int (nI bn), .int (nI fn), .int A2.1, .int 1]) (st := [.int (nI (mAbs M)), .ref (cM 15 + 1)]) n_111_178 cl_7_146 ⟨rfl, rfl, rfl⟩ (sum8 rfl) (E_tg sh_R_state) rfl (w_99 (x := (nI bn)) (f := (nI fn)) (r := A2.1) (w := true) _) ?_
                      generalize gA3 : mMap (gup A2.2 64 (mAbs M) 0 A2.1) (nI bn) (nI fn) A2.1 true = A3
                      refine pw_iast (a := cM 15) n_111_181 (nI_pos (by omega)) (nI_clamp (by omega)) (wrM (sh_M_ringHandle (mAbs M) (by omega)) (by decide)) rfl ?_
                      refine pw_aload_n n_111_182 rfl rfl ?_
                      refine pw_getf (a := 151) n_111_183 fl_7_59 (by decide) (rdR sh_R_frontPort) rfl ?_
                      refine pw_iload_n n_111_186 rfl rfl ?_
                      refine pw_aload_n n_111_187 rfl rfl ?_
                      refine pw_iload_n n_111_188 rfl rfl ?_
                      refine pw_iload_n n_111_189 rfl rfl ?_
                      refine pw_virtV (a := 151) (as := [.int (nI fn), .int (nI bn)]) (st := [.int (nI (mAbs M)), .ref (cM 16 + 1)]) n_111_190 cl_7_149 ⟨rfl, rfl, rfl⟩ (sum8 rfl) (E_tg sh_R_state) rfl (w_107 (x := (nI fn)) (t := (nI bn)) _) ?_
                      generalize gA4 : mOpen (gup A3.2 65 (mAbs M) 0 A3.1) (nI fn) (nI bn) = A4
                      refine pw_iast (a := cM 16) n_111_193 (nI_pos (by omega)) (nI_clamp (by omega)) (wrM (sh_M_frontPort (mAbs M) (by omega)) (by decide)) rfl ?_
                      refine pw_aload_n n_111_194 rfl rfl ?_
                      refine pw_getf (a := 151) n_111_195 fl_7_62 (by decide) (rdR sh_R_backPort) rfl ?_
                      refine pw_iload_n n_111_198 rfl rfl ?_
                      refine pw_aload_n n_111_199 rfl rfl ?_
                      refine pw_iload_n n_111_200 rfl rfl ?_
                      refine pw_iload_n n_111_201 rfl rfl ?_
                      refine pw_aload_n n_111_202 rfl rfl ?_
                      refine pw_getf (a := 151) n_111_203 fl_7_59 (by decide) (rdR sh_R_frontPort) rfl ?_
                      refine pw_iload_n n_111_206 rfl rfl ?_
                      refine pw_iald (a := cM 16) n_111_207 (nI_pos (by omega)) (nI_clamp (by omega)) (rdM (sh_M_frontPort (mAbs M) (by omega)) (by decide)) rfl ?_
                      refine pw_top (y := A4.1) (by simp [xCo_k, gup_k, gup_s, vBeg_k, eSet_k, eClr_k, hSet_k, hClr_k, qSet_k, qCls_k, xAlloc_k, xGrant_k, xMap_k, xOpen_k, xBind_k, xSend_k, xStore_k, xEnd_k, xFree_k, xUnmap_k, mAlloc_k, mGrant_k, mMap_k, mOpen_k, mBind_k, mSend_k, mEnd_k, mFree_k, mTk_k]) ?_
                      refine pw_virtV (a := 151) (as := [.int (nI bn), .int (nI fn), .int A4.1]) (st := [.int (nI (mAbs M)), .ref (cM 17 + 1)]) n_111_208 cl_7_152 ⟨rfl, rfl, rfl⟩ (sum8 rfl) (E_tg sh_R_state) rfl (w_108 (x := (nI bn)) (t := (nI fn)) (k := A4.1) _) ?_
                      generalize gA5 : mBind (gup A4.2 66 (mAbs M) 0 A4.1) (nI bn) (nI fn) A4.1 = A5
                      refine pw_iast (a := cM 17) n_111_211 (nI_pos (by omega)) (nI_clamp (by omega)) (wrM (sh_M_backPort (mAbs M) (by omega)) (by decide)) rfl ?_
                      refine pw_aload_n n_111_212 rfl rfl ?_
                      refine pw_getf (a := 151) n_111_213 fl_7_65 (by decide) (rdR sh_R_posted) rfl ?_
                      refine pw_iload_n n_111_216 rfl rfl ?_
                      refine pw_iconst n_111_217 ic_0 rfl ?_
                      refine pw_iast (a := cM 18) n_111_218 (nI_pos (by omega)) (nI_clamp (by omega)) (wrM (sh_M_posted (mAbs M) (by omega)) (by decide)) rfl ?_
                      refine pw_aload_n n_111_219 rfl rfl ?_
                      refine pw_getf (a := 151) n_111_220 fl_7_68 (by decide) (rdR sh_R_reaped) rfl ?_
                      refine pw_iload_n n_111_223 rfl rfl ?_
                      refine pw_iconst n_111_224 ic_0 rfl ?_
                      refine pw_iast (a := cM 19) n_111_225 (nI_pos (by omega)) (nI_clamp (by omega)) (wrM (sh_M_reaped (mAbs M) (by omega)) (by decide)) rfl ?_
                      refine pw_aload_n n_111_226 rfl rfl ?_
                      refine pw_getf (a := 151) n_111_227 fl_7_71 (by decide) (rdR sh_R_taken) rfl ?_
                      refine pw_iload_n n_111_230 rfl rfl ?_
                      refine pw_iconst n_111_231 ic_0 rfl ?_
                      refine pw_iast (a := cM 20) n_111_232 (nI_pos (by omega)) (nI_clamp (by omega)) (wrM (sh_M_taken (mAbs M) (by omega)) (by decide)) rfl ?_
                      refine pw_iconst n_111_233 ic_0 rfl ?_
                      refine pw_istore (l := [some (.ref 152), some (.int (nI fn)), some (.int (nI bn)), some (.int (nI (mAbs M))), some (.int 1), some (.int 0)]) n_111_234 rfl rfl ?_
                      refine L_111_236 (X := X) (M := M) (fa := fn) (ba := bn) (v := (mAbs M)) (by omega) _ 8 0 (gup (gup (gup (gup A5.2 67 (mAbs M) 0 A5.1) 68 (mAbs M) 0 0) 69 (mAbs M) 0 0) 70 (mAbs M) 0 0) (by omega) ?_
                      refine pw_iload_n n_111_262 rfl rfl ?_
                      exact pw_ireturn (ty := .int) n_111_263 rfl rfl (by first | (simp [mAttach, mAtt, mA1, mA2, mA3, mA4, mA5, mA6, h1, tfn, h2, tbn, h3, h4, (i32_b h4), h5, (i32_b h5), h6, (i32_d h6), esh6, tsh6, qsh6, (i32_d qsh6), h7, (i32_d h7), esh7, tsh7, qsh7, (i32_d qsh7), h8, (i32_d h8), esh8, tsh8, qsh8, (i32_d qsh8), h9, (i32_d h9), esh9, tsh9, qsh9, (i32_d qsh9), h10, (i32_a h10), esh10, tsh10, qsh10, (i32_d qsh10), gA1, gA2, gA3, gA4, gA5, bI_t, bI_f, nI_add1, gup_k, eSet_k, eClr_k, hSet_k, hClr_k, qSet_k, qCls_k]; done) | contradiction | (split <;> first | rfl | (simp_all; done)) | simp [mAttach, mAtt, mA1, mA2, mA3, mA4, mA5, mA6, h1, tfn, h2, tbn, h3, h4, (i32_b h4), h5, (i32_b h5), h6, (i32_d h6), esh6, tsh6, qsh6, (i32_d qsh6), h7, (i32_d h7), esh7, tsh7, qsh7, (i32_d qsh7), h8, (i32_d h8), esh8, tsh8, qsh8, (i32_d qsh8), h9, (i32_d h9), esh9, tsh9, qsh9, (i32_d qsh9), h10, (i32_a h10), esh10, tsh10, qsh10, (i32_d qsh10), gA1, gA2, gA3, gA4, gA5, bI_t, bI_f, nI_add1, gup_k, eSet_k, eClr_k, hSet_k, hClr_k, qSet_k, qCls_k])
                    ·
                      refine pw_bipush n_111_114 bc_m7 rfl ?_
                      exact pw_ireturn (ty := .int) n_111_116 rfl rfl (by first | (simp [mAttach, mAtt, mA1, mA2, mA3, mA4, mA5, mA6, h1, tfn, h2, tbn, h3, h4, (i32_b h4), h5, (i32_b h5), h6, (i32_d h6), esh6, tsh6, qsh6, (i32_d qsh6), h7, (i32_d h7), esh7, tsh7, qsh7, (i32_d qsh7), h8, (i32_d h8), esh8, tsh8, qsh8, (i32_d qsh8), h9, (i32_d h9), esh9, tsh9, qsh9, (i32_d qsh9), h10, (i32_b h10), bI_t, bI_f, nI_add1, gup_k, eSet_k, eClr_k, hSet_k, hClr_k, qSet_k, qCls_k]; done) | contradiction | (split <;> first | rfl | (simp_all; done)) | simp [mAttach, mAtt, mA1, mA2, mA3, mA4, mA5, mA6, h1, tfn, h2, tbn, h3, h4, (i32_b h4), h5, (i32_b h5), h6, (i32_d h6), esh6, tsh6, qsh6, (i32_d qsh6), h7, (i32_d h7), esh7, tsh7, qsh7, (i32_d qsh7), h8, (i32_d h8), esh8, tsh8, qsh8, (i32_d qsh8), h9, (i32_d h9), esh9, tsh9, qsh9, (i32_d qsh9), h10, (i32_b h10), bI_t, bI_f, nI_add1, gup_k, eSet_k, eClr_k, hSet_k, hClr_k, qSet_k, qCls_k])
      ·
        refine pw_bipush n_111_23 bc_m2 rfl ?_
        exact pw_ireturn (ty := .int) n_111_25 rfl rfl (by first | (simp [mAttach, mAtt, mA1, mA2, mA3, mA4, mA5, mA6, h1, tfn, h2, tbn, h3, (Classical.not_not.mp h3), bI_t, bI_f, nI_add1, gup_k, eSet_k, eClr_k, hSet_k, hClr_k, qSet_k, qCls_k]; done) | contradiction | (split <;> first | rfl | (simp_all; done)) | simp [mAttach, mAtt, mA1, mA2, mA3, mA4, mA5, mA6, h1, tfn, h2, tbn, h3, (Classical.not_not.mp h3), bI_t, bI_f, nI_add1, gup_k, eSet_k, eClr_k, hSet_k, hClr_k, qSet_k, qCls_k])
    ·
      refine pw_iconst n_111_16 ic_m1 rfl ?_
      exact pw_ireturn (ty := .int) n_111_17 rfl rfl (by first | (simp [mAttach, mAtt, mA1, mA2, mA3, mA4, mA5, mA6, h1, tfn, h2, bI_t, bI_f, nI_add1, gup_k, eSet_k, eClr_k, hSet_k, hClr_k, qSet_k, qCls_k]; done) | contradiction | (split <;> first | rfl | (simp_all; done)) | simp [mAttach, mAtt, mA1, mA2, mA3, mA4, mA5, mA6, h1, tfn, h2, bI_t, bI_f, nI_add1, gup_k, eSet_k, eClr_k, hSet_k, hClr_k, qSet_k, qCls_k])
