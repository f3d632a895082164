set_option maxRecDepth 100000 in
set_option maxHeartbeats 4000000 in
theorem w_48 {X M : gS} {v : Nat} (hv : v < 3) (b0 : ¬ X 16 v 0 < 0) (b1 : tN (X 16 v 0) < 5) (g0 : ¬ X 19 v 0 < 0) (g1 : tN (X 19 v 0) < 5) (wf : X 7 (tN (X 16 v 0)) (tN (X 19 v 0)) = X 15 v 0 → X 8 (tN (X 16 v 0)) (tN (X 19 v 0)) = X 18 v 0 → ¬ X 7 (tN (X 16 v 0)) (tN (X 19 v 0)) < 0 ∧ tN (X 7 (tN (X 16 v 0)) (tN (X 19 v 0))) < 5 ∧ ¬ X 8 (tN (X 16 v 0)) (tN (X 19 v 0)) < 0 ∧ tN (X 8 (tN (X 16 v 0)) (tN (X 19 v 0))) < 6) (d : Nat) : pm_Call (d + 3) 48 [.ref 1, .ref (cV v + 1)] (gE X M) (some (.int (bI (xWhole X v))), gE X M) := by
  refine pw_start (d := d + 2) (l := [some (.ref 1), some (.ref (cV v + 1)), none]) (Nat.le_of_ble_eq_true rfl) rfl ?_
  refine pw_aload_n n_48_0 rfl rfl ?_
  refine pw_getf (a := 0) n_48_1 fl_0_11 (by decide) (rdR (sh_G_domains)) rfl ?_
  refine pw_aload_n n_48_4 rfl rfl ?_
  refine pw_getf (a := cV v) n_48_5 fl_0_233 (by decide) (rdX (sh_V_back v (by omega)) (by decide)) rfl ?_
  refine pw_aald (a := 1) (t := 102) (u := 1) n_48_8 (by assumption) rfl (by decide) rfl (rdR (sh_DA (tN (X 16 v 0)) (by omega))) rfl ?_
  refine pw_getf (a := cD (tN (X 16 v 0))) n_48_9 fl_0_110 (by decide) (rdR (sh_D_handles (tN (X 16 v 0)) (by omega))) rfl ?_
  refine pw_aload_n n_48_12 rfl rfl ?_
  refine pw_getf (a := cV v) n_48_13 fl_0_201 (by decide) (rdX (sh_V_ringHandle v (by omega)) (by decide)) rfl ?_
  refine pw_aald (a := cD (tN (X 16 v 0)) + 2) (t := 106) (u := 5) n_48_16 (by assumption) rfl (by decide) rfl (rdR (sh_HA (tN (X 16 v 0)) (by omega) (tN (X 19 v 0)) (by omega))) rfl ?_
  refine pw_astore_n (l := [some (.ref 1), some (.ref (cV v + 1)), some (.ref (cH (tN (X 16 v 0)) (tN (X 19 v 0)) + 1))]) n_48_17 rfl rfl ?_
  refine pw_aload_n n_48_18 rfl rfl ?_
  refine pw_getf (a := cH (tN (X 16 v 0)) (tN (X 19 v 0))) n_48_19 fl_0_311 (by decide) (rdX (sh_H_from (tN (X 16 v 0)) (by omega) (tN (X 19 v 0)) (by omega)) (by decide)) rfl ?_
  refine pw_aload_n n_48_22 rfl rfl ?_
  refine pw_getf (a := cV v) n_48_23 fl_0_224 (by decide) (rdX (sh_V_front v (by omega)) (by decide)) rfl ?_
  refine pw_icmp_ne (q := 63) n_48_26 rfl rfl (fun h1 => ?_) (fun h1 => ?_)
  ·
    refine pw_iconst n_48_63 ic_0 rfl ?_
    exact pw_ireturn (ty := .boolean) n_48_64 rfl rfl (by first | (simp [xWhole, h1, bI_t, bI_f, nI_add1, gup_k, eSet_k, eClr_k, hSet_k, hClr_k, qSet_k, qCls_k]; done) | contradiction | (split <;> first | rfl | (simp_all; done)) | simp [xWhole, h1, bI_t, bI_f, nI_add1, gup_k, eSet_k, eClr_k, hSet_k, hClr_k, qSet_k, qCls_k])
  ·
    refine pw_aload_n n_48_29 rfl rfl ?_
    refine pw_getf (a := cH (tN (X 16 v 0)) (tN (X 19 v 0))) n_48_30 fl_0_314 (by decide) (rdX (sh_H_ref (tN (X 16 v 0)) (by omega) (tN (X 19 v 0)) (by omega)) (by decide)) rfl ?_
    refine pw_aload_n n_48_33 rfl rfl ?_
    refine pw_getf (a := cV v) n_48_34 fl_0_195 (by decide) (rdX (sh_V_ringEntry v (by omega)) (by decide)) rfl ?_
    refine pw_icmp_ne (q := 63) n_48_37 rfl rfl (fun h2 => ?_) (fun h2 => ?_)
    ·
      refine pw_iconst n_48_63 ic_0 rfl ?_
      exact pw_ireturn (ty := .boolean) n_48_64 rfl rfl (by first | (simp [xWhole, h1, (Classical.not_not.mp h1), h2, bI_t, bI_f, nI_add1, gup_k, eSet_k, eClr_k, hSet_k, hClr_k, qSet_k, qCls_k]; done) | contradiction | (split <;> first | rfl | (simp_all; done)) | simp [xWhole, h1, (Classical.not_not.mp h1), h2, bI_t, bI_f, nI_add1, gup_k, eSet_k, eClr_k, hSet_k, hClr_k, qSet_k, qCls_k])
    ·
      obtain ⟨f0, f1, e0, e1⟩ := wf (Classical.not_not.mp h1) (Classical.not_not.mp h2)
      refine pw_aload_n n_48_40 rfl rfl ?_
      refine pw_getf (a := cH (tN (X 16 v 0)) (tN (X 19 v 0))) n_48_41 fl_0_308 (by decide) (rdX (sh_H_writing (tN (X 16 v 0)) (by omega) (tN (X 19 v 0)) (by omega)) (by decide)) rfl ?_
      refine pw_if_eq (q := 63) n_48_44 rfl rfl (fun h3 => ?_) (fun h3 => ?_)
      ·
        refine pw_iconst n_48_63 ic_0 rfl ?_
        exact pw_ireturn (ty := .boolean) n_48_64 rfl rfl (by first | (simp [xWhole, h1, (Classical.not_not.mp h1), h2, (Classical.not_not.mp h2), h3, bI_t, bI_f, nI_add1, gup_k, eSet_k, eClr_k, hSet_k, hClr_k, qSet_k, qCls_k]; done) | contradiction | (split <;> first | rfl | (simp_all; done)) | simp [xWhole, h1, (Classical.not_not.mp h1), h2, (Classical.not_not.mp h2), h3, bI_t, bI_f, nI_add1, gup_k, eSet_k, eClr_k, hSet_k, hClr_k, qSet_k, qCls_k])
      ·
        refine pw_aload_n n_48_47 rfl rfl ?_
        refine pw_aload_n n_48_48 rfl rfl ?_
        refine pw_virtV (a := 0) (as := [.ref (cH (tN (X 16 v 0)) (tN (X 19 v 0)) + 1)]) (st := []) n_48_49 cl_0_285 ⟨rfl, rfl, rfl⟩ (sum8 rfl) (E_tg sh_G_domains) rfl (w_34 (a := (tN (X 16 v 0))) (h := (tN (X 19 v 0))) (by omega) (by omega) (by assumption) (by assumption) (by assumption) (by assumption) _) ?_
        refine pw_aload_n n_48_52 rfl rfl ?_
        refine pw_getf (a := cV v) n_48_53 fl_0_188 (by decide) (rdX (sh_V_ringPage v (by omega)) (by decide)) rfl ?_
        refine pw_icmp_ne (q := 63) n_48_56 rfl rfl (fun h4 => ?_) (fun h4 => ?_)
        ·
          refine pw_iconst n_48_63 ic_0 rfl ?_
          exact pw_ireturn (ty := .boolean) n_48_64 rfl rfl (by first | (simp [xWhole, h1, (Classical.not_not.mp h1), h2, (Classical.not_not.mp h2), h3, h4, bI_t, bI_f, nI_add1, gup_k, eSet_k, eClr_k, hSet_k, hClr_k, qSet_k, qCls_k]; done) | contradiction | (split <;> first | rfl | (simp_all; done)) | simp [xWhole, h1, (Classical.not_not.mp h1), h2, (Classical.not_not.mp h2), h3, h4, bI_t, bI_f, nI_add1, gup_k, eSet_k, eClr_k, hSet_k, hClr_k, qSet_k, qCls_k])
        ·
          refine pw_iconst n_48_59 ic_1 rfl ?_
          refine pw_goto (q := 64) n_48_60 rfl ?_
          exact pw_ireturn (ty := .boolean) n_48_64 rfl rfl (by first | (simp [xWhole, h1, (Classical.not_not.mp h1), h2, (Classical.not_not.mp h2), h3, h4, (Classical.not_not.mp h4), bI_t, bI_f, nI_add1, gup_k, eSet_k, eClr_k, hSet_k, hClr_k, qSet_k, qCls_k]; done) | contradiction | (split <;> first | rfl | (simp_all; done)) | simp [xWhole, h1, (Classical.not_not.mp h1), h2, (Classical.not_not.mp h2), h3, h4, (Classical.not_not.mp h4), bI_t, bI_f, nI_add1, gup_k, eSet_k, eClr_k, hSet_k, hClr_k, qSet_k, qCls_k])
set_option maxRecDepth 100000 in
set_option maxHeartbeats 4000000 in
theorem w_47 {X M : gS} {v : Int32} (dv : xPres X v = true → dvF X (tN v)) (d : Nat) : pm_Call (d + 4) 47 [.ref 1, .int v] (gE X M) (some (.int (xDc X v)), gE X M) := by
  refine pw_start (d := d + 3) (l := [some (.ref 1), some (.int v)]) (Nat.le_of_ble_eq_true rfl) rfl ?_
  refine pw_aload_n n_47_0 rfl rfl ?_
  refine pw_iload_n n_47_1 rfl rfl ?_
  refine pw_virtV (a := 0) (as := [.int v]) (st := []) n_47_2 cl_0_289 ⟨rfl, rfl, rfl⟩ (sum8 rfl) (E_tg sh_G_domains) rfl (w_26 (v := v) _) ?_
  refine pw_ifb_ne (q := 11) n_47_5 rfl rfl (fun h1 => ?_) (fun h1 => ?_)
  ·
    obtain ⟨h1a, h1b⟩ := ir_pres h1
    obtain ⟨b0, b1, g0, g1, wf⟩ := dv h1
    refine pw_aload_n n_47_11 rfl rfl ?_
    refine pw_aload_n n_47_12 rfl rfl ?_
    refine pw_getf (a := 0) n_47_13 fl_0_23 (by decide) (rdR (sh_G_devices)) rfl ?_
    refine pw_iload_n n_47_16 rfl rfl ?_
    refine pw_aald (a := 3) (t := 104) (u := 3) n_47_17 (by assumption) rfl (by decide) rfl (rdR (sh_VA (tN v) (by omega))) rfl ?_
    refine pw_virtV (a := 0) (as := [.ref (cV (tN v) + 1)]) (st := []) n_47_18 cl_0_341 ⟨rfl, rfl, rfl⟩ (sum8 rfl) (E_tg sh_G_domains) rfl (w_48 (v := (tN v)) (by omega) (by assumption) (by assumption) (by assumption) (by assumption) (by assumption) _) ?_
    refine pw_ifb_eq (q := 28) n_47_21 rfl rfl (fun h2 => ?_) (fun h2 => ?_)
    ·
      refine pw_bipush n_47_28 bc_m10 rfl ?_
      exact pw_ireturn (ty := .int) n_47_30 rfl rfl (by first | (simp [xDc, h1, h2, bI_t, bI_f, nI_add1, gup_k, eSet_k, eClr_k, hSet_k, hClr_k, qSet_k, qCls_k]; done) | contradiction | (split <;> first | rfl | (simp_all; done)) | simp [xDc, h1, h2, bI_t, bI_f, nI_add1, gup_k, eSet_k, eClr_k, hSet_k, hClr_k, qSet_k, qCls_k])
    ·
      refine pw_iconst n_47_24 ic_0 rfl ?_
      refine pw_goto (q := 30) n_47_25 rfl ?_
      exact pw_ireturn (ty := .int) n_47_30 rfl rfl (by first | (simp [xDc, h1, h2, bI_t, bI_f, nI_add1, gup_k, eSet_k, eClr_k, hSet_k, hClr_k, qSet_k, qCls_k]; done) | contradiction | (split <;> first | rfl | (simp_all; done)) | simp [xDc, h1, h2, bI_t, bI_f, nI_add1, gup_k, eSet_k, eClr_k, hSet_k, hClr_k, qSet_k, qCls_k])
  ·
    refine pw_bipush n_47_8 bc_m9 rfl ?_
    exact pw_ireturn (ty := .int) n_47_10 rfl rfl (by first | (simp [xDc, h1, bI_t, bI_f, nI_add1, gup_k, eSet_k, eClr_k, hSet_k, hClr_k, qSet_k, qCls_k]; done) | contradiction | (split <;> first | rfl | (simp_all; done)) | simp [xDc, h1, bI_t, bI_f, nI_add1, gup_k, eSet_k, eClr_k, hSet_k, hClr_k, qSet_k, qCls_k])
set_option maxRecDepth 100000 in
set_option maxHeartbeats 4000000 in
theorem w_49 {X M : gS} {v : Nat} {p : Int32} {r : Int32} {q : Int32} (hv : v < 3) (rp0 : ¬ X 17 v 0 < 0) (rp1 : tN (X 17 v 0) < 20) (q0 : ¬ X 22 v 0 < 0) (hpq : pqA X) (d : Nat) : pm_Call (d + 4) 49 [.ref 1, .ref (cV v + 1), .int p, .int r, .int q] (gE X M) (some (.int (X 22 v 0)), gE (xPost X v p r q) M) := by
  refine pw_start (d := d + 3) (l := [some (.ref 1), some (.ref (cV v + 1)), some (.int p), some (.int r), some (.int q), none, none, none]) (Nat.le_of_ble_eq_true rfl) rfl ?_
  obtain ⟨q1, q2, q3, q4, q5, q6⟩ := rem3_ir q0
  refine pw_aload_n n_49_0 rfl rfl ?_
  refine pw_getf (a := cV v) n_49_1 fl_0_345 (by decide) (rdX (sh_V_posted v (by omega)) (by decide)) rfl ?_
  refine pw_istore (l := [some (.ref 1), some (.ref (cV v + 1)), some (.int p), some (.int r), some (.int q), some (.int (X 22 v 0)), none, none]) n_49_4 rfl rfl ?_
  refine pw_iload n_49_6 rfl rfl ?_
  refine pw_iconst n_49_8 ic_3 rfl ?_
  refine pw_irem n_49_9 (by decide) rfl ?_
  refine pw_istore (l := [some (.ref 1), some (.ref (cV v + 1)), some (.int p), some (.int r), some (.int q), some (.int (X 22 v 0)), some (.int (rem3 (X 22 v 0))), none]) n_49_10 rfl rfl ?_
  refine pw_aload_n n_49_12 rfl rfl ?_
  refine pw_getf (a := 0) n_49_13 fl_0_17 (by decide) (rdR (sh_G_pages)) rfl ?_
  refine pw_aload_n n_49_16 rfl rfl ?_
  refine pw_getf (a := cV v) n_49_17 fl_0_188 (by decide) (rdX (sh_V_ringPage v (by omega)) (by decide)) rfl ?_
  refine pw_aald (a := 2) (t := 103) (u := 2) n_49_20 (by assumption) rfl (by decide) rfl (rdR (sh_PA (tN (X 17 v 0)) (by omega))) rfl ?_
  refine pw_getf (a := cP (tN (X 17 v 0))) n_49_21 fl_0_136 (by decide) (rdR (sh_P_words (tN (X 17 v 0)) (by omega))) rfl ?_
  refine pw_astore (l := [some (.ref 1), some (.ref (cV v + 1)), some (.int p), some (.int r), some (.int q), some (.int (X 22 v 0)), some (.int (rem3 (X 22 v 0))), some (.ref (cP (tN (X 17 v 0)) + 2))]) n_49_24 rfl rfl ?_
  refine pw_aload_n n_49_26 rfl rfl ?_
  refine pw_getf (a := cV v) n_49_27 fl_0_259 (by decide) (rdR (sh_V_notedPages v (by omega))) rfl ?_
  refine pw_iload n_49_30 rfl rfl ?_
  refine pw_iload_n n_49_32 rfl rfl ?_
  refine pw_iast (a := cV v + 1) n_49_33 (by assumption) rfl (wrX (sh_NP v (by omega) (tN (rem3 (X 22 v 0))) (by omega)) (by decide)) rfl ?_
  refine pw_aload_n n_49_34 rfl rfl ?_
  refine pw_getf (a := cV v) n_49_35 fl_0_266 (by decide) (rdR (sh_V_notedEntries v (by omega))) rfl ?_
  refine pw_iload n_49_38 rfl rfl ?_
  refine pw_iload_n n_49_40 rfl rfl ?_
  refine pw_iast (a := cV v + 2) n_49_41 (by assumption) rfl (wrX (sh_NE v (by omega) (tN (rem3 (X 22 v 0))) (by omega)) (by decide)) rfl ?_
  refine pw_aload n_49_42 rfl rfl ?_
  refine pw_iconst n_49_44 ic_2 rfl ?_
  refine pw_iload n_49_45 rfl rfl ?_
  refine pw_iadd n_49_47 rfl ?_
  refine pw_iload n_49_48 rfl rfl ?_
  refine pw_iast (a := cP (tN (X 17 v 0)) + 1) n_49_50 (by assumption) rfl (wrX (sh_PW (tN (X 17 v 0)) (by omega) (tN (2 + (rem3 (X 22 v 0)))) (by omega)) (by decide)) rfl ?_
  refine pw_aload_n n_49_51 rfl rfl ?_
  refine pw_dup n_49_52 rfl rfl ?_
  refine pw_getf (v := .int (X 22 v 0)) (a := cV v) n_49_53 fl_0_345 (by decide) (rdX (sh_V_posted v (by omega)) (by decide)) rfl ?_
  refine pw_iconst n_49_56 ic_1 rfl ?_
  refine pw_iadd n_49_57 rfl ?_
  refine pw_putf (a := cV v) n_49_58 fl_0_345 (by decide) rfl rfl (Or.inl rfl) (wrX (sh_V_posted v (by omega)) (by decide)) rfl ?_
  refine pw_aload n_49_61 rfl rfl ?_
  refine pw_iconst n_49_63 ic_0 rfl ?_
  refine pw_aload_n n_49_64 rfl rfl ?_
  refine pw_getf (a := cV v) n_49_65 fl_0_345 (by decide) (rdX (sh_V_posted v (by omega)) (by decide)) rfl ?_
  refine pw_top (y := (X 22 v 0) + 1) (by simp [xCo_k, gup_k, gup_s, vBeg_k, eSet_k, eClr_k, hSet_k, hClr_k, qSet_k, qCls_k, xAlloc_k, xGrant_k, xMap_k, xOpen_k, xBind_k, xSend_k, xStore_k, xEnd_k, xFree_k, xUnmap_k, mAlloc_k, mGrant_k, mMap_k, mOpen_k, mBind_k, mSend_k, mEnd_k, mFree_k, mTk_k]) ?_
  refine pw_iast (a := cP (tN (X 17 v 0)) + 1) n_49_68 (by decide) (by decide) (wrX (sh_PW (tN (X 17 v 0)) (by omega) 0 (by omega)) (by decide)) rfl ?_
  refine pw_aload_n n_49_69 rfl rfl ?_
  refine pw_aload_n n_49_70 rfl rfl ?_
  refine pw_getf (v := .int (X 15 v 0)) (a := cV v) n_49_71 fl_0_224 (by decide) (rdX (sh_V_front v (by omega)) (by decide)) rfl ?_
  refine pw_aload_n n_49_74 rfl rfl ?_
  refine pw_getf (v := .int (X 20 v 0)) (a := cV v) n_49_75 fl_0_208 (by decide) (rdX (sh_V_frontPort v (by omega)) (by decide)) rfl ?_
  refine pw_virtV (a := 0) (as := [.int (X 15 v 0), .int (X 20 v 0)]) (st := []) n_49_78 cl_0_249 ⟨rfl, rfl, rfl⟩ (sum8 rfl) (E_tg sh_G_domains) rfl (w_14 (x := (X 15 v 0)) (k := (X 20 v 0)) (sq_of (pqA_k (fun a b => by simp [gup_k]) (fun a b => by simp [gup_k]) (fun a b => by simp [gup_k]) hpq)) _) ?_
  refine pw_pop n_49_81 rfl rfl ?_
  refine pw_iload n_49_82 rfl rfl ?_
  exact pw_ireturn (ty := .int) n_49_84 rfl rfl (by first | (simp [xPost, xPo, bI_t, bI_f, nI_add1, gup_k, eSet_k, eClr_k, hSet_k, hClr_k, qSet_k, qCls_k]; done) | contradiction | (split <;> first | rfl | (simp_all; done)) | simp [xPost, xPo, bI_t, bI_f, nI_add1, gup_k, eSet_k, eClr_k, hSet_k, hClr_k, qSet_k, qCls_k])
set_option maxRecDepth 100000 in
set_option maxHeartbeats 4000000 in
theorem w_50 {X M : gS} {v : Nat} {q : Int32} {w : Bool} (hv : v < 3) (hw : decide (q &&& 8 = 0) = w) (co : ¬ (xCom X v q w).1 < 0 → coF X (xCom X v q w) v q w) (d : Nat) : pm_Call (d + 6) 50 [.ref 1, .ref (cV v + 1), .int q] (gE X M) (some (.int ((xCo X v q w).1)), gE ((xCo X v q w).2) M) := by
  refine pw_start (d := d + 5) (l := [some (.ref 1), some (.ref (cV v + 1)), some (.int q), none, none, none, none]) (Nat.le_of_ble_eq_true rfl) rfl ?_
  refine pw_iload_n n_50_0 rfl rfl ?_
  refine pw_bipush n_50_1 bc_7 rfl ?_
  refine pw_iand n_50_3 rfl ?_
  refine pw_istore_n (l := [some (.ref 1), some (.ref (cV v + 1)), some (.int q), some (.int (q &&& 7)), none, none, none]) n_50_4 rfl rfl ?_
  refine pw_iload_n n_50_5 rfl rfl ?_
  refine pw_bipush n_50_6 bc_8 rfl ?_
  refine pw_iand n_50_8 rfl ?_
  refine pw_if_eq (q := 16) n_50_9 rfl rfl (fun h1 => ?_) (fun h1 => ?_)
  ·
    obtain rfl : w = true := by rw [← hw]; simp [h1]
    refine pw_iconst n_50_16 ic_0 rfl ?_
    refine pw_istore (l := [some (.ref 1), some (.ref (cV v + 1)), some (.int q), some (.int (q &&& 7)), some (.int 0), none, none]) n_50_17 rfl rfl ?_
    refine pw_aload_n n_50_19 rfl rfl ?_
    refine pw_aload_n n_50_20 rfl rfl ?_
    refine pw_getf (a := cV v) n_50_21 fl_0_233 (by decide) (rdX (sh_V_back v (by omega)) (by decide)) rfl ?_
    refine pw_aload_n n_50_24 rfl rfl ?_
    refine pw_getf (a := cV v) n_50_25 fl_0_224 (by decide) (rdX (sh_V_front v (by omega)) (by decide)) rfl ?_
    refine pw_iload_n n_50_28 rfl rfl ?_
    refine pw_iconst n_50_29 ic_4 rfl ?_
    refine pw_ishr n_50_30 rfl ?_
    refine pw_iload n_50_31 rfl rfl ?_
    refine pw_if_ne_f (q := 40) n_50_33 rfl rfl (by decide) ?_
    refine pw_iconst n_50_36 ic_1 rfl ?_
    refine pw_goto (q := 41) n_50_37 rfl ?_
    refine pw_virtV (a := 0) (as := [.int (X 16 v 0), .int (X 15 v 0), .int (q >>> ((4 : Int32) &&& 31)), .int 1]) (st := []) n_50_41 cl_0_198 ⟨rfl, rfl, rfl⟩ (sum8 rfl) (E_tg sh_G_domains) rfl (w_7 (x := (X 16 v 0)) (f := (X 15 v 0)) (r := (q >>> ((4 : Int32) &&& 31))) (w := true) _) ?_
    generalize gA1 : xMap X (X 16 v 0) (X 15 v 0) (q >>> ((4 : Int32) &&& 31)) true = A1
    refine pw_istore (l := [some (.ref 1), some (.ref (cV v + 1)), some (.int q), some (.int (q &&& 7)), some (.int 0), some (.int A1.1), none]) n_50_44 rfl rfl ?_
    refine pw_iload n_50_46 rfl rfl ?_
    refine pw_if_ge (q := 54) n_50_48 rfl rfl (fun h2 => ?_) (fun h2 => ?_)
    ·
      rw [show xCom X v q true = A1 from gA1] at co
      have k0 := ge0 h2
      obtain ⟨b0, b1, k1, f0, f1, e0, e1, p0, p1, tk⟩ := co k0
      obtain ⟨s0, s1⟩ := and7_ir q
      refine pw_aload_n n_50_54 rfl rfl ?_
      refine pw_getf (a := 0) n_50_55 fl_0_17 (by decide) (rdR (sh_G_pages)) rfl ?_
      refine pw_aload_n n_50_58 rfl rfl ?_
      refine pw_aload_n n_50_59 rfl rfl ?_
      refine pw_getf (a := 0) n_50_60 fl_0_11 (by decide) (rdR (sh_G_domains)) rfl ?_
      refine pw_aload_n n_50_63 rfl rfl ?_
      refine pw_getf (a := cV v) n_50_64 fl_0_233 (by decide) (rdX (sh_V_back v (by omega)) (by decide)) rfl ?_
      refine pw_top (y := X 16 v 0) (by simp [← gA1, xCo_k, gup_k, gup_s, vBeg_k, eSet_k, eClr_k, hSet_k, hClr_k, qSet_k, qCls_k, xAlloc_k, xGrant_k, xMap_k, xOpen_k, xBind_k, xSend_k, xStore_k, xEnd_k, xFree_k, xUnmap_k, mAlloc_k, mGrant_k, mMap_k, mOpen_k, mBind_k, mSend_k, mEnd_k, mFree_k, mTk_k]) ?_
      refine pw_aald (a := 1) (t := 102) (u := 1) n_50_67 (by assumption) rfl (by decide) rfl (rdR (sh_DA (tN (X 16 v 0)) (by omega))) rfl ?_
      refine pw_getf (a := cD (tN (X 16 v 0))) n_50_68 fl_0_110 (by decide) (rdR (sh_D_handles (tN (X 16 v 0)) (by omega))) rfl ?_
      refine pw_iload n_50_71 rfl rfl ?_
      refine pw_aald (a := cD (tN (X 16 v 0)) + 2) (t := 106) (u := 5) n_50_73 (by assumption) rfl (by decide) rfl (rdR (sh_HA (tN (X 16 v 0)) (by omega) (tN A1.1) (by omega))) rfl ?_
      refine pw_virtV (a := 0) (as := [.ref (cH (tN (X 16 v 0)) (tN A1.1) + 1)]) (st := [.ref 3]) n_50_74 cl_0_285 ⟨rfl, rfl, rfl⟩ (sum8 rfl) (E_tg sh_G_domains) rfl (w_34 (a := (tN (X 16 v 0))) (h := (tN A1.1)) (by omega) (by omega) (by assumption) (by assumption) (by assumption) (by assumption) _) ?_
      refine pw_aald (a := 2) (t := 103) (u := 2) n_50_77 (by assumption) rfl (by decide) rfl (rdR (sh_PA (tN (xPgO A1.2 (tN (X 16 v 0)) (tN A1.1))) (by omega))) rfl ?_
      refine pw_getf (a := cP (tN (xPgO A1.2 (tN (X 16 v 0)) (tN A1.1)))) n_50_78 fl_0_136 (by decide) (rdR (sh_P_words (tN (xPgO A1.2 (tN (X 16 v 0)) (tN A1.1))) (by omega))) rfl ?_
      refine pw_astore (l := [some (.ref 1), some (.ref (cV v + 1)), some (.int q), some (.int (q &&& 7)), some (.int 0), some (.int A1.1), some (.ref (cP (tN (xPgO A1.2 (tN (X 16 v 0)) (tN A1.1))) + 2))]) n_50_81 rfl rfl ?_
      refine pw_iload n_50_83 rfl rfl ?_
      refine pw_if_eq_t (q := 101) n_50_85 rfl (by decide) ?_
      refine pw_aload n_50_101 rfl rfl ?_
      refine pw_iconst n_50_103 ic_0 rfl ?_
      refine pw_aload_n n_50_104 rfl rfl ?_
      refine pw_getf (a := cV v) n_50_105 fl_0_292 (by decide) (rdR (sh_V_disk v (by omega))) rfl ?_
      refine pw_iload_n n_50_108 rfl rfl ?_
      refine pw_iald (a := cV v + 3) n_50_109 (by assumption) rfl (rdX (sh_DK v (by omega) (tN (q &&& 7)) (by omega)) (by decide)) rfl ?_
      refine pw_top (y := X 27 v (tN (q &&& 7))) (by simp [← gA1, xCo_k, gup_k, gup_s, vBeg_k, eSet_k, eClr_k, hSet_k, hClr_k, qSet_k, qCls_k, xAlloc_k, xGrant_k, xMap_k, xOpen_k, xBind_k, xSend_k, xStore_k, xEnd_k, xFree_k, xUnmap_k, mAlloc_k, mGrant_k, mMap_k, mOpen_k, mBind_k, mSend_k, mEnd_k, mFree_k, mTk_k]) ?_
      refine pw_iast (a := cP (tN (xPgO A1.2 (tN (X 16 v 0)) (tN A1.1))) + 1) n_50_110 (by decide) (by decide) (wrX (sh_PW (tN (xPgO A1.2 (tN (X 16 v 0)) (tN A1.1))) (by omega) 0 (by omega)) (by decide)) rfl ?_
      refine pw_aload_n n_50_111 rfl rfl ?_
      refine pw_aload_n n_50_112 rfl rfl ?_
      refine pw_getf (a := cV v) n_50_113 fl_0_233 (by decide) (rdX (sh_V_back v (by omega)) (by decide)) rfl ?_
      refine pw_top (y := X 16 v 0) (by simp [← gA1, xCo_k, gup_k, gup_s, vBeg_k, eSet_k, eClr_k, hSet_k, hClr_k, qSet_k, qCls_k, xAlloc_k, xGrant_k, xMap_k, xOpen_k, xBind_k, xSend_k, xStore_k, xEnd_k, xFree_k, xUnmap_k, mAlloc_k, mGrant_k, mMap_k, mOpen_k, mBind_k, mSend_k, mEnd_k, mFree_k, mTk_k]) ?_
      refine pw_iload n_50_116 rfl rfl ?_
      refine pw_virtV (a := 0) (as := [.int (X 16 v 0), .int A1.1]) (st := []) n_50_118 cl_0_348 ⟨rfl, rfl, rfl⟩ (sum8 rfl) (E_tg sh_G_domains) rfl (w_8 (x := (X 16 v 0)) (h := A1.1) tk _) ?_
      refine pw_pop n_50_121 rfl rfl ?_
      refine pw_iconst n_50_122 ic_0 rfl ?_
      exact pw_ireturn (ty := .int) n_50_123 rfl rfl (by first | (simp [xCo, xCo2, xCom, xCo1, h1, gA1, h2, (i32_a h2), bI_t, bI_f, nI_add1, gup_k, eSet_k, eClr_k, hSet_k, hClr_k, qSet_k, qCls_k]; done) | contradiction | (split <;> first | rfl | (simp_all; done)) | simp [xCo, xCo2, xCom, xCo1, h1, gA1, h2, (i32_a h2), bI_t, bI_f, nI_add1, gup_k, eSet_k, eClr_k, hSet_k, hClr_k, qSet_k, qCls_k])
    ·
      refine pw_iload n_50_51 rfl rfl ?_
      exact pw_ireturn (ty := .int) n_50_53 rfl rfl (by first | (simp [xCo, xCo2, xCom, xCo1, h1, gA1, h2, (i32_b h2), bI_t, bI_f, nI_add1, gup_k, eSet_k, eClr_k, hSet_k, hClr_k, qSet_k, qCls_k]; done) | contradiction | (split <;> first | rfl | (simp_all; done)) | simp [xCo, xCo2, xCom, xCo1, h1, gA1, h2, (i32_b h2), bI_t, bI_f, nI_add1, gup_k, eSet_k, eClr_k, hSet_k, hClr_k, qSet_k, qCls_k])
  ·
    obtain rfl : w = false := by rw [← hw]; simp [h1]
    refine pw_iconst n_50_12 ic_1 rfl ?_
    refine pw_goto (q := 17) n_50_13 rfl ?_
    refine pw_istore (l := [some (.ref 1), some (.ref (cV v + 1)), some (.int q), some (.int (q &&& 7)), some (.int 1), none, none]) n_50_17 rfl rfl ?_
    refine pw_aload_n n_50_19 rfl rfl ?_
    refine pw_aload_n n_50_20 rfl rfl ?_
    refine pw_getf (a := cV v) n_50_21 fl_0_233 (by decide) (rdX (sh_V_back v (by omega)) (by decide)) rfl ?_
    refine pw_aload_n n_50_24 rfl rfl ?_
    refine pw_getf (a := cV v) n_50_25 fl_0_224 (by decide) (rdX (sh_V_front v (by omega)) (by decide)) rfl ?_
    refine pw_iload_n n_50_28 rfl rfl ?_
    refine pw_iconst n_50_29 ic_4 rfl ?_
    refine pw_ishr n_50_30 rfl ?_
    refine pw_iload n_50_31 rfl rfl ?_
    refine pw_if_ne_t (q := 40) n_50_33 rfl (by decide) ?_
    refine pw_iconst n_50_40 ic_0 rfl ?_
    refine pw_virtV (a := 0) (as := [.int (X 16 v 0), .int (X 15 v 0), .int (q >>> ((4 : Int32) &&& 31)), .int 0]) (st := []) n_50_41 cl_0_198 ⟨rfl, rfl, rfl⟩ (sum8 rfl) (E_tg sh_G_domains) rfl (w_7 (x := (X 16 v 0)) (f := (X 15 v 0)) (r := (q >>> ((4 : Int32) &&& 31))) (w := false) _) ?_
    generalize gA2 : xMap X (X 16 v 0) (X 15 v 0) (q >>> ((4 : Int32) &&& 31)) false = A2
    refine pw_istore (l := [some (.ref 1), some (.ref (cV v + 1)), some (.int q), some (.int (q &&& 7)), some (.int 1), some (.int A2.1), none]) n_50_44 rfl rfl ?_
    refine pw_iload n_50_46 rfl rfl ?_
    refine pw_if_ge (q := 54) n_50_48 rfl rfl (fun h3 => ?_) (fun h3 => ?_)
    ·
      rw [show xCom X v q false = A2 from gA2] at co
      have k0 := ge0 h3
      obtain ⟨b0, b1, k1, f0, f1, e0, e1, p0, p1, tk⟩ := co k0
      obtain ⟨s0, s1⟩ := and7_ir q
      refine pw_aload_n n_50_54 rfl rfl ?_
      refine pw_getf (a := 0) n_50_55 fl_0_17 (by decide) (rdR (sh_G_pages)) rfl ?_
      refine pw_aload_n n_50_58 rfl rfl ?_
      refine pw_aload_n n_50_59 rfl rfl ?_
      refine pw_getf (a := 0) n_50_60 fl_0_11 (by decide) (rdR (sh_G_domains)) rfl ?_
      refine pw_aload_n n_50_63 rfl rfl ?_
      refine pw_getf (a := cV v) n_50_64 fl_0_233 (by decide) (rdX (sh_V_back v (by omega)) (by decide)) rfl ?_
      refine pw_top (y := X 16 v 0) (by simp [← gA2, xCo_k, gup_k, gup_s, vBeg_k, eSet_k, eClr_k, hSet_k, hClr_k, qSet_k, qCls_k, xAlloc_k, xGrant_k, xMap_k, xOpen_k, xBind_k, xSend_k, xStore_k, xEnd_k, xFree_k, xUnmap_k, mAlloc_k, mGrant_k, mMap_k, mOpen_k, mBind_k, mSend_k, mEnd_k, mFree_k, mTk_k]) ?_
      refine pw_aald (a := 1) (t := 102) (u := 1) n_50_67 (by assumption) rfl (by decide) rfl (rdR (sh_DA (tN (X 16 v 0)) (by omega))) rfl ?_
      refine pw_getf (a := cD (tN (X 16 v 0))) n_50_68 fl_0_110 (by decide) (rdR (sh_D_handles (tN (X 16 v 0)) (by omega))) rfl ?_
      refine pw_iload n_50_71 rfl rfl ?_
      refine pw_aald (a := cD (tN (X 16 v 0)) + 2) (t := 106) (u := 5) n_50_73 (by assumption) rfl (by decide) rfl (rdR (sh_HA (tN (X 16 v 0)) (by omega) (tN A2.1) (by omega))) rfl ?_
      refine pw_virtV (a := 0) (as := [.ref (cH (tN (X 16 v 0)) (tN A2.1) + 1)]) (st := [.ref 3]) n_50_74 cl_0_285 ⟨rfl, rfl, rfl⟩ (sum8 rfl) (E_tg sh_G_domains) rfl (w_34 (a := (tN (X 16 v 0))) (h := (tN A2.1)) (by omega) (by omega) (by assumption) (by assumption) (by assumption) (by assumption) _) ?_
      refine pw_aald (a := 2) (t := 103) (u := 2) n_50_77 (by assumption) rfl (by decide) rfl (rdR (sh_PA (tN (xPgO A2.2 (tN (X 16 v 0)) (tN A2.1))) (by omega))) rfl ?_
      refine pw_getf (a := cP (tN (xPgO A2.2 (tN (X 16 v 0)) (tN A2.1)))) n_50_78 fl_0_136 (by decide) (rdR (sh_P_words (tN (xPgO A2.2 (tN (X 16 v 0)) (tN A2.1))) (by omega))) rfl ?_
      refine pw_astore (l := [some (.ref 1), some (.ref (cV v + 1)), some (.int q), some (.int (q &&& 7)), some (.int 1), some (.int A2.1), some (.ref (cP (tN (xPgO A2.2 (tN (X 16 v 0)) (tN A2.1))) + 2))]) n_50_81 rfl rfl ?_
      refine pw_iload n_50_83 rfl rfl ?_
      refine pw_if_eq_f (q := 101) n_50_85 rfl rfl (by decide) ?_
      refine pw_aload_n n_50_88 rfl rfl ?_
      refine pw_getf (a := cV v) n_50_89 fl_0_292 (by decide) (rdR (sh_V_disk v (by omega))) rfl ?_
      refine pw_iload_n n_50_92 rfl rfl ?_
      refine pw_aload n_50_93 rfl rfl ?_
      refine pw_iconst n_50_95 ic_0 rfl ?_
      refine pw_iald (a := cP (tN (xPgO A2.2 (tN (X 16 v 0)) (tN A2.1))) + 1) n_50_96 (by decide) (by decide) (rdX (sh_PW (tN (xPgO A2.2 (tN (X 16 v 0)) (tN A2.1))) (by omega) 0 (by omega)) (by decide)) rfl ?_
      refine pw_top (y := X 2 (tN (xPgO A2.2 (tN (X 16 v 0)) (tN A2.1))) 0) (by simp [← gA2, xCo_k, gup_k, gup_s, vBeg_k, eSet_k, eClr_k, hSet_k, hClr_k, qSet_k, qCls_k, xAlloc_k, xGrant_k, xMap_k, xOpen_k, xBind_k, xSend_k, xStore_k, xEnd_k, xFree_k, xUnmap_k, mAlloc_k, mGrant_k, mMap_k, mOpen_k, mBind_k, mSend_k, mEnd_k, mFree_k, mTk_k]) ?_
      refine pw_iast (a := cV v + 3) n_50_97 (by assumption) rfl (wrX (sh_DK v (by omega) (tN (q &&& 7)) (by omega)) (by decide)) rfl ?_
      refine pw_goto (q := 111) n_50_98 rfl ?_
      refine pw_aload_n n_50_111 rfl rfl ?_
      refine pw_aload_n n_50_112 rfl rfl ?_
      refine pw_getf (a := cV v) n_50_113 fl_0_233 (by decide) (rdX (sh_V_back v (by omega)) (by decide)) rfl ?_
      refine pw_top (y := X 16 v 0) (by simp [← gA2, xCo_k, gup_k, gup_s, vBeg_k, eSet_k, eClr_k, hSet_k, hClr_k, qSet_k, qCls_k, xAlloc_k, xGrant_k, xMap_k, xOpen_k, xBind_k, xSend_k, xStore_k, xEnd_k, xFree_k, xUnmap_k, mAlloc_k, mGrant_k, mMap_k, mOpen_k, mBind_k, mSend_k, mEnd_k, mFree_k, mTk_k]) ?_
      refine pw_iload n_50_116 rfl rfl ?_
      refine pw_virtV (a := 0) (as := [.int (X 16 v 0), .int A2.1]) (st := []) n_50_118 cl_0_348 ⟨rfl, rfl, rfl⟩ (sum8 rfl) (E_tg sh_G_domains) rfl (w_8 (x := (X 16 v 0)) (h := A2.1) tk _) ?_
      refine pw_pop n_50_121 rfl rfl ?_
      refine pw_iconst n_50_122 ic_0 rfl ?_
      exact pw_ireturn (ty := .int) n_50_123 rfl rfl (by first | (simp [xCo, xCo2, xCom, xCo1, h1, gA2, h3, (i32_a h3), bI_t, bI_f, nI_add1, gup_k, eSet_k, eClr_k, hSet_k, hClr_k, qSet_k, qCls_k]; done) | contradiction | (split <;> first | rfl | (simp_all; done)) | simp [xCo, xCo2, xCom, xCo1, h1, gA2, h3, (i32_a h3), bI_t, bI_f, nI_add1, gup_k, eSet_k, eClr_k, hSet_k, hClr_k, qSet_k, qCls_k])
    ·
      refine pw_iload n_50_51 rfl rfl ?_
      exact pw_ireturn (ty := .int) n_50_53 rfl rfl (by first | (simp [xCo, xCo2, xCom, xCo1, h1, gA2, h3, (i32_b h3), bI_t, bI_f, nI_add1, gup_k, eSet_k, eClr_k, hSet_k, hClr_k, qSet_k, qCls_k]; done) | contradiction | (split <;> first | rfl | (simp_all; done)) | simp [xCo, xCo2, xCom, xCo1, h1, gA2, h3, (i32_b h3), bI_t, bI_f, nI_add1, gup_k, eSet_k, eClr_k, hSet_k, hClr_k, qSet_k, qCls_k])
set_option maxRecDepth 100000 in
set_option maxHeartbeats 4000000 in
theorem w_16 {X M : gS} {f : Int32} {b : Int32}  (d : Nat) : pm_Call (d + 5) 16 [.ref 1, .int f, .int b] (gE X M) (some (.int ((xAttach X f b).1)), gE ((xAttach X f b).2) M) := by
  refine pw_start (d := d + 4) (l := [some (.ref 1), some (.int f), some (.int b), none, none]) (Nat.le_of_ble_eq_true rfl) rfl ?_
  refine pw_aload_n n_16_0 rfl rfl ?_
  refine pw_iload_n n_16_1 rfl rfl ?_
  refine pw_virtV (a := 0) (as := [.int f]) (st := []) n_16_2 cl_0_34 ⟨rfl, rfl, rfl⟩ (sum8 rfl) (E_tg sh_G_domains) rfl (w_25 (x := f) _) ?_
  refine pw_ifb_eq (q := 16) n_16_5 rfl rfl (fun h1 => ?_) (fun h1 => ?_)
  ·
    refine pw_iconst n_16_16 ic_m1 rfl ?_
    exact pw_ireturn (ty := .int) n_16_17 rfl rfl (by first | (simp [xAttach, xAtt, xA1, xA2, xA3, xA4, xA5, xA6, h1, bI_t, bI_f, nI_add1, gup_k, eSet_k, eClr_k, hSet_k, hClr_k, qSet_k, qCls_k]; done) | contradiction | (split <;> first | rfl | (simp_all; done)) | simp [xAttach, xAtt, xA1, xA2, xA3, xA4, xA5, xA6, h1, bI_t, bI_f, nI_add1, gup_k, eSet_k, eClr_k, hSet_k, hClr_k, qSet_k, qCls_k])
  ·
    obtain ⟨h1a, h1b⟩ := ir_live h1
    refine pw_aload_n n_16_8 rfl rfl ?_
    refine pw_iload_n n_16_9 rfl rfl ?_
    refine pw_virtV (a := 0) (as := [.int b]) (st := []) n_16_10 cl_0_34 ⟨rfl, rfl, rfl⟩ (sum8 rfl) (E_tg sh_G_domains) rfl (w_25 (x := b) _) ?_
    refine pw_ifb_ne (q := 18) n_16_13 rfl rfl (fun h2 => ?_) (fun h2 => ?_)
    ·
      obtain ⟨h2a, h2b⟩ := ir_live h2
      refine pw_iload_n n_16_18 rfl rfl ?_
      refine pw_iload_n n_16_19 rfl rfl ?_
      refine pw_icmp_ne (q := 26) n_16_20 rfl rfl (fun h3 => ?_) (fun h3 => ?_)
      ·
        refine pw_aload_n n_16_26 rfl rfl ?_
        refine pw_virtV (a := 0) (as := []) (st := []) n_16_27 cl_0_173 ⟨rfl, rfl, rfl⟩ (sum8 rfl) (E_tg sh_G_domains) rfl (w_43  _) ?_
        refine pw_istore_n (l := [some (.ref 1), some (.int f), some (.int b), some (.int (xAbs X)), none]) n_16_30 rfl rfl ?_
        refine pw_iload_n n_16_31 rfl rfl ?_
        refine pw_iconst n_16_32 ic_m1 rfl ?_
        refine pw_icmp_eq (q := 52) n_16_33 rfl rfl (fun h4 => ?_) (fun h4 => ?_)
        ·
          refine pw_bipush n_16_52 bc_m7 rfl ?_
          exact pw_ireturn (ty := .int) n_16_54 rfl rfl (by first | (simp [xAttach, xAtt, xA1, xA2, xA3, xA4, xA5, xA6, h1, h2, h3, h4, bI_t, bI_f, nI_add1, gup_k, eSet_k, eClr_k, hSet_k, hClr_k, qSet_k, qCls_k]; done) | contradiction | (split <;> first | rfl | (simp_all; done)) | simp [xAttach, xAtt, xA1, xA2, xA3, xA4, xA5, xA6, h1, h2, h3, h4, bI_t, bI_f, nI_add1, gup_k, eSet_k, eClr_k, hSet_k, hClr_k, qSet_k, qCls_k])
        ·
          obtain ⟨h4a, h4b⟩ := ir_abs h4
          refine pw_aload_n n_16_36 rfl rfl ?_
          refine pw_iload_n n_16_37 rfl rfl ?_
          refine pw_virtV (a := 0) (as := [.int f]) (st := []) n_16_38 cl_0_176 ⟨rfl, rfl, rfl⟩ (sum8 rfl) (E_tg sh_G_domains) rfl (w_45 (x := f) (by assumption) (by assumption) _) ?_
          refine pw_ifb_eq (q := 52) n_16_41 rfl rfl (fun h5 => ?_) (fun h5 => ?_)
          ·
            refine pw_bipush n_16_52 bc_m7 rfl ?_
            exact pw_ireturn (ty := .int) n_16_54 rfl rfl (by first | (simp [xAttach, xAtt, xA1, xA2, xA3, xA4, xA5, xA6, h1, h2, h3, h4, h5, bI_t, bI_f, nI_add1, gup_k, eSet_k, eClr_k, hSet_k, hClr_k, qSet_k, qCls_k]; done) | contradiction | (split <;> first | rfl | (simp_all; done)) | simp [xAttach, xAtt, xA1, xA2, xA3, xA4, xA5, xA6, h1, h2, h3, h4, h5, bI_t, bI_f, nI_add1, gup_k, eSet_k, eClr_k, hSet_k, hClr_k, qSet_k, qCls_k])
          ·
            refine pw_aload_n n_16_44 rfl rfl ?_
            refine pw_iload_n n_16_45 rfl rfl ?_
            refine pw_virtV (a := 0) (as := [.int b]) (st := []) n_16_46 cl_0_179 ⟨rfl, rfl, rfl⟩ (sum8 rfl) (E_tg sh_G_domains) rfl (w_46 (x := b) (by assumption) (by assumption) _) ?_
            refine pw_ifb_ne (q := 55) n_16_49 rfl rfl (fun h6 => ?_) (fun h6 => ?_)
            ·
              refine pw_aload_n n_16_55 rfl rfl ?_
              refine pw_getf (a := 0) n_16_56 fl_0_23 (by decide) (rdR (sh_G_devices)) rfl ?_
              refine pw_iload_n n_16_59 rfl rfl ?_
              refine pw_aald (a := 3) (t := 104) (u := 3) n_16_60 (by assumption) rfl (by decide) rfl (rdR (sh_VA (tN (xAbs X)) (by omega))) rfl ?_
              refine pw_astore (l := [some (.ref 1), some (.int f), some (.int b), some (.int (xAbs X)), some (.ref (cV (tN (xAbs X)) + 1))]) n_16_61 rfl rfl ?_
              refine pw_aload n_16_63 rfl rfl ?_
              refine pw_iload_n n_16_65 rfl rfl ?_
              refine pw_iload_n n_16_66 rfl rfl ?_
              refine pw_virt0 (a := cV (tN (xAbs X))) (as := [.int f, .int b]) (st := []) n_16_67 cl_0_182 ⟨rfl, rfl, rfl⟩ (sum8 rfl) (E_tg (sh_V_present (tN (xAbs X)) (by omega))) rfl (w_63 (v := (tN (xAbs X))) (f := f) (b := b) (by omega) _) ?_
              refine pw_aload n_16_70 rfl rfl ?_
              refine pw_aload_n n_16_72 rfl rfl ?_
              refine pw_iload_n n_16_73 rfl rfl ?_
              refine pw_virtV (a := 0) (as := [.int f]) (st := [.ref (cV (tN (xAbs X)) + 1)]) n_16_74 cl_0_185 ⟨rfl, rfl, rfl⟩ (sum8 rfl) (E_tg sh_G_domains) rfl (w_3 (x := f) _) ?_
              generalize gA1 : xAlloc (vBeg X (tN (xAbs X)) f b) f = A1
              refine pw_putf (a := cV (tN (xAbs X))) n_16_77 fl_0_188 (by decide) rfl rfl (Or.inl rfl) (wrX (sh_V_ringPage (tN (xAbs X)) (by omega)) (by decide)) rfl ?_
              refine pw_aload n_16_80 rfl rfl ?_
              refine pw_aload_n n_16_82 rfl rfl ?_
              refine pw_iload_n n_16_83 rfl rfl ?_
              refine pw_iload_n n_16_84 rfl rfl ?_
              refine pw_aload n_16_85 rfl rfl ?_
              refine pw_getf (a := cV (tN (xAbs X))) n_16_87 fl_0_188 (by decide) (rdX (sh_V_ringPage (tN (xAbs X)) (by omega)) (by decide)) rfl ?_
              refine pw_top (y := A1.1) (by simp [xCo_k, gup_k, gup_s, vBeg_k, eSet_k, eClr_k, hSet_k, hClr_k, qSet_k, qCls_k, xAlloc_k, xGrant_k, xMap_k, xOpen_k, xBind_k, xSend_k, xStore_k, xEnd_k, xFree_k, xUnmap_k, mAlloc_k, mGrant_k, mMap_k, mOpen_k, mBind_k, mSend_k, mEnd_k, mFree_k, mTk_k]) ?_
              refine pw_iconst n_16_90 ic_1 rfl ?_
              refine pw_virtV (a := 0) (as := [.int f, .int b, .int A1.1, .int 1]) (st := [.ref (cV (tN (xAbs X)) + 1)]) n_16_91 cl_0_191 ⟨rfl, rfl, rfl⟩ (sum8 rfl) (E_tg sh_G_domains) rfl (w_5 (x := f) (t := b) (p := A1.1) (k := 1) _) ?_
              generalize gA2 : xGrant (gup A1.2 17 (tN (xAbs X)) 0 A1.1) f b A1.1 1 = A2
              refine pw_putf (a := cV (tN (xAbs X))) n_16_94 fl_0_195 (by decide) rfl rfl (Or.inl rfl) (wrX (sh_V_ringEntry (tN (xAbs X)) (by omega)) (by decide)) rfl ?_
              refine pw_aload n_16_97 rfl rfl ?_
              refine pw_aload_n n_16_99 rfl rfl ?_
              refine pw_iload_n n_16_100 rfl rfl ?_
              refine pw_iload_n n_16_101 rfl rfl ?_
              refine pw_aload n_16_102 rfl rfl ?_
              refine pw_getf (a := cV (tN (xAbs X))) n_16_104 fl_0_195 (by decide) (rdX (sh_V_ringEntry (tN (xAbs X)) (by omega)) (by decide)) rfl ?_
              refine pw_top (y := A2.1) (by simp [xCo_k, gup_k, gup_s, vBeg_k, eSet_k, eClr_k, hSet_k, hClr_k, qSet_k, qCls_k, xAlloc_k, xGrant_k, xMap_k, xOpen_k, xBind_k, xSend_k, xStore_k, xEnd_k, xFree_k, xUnmap_k, mAlloc_k, mGrant_k, mMap_k, mOpen_k, mBind_k, mSend_k, mEnd_k, mFree_k, mTk_k]) ?_
              refine pw_iconst n_16_107 ic_1 rfl ?_
              refine pw_virtV (a := 0) (as := [.int b, .int f, .int A2.1, .int 1]) (st := [.ref (cV (tN (xAbs X)) + 1)]) n_16_108 cl_0_198 ⟨rfl, rfl, rfl⟩ (sum8 rfl) (E_tg sh_G_domains) rfl (w_7 (x := b) (f := f) (r := A2.1) (w := true) _) ?_
              generalize gA3 : xMap (gup A2.2 18 (tN (xAbs X)) 0 A2.1) b f A2.1 true = A3
              refine pw_putf (a := cV (tN (xAbs X))) n_16_111 fl_0_201 (by decide) rfl rfl (Or.inl rfl) (wrX (sh_V_ringHandle (tN (xAbs X)) (by omega)) (by decide)) rfl ?_
              refine pw_aload n_16_114 rfl rfl ?_
              refine pw_aload_n n_16_116 rfl rfl ?_
              refine pw_iload_n n_16_117 rfl rfl ?_
              refine pw_iload_n n_16_118 rfl rfl ?_
              refine pw_virtV (a := 0) (as := [.int f, .int b]) (st := [.ref (cV (tN (xAbs X)) + 1)]) n_16_119 cl_0_204 ⟨rfl, rfl, rfl⟩ (sum8 rfl) (E_tg sh_G_domains) rfl (w_12 (x := f) (t := b) _) ?_
              generalize gA4 : xOpen (gup A3.2 19 (tN (xAbs X)) 0 A3.1) f b = A4
              refine pw_putf (a := cV (tN (xAbs X))) n_16_122 fl_0_208 (by decide) rfl rfl (Or.inl rfl) (wrX (sh_V_frontPort (tN (xAbs X)) (by omega)) (by decide)) rfl ?_
              refine pw_aload n_16_125 rfl rfl ?_
              refine pw_aload_n n_16_127 rfl rfl ?_
              refine pw_iload_n n_16_128 rfl rfl ?_
              refine pw_iload_n n_16_129 rfl rfl ?_
              refine pw_aload n_16_130 rfl rfl ?_
              refine pw_getf (a := cV (tN (xAbs X))) n_16_132 fl_0_208 (by decide) (rdX (sh_V_frontPort (tN (xAbs X)) (by omega)) (by decide)) rfl ?_
              refine pw_top (y := A4.1) (by simp [xCo_k, gup_k, gup_s, vBeg_k, eSet_k, eClr_k, hSet_k, hClr_k, qSet_k, qCls_k, xAlloc_k, xGrant_k, xMap_k, xOpen_k, xBind_k, xSend_k, xStore_k, xEnd_k, xFree_k, xUnmap_k, mAlloc_k, mGrant_k, mMap_k, mOpen_k, mBind_k, mSend_k, mEnd_k, mFree_k, mTk_k]) ?_
              refine pw_virtV (a := 0) (as := [.int b, .int f, .int A4.1]) (st := [.ref (cV (tN (xAbs X)) + 1)]) n_16_135 cl_0_211 ⟨rfl, rfl, rfl⟩ (sum8 rfl) (E_tg sh_G_domains) rfl (w_13 (x := b) (t := f) (k := A4.1) _) ?_
              generalize gA5 : xBind (gup A4.2 20 (tN (xAbs X)) 0 A4.1) b f A4.1 = A5
              refine pw_putf (a := cV (tN (xAbs X))) n_16_138 fl_0_215 (by decide) rfl rfl (Or.inl rfl) (wrX (sh_V_backPort (tN (xAbs X)) (by omega)) (by decide)) rfl ?_
              refine pw_iload_n n_16_141 rfl rfl ?_
              exact pw_ireturn (ty := .int) n_16_142 rfl rfl (by first | (simp [xAttach, xAtt, xA1, xA2, xA3, xA4, xA5, xA6, h1, h2, h3, h4, h5, h6, gA1, gA2, gA3, gA4, gA5, bI_t, bI_f, nI_add1, gup_k, eSet_k, eClr_k, hSet_k, hClr_k, qSet_k, qCls_k]; done) | contradiction | (split <;> first | rfl | (simp_all; done)) | simp [xAttach, xAtt, xA1, xA2, xA3, xA4, xA5, xA6, h1, h2, h3, h4, h5, h6, gA1, gA2, gA3, gA4, gA5, bI_t, bI_f, nI_add1, gup_k, eSet_k, eClr_k, hSet_k, hClr_k, qSet_k, qCls_k])
            ·
              refine pw_bipush n_16_52 bc_m7 rfl ?_
              exact pw_ireturn (ty := .int) n_16_54 rfl rfl (by first | (simp [xAttach, xAtt, xA1, xA2, xA3, xA4, xA5, xA6, h1, h2, h3, h4, h5, h6, bI_t, bI_f, nI_add1, gup_k, eSet_k, eClr_k, hSet_k, hClr_k, qSet_k, qCls_k]; done) | contradiction | (split <;> first | rfl | (simp_all; done)) | simp [xAttach, xAtt, xA1, xA2, xA3, xA4, xA5, xA6, h1, h2, h3, h4, h5, h6, bI_t, bI_f, nI_add1, gup_k, eSet_k, eClr_k, hSet_k, hClr_k, qSet_k, qCls_k])
      ·
        refine pw_bipush n_16_23 bc_m2 rfl ?_
        exact pw_ireturn (ty := .int) n_16_25 rfl rfl (by first | (simp [xAttach, xAtt, xA1, xA2, xA3, xA4, xA5, xA6, h1, h2, h3, (Classical.not_not.mp h3), bI_t, bI_f, nI_add1, gup_k, eSet_k, eClr_k, hSet_k, hClr_k, qSet_k, qCls_k]; done) | contradiction | (split <;> first | rfl | (simp_all; done)) | simp [xAttach, xAtt, xA1, xA2, xA3, xA4, xA5, xA6, h1, h2, h3, (Classical.not_not.mp h3), bI_t, bI_f, nI_add1, gup_k, eSet_k, eClr_k, hSet_k, hClr_k, qSet_k, qCls_k])
    ·
      refine pw_iconst n_16_16 ic_m1 rfl ?_
      exact pw_ireturn (ty := .int) n_16_17 rfl rfl (by first | (simp [xAttach, xAtt, xA1, xA2, xA3, xA4, xA5, xA6, h1, h2, bI_t, bI_f, nI_add1, gup_k, eSet_k, eClr_k, hSet_k, hClr_k, qSet_k, qCls_k]; done) | contradiction | (split <;> first | rfl | (simp_all; done)) | simp [xAttach, xAtt, xA1, xA2, xA3, xA4, xA5, xA6, h1, h2, bI_t, bI_f, nI_add1, gup_k, eSet_k, eClr_k, hSet_k, hClr_k, qSet_k, qCls_k])
set_option maxRecDepth 100000 in
set_option maxHeartbeats 4000000 in
theorem w_20 {X M : gS} {w : Int32} {a : Int32} {b : Int32} (ho : xDom a = true → hOk X (tN a)) (d : Nat) : pm_Call (d + 3) 20 [.ref 1, .int w, .int a, .int b] (gE X M) (some (.long (xLook X w a b)), gE X M) := by
  refine pw_start (d := d + 2) (l := [some (.ref 1), some (.int w), some (.int a), some (.int b)]) (Nat.le_of_ble_eq_true rfl) rfl ?_
  refine pw_iload_n n_20_0 rfl rfl ?_
  by_cases h1 : w = 0
  · subst h1
    refine pw_tableIn (q := 44) n_20_1 (by decide) rfl rfl ?_
    refine pw_iload_n n_20_44 rfl rfl ?_
    refine pw_statV (as := [.int a]) (st := []) n_20_45 cl_0_277 ⟨rfl, rfl, rfl⟩ (sum8 rfl) rfl (w_21 (x := a) _) ?_
    refine pw_ifb_eq (q := 64) n_20_48 rfl rfl (fun h2 => ?_) (fun h2 => ?_)
    ·
      refine pw_ldc2 n_20_64 l2_0_280 rfl ?_
      exact pw_lreturn n_20_67 rfl (by first | (simp [xLook, h2, bI_t, bI_f, nI_add1, gup_k, eSet_k, eClr_k, hSet_k, hClr_k, qSet_k, qCls_k]; done) | contradiction | (split <;> first | rfl | (simp_all; done)) | simp [xLook, h2, bI_t, bI_f, nI_add1, gup_k, eSet_k, eClr_k, hSet_k, hClr_k, qSet_k, qCls_k])
    ·
      obtain ⟨h2a, h2b⟩ := ir_dom h2
      refine pw_aload_n n_20_51 rfl rfl ?_
      refine pw_getf (a := 0) n_20_52 fl_0_11 (by decide) (rdR (sh_G_domains)) rfl ?_
      refine pw_iload_n n_20_55 rfl rfl ?_
      refine pw_aald (a := 1) (t := 102) (u := 1) n_20_56 (by assumption) rfl (by decide) rfl (rdR (sh_DA (tN a) (by omega))) rfl ?_
      refine pw_getf (a := cD (tN a)) n_20_57 fl_0_30 (by decide) (rdX (sh_D_state (tN a) (by omega)) (by decide)) rfl ?_
      refine pw_i2l n_20_60 rfl ?_
      refine pw_goto (q := 67) n_20_61 rfl ?_
      exact pw_lreturn n_20_67 rfl (by first | (simp [xLook, h2, bI_t, bI_f, nI_add1, gup_k, eSet_k, eClr_k, hSet_k, hClr_k, qSet_k, qCls_k]; done) | contradiction | (split <;> first | rfl | (simp_all; done)) | simp [xLook, h2, bI_t, bI_f, nI_add1, gup_k, eSet_k, eClr_k, hSet_k, hClr_k, qSet_k, qCls_k])
  by_cases h3 : w = 1
  · subst h3
    refine pw_tableIn (q := 68) n_20_1 (by decide) rfl rfl ?_
    refine pw_iload_n n_20_68 rfl rfl ?_
    refine pw_statV (as := [.int a]) (st := []) n_20_69 cl_0_282 ⟨rfl, rfl, rfl⟩ (sum8 rfl) rfl (w_23 (x := a) _) ?_
    refine pw_ifb_eq (q := 88) n_20_72 rfl rfl (fun h4 => ?_) (fun h4 => ?_)
    ·
      refine pw_ldc2 n_20_88 l2_0_280 rfl ?_
      exact pw_lreturn n_20_91 rfl (by first | (simp [xLook, h4, bI_t, bI_f, nI_add1, gup_k, eSet_k, eClr_k, hSet_k, hClr_k, qSet_k, qCls_k]; done) | contradiction | (split <;> first | rfl | (simp_all; done)) | simp [xLook, h4, bI_t, bI_f, nI_add1, gup_k, eSet_k, eClr_k, hSet_k, hClr_k, qSet_k, qCls_k])
    ·
      obtain ⟨h4a, h4b⟩ := ir_pag h4
      refine pw_aload_n n_20_75 rfl rfl ?_
      refine pw_getf (a := 0) n_20_76 fl_0_17 (by decide) (rdR (sh_G_pages)) rfl ?_
      refine pw_iload_n n_20_79 rfl rfl ?_
      refine pw_aald (a := 2) (t := 103) (u := 2) n_20_80 (by assumption) rfl (by decide) rfl (rdR (sh_PA (tN a) (by omega))) rfl ?_
      refine pw_getf (a := cP (tN a)) n_20_81 fl_0_61 (by decide) (rdX (sh_P_owner (tN a) (by omega)) (by decide)) rfl ?_
      refine pw_i2l n_20_84 rfl ?_
      refine pw_goto (q := 91) n_20_85 rfl ?_
      exact pw_lreturn n_20_91 rfl (by first | (simp [xLook, h4, bI_t, bI_f, nI_add1, gup_k, eSet_k, eClr_k, hSet_k, hClr_k, qSet_k, qCls_k]; done) | contradiction | (split <;> first | rfl | (simp_all; done)) | simp [xLook, h4, bI_t, bI_f, nI_add1, gup_k, eSet_k, eClr_k, hSet_k, hClr_k, qSet_k, qCls_k])
  by_cases h5 : w = 2
  · subst h5
    refine pw_tableIn (q := 92) n_20_1 (by decide) rfl rfl ?_
    refine pw_iload_n n_20_92 rfl rfl ?_
    refine pw_statV (as := [.int a]) (st := []) n_20_93 cl_0_277 ⟨rfl, rfl, rfl⟩ (sum8 rfl) rfl (w_21 (x := a) _) ?_
    refine pw_ifb_eq (q := 130) n_20_96 rfl rfl (fun h6 => ?_) (fun h6 => ?_)
    ·
      refine pw_ldc2 n_20_130 l2_0_280 rfl ?_
      exact pw_lreturn n_20_133 rfl (by first | (simp [xLook, h6, bI_t, bI_f, nI_add1, gup_k, eSet_k, eClr_k, hSet_k, hClr_k, qSet_k, qCls_k]; done) | contradiction | (split <;> first | rfl | (simp_all; done)) | simp [xLook, h6, bI_t, bI_f, nI_add1, gup_k, eSet_k, eClr_k, hSet_k, hClr_k, qSet_k, qCls_k])
    ·
      obtain ⟨h6a, h6b⟩ := ir_dom h6
      refine pw_aload_n n_20_99 rfl rfl ?_
      refine pw_getf (a := 0) n_20_100 fl_0_11 (by decide) (rdR (sh_G_domains)) rfl ?_
      refine pw_iload_n n_20_103 rfl rfl ?_
      refine pw_aald (a := 1) (t := 102) (u := 1) n_20_104 (by assumption) rfl (by decide) rfl (rdR (sh_DA (tN a) (by omega))) rfl ?_
      refine pw_iload_n n_20_105 rfl rfl ?_
      refine pw_virtV (a := cD (tN a)) (as := [.int b]) (st := []) n_20_106 cl_0_91 ⟨rfl, rfl, rfl⟩ (sum8 rfl) (E_tg (sh_D_state (tN a) (by omega))) rfl (w_52 (a := (tN a)) (r := b) (by omega) _) ?_
      refine pw_ifb_eq (q := 130) n_20_109 rfl rfl (fun h7 => ?_) (fun h7 => ?_)
      ·
        refine pw_ldc2 n_20_130 l2_0_280 rfl ?_
        exact pw_lreturn n_20_133 rfl (by first | (simp [xLook, h6, h7, bI_t, bI_f, nI_add1, gup_k, eSet_k, eClr_k, hSet_k, hClr_k, qSet_k, qCls_k]; done) | contradiction | (split <;> first | rfl | (simp_all; done)) | simp [xLook, h6, h7, bI_t, bI_f, nI_add1, gup_k, eSet_k, eClr_k, hSet_k, hClr_k, qSet_k, qCls_k])
      ·
        obtain ⟨h7a, h7b⟩ := ir_hasE h7
        refine pw_aload_n n_20_112 rfl rfl ?_
        refine pw_getf (a := 0) n_20_113 fl_0_11 (by decide) (rdR (sh_G_domains)) rfl ?_
        refine pw_iload_n n_20_116 rfl rfl ?_
        refine pw_aald (a := 1) (t := 102) (u := 1) n_20_117 (by assumption) rfl (by decide) rfl (rdR (sh_DA (tN a) (by omega))) rfl ?_
        refine pw_getf (a := cD (tN a)) n_20_118 fl_0_81 (by decide) (rdR (sh_D_entries (tN a) (by omega))) rfl ?_
        refine pw_iload_n n_20_121 rfl rfl ?_
        refine pw_aald (a := cD (tN a) + 1) (t := 105) (u := 4) n_20_122 (by assumption) rfl (by decide) rfl (rdR (sh_EA (tN a) (by omega) (tN b) (by omega))) rfl ?_
        refine pw_getf (a := cE (tN a) (tN b)) n_20_123 fl_0_119 (by decide) (rdX (sh_E_mappings (tN a) (by omega) (tN b) (by omega)) (by decide)) rfl ?_
        refine pw_i2l n_20_126 rfl ?_
        refine pw_goto (q := 133) n_20_127 rfl ?_
        exact pw_lreturn n_20_133 rfl (by first | (simp [xLook, h6, h7, bI_t, bI_f, nI_add1, gup_k, eSet_k, eClr_k, hSet_k, hClr_k, qSet_k, qCls_k]; done) | contradiction | (split <;> first | rfl | (simp_all; done)) | simp [xLook, h6, h7, bI_t, bI_f, nI_add1, gup_k, eSet_k, eClr_k, hSet_k, hClr_k, qSet_k, qCls_k])
  by_cases h8 : w = 3
  · subst h8
    refine pw_tableIn (q := 134) n_20_1 (by decide) rfl rfl ?_
    refine pw_iload_n n_20_134 rfl rfl ?_
    refine pw_statV (as := [.int a]) (st := []) n_20_135 cl_0_277 ⟨rfl, rfl, rfl⟩ (sum8 rfl) rfl (w_21 (x := a) _) ?_
    refine pw_ifb_eq (q := 173) n_20_138 rfl rfl (fun h9 => ?_) (fun h9 => ?_)
    ·
      refine pw_ldc2 n_20_173 l2_0_280 rfl ?_
      exact pw_lreturn n_20_176 rfl (by first | (simp [xLook, h9, bI_t, bI_f, nI_add1, gup_k, eSet_k, eClr_k, hSet_k, hClr_k, qSet_k, qCls_k]; done) | contradiction | (split <;> first | rfl | (simp_all; done)) | simp [xLook, h9, bI_t, bI_f, nI_add1, gup_k, eSet_k, eClr_k, hSet_k, hClr_k, qSet_k, qCls_k])
    ·
      obtain ⟨h9a, h9b⟩ := ir_dom h9
      refine pw_aload_n n_20_141 rfl rfl ?_
      refine pw_getf (a := 0) n_20_142 fl_0_11 (by decide) (rdR (sh_G_domains)) rfl ?_
      refine pw_iload_n n_20_145 rfl rfl ?_
      refine pw_aald (a := 1) (t := 102) (u := 1) n_20_146 (by assumption) rfl (by decide) rfl (rdR (sh_DA (tN a) (by omega))) rfl ?_
      refine pw_iload_n n_20_147 rfl rfl ?_
      refine pw_virtV (a := cD (tN a)) (as := [.int b]) (st := []) n_20_148 cl_0_122 ⟨rfl, rfl, rfl⟩ (sum8 rfl) (E_tg (sh_D_state (tN a) (by omega))) rfl (w_53 (a := (tN a)) (r := b) (by omega) _) ?_
      refine pw_ifb_eq (q := 173) n_20_151 rfl rfl (fun h10 => ?_) (fun h10 => ?_)
      ·
        refine pw_ldc2 n_20_173 l2_0_280 rfl ?_
        exact pw_lreturn n_20_176 rfl (by first | (simp [xLook, h9, h10, bI_t, bI_f, nI_add1, gup_k, eSet_k, eClr_k, hSet_k, hClr_k, qSet_k, qCls_k]; done) | contradiction | (split <;> first | rfl | (simp_all; done)) | simp [xLook, h9, h10, bI_t, bI_f, nI_add1, gup_k, eSet_k, eClr_k, hSet_k, hClr_k, qSet_k, qCls_k])
      ·
        obtain ⟨h10a, h10b⟩ := ir_hasH h10
        obtain ⟨f0, f1, e0, e1⟩ := ho (by assumption) _ (by assumption) (has_nf h10)
        refine pw_aload_n n_20_154 rfl rfl ?_
        refine pw_aload_n n_20_155 rfl rfl ?_
        refine pw_getf (a := 0) n_20_156 fl_0_11 (by decide) (rdR (sh_G_domains)) rfl ?_
        refine pw_iload_n n_20_159 rfl rfl ?_
        refine pw_aald (a := 1) (t := 102) (u := 1) n_20_160 (by assumption) rfl (by decide) rfl (rdR (sh_DA (tN a) (by omega))) rfl ?_
        refine pw_getf (a := cD (tN a)) n_20_161 fl_0_110 (by decide) (rdR (sh_D_handles (tN a) (by omega))) rfl ?_
        refine pw_iload_n n_20_164 rfl rfl ?_
        refine pw_aald (a := cD (tN a) + 2) (t := 106) (u := 5) n_20_165 (by assumption) rfl (by decide) rfl (rdR (sh_HA (tN a) (by omega) (tN b) (by omega))) rfl ?_
        refine pw_virtV (a := 0) (as := [.ref (cH (tN a) (tN b) + 1)]) (st := []) n_20_166 cl_0_285 ⟨rfl, rfl, rfl⟩ (sum8 rfl) (E_tg sh_G_domains) rfl (w_34 (a := (tN a)) (h := (tN b)) (by omega) (by omega) (by assumption) (by assumption) (by assumption) (by assumption) _) ?_
        refine pw_i2l n_20_169 rfl ?_
        refine pw_goto (q := 176) n_20_170 rfl ?_
        exact pw_lreturn n_20_176 rfl (by first | (simp [xLook, h9, h10, bI_t, bI_f, nI_add1, gup_k, eSet_k, eClr_k, hSet_k, hClr_k, qSet_k, qCls_k]; done) | contradiction | (split <;> first | rfl | (simp_all; done)) | simp [xLook, h9, h10, bI_t, bI_f, nI_add1, gup_k, eSet_k, eClr_k, hSet_k, hClr_k, qSet_k, qCls_k])
  by_cases h11 : w = 4
  · subst h11
    refine pw_tableIn (q := 177) n_20_1 (by decide) rfl rfl ?_
    refine pw_iload_n n_20_177 rfl rfl ?_
    refine pw_statV (as := [.int a]) (st := []) n_20_178 cl_0_277 ⟨rfl, rfl, rfl⟩ (sum8 rfl) rfl (w_21 (x := a) _) ?_
    refine pw_ifb_eq (q := 193) n_20_181 rfl rfl (fun h12 => ?_) (fun h12 => ?_)
    ·
      refine pw_ldc2 n_20_193 l2_0_280 rfl ?_
      exact pw_lreturn n_20_196 rfl (by first | (simp [xLook, h12, bI_t, bI_f, nI_add1, gup_k, eSet_k, eClr_k, hSet_k, hClr_k, qSet_k, qCls_k]; done) | contradiction | (split <;> first | rfl | (simp_all; done)) | simp [xLook, h12, bI_t, bI_f, nI_add1, gup_k, eSet_k, eClr_k, hSet_k, hClr_k, qSet_k, qCls_k])
    ·
      obtain ⟨h12a, h12b⟩ := ir_dom h12
      refine pw_aload_n n_20_184 rfl rfl ?_
      refine pw_iload_n n_20_185 rfl rfl ?_
      refine pw_virtV (a := 0) (as := [.int a]) (st := []) n_20_186 cl_0_129 ⟨rfl, rfl, rfl⟩ (sum8 rfl) (E_tg sh_G_domains) rfl (w_28 (x := a) _) ?_
      refine pw_i2l n_20_189 rfl ?_
      refine pw_goto (q := 196) n_20_190 rfl ?_
      exact pw_lreturn n_20_196 rfl (by first | (simp [xLook, h12, bI_t, bI_f, nI_add1, gup_k, eSet_k, eClr_k, hSet_k, hClr_k, qSet_k, qCls_k]; done) | contradiction | (split <;> first | rfl | (simp_all; done)) | simp [xLook, h12, bI_t, bI_f, nI_add1, gup_k, eSet_k, eClr_k, hSet_k, hClr_k, qSet_k, qCls_k])
  by_cases h13 : w = 5
  · subst h13
    refine pw_tableIn (q := 197) n_20_1 (by decide) rfl rfl ?_
    refine pw_aload_n n_20_197 rfl rfl ?_
    refine pw_iload_n n_20_198 rfl rfl ?_
    refine pw_virtV (a := 0) (as := [.int a]) (st := []) n_20_199 cl_0_289 ⟨rfl, rfl, rfl⟩ (sum8 rfl) (E_tg sh_G_domains) rfl (w_26 (v := a) _) ?_
    refine pw_ifb_eq (q := 234) n_20_202 rfl rfl (fun h14 => ?_) (fun h14 => ?_)
    ·
      refine pw_ldc2 n_20_234 l2_0_280 rfl ?_
      exact pw_lreturn n_20_237 rfl (by first | (simp [xLook, h14, bI_t, bI_f, nI_add1, gup_k, eSet_k, eClr_k, hSet_k, hClr_k, qSet_k, qCls_k]; done) | contradiction | (split <;> first | rfl | (simp_all; done)) | simp [xLook, h14, bI_t, bI_f, nI_add1, gup_k, eSet_k, eClr_k, hSet_k, hClr_k, qSet_k, qCls_k])
    ·
      obtain ⟨h14a, h14b⟩ := ir_pres h14
      refine pw_iload_n n_20_205 rfl rfl ?_
      refine pw_if_lt (q := 234) n_20_206 rfl rfl (fun h15 => ?_) (fun h15 => ?_)
      ·
        refine pw_ldc2 n_20_234 l2_0_280 rfl ?_
        exact pw_lreturn n_20_237 rfl (by first | (simp [xLook, h14, h15, (i32_c h15), bI_t, bI_f, nI_add1, gup_k, eSet_k, eClr_k, hSet_k, hClr_k, qSet_k, qCls_k]; done) | contradiction | (split <;> first | rfl | (simp_all; done)) | simp [xLook, h14, h15, (i32_c h15), bI_t, bI_f, nI_add1, gup_k, eSet_k, eClr_k, hSet_k, hClr_k, qSet_k, qCls_k])
      ·
        refine pw_iload_n n_20_209 rfl rfl ?_
        refine pw_bipush n_20_210 bc_8 rfl ?_
        refine pw_icmp_ge (q := 234) n_20_212 rfl rfl (fun h16 => ?_) (fun h16 => ?_)
        ·
          refine pw_ldc2 n_20_234 l2_0_280 rfl ?_
          exact pw_lreturn n_20_237 rfl (by first | (simp [xLook, h14, h15, (i32_d h15), h16, (i32_a h16), bI_t, bI_f, nI_add1, gup_k, eSet_k, eClr_k, hSet_k, hClr_k, qSet_k, qCls_k]; done) | contradiction | (split <;> first | rfl | (simp_all; done)) | simp [xLook, h14, h15, (i32_d h15), h16, (i32_a h16), bI_t, bI_f, nI_add1, gup_k, eSet_k, eClr_k, hSet_k, hClr_k, qSet_k, qCls_k])
        ·
          have h16b := tN_lt (z := b) (k := 8) (by decide) h16
          refine pw_aload_n n_20_215 rfl rfl ?_
          refine pw_getf (a := 0) n_20_216 fl_0_23 (by decide) (rdR (sh_G_devices)) rfl ?_
          refine pw_iload_n n_20_219 rfl rfl ?_
          refine pw_aald (a := 3) (t := 104) (u := 3) n_20_220 (by assumption) rfl (by decide) rfl (rdR (sh_VA (tN a) (by omega))) rfl ?_
          refine pw_getf (a := cV (tN a)) n_20_221 fl_0_292 (by decide) (rdR (sh_V_disk (tN a) (by omega))) rfl ?_
          refine pw_iload_n n_20_224 rfl rfl ?_
          refine pw_iald (a := cV (tN a) + 3) n_20_225 (by assumption) rfl (rdX (sh_DK (tN a) (by omega) (tN b) (by omega)) (by decide)) rfl ?_
          refine pw_i2l n_20_226 rfl ?_
          refine pw_ldc2 n_20_227 l2_0_140 rfl ?_
          refine pw_land n_20_230 rfl ?_
          refine pw_goto (q := 237) n_20_231 rfl ?_
          exact pw_lreturn n_20_237 rfl (by first | (simp [xLook, h14, h15, (i32_d h15), h16, (i32_b h16), bI_t, bI_f, nI_add1, gup_k, eSet_k, eClr_k, hSet_k, hClr_k, qSet_k, qCls_k]; done) | contradiction | (split <;> first | rfl | (simp_all; done)) | simp [xLook, h14, h15, (i32_d h15), h16, (i32_b h16), bI_t, bI_f, nI_add1, gup_k, eSet_k, eClr_k, hSet_k, hClr_k, qSet_k, qCls_k])
  by_cases h17 : w = 6
  · subst h17
    refine pw_tableIn (q := 238) n_20_1 (by decide) rfl rfl ?_
    refine pw_aload_n n_20_238 rfl rfl ?_
    refine pw_iload_n n_20_239 rfl rfl ?_
    refine pw_virtV (a := 0) (as := [.int a]) (st := []) n_20_240 cl_0_289 ⟨rfl, rfl, rfl⟩ (sum8 rfl) (E_tg sh_G_domains) rfl (w_26 (v := a) _) ?_
    refine pw_ifb_eq (q := 259) n_20_243 rfl rfl (fun h18 => ?_) (fun h18 => ?_)
    ·
      refine pw_ldc2 n_20_259 l2_0_280 rfl ?_
      exact pw_lreturn n_20_262 rfl (by first | (simp [xLook, h18, bI_t, bI_f, nI_add1, gup_k, eSet_k, eClr_k, hSet_k, hClr_k, qSet_k, qCls_k]; done) | contradiction | (split <;> first | rfl | (simp_all; done)) | simp [xLook, h18, bI_t, bI_f, nI_add1, gup_k, eSet_k, eClr_k, hSet_k, hClr_k, qSet_k, qCls_k])
    ·
      obtain ⟨h18a, h18b⟩ := ir_pres h18
      refine pw_aload_n n_20_246 rfl rfl ?_
      refine pw_getf (a := 0) n_20_247 fl_0_23 (by decide) (rdR (sh_G_devices)) rfl ?_
      refine pw_iload_n n_20_250 rfl rfl ?_
      refine pw_aald (a := 3) (t := 104) (u := 3) n_20_251 (by assumption) rfl (by decide) rfl (rdR (sh_VA (tN a) (by omega))) rfl ?_
      refine pw_virtV (a := cV (tN a)) (as := []) (st := []) n_20_252 cl_0_221 ⟨rfl, rfl, rfl⟩ (sum8 rfl) (E_tg (sh_V_present (tN a) (by omega))) rfl (w_64 (v := (tN a)) (by omega) _) ?_
      refine pw_i2l n_20_255 rfl ?_
      refine pw_goto (q := 262) n_20_256 rfl ?_
      exact pw_lreturn n_20_262 rfl (by first | (simp [xLook, h18, bI_t, bI_f, nI_add1, gup_k, eSet_k, eClr_k, hSet_k, hClr_k, qSet_k, qCls_k]; done) | contradiction | (split <;> first | rfl | (simp_all; done)) | simp [xLook, h18, bI_t, bI_f, nI_add1, gup_k, eSet_k, eClr_k, hSet_k, hClr_k, qSet_k, qCls_k])
  refine pw_tableOut (q := 263) n_20_1 (sw7 h1 h3 h5 h8 h11 h13 h17) rfl ?_
  refine pw_ldc2 n_20_263 l2_0_280 rfl ?_
  exact pw_lreturn n_20_266 rfl (by first | (simp [xLook, h1, h3, h5, h8, h11, h13, h17, bI_t, bI_f, nI_add1, gup_k, eSet_k, eClr_k, hSet_k, hClr_k, qSet_k, qCls_k]; done) | contradiction | (split <;> first | rfl | (simp_all; done)) | simp [xLook, h1, h3, h5, h8, h11, h13, h17, bI_t, bI_f, nI_add1, gup_k, eSet_k, eClr_k, hSet_k, hClr_k, qSet_k, qCls_k])
