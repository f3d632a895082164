set_option maxRecDepth 100000 in
set_option maxHeartbeats 4000000 in
theorem w_17t {X M : gS} {x : Int32} {s : Int32} {z : Int32} (dv : xPres X x = true → dvF X (tN x)) (su : xDc X x = 0 → (¬ X 15 (tN x) 0 < 0 ∧ tN (X 15 (tN x) 0) < 5 ∧ ¬ X 17 (tN x) 0 < 0 ∧ tN (X 17 (tN x) 0) < 20 ∧ ¬ X 22 (tN x) 0 < 0 ∧ hOkA X ∧ pqA X)) (d : Nat) : pm_Call (d + 6) 17 [.ref 1, .int x, .int 1, .int s, .int z] (gE X M) (some (.int ((xSubmit X x true s z).1)), gE ((xSubmit X x true s z).2) M) := by
  refine pw_start (d := d + 5) (l := [some (.ref 1), some (.int x), some (.int 1), some (.int s), some (.int z), none, none, none, none, none]) (Nat.le_of_ble_eq_true rfl) rfl ?_
  refine pw_aload_n n_17_0 rfl rfl ?_
  refine pw_iload_n n_17_1 rfl rfl ?_
  refine pw_virtV (a := 0) (as := [.int x]) (st := []) n_17_2 cl_0_218 ⟨rfl, rfl, rfl⟩ (sum8 rfl) (E_tg sh_G_domains) rfl (w_47 (v := x) (by assumption) _) ?_
  refine pw_istore (l := [some (.ref 1), some (.int x), some (.int 1), some (.int s), some (.int z), some (.int (xDc X x)), none, none, none, none]) n_17_5 rfl rfl ?_
  refine pw_iload n_17_7 rfl rfl ?_
  refine pw_if_eq (q := 15) n_17_9 rfl rfl (fun h1 => ?_) (fun h1 => ?_)
  ·
    obtain ⟨v0, v1⟩ := ir_dc h1
    obtain ⟨x0, x1, rp0, rp1, q0, hoA, hpq⟩ := su h1
    refine pw_iload_n n_17_15 rfl rfl ?_
    refine pw_if_lt (q := 25) n_17_16 rfl rfl (fun h2 => ?_) (fun h2 => ?_)
    ·
      refine pw_bipush n_17_25 bc_m2 rfl ?_
      exact pw_ireturn (ty := .int) n_17_27 rfl rfl (by first | (simp [xSubmit, xSu, xSu1, xSu2, xSu3, h1, h2, (i32_c h2), bI_t, bI_f, nI_add1, gup_k, eSet_k, eClr_k, hSet_k, hClr_k, qSet_k, qCls_k]; done) | contradiction | (split <;> first | rfl | (simp_all; done)) | simp [xSubmit, xSu, xSu1, xSu2, xSu3, h1, h2, (i32_c h2), bI_t, bI_f, nI_add1, gup_k, eSet_k, eClr_k, hSet_k, hClr_k, qSet_k, qCls_k])
    ·
      refine pw_iload_n n_17_19 rfl rfl ?_
      refine pw_bipush n_17_20 bc_8 rfl ?_
      refine pw_icmp_lt (q := 28) n_17_22 rfl rfl (fun h3 => ?_) (fun h3 => ?_)
      ·
        have h3b := tN_lt2 (z := s) (k := 8) (by decide) h3
        refine pw_aload_n n_17_28 rfl rfl ?_
        refine pw_getf (a := 0) n_17_29 fl_0_23 (by decide) (rdR (sh_G_devices)) rfl ?_
        refine pw_iload_n n_17_32 rfl rfl ?_
        refine pw_aald (a := 3) (t := 104) (u := 3) n_17_33 (by assumption) rfl (by decide) rfl (rdR (sh_VA (tN x) (by omega))) rfl ?_
        refine pw_astore (l := [some (.ref 1), some (.int x), some (.int 1), some (.int s), some (.int z), some (.int (xDc X x)), some (.ref (cV (tN x) + 1)), none, none, none]) n_17_34 rfl rfl ?_
        refine pw_aload n_17_36 rfl rfl ?_
        refine pw_virtV (a := cV (tN x)) (as := []) (st := []) n_17_38 cl_0_221 ⟨rfl, rfl, rfl⟩ (sum8 rfl) (E_tg (sh_V_present (tN x) (by omega))) rfl (w_64 (v := (tN x)) (by omega) _) ?_
        refine pw_iconst n_17_41 ic_3 rfl ?_
        refine pw_icmp_ge (q := 57) n_17_42 rfl rfl (fun h4 => ?_) (fun h4 => ?_)
        ·
          refine pw_bipush n_17_57 bc_m7 rfl ?_
          exact pw_ireturn (ty := .int) n_17_59 rfl rfl (by first | (simp [xSubmit, xSu, xSu1, xSu2, xSu3, h1, h2, (i32_d h2), h3, (i32_c h3), h4, (i32_a h4), bI_t, bI_f, nI_add1, gup_k, eSet_k, eClr_k, hSet_k, hClr_k, qSet_k, qCls_k]; done) | contradiction | (split <;> first | rfl | (simp_all; done)) | simp [xSubmit, xSu, xSu1, xSu2, xSu3, h1, h2, (i32_d h2), h3, (i32_c h3), h4, (i32_a h4), bI_t, bI_f, nI_add1, gup_k, eSet_k, eClr_k, hSet_k, hClr_k, qSet_k, qCls_k])
        ·
          have h4b := tN_lt (z := (xUw X (tN x))) (k := 3) (by decide) h4
          refine pw_aload_n n_17_45 rfl rfl ?_
          refine pw_aload n_17_46 rfl rfl ?_
          refine pw_getf (a := cV (tN x)) n_17_48 fl_0_224 (by decide) (rdX (sh_V_front (tN x) (by omega)) (by decide)) rfl ?_
          refine pw_virtV (a := 0) (as := [.int (X 15 (tN x) 0)]) (st := []) n_17_51 cl_0_227 ⟨rfl, rfl, rfl⟩ (sum8 rfl) (E_tg sh_G_domains) rfl (w_44 (x := (X 15 (tN x) 0)) (by assumption) (by assumption) _) ?_
          refine pw_ifb_ne (q := 60) n_17_54 rfl rfl (fun h5 => ?_) (fun h5 => ?_)
          ·
            refine pw_aload_n n_17_60 rfl rfl ?_
            refine pw_aload n_17_61 rfl rfl ?_
            refine pw_getf (a := cV (tN x)) n_17_63 fl_0_224 (by decide) (rdX (sh_V_front (tN x) (by omega)) (by decide)) rfl ?_
            refine pw_virtV (a := 0) (as := [.int (X 15 (tN x) 0)]) (st := []) n_17_66 cl_0_185 ⟨rfl, rfl, rfl⟩ (sum8 rfl) (E_tg sh_G_domains) rfl (w_3 (x := (X 15 (tN x) 0)) _) ?_
            generalize gA1 : xAlloc X (X 15 (tN x) 0) = A1
            have hokn : xLive A1.2 (X 15 (tN x) 0) = true → hOk A1.2 (tN (X 15 (tN x) 0)) := fun hl => hOk_k (fun b => by simp [← gA1, xCo_k, mCo1_k, gup_k, gup_s, vBeg_k, eSet_k, eClr_k, hSet_k, hClr_k, qSet_k, qCls_k, xAlloc_k, xGrant_k, xMap_k, xOpen_k, xBind_k, xSend_k, xStore_k, xEnd_k, xFree_k, xUnmap_k, mAlloc_k, mGrant_k, mMap_k, mOpen_k, mBind_k, mSend_k, mEnd_k, mFree_k, mTk_k]) (fun b => by simp [← gA1, xCo_k, mCo1_k, gup_k, gup_s, vBeg_k, eSet_k, eClr_k, hSet_k, hClr_k, qSet_k, qCls_k, xAlloc_k, xGrant_k, xMap_k, xOpen_k, xBind_k, xSend_k, xStore_k, xEnd_k, xFree_k, xUnmap_k, mAlloc_k, mGrant_k, mMap_k, mOpen_k, mBind_k, mSend_k, mEnd_k, mFree_k, mTk_k]) (hoA _ (ir_live hl).2)
            refine pw_istore (l := [some (.ref 1), some (.int x), some (.int 1), some (.int s), some (.int z), some (.int (xDc X x)), some (.ref (cV (tN x) + 1)), some (.int A1.1), none, none]) n_17_69 rfl rfl ?_
            refine pw_iload_n n_17_71 rfl rfl ?_
            refine pw_if_eq_f (q := 90) n_17_72 rfl rfl (by decide) ?_
            refine pw_aload_n n_17_75 rfl rfl ?_
            refine pw_aload n_17_76 rfl rfl ?_
            refine pw_getf (a := cV (tN x)) n_17_78 fl_0_224 (by decide) (rdX (sh_V_front (tN x) (by omega)) (by decide)) rfl ?_
            refine pw_top (y := X 15 (tN x) 0) (by simp [← gA1, xCo_k, mCo1_k, gup_k, gup_s, vBeg_k, eSet_k, eClr_k, hSet_k, hClr_k, qSet_k, qCls_k, xAlloc_k, xGrant_k, xMap_k, xOpen_k, xBind_k, xSend_k, xStore_k, xEnd_k, xFree_k, xUnmap_k, mAlloc_k, mGrant_k, mMap_k, mOpen_k, mBind_k, mSend_k, mEnd_k, mFree_k, mTk_k]) ?_
            refine pw_iload n_17_81 rfl rfl ?_
            refine pw_iconst n_17_83 ic_0 rfl ?_
            refine pw_iload n_17_84 rfl rfl ?_
            refine pw_virtV (a := 0) (as := [.int (X 15 (tN x) 0), .int A1.1, .int 0, .int z]) (st := []) n_17_86 cl_0_230 ⟨rfl, rfl, rfl⟩ (sum8 rfl) (E_tg sh_G_domains) rfl (w_10 (x := (X 15 (tN x) 0)) (p := A1.1) (w := 0) (v := z) hokn _) ?_
            generalize gA2 : xStore A1.2 (X 15 (tN x) 0) A1.1 0 z = A2
            refine pw_pop n_17_89 rfl rfl ?_
            refine pw_aload_n n_17_90 rfl rfl ?_
            refine pw_aload n_17_91 rfl rfl ?_
            refine pw_getf (a := cV (tN x)) n_17_93 fl_0_224 (by decide) (rdX (sh_V_front (tN x) (by omega)) (by decide)) rfl ?_
            refine pw_top (y := X 15 (tN x) 0) (by simp [← gA2, ← gA1, xCo_k, mCo1_k, gup_k, gup_s, vBeg_k, eSet_k, eClr_k, hSet_k, hClr_k, qSet_k, qCls_k, xAlloc_k, xGrant_k, xMap_k, xOpen_k, xBind_k, xSend_k, xStore_k, xEnd_k, xFree_k, xUnmap_k, mAlloc_k, mGrant_k, mMap_k, mOpen_k, mBind_k, mSend_k, mEnd_k, mFree_k, mTk_k]) ?_
            refine pw_aload n_17_96 rfl rfl ?_
            refine pw_getf (a := cV (tN x)) n_17_98 fl_0_233 (by decide) (rdX (sh_V_back (tN x) (by omega)) (by decide)) rfl ?_
            refine pw_top (y := X 16 (tN x) 0) (by simp [← gA2, ← gA1, xCo_k, mCo1_k, gup_k, gup_s, vBeg_k, eSet_k, eClr_k, hSet_k, hClr_k, qSet_k, qCls_k, xAlloc_k, xGrant_k, xMap_k, xOpen_k, xBind_k, xSend_k, xStore_k, xEnd_k, xFree_k, xUnmap_k, mAlloc_k, mGrant_k, mMap_k, mOpen_k, mBind_k, mSend_k, mEnd_k, mFree_k, mTk_k]) ?_
            refine pw_iload n_17_101 rfl rfl ?_
            refine pw_iload_n n_17_103 rfl rfl ?_
            refine pw_if_eq_f (q := 111) n_17_104 rfl rfl (by decide) ?_
            refine pw_iconst n_17_107 ic_0 rfl ?_
            refine pw_goto (q := 112) n_17_108 rfl ?_
            refine pw_virtV (a := 0) (as := [.int (X 15 (tN x) 0), .int (X 16 (tN x) 0), .int A1.1, .int 0]) (st := []) n_17_112 cl_0_191 ⟨rfl, rfl, rfl⟩ (sum8 rfl) (E_tg sh_G_domains) rfl (w_5 (x := (X 15 (tN x) 0)) (t := (X 16 (tN x) 0)) (p := A1.1) (k := 0) _) ?_
            generalize gA3 : xGrant A2.2 (X 15 (tN x) 0) (X 16 (tN x) 0) A1.1 0 = A3
            have r17 : A3.2 17 (tN x) 0 = X 17 (tN x) 0 := by simp [← gA1, ← gA2, ← gA3, xCo_k, mCo1_k, gup_k, gup_s, vBeg_k, eSet_k, eClr_k, hSet_k, hClr_k, qSet_k, qCls_k, xAlloc_k, xGrant_k, xMap_k, xOpen_k, xBind_k, xSend_k, xStore_k, xEnd_k, xFree_k, xUnmap_k, mAlloc_k, mGrant_k, mMap_k, mOpen_k, mBind_k, mSend_k, mEnd_k, mFree_k, mTk_k]
            have r22 : A3.2 22 (tN x) 0 = X 22 (tN x) 0 := by simp [← gA1, ← gA2, ← gA3, xCo_k, mCo1_k, gup_k, gup_s, vBeg_k, eSet_k, eClr_k, hSet_k, hClr_k, qSet_k, qCls_k, xAlloc_k, xGrant_k, xMap_k, xOpen_k, xBind_k, xSend_k, xStore_k, xEnd_k, xFree_k, xUnmap_k, mAlloc_k, mGrant_k, mMap_k, mOpen_k, mBind_k, mSend_k, mEnd_k, mFree_k, mTk_k]
            have rp0n : ¬ A3.2 17 (tN x) 0 < 0 := by rw [r17]; exact rp0
            have rp1n : tN (A3.2 17 (tN x) 0) < 20 := by rw [r17]; exact rp1
            have q0n : ¬ A3.2 22 (tN x) 0 < 0 := by rw [r22]; exact q0
            have hpqn : pqA A3.2 := pqA_k (fun a b => by simp [← gA1, ← gA2, ← gA3, xCo_k, mCo1_k, gup_k, gup_s, vBeg_k, eSet_k, eClr_k, hSet_k, hClr_k, qSet_k, qCls_k, xAlloc_k, xGrant_k, xMap_k, xOpen_k, xBind_k, xSend_k, xStore_k, xEnd_k, xFree_k, xUnmap_k, mAlloc_k, mGrant_k, mMap_k, mOpen_k, mBind_k, mSend_k, mEnd_k, mFree_k, mTk_k]) (fun a b => by simp [← gA1, ← gA2, ← gA3, xCo_k, mCo1_k, gup_k, gup_s, vBeg_k, eSet_k, eClr_k, hSet_k, hClr_k, qSet_k, qCls_k, xAlloc_k, xGrant_k, xMap_k, xOpen_k, xBind_k, xSend_k, xStore_k, xEnd_k, xFree_k, xUnmap_k, mAlloc_k, mGrant_k, mMap_k, mOpen_k, mBind_k, mSend_k, mEnd_k, mFree_k, mTk_k]) (fun a b => by simp [← gA1, ← gA2, ← gA3, xCo_k, mCo1_k, gup_k, gup_s, vBeg_k, eSet_k, eClr_k, hSet_k, hClr_k, qSet_k, qCls_k, xAlloc_k, xGrant_k, xMap_k, xOpen_k, xBind_k, xSend_k, xStore_k, xEnd_k, xFree_k, xUnmap_k, mAlloc_k, mGrant_k, mMap_k, mOpen_k, mBind_k, mSend_k, mEnd_k, mFree_k, mTk_k]) hpq
            refine pw_istore (l := [some (.ref 1), some (.int x), some (.int 1), some (.int s), some (.int z), some (.int (xDc X x)), some (.ref (cV (tN x) + 1)), some (.int A1.1), some (.int A3.1), none]) n_17_115 rfl rfl ?_
            refine pw_iload_n n_17_117 rfl rfl ?_
            refine pw_iload_n n_17_118 rfl rfl ?_
            refine pw_if_eq_f (q := 127) n_17_119 rfl rfl (by decide) ?_
            refine pw_bipush n_17_122 bc_8 rfl ?_
            refine pw_goto (q := 128) n_17_124 rfl ?_
            refine pw_iadd n_17_128 rfl ?_
            refine pw_iload n_17_129 rfl rfl ?_
            refine pw_iconst n_17_131 ic_4 rfl ?_
            refine pw_ishl n_17_132 rfl ?_
            refine pw_iadd n_17_133 rfl ?_
            refine pw_istore (l := [some (.ref 1), some (.int x), some (.int 1), some (.int s), some (.int z), some (.int (xDc X x)), some (.ref (cV (tN x) + 1)), some (.int A1.1), some (.int A3.1), some (.int ((s + 8) + (A3.1 <<< ((4 : Int32) &&& 31))))]) n_17_134 rfl rfl ?_
            refine pw_aload_n n_17_136 rfl rfl ?_
            refine pw_aload n_17_137 rfl rfl ?_
            refine pw_iload n_17_139 rfl rfl ?_
            refine pw_iload n_17_141 rfl rfl ?_
            refine pw_iload n_17_143 rfl rfl ?_
            refine pw_virtV (a := 0) (as := [.ref (cV (tN x) + 1), .int A1.1, .int A3.1, .int ((s + 8) + (A3.1 <<< ((4 : Int32) &&& 31)))]) (st := []) n_17_145 cl_0_236 ⟨rfl, rfl, rfl⟩ (sum8 rfl) (E_tg sh_G_domains) rfl (w_49 (v := (tN x)) (p := A1.1) (r := A3.1) (q := ((s + 8) + (A3.1 <<< ((4 : Int32) &&& 31)))) (by omega) rp0n rp1n q0n hpqn _) ?_
            exact pw_ireturn (ty := .int) n_17_148 rfl rfl (by first | (simp [xSubmit, xSu, xSu1, xSu2, xSu3, h1, h2, (i32_d h2), h3, (i32_c h3), h4, (i32_b h4), h5, gA1, gA2, gA3, bI_t, bI_f, nI_add1, gup_k, eSet_k, eClr_k, hSet_k, hClr_k, qSet_k, qCls_k]; done) | contradiction | (split <;> first | rfl | (simp_all; done)) | simp [xSubmit, xSu, xSu1, xSu2, xSu3, h1, h2, (i32_d h2), h3, (i32_c h3), h4, (i32_b h4), h5, gA1, gA2, gA3, bI_t, bI_f, nI_add1, gup_k, eSet_k, eClr_k, hSet_k, hClr_k, qSet_k, qCls_k])
          ·
            refine pw_bipush n_17_57 bc_m7 rfl ?_
            exact pw_ireturn (ty := .int) n_17_59 rfl rfl (by first | (simp [xSubmit, xSu, xSu1, xSu2, xSu3, h1, h2, (i32_d h2), h3, (i32_c h3), h4, (i32_b h4), h5, bI_t, bI_f, nI_add1, gup_k, eSet_k, eClr_k, hSet_k, hClr_k, qSet_k, qCls_k]; done) | contradiction | (split <;> first | rfl | (simp_all; done)) | simp [xSubmit, xSu, xSu1, xSu2, xSu3, h1, h2, (i32_d h2), h3, (i32_c h3), h4, (i32_b h4), h5, bI_t, bI_f, nI_add1, gup_k, eSet_k, eClr_k, hSet_k, hClr_k, qSet_k, qCls_k])
      ·
        refine pw_bipush n_17_25 bc_m2 rfl ?_
        exact pw_ireturn (ty := .int) n_17_27 rfl rfl (by first | (simp [xSubmit, xSu, xSu1, xSu2, xSu3, h1, h2, (i32_d h2), h3, (i32_d h3), bI_t, bI_f, nI_add1, gup_k, eSet_k, eClr_k, hSet_k, hClr_k, qSet_k, qCls_k]; done) | contradiction | (split <;> first | rfl | (simp_all; done)) | simp [xSubmit, xSu, xSu1, xSu2, xSu3, h1, h2, (i32_d h2), h3, (i32_d h3), bI_t, bI_f, nI_add1, gup_k, eSet_k, eClr_k, hSet_k, hClr_k, qSet_k, qCls_k])
  ·
    refine pw_iload n_17_12 rfl rfl ?_
    exact pw_ireturn (ty := .int) n_17_14 rfl rfl (by first | (simp [xSubmit, xSu, xSu1, xSu2, xSu3, h1, bI_t, bI_f, nI_add1, gup_k, eSet_k, eClr_k, hSet_k, hClr_k, qSet_k, qCls_k]; done) | contradiction | (split <;> first | rfl | (simp_all; done)) | simp [xSubmit, xSu, xSu1, xSu2, xSu3, h1, bI_t, bI_f, nI_add1, gup_k, eSet_k, eClr_k, hSet_k, hClr_k, qSet_k, qCls_k])
set_option maxRecDepth 100000 in
set_option maxHeartbeats 4000000 in
theorem w_17f {X M : gS} {x : Int32} {s : Int32} {z : Int32} (dv : xPres X x = true → dvF X (tN x)) (su : xDc X x = 0 → (¬ X 15 (tN x) 0 < 0 ∧ tN (X 15 (tN x) 0) < 5 ∧ ¬ X 17 (tN x) 0 < 0 ∧ tN (X 17 (tN x) 0) < 20 ∧ ¬ X 22 (tN x) 0 < 0 ∧ hOkA X ∧ pqA X)) (d : Nat) : pm_Call (d + 6) 17 [.ref 1, .int x, .int 0, .int s, .int z] (gE X M) (some (.int ((xSubmit X x false s z).1)), gE ((xSubmit X x false s z).2) M) := by
  refine pw_start (d := d + 5) (l := [some (.ref 1), some (.int x), some (.int 0), some (.int s), some (.int z), none, none, none, none, none]) (Nat.le_of_ble_eq_true rfl) rfl ?_
  refine pw_aload_n n_17_0 rfl rfl ?_
  refine pw_iload_n n_17_1 rfl rfl ?_
  refine pw_virtV (a := 0) (as := [.int x]) (st := []) n_17_2 cl_0_218 ⟨rfl, rfl, rfl⟩ (sum8 rfl) (E_tg sh_G_domains) rfl (w_47 (v := x) (by assumption) _) ?_
  refine pw_istore (l := [some (.ref 1), some (.int x), some (.int 0), some (.int s), some (.int z), some (.int (xDc X x)), none, none, none, none]) n_17_5 rfl rfl ?_
  refine pw_iload n_17_7 rfl rfl ?_
  refine pw_if_eq (q := 15) n_17_9 rfl rfl (fun h1 => ?_) (fun h1 => ?_)
  ·
    obtain ⟨v0, v1⟩ := ir_dc h1
    obtain ⟨x0, x1, rp0, rp1, q0, hoA, hpq⟩ := su h1
    refine pw_iload_n n_17_15 rfl rfl ?_
    refine pw_if_lt (q := 25) n_17_16 rfl rfl (fun h2 => ?_) (fun h2 => ?_)
    ·
      refine pw_bipush n_17_25 bc_m2 rfl ?_
      exact pw_ireturn (ty := .int) n_17_27 rfl rfl (by first | (simp [xSubmit, xSu, xSu1, xSu2, xSu3, h1, h2, (i32_c h2), bI_t, bI_f, nI_add1, gup_k, eSet_k, eClr_k, hSet_k, hClr_k, qSet_k, qCls_k]; done) | contradiction | (split <;> first | rfl | (simp_all; done)) | simp [xSubmit, xSu, xSu1, xSu2, xSu3, h1, h2, (i32_c h2), bI_t, bI_f, nI_add1, gup_k, eSet_k, eClr_k, hSet_k, hClr_k, qSet_k, qCls_k])
    ·
      refine pw_iload_n n_17_19 rfl rfl ?_
      refine pw_bipush n_17_20 bc_8 rfl ?_
      refine pw_icmp_lt (q := 28) n_17_22 rfl rfl (fun h3 => ?_) (fun h3 => ?_)
      ·
        have h3b := tN_lt2 (z := s) (k := 8) (by decide) h3
        refine pw_aload_n n_17_28 rfl rfl ?_
        refine pw_getf (a := 0) n_17_29 fl_0_23 (by decide) (rdR (sh_G_devices)) rfl ?_
        refine pw_iload_n n_17_32 rfl rfl ?_
        refine pw_aald (a := 3) (t := 104) (u := 3) n_17_33 (by assumption) rfl (by decide) rfl (rdR (sh_VA (tN x) (by omega))) rfl ?_
        refine pw_astore (l := [some (.ref 1), some (.int x), some (.int 0), some (.int s), some (.int z), some (.int (xDc X x)), some (.ref (cV (tN x) + 1)), none, none, none]) n_17_34 rfl rfl ?_
        refine pw_aload n_17_36 rfl rfl ?_
        refine pw_virtV (a := cV (tN x)) (as := []) (st := []) n_17_38 cl_0_221 ⟨rfl, rfl, rfl⟩ (sum8 rfl) (E_tg (sh_V_present (tN x) (by omega))) rfl (w_64 (v := (tN x)) (by omega) _) ?_
        refine pw_iconst n_17_41 ic_3 rfl ?_
        refine pw_icmp_ge (q := 57) n_17_42 rfl rfl (fun h4 => ?_) (fun h4 => ?_)
        ·
          refine pw_bipush n_17_57 bc_m7 rfl ?_
          exact pw_ireturn (ty := .int) n_17_59 rfl rfl (by first | (simp [xSubmit, xSu, xSu1, xSu2, xSu3, h1, h2, (i32_d h2), h3, (i32_c h3), h4, (i32_a h4), bI_t, bI_f, nI_add1, gup_k, eSet_k, eClr_k, hSet_k, hClr_k, qSet_k, qCls_k]; done) | contradiction | (split <;> first | rfl | (simp_all; done)) | simp [xSubmit, xSu, xSu1, xSu2, xSu3, h1, h2, (i32_d h2), h3, (i32_c h3), h4, (i32_a h4), bI_t, bI_f, nI_add1, gup_k, eSet_k, eClr_k, hSet_k, hClr_k, qSet_k, qCls_k])
        ·
          have h4b := tN_lt (z := (xUw X (tN x))) (k := 3) (by decide) h4
          refine pw_aload_n n_17_45 rfl rfl ?_
          refine pw_aload n_17_46 rfl rfl ?_
          refine pw_getf (a := cV (tN x)) n_17_48 fl_0_224 (by decide) (rdX (sh_V_front (tN x) (by omega)) (by decide)) rfl ?_
          refine pw_virtV (a := 0) (as := [.int (X 15 (tN x) 0)]) (st := []) n_17_51 cl_0_227 ⟨rfl, rfl, rfl⟩ (sum8 rfl) (E_tg sh_G_domains) rfl (w_44 (x := (X 15 (tN x) 0)) (by assumption) (by assumption) _) ?_
          refine pw_ifb_ne (q := 60) n_17_54 rfl rfl (fun h5 => ?_) (fun h5 => ?_)
          ·
            refine pw_aload_n n_17_60 rfl rfl ?_
            refine pw_aload n_17_61 rfl rfl ?_
            refine pw_getf (a := cV (tN x)) n_17_63 fl_0_224 (by decide) (rdX (sh_V_front (tN x) (by omega)) (by decide)) rfl ?_
            refine pw_virtV (a := 0) (as := [.int (X 15 (tN x) 0)]) (st := []) n_17_66 cl_0_185 ⟨rfl, rfl, rfl⟩ (sum8 rfl) (E_tg sh_G_domains) rfl (w_3 (x := (X 15 (tN x) 0)) _) ?_
            generalize gA1 : xAlloc X (X 15 (tN x) 0) = A1
            have hokn : xLive A1.2 (X 15 (tN x) 0) = true → hOk A1.2 (tN (X 15 (tN x) 0)) := fun hl => hOk_k (fun b => by simp [← gA1, xCo_k, mCo1_k, gup_k, gup_s, vBeg_k, eSet_k, eClr_k, hSet_k, hClr_k, qSet_k, qCls_k, xAlloc_k, xGrant_k, xMap_k, xOpen_k, xBind_k, xSend_k, xStore_k, xEnd_k, xFree_k, xUnmap_k, mAlloc_k, mGrant_k, mMap_k, mOpen_k, mBind_k, mSend_k, mEnd_k, mFree_k, mTk_k]) (fun b => by simp [← gA1, xCo_k, mCo1_k, gup_k, gup_s, vBeg_k, eSet_k, eClr_k, hSet_k, hClr_k, qSet_k, qCls_k, xAlloc_k, xGrant_k, xMap_k, xOpen_k, xBind_k, xSend_k, xStore_k, xEnd_k, xFree_k, xUnmap_k, mAlloc_k, mGrant_k, mMap_k, mOpen_k, mBind_k, mSend_k, mEnd_k, mFree_k, mTk_k]) (hoA _ (ir_live hl).2)
            refine pw_istore (l := [some (.ref 1), some (.int x), some (.int 0), some (.int s), some (.int z), some (.int (xDc X x)), some (.ref (cV (tN x) + 1)), some (.int A1.1), none, none]) n_17_69 rfl rfl ?_
            refine pw_iload_n n_17_71 rfl rfl ?_
            refine pw_if_eq_t (q := 90) n_17_72 rfl (by decide) ?_
            refine pw_aload_n n_17_90 rfl rfl ?_
            refine pw_aload n_17_91 rfl rfl ?_
            refine pw_getf (a := cV (tN x)) n_17_93 fl_0_224 (by decide) (rdX (sh_V_front (tN x) (by omega)) (by decide)) rfl ?_
            refine pw_top (y := X 15 (tN x) 0) (by simp [← gA1, xCo_k, mCo1_k, gup_k, gup_s, vBeg_k, eSet_k, eClr_k, hSet_k, hClr_k, qSet_k, qCls_k, xAlloc_k, xGrant_k, xMap_k, xOpen_k, xBind_k, xSend_k, xStore_k, xEnd_k, xFree_k, xUnmap_k, mAlloc_k, mGrant_k, mMap_k, mOpen_k, mBind_k, mSend_k, mEnd_k, mFree_k, mTk_k]) ?_
            refine pw_aload n_17_96 rfl rfl ?_
            refine pw_getf (a := cV (tN x)) n_17_98 fl_0_233 (by decide) (rdX (sh_V_back (tN x) (by omega)) (by decide)) rfl ?_
            refine pw_top (y := X 16 (tN x) 0) (by simp [← gA1, xCo_k, mCo1_k, gup_k, gup_s, vBeg_k, eSet_k, eClr_k, hSet_k, hClr_k, qSet_k, qCls_k, xAlloc_k, xGrant_k, xMap_k, xOpen_k, xBind_k, xSend_k, xStore_k, xEnd_k, xFree_k, xUnmap_k, mAlloc_k, mGrant_k, mMap_k, mOpen_k, mBind_k, mSend_k, mEnd_k, mFree_k, mTk_k]) ?_
            refine pw_iload n_17_101 rfl rfl ?_
            refine pw_iload_n n_17_103 rfl rfl ?_
            refine pw_if_eq_t (q := 111) n_17_104 rfl (by decide) ?_
            refine pw_iconst n_17_111 ic_1 rfl ?_
            refine pw_virtV (a := 0) (as := [.int (X 15 (tN x) 0), .int (X 16 (tN x) 0), .int A1.1, .int 1]) (st := []) n_17_112 cl_0_191 ⟨rfl, rfl, rfl⟩ (sum8 rfl) (E_tg sh_G_domains) rfl (w_5 (x := (X 15 (tN x) 0)) (t := (X 16 (tN x) 0)) (p := A1.1) (k := 1) _) ?_
            generalize gA2 : xGrant A1.2 (X 15 (tN x) 0) (X 16 (tN x) 0) A1.1 1 = A2
            have r17 : A2.2 17 (tN x) 0 = X 17 (tN x) 0 := by simp [← gA1, ← gA2, xCo_k, mCo1_k, gup_k, gup_s, vBeg_k, eSet_k, eClr_k, hSet_k, hClr_k, qSet_k, qCls_k, xAlloc_k, xGrant_k, xMap_k, xOpen_k, xBind_k, xSend_k, xStore_k, xEnd_k, xFree_k, xUnmap_k, mAlloc_k, mGrant_k, mMap_k, mOpen_k, mBind_k, mSend_k, mEnd_k, mFree_k, mTk_k]
            have r22 : A2.2 22 (tN x) 0 = X 22 (tN x) 0 := by simp [← gA1, ← gA2, xCo_k, mCo1_k, gup_k, gup_s, vBeg_k, eSet_k, eClr_k, hSet_k, hClr_k, qSet_k, qCls_k, xAlloc_k, xGrant_k, xMap_k, xOpen_k, xBind_k, xSend_k, xStore_k, xEnd_k, xFree_k, xUnmap_k, mAlloc_k, mGrant_k, mMap_k, mOpen_k, mBind_k, mSend_k, mEnd_k, mFree_k, mTk_k]
            have rp0n : ¬ A2.2 17 (tN x) 0 < 0 := by rw [r17]; exact rp0
            have rp1n : tN (A2.2 17 (tN x) 0) < 20 := by rw [r17]; exact rp1
            have q0n : ¬ A2.2 22 (tN x) 0 < 0 := by rw [r22]; exact q0
            have hpqn : pqA A2.2 := pqA_k (fun a b => by simp [← gA1, ← gA2, xCo_k, mCo1_k, gup_k, gup_s, vBeg_k, eSet_k, eClr_k, hSet_k, hClr_k, qSet_k, qCls_k, xAlloc_k, xGrant_k, xMap_k, xOpen_k, xBind_k, xSend_k, xStore_k, xEnd_k, xFree_k, xUnmap_k, mAlloc_k, mGrant_k, mMap_k, mOpen_k, mBind_k, mSend_k, mEnd_k, mFree_k, mTk_k]) (fun a b => by simp [← gA1, ← gA2, xCo_k, mCo1_k, gup_k, gup_s, vBeg_k, eSet_k, eClr_k, hSet_k, hClr_k, qSet_k, qCls_k, xAlloc_k, xGrant_k, xMap_k, xOpen_k, xBind_k, xSend_k, xStore_k, xEnd_k, xFree_k, xUnmap_k, mAlloc_k, mGrant_k, mMap_k, mOpen_k, mBind_k, mSend_k, mEnd_k, mFree_k, mTk_k]) (fun a b => by simp [← gA1, ← gA2, xCo_k, mCo1_k, gup_k, gup_s, vBeg_k, eSet_k, eClr_k, hSet_k, hClr_k, qSet_k, qCls_k, xAlloc_k, xGrant_k, xMap_k, xOpen_k, xBind_k, xSend_k, xStore_k, xEnd_k, xFree_k, xUnmap_k, mAlloc_k, mGrant_k, mMap_k, mOpen_k, mBind_k, mSend_k, mEnd_k, mFree_k, mTk_k]) hpq
            refine pw_istore (l := [some (.ref 1), some (.int x), some (.int 0), some (.int s), some (.int z), some (.int (xDc X x)), some (.ref (cV (tN x) + 1)), some (.int A1.1), some (.int A2.1), none]) n_17_115 rfl rfl ?_
            refine pw_iload_n n_17_117 rfl rfl ?_
            refine pw_iload_n n_17_118 rfl rfl ?_
            refine pw_if_eq_t (q := 127) n_17_119 rfl (by decide) ?_
            refine pw_iconst n_17_127 ic_0 rfl ?_
            refine pw_iadd n_17_128 rfl ?_
            refine pw_iload n_17_129 rfl rfl ?_
            refine pw_iconst n_17_131 ic_4 rfl ?_
            refine pw_ishl n_17_132 rfl ?_
            refine pw_iadd n_17_133 rfl ?_
            refine pw_istore (l := [some (.ref 1), some (.int x), some (.int 0), some (.int s), some (.int z), some (.int (xDc X x)), some (.ref (cV (tN x) + 1)), some (.int A1.1), some (.int A2.1), some (.int ((s + 0) + (A2.1 <<< ((4 : Int32) &&& 31))))]) n_17_134 rfl rfl ?_
            refine pw_aload_n n_17_136 rfl rfl ?_
            refine pw_aload n_17_137 rfl rfl ?_
            refine pw_iload n_17_139 rfl rfl ?_
            refine pw_iload n_17_141 rfl rfl ?_
            refine pw_iload n_17_143 rfl rfl ?_
            refine pw_virtV (a := 0) (as := [.ref (cV (tN x) + 1), .int A1.1, .int A2.1, .int ((s + 0) + (A2.1 <<< ((4 : Int32) &&& 31)))]) (st := []) n_17_145 cl_0_236 ⟨rfl, rfl, rfl⟩ (sum8 rfl) (E_tg sh_G_domains) rfl (w_49 (v := (tN x)) (p := A1.1) (r := A2.1) (q := ((s + 0) + (A2.1 <<< ((4 : Int32) &&& 31)))) (by omega) rp0n rp1n q0n hpqn _) ?_
            exact pw_ireturn (ty := .int) n_17_148 rfl rfl (by first | (simp [xSubmit, xSu, xSu1, xSu2, xSu3, h1, h2, (i32_d h2), h3, (i32_c h3), h4, (i32_b h4), h5, gA1, gA2, bI_t, bI_f, nI_add1, gup_k, eSet_k, eClr_k, hSet_k, hClr_k, qSet_k, qCls_k]; done) | contradiction | (split <;> first | rfl | (simp_all; done)) | simp [xSubmit, xSu, xSu1, xSu2, xSu3, h1, h2, (i32_d h2), h3, (i32_c h3), h4, (i32_b h4), h5, gA1, gA2, bI_t, bI_f, nI_add1, gup_k, eSet_k, eClr_k, hSet_k, hClr_k, qSet_k, qCls_k])
          ·
            refine pw_bipush n_17_57 bc_m7 rfl ?_
            exact pw_ireturn (ty := .int) n_17_59 rfl rfl (by first | (simp [xSubmit, xSu, xSu1, xSu2, xSu3, h1, h2, (i32_d h2), h3, (i32_c h3), h4, (i32_b h4), h5, bI_t, bI_f, nI_add1, gup_k, eSet_k, eClr_k, hSet_k, hClr_k, qSet_k, qCls_k]; done) | contradiction | (split <;> first | rfl | (simp_all; done)) | simp [xSubmit, xSu, xSu1, xSu2, xSu3, h1, h2, (i32_d h2), h3, (i32_c h3), h4, (i32_b h4), h5, bI_t, bI_f, nI_add1, gup_k, eSet_k, eClr_k, hSet_k, hClr_k, qSet_k, qCls_k])
      ·
        refine pw_bipush n_17_25 bc_m2 rfl ?_
        exact pw_ireturn (ty := .int) n_17_27 rfl rfl (by first | (simp [xSubmit, xSu, xSu1, xSu2, xSu3, h1, h2, (i32_d h2), h3, (i32_d h3), bI_t, bI_f, nI_add1, gup_k, eSet_k, eClr_k, hSet_k, hClr_k, qSet_k, qCls_k]; done) | contradiction | (split <;> first | rfl | (simp_all; done)) | simp [xSubmit, xSu, xSu1, xSu2, xSu3, h1, h2, (i32_d h2), h3, (i32_d h3), bI_t, bI_f, nI_add1, gup_k, eSet_k, eClr_k, hSet_k, hClr_k, qSet_k, qCls_k])
  ·
    refine pw_iload n_17_12 rfl rfl ?_
    exact pw_ireturn (ty := .int) n_17_14 rfl rfl (by first | (simp [xSubmit, xSu, xSu1, xSu2, xSu3, h1, bI_t, bI_f, nI_add1, gup_k, eSet_k, eClr_k, hSet_k, hClr_k, qSet_k, qCls_k]; done) | contradiction | (split <;> first | rfl | (simp_all; done)) | simp [xSubmit, xSu, xSu1, xSu2, xSu3, h1, bI_t, bI_f, nI_add1, gup_k, eSet_k, eClr_k, hSet_k, hClr_k, qSet_k, qCls_k])
set_option maxRecDepth 100000 in
set_option maxHeartbeats 4000000 in
theorem w_18 {X M : gS} {x : Int32} (dv : xPres X x = true → dvF X (tN x)) (su : xDc X x = 0 → (¬ X 17 (tN x) 0 < 0 ∧ tN (X 17 (tN x) 0) < 20 ∧ ¬ X 24 (tN x) 0 < 0 ∧ pqA X ∧ (¬ (xCom X (tN x) (X 2 (tN (X 17 (tN x) 0)) (tN (2 + rem3 (X 24 (tN x) 0)))) (decide ((X 2 (tN (X 17 (tN x) 0)) (tN (2 + rem3 (X 24 (tN x) 0)))) &&& 8 = 0))).1 < 0 → coF X (xCom X (tN x) (X 2 (tN (X 17 (tN x) 0)) (tN (2 + rem3 (X 24 (tN x) 0)))) (decide ((X 2 (tN (X 17 (tN x) 0)) (tN (2 + rem3 (X 24 (tN x) 0)))) &&& 8 = 0))) (tN x) (X 2 (tN (X 17 (tN x) 0)) (tN (2 + rem3 (X 24 (tN x) 0)))) (decide ((X 2 (tN (X 17 (tN x) 0)) (tN (2 + rem3 (X 24 (tN x) 0)))) &&& 8 = 0))))) (d : Nat) : pm_Call (d + 7) 18 [.ref 1, .int x] (gE X M) (some (.int ((xServe X x).1)), gE ((xServe X x).2) M) := by
  refine pw_start (d := d + 6) (l := [some (.ref 1), some (.int x), none, none, none, none, none, none, none]) (Nat.le_of_ble_eq_true rfl) rfl ?_
  refine pw_aload_n n_18_0 rfl rfl ?_
  refine pw_iload_n n_18_1 rfl rfl ?_
  refine pw_virtV (a := 0) (as := [.int x]) (st := []) n_18_2 cl_0_218 ⟨rfl, rfl, rfl⟩ (sum8 rfl) (E_tg sh_G_domains) rfl (w_47 (v := x) (by assumption) _) ?_
  refine pw_istore_n (l := [some (.ref 1), some (.int x), some (.int (xDc X x)), none, none, none, none, none, none]) n_18_5 rfl rfl ?_
  refine pw_iload_n n_18_6 rfl rfl ?_
  refine pw_if_eq (q := 12) n_18_7 rfl rfl (fun h1 => ?_) (fun h1 => ?_)
  ·
    obtain ⟨v0, v1⟩ := ir_dc h1
    obtain ⟨rp0, rp1, q0, hpq, co⟩ := su h1
    obtain ⟨q1, q2, q3, q4, q5, q6⟩ := rem3_ir q0
    refine pw_aload_n n_18_12 rfl rfl ?_
    refine pw_getf (a := 0) n_18_13 fl_0_23 (by decide) (rdR (sh_G_devices)) rfl ?_
    refine pw_iload_n n_18_16 rfl rfl ?_
    refine pw_aald (a := 3) (t := 104) (u := 3) n_18_17 (by assumption) rfl (by decide) rfl (rdR (sh_VA (tN x) (by omega))) rfl ?_
    refine pw_astore_n (l := [some (.ref 1), some (.int x), some (.int (xDc X x)), some (.ref (cV (tN x) + 1)), none, none, none, none, none]) n_18_18 rfl rfl ?_
    refine pw_aload_n n_18_19 rfl rfl ?_
    refine pw_getf (a := 0) n_18_20 fl_0_17 (by decide) (rdR (sh_G_pages)) rfl ?_
    refine pw_aload_n n_18_23 rfl rfl ?_
    refine pw_getf (a := cV (tN x)) n_18_24 fl_0_188 (by decide) (rdX (sh_V_ringPage (tN x) (by omega)) (by decide)) rfl ?_
    refine pw_aald (a := 2) (t := 103) (u := 2) n_18_27 (by assumption) rfl (by decide) rfl (rdR (sh_PA (tN (X 17 (tN x) 0)) (by omega))) rfl ?_
    refine pw_getf (a := cP (tN (X 17 (tN x) 0))) n_18_28 fl_0_136 (by decide) (rdR (sh_P_words (tN (X 17 (tN x) 0)) (by omega))) rfl ?_
    refine pw_astore (l := [some (.ref 1), some (.int x), some (.int (xDc X x)), some (.ref (cV (tN x) + 1)), some (.ref (cP (tN (X 17 (tN x) 0)) + 2)), none, none, none, none]) n_18_31 rfl rfl ?_
    refine pw_aload n_18_33 rfl rfl ?_
    refine pw_iconst n_18_35 ic_0 rfl ?_
    refine pw_iald (a := cP (tN (X 17 (tN x) 0)) + 1) n_18_36 (by decide) (by decide) (rdX (sh_PW (tN (X 17 (tN x) 0)) (by omega) 0 (by omega)) (by decide)) rfl ?_
    refine pw_i2l n_18_37 rfl ?_
    refine pw_aload_n n_18_38 rfl rfl ?_
    refine pw_getf (a := cV (tN x)) n_18_39 fl_0_240 (by decide) (rdX (sh_V_taken (tN x) (by omega)) (by decide)) rfl ?_
    refine pw_i2l n_18_42 rfl ?_
    refine pw_lsub n_18_43 rfl ?_
    refine pw_lstore (l := [some (.ref 1), some (.int x), some (.int (xDc X x)), some (.ref (cV (tN x) + 1)), some (.ref (cP (tN (X 17 (tN x) 0)) + 2)), some (.long ((Int32.toInt64 (X 2 (tN (X 17 (tN x) 0)) 0)) - (Int32.toInt64 (X 24 (tN x) 0)))), none, none, none]) n_18_44 rfl rfl ?_
    refine pw_lload n_18_46 rfl rfl ?_
    refine pw_lconst n_18_48 lc_0 rfl ?_
    refine pw_lcmp n_18_49 rfl ?_
    refine pw_ifc_ne (q := 56) n_18_50 rfl rfl (fun h2 => ?_) (fun h2 => ?_)
    ·
      refine pw_lload n_18_56 rfl rfl ?_
      refine pw_lconst n_18_58 lc_1 rfl ?_
      refine pw_lcmp n_18_59 rfl ?_
      refine pw_ifc_lt (q := 72) n_18_60 rfl rfl (fun h3 => ?_) (fun h3 => ?_)
      ·
        refine pw_bipush n_18_72 bc_m12 rfl ?_
        exact pw_ireturn (ty := .int) n_18_74 rfl rfl (by first | (simp [xServe, xSn, h1, h2, h3, (i64_c h3), bI_t, bI_f, nI_add1, gup_k, eSet_k, eClr_k, hSet_k, hClr_k, qSet_k, qCls_k]; done) | contradiction | (split <;> first | rfl | (simp_all; done)) | simp [xServe, xSn, h1, h2, h3, (i64_c h3), bI_t, bI_f, nI_add1, gup_k, eSet_k, eClr_k, hSet_k, hClr_k, qSet_k, qCls_k])
      ·
        refine pw_lload n_18_63 rfl rfl ?_
        refine pw_ldc2 n_18_65 l2_0_243 rfl ?_
        refine pw_lcmp n_18_68 rfl ?_
        refine pw_ifc_le (q := 75) n_18_69 rfl rfl (fun h4 => ?_) (fun h4 => ?_)
        ·
          refine pw_aload_n n_18_75 rfl rfl ?_
          refine pw_getf (a := cV (tN x)) n_18_76 fl_0_240 (by decide) (rdX (sh_V_taken (tN x) (by omega)) (by decide)) rfl ?_
          refine pw_iconst n_18_79 ic_3 rfl ?_
          refine pw_irem n_18_80 (by decide) rfl ?_
          refine pw_istore (l := [some (.ref 1), some (.int x), some (.int (xDc X x)), some (.ref (cV (tN x) + 1)), some (.ref (cP (tN (X 17 (tN x) 0)) + 2)), some (.long ((Int32.toInt64 (X 2 (tN (X 17 (tN x) 0)) 0)) - (Int32.toInt64 (X 24 (tN x) 0)))), none, some (.int (rem3 (X 24 (tN x) 0))), none]) n_18_81 rfl rfl ?_
          refine pw_aload_n n_18_83 rfl rfl ?_
          refine pw_aload_n n_18_84 rfl rfl ?_
          refine pw_aload n_18_85 rfl rfl ?_
          refine pw_iconst n_18_87 ic_2 rfl ?_
          refine pw_iload n_18_88 rfl rfl ?_
          refine pw_iadd n_18_90 rfl ?_
          refine pw_iald (a := cP (tN (X 17 (tN x) 0)) + 1) n_18_91 (by assumption) rfl (rdX (sh_PW (tN (X 17 (tN x) 0)) (by omega) (tN (2 + (rem3 (X 24 (tN x) 0)))) (by omega)) (by decide)) rfl ?_
          refine pw_virtV (a := 0) (as := [.ref (cV (tN x) + 1), .int (X 2 (tN (X 17 (tN x) 0)) (tN (2 + (rem3 (X 24 (tN x) 0)))))]) (st := []) n_18_92 cl_0_245 ⟨rfl, rfl, rfl⟩ (sum8 rfl) (E_tg sh_G_domains) rfl (w_50 (v := (tN x)) (q := (X 2 (tN (X 17 (tN x) 0)) (tN (2 + (rem3 (X 24 (tN x) 0)))))) (w := (decide ((X 2 (tN (X 17 (tN x) 0)) (tN (2 + (rem3 (X 24 (tN x) 0))))) &&& 8 = 0))) (by omega) rfl co _) ?_
          generalize gA1 : xCo X (tN x) (X 2 (tN (X 17 (tN x) 0)) (tN (2 + (rem3 (X 24 (tN x) 0))))) (decide ((X 2 (tN (X 17 (tN x) 0)) (tN (2 + (rem3 (X 24 (tN x) 0))))) &&& 8 = 0)) = A1
          refine pw_istore (l := [some (.ref 1), some (.int x), some (.int (xDc X x)), some (.ref (cV (tN x) + 1)), some (.ref (cP (tN (X 17 (tN x) 0)) + 2)), some (.long ((Int32.toInt64 (X 2 (tN (X 17 (tN x) 0)) 0)) - (Int32.toInt64 (X 24 (tN x) 0)))), none, some (.int (rem3 (X 24 (tN x) 0))), some (.int A1.1)]) n_18_95 rfl rfl ?_
          refine pw_aload n_18_97 rfl rfl ?_
          refine pw_iconst n_18_99 ic_5 rfl ?_
          refine pw_iload n_18_100 rfl rfl ?_
          refine pw_iadd n_18_102 rfl ?_
          refine pw_iload n_18_103 rfl rfl ?_
          refine pw_iast (a := cP (tN (X 17 (tN x) 0)) + 1) n_18_105 (by assumption) rfl (wrX (sh_PW (tN (X 17 (tN x) 0)) (by omega) (tN (5 + (rem3 (X 24 (tN x) 0)))) (by omega)) (by decide)) rfl ?_
          refine pw_aload_n n_18_106 rfl rfl ?_
          refine pw_dup n_18_107 rfl rfl ?_
          refine pw_getf (a := cV (tN x)) n_18_108 fl_0_240 (by decide) (rdX (sh_V_taken (tN x) (by omega)) (by decide)) rfl ?_
          refine pw_top (y := X 24 (tN x) 0) (by simp [← gA1, xCo_k, mCo1_k, gup_k, gup_s, vBeg_k, eSet_k, eClr_k, hSet_k, hClr_k, qSet_k, qCls_k, xAlloc_k, xGrant_k, xMap_k, xOpen_k, xBind_k, xSend_k, xStore_k, xEnd_k, xFree_k, xUnmap_k, mAlloc_k, mGrant_k, mMap_k, mOpen_k, mBind_k, mSend_k, mEnd_k, mFree_k, mTk_k]) ?_
          refine pw_iconst n_18_111 ic_1 rfl ?_
          refine pw_iadd n_18_112 rfl ?_
          refine pw_putf (a := cV (tN x)) n_18_113 fl_0_240 (by decide) rfl rfl (Or.inl rfl) (wrX (sh_V_taken (tN x) (by omega)) (by decide)) rfl ?_
          refine pw_aload n_18_116 rfl rfl ?_
          refine pw_iconst n_18_118 ic_1 rfl ?_
          refine pw_aload_n n_18_119 rfl rfl ?_
          refine pw_getf (a := cV (tN x)) n_18_120 fl_0_240 (by decide) (rdX (sh_V_taken (tN x) (by omega)) (by decide)) rfl ?_
          refine pw_top (y := (X 24 (tN x) 0) + 1) (by simp [xCo_k, mCo1_k, gup_k, gup_s, vBeg_k, eSet_k, eClr_k, hSet_k, hClr_k, qSet_k, qCls_k, xAlloc_k, xGrant_k, xMap_k, xOpen_k, xBind_k, xSend_k, xStore_k, xEnd_k, xFree_k, xUnmap_k, mAlloc_k, mGrant_k, mMap_k, mOpen_k, mBind_k, mSend_k, mEnd_k, mFree_k, mTk_k]) ?_
          refine pw_iast (a := cP (tN (X 17 (tN x) 0)) + 1) n_18_123 (by decide) (by decide) (wrX (sh_PW (tN (X 17 (tN x) 0)) (by omega) 1 (by omega)) (by decide)) rfl ?_
          refine pw_aload_n n_18_124 rfl rfl ?_
          refine pw_aload_n n_18_125 rfl rfl ?_
          refine pw_getf (a := cV (tN x)) n_18_126 fl_0_233 (by decide) (rdX (sh_V_back (tN x) (by omega)) (by decide)) rfl ?_
          refine pw_top (y := X 16 (tN x) 0) (by simp [← gA1, xCo_k, mCo1_k, gup_k, gup_s, vBeg_k, eSet_k, eClr_k, hSet_k, hClr_k, qSet_k, qCls_k, xAlloc_k, xGrant_k, xMap_k, xOpen_k, xBind_k, xSend_k, xStore_k, xEnd_k, xFree_k, xUnmap_k, mAlloc_k, mGrant_k, mMap_k, mOpen_k, mBind_k, mSend_k, mEnd_k, mFree_k, mTk_k]) ?_
          refine pw_aload_n n_18_129 rfl rfl ?_
          refine pw_getf (a := cV (tN x)) n_18_130 fl_0_215 (by decide) (rdX (sh_V_backPort (tN x) (by omega)) (by decide)) rfl ?_
          refine pw_top (y := X 21 (tN x) 0) (by simp [← gA1, xCo_k, mCo1_k, gup_k, gup_s, vBeg_k, eSet_k, eClr_k, hSet_k, hClr_k, qSet_k, qCls_k, xAlloc_k, xGrant_k, xMap_k, xOpen_k, xBind_k, xSend_k, xStore_k, xEnd_k, xFree_k, xUnmap_k, mAlloc_k, mGrant_k, mMap_k, mOpen_k, mBind_k, mSend_k, mEnd_k, mFree_k, mTk_k]) ?_
          refine pw_virtV (a := 0) (as := [.int (X 16 (tN x) 0), .int (X 21 (tN x) 0)]) (st := []) n_18_133 cl_0_249 ⟨rfl, rfl, rfl⟩ (sum8 rfl) (E_tg sh_G_domains) rfl (w_14 (x := (X 16 (tN x) 0)) (k := (X 21 (tN x) 0)) (sq_of (pqA_k (fun a b => by simp [← gA1, xCo_k, mCo1_k, gup_k, gup_s, vBeg_k, eSet_k, eClr_k, hSet_k, hClr_k, qSet_k, qCls_k, xAlloc_k, xGrant_k, xMap_k, xOpen_k, xBind_k, xSend_k, xStore_k, xEnd_k, xFree_k, xUnmap_k, mAlloc_k, mGrant_k, mMap_k, mOpen_k, mBind_k, mSend_k, mEnd_k, mFree_k, mTk_k]) (fun a b => by simp [← gA1, xCo_k, mCo1_k, gup_k, gup_s, vBeg_k, eSet_k, eClr_k, hSet_k, hClr_k, qSet_k, qCls_k, xAlloc_k, xGrant_k, xMap_k, xOpen_k, xBind_k, xSend_k, xStore_k, xEnd_k, xFree_k, xUnmap_k, mAlloc_k, mGrant_k, mMap_k, mOpen_k, mBind_k, mSend_k, mEnd_k, mFree_k, mTk_k]) (fun a b => by simp [← gA1, xCo_k, mCo1_k, gup_k, gup_s, vBeg_k, eSet_k, eClr_k, hSet_k, hClr_k, qSet_k, qCls_k, xAlloc_k, xGrant_k, xMap_k, xOpen_k, xBind_k, xSend_k, xStore_k, xEnd_k, xFree_k, xUnmap_k, mAlloc_k, mGrant_k, mMap_k, mOpen_k, mBind_k, mSend_k, mEnd_k, mFree_k, mTk_k]) hpq)) _) ?_
          refine pw_pop n_18_136 rfl rfl ?_
          refine pw_iload n_18_137 rfl rfl ?_
          exact pw_ireturn (ty := .int) n_18_139 rfl rfl (by rw [show xServe X x = xSe X (tN x) (tN (X 17 (tN x) 0)) from by simp [xServe, xSn, h1, h2, h3, (i64_d h3), h4, (i64_a h4)]]; subst gA1; rfl)
        ·
          refine pw_bipush n_18_72 bc_m12 rfl ?_
          exact pw_ireturn (ty := .int) n_18_74 rfl rfl (by first | (simp [xServe, xSn, h1, h2, h3, (i64_d h3), h4, (i64_b h4), bI_t, bI_f, nI_add1, gup_k, eSet_k, eClr_k, hSet_k, hClr_k, qSet_k, qCls_k]; done) | contradiction | (split <;> first | rfl | (simp_all; done)) | simp [xServe, xSn, h1, h2, h3, (i64_d h3), h4, (i64_b h4), bI_t, bI_f, nI_add1, gup_k, eSet_k, eClr_k, hSet_k, hClr_k, qSet_k, qCls_k])
    ·
      refine pw_bipush n_18_53 bc_m11 rfl ?_
      exact pw_ireturn (ty := .int) n_18_55 rfl rfl (by first | (simp [xServe, xSn, h1, h2, (Classical.not_not.mp h2), bI_t, bI_f, nI_add1, gup_k, eSet_k, eClr_k, hSet_k, hClr_k, qSet_k, qCls_k]; done) | contradiction | (split <;> first | rfl | (simp_all; done)) | simp [xServe, xSn, h1, h2, (Classical.not_not.mp h2), bI_t, bI_f, nI_add1, gup_k, eSet_k, eClr_k, hSet_k, hClr_k, qSet_k, qCls_k])
  ·
    refine pw_iload_n n_18_10 rfl rfl ?_
    exact pw_ireturn (ty := .int) n_18_11 rfl rfl (by first | (simp [xServe, xSn, h1, bI_t, bI_f, nI_add1, gup_k, eSet_k, eClr_k, hSet_k, hClr_k, qSet_k, qCls_k]; done) | contradiction | (split <;> first | rfl | (simp_all; done)) | simp [xServe, xSn, h1, bI_t, bI_f, nI_add1, gup_k, eSet_k, eClr_k, hSet_k, hClr_k, qSet_k, qCls_k])
set_option maxRecDepth 100000 in
set_option maxHeartbeats 4000000 in
theorem w_19 {X M : gS} {x : Int32} (dv : xPres X x = true → dvF X (tN x)) (su : xDc X x = 0 → (¬ X 17 (tN x) 0 < 0 ∧ tN (X 17 (tN x) 0) < 20 ∧ ¬ X 23 (tN x) 0 < 0 ∧ hOkA X)) (d : Nat) : pm_Call (d + 6) 19 [.ref 1, .int x] (gE X M) (some (.long ((xReap X x).1)), gE ((xReap X x).2) M) := by
  refine pw_start (d := d + 5) (l := [some (.ref 1), some (.int x), none, none, none, none, none, none, none, none, none]) (Nat.le_of_ble_eq_true rfl) rfl ?_
  refine pw_aload_n n_19_0 rfl rfl ?_
  refine pw_iload_n n_19_1 rfl rfl ?_
  refine pw_virtV (a := 0) (as := [.int x]) (st := []) n_19_2 cl_0_218 ⟨rfl, rfl, rfl⟩ (sum8 rfl) (E_tg sh_G_domains) rfl (w_47 (v := x) (by assumption) _) ?_
  refine pw_istore_n (l := [some (.ref 1), some (.int x), some (.int (xDc X x)), none, none, none, none, none, none, none, none]) n_19_5 rfl rfl ?_
  refine pw_iload_n n_19_6 rfl rfl ?_
  refine pw_if_eq (q := 13) n_19_7 rfl rfl (fun h1 => ?_) (fun h1 => ?_)
  ·
    obtain ⟨v0, v1⟩ := ir_dc h1
    obtain ⟨rp0, rp1, q0, hoA⟩ := su h1
    obtain ⟨q1, q2, q3, q4, q5, q6⟩ := rem3_ir q0
    refine pw_aload_n n_19_13 rfl rfl ?_
    refine pw_getf (a := 0) n_19_14 fl_0_23 (by decide) (rdR (sh_G_devices)) rfl ?_
    refine pw_iload_n n_19_17 rfl rfl ?_
    refine pw_aald (a := 3) (t := 104) (u := 3) n_19_18 (by assumption) rfl (by decide) rfl (rdR (sh_VA (tN x) (by omega))) rfl ?_
    refine pw_astore_n (l := [some (.ref 1), some (.int x), some (.int (xDc X x)), some (.ref (cV (tN x) + 1)), none, none, none, none, none, none, none]) n_19_19 rfl rfl ?_
    refine pw_aload_n n_19_20 rfl rfl ?_
    refine pw_getf (a := 0) n_19_21 fl_0_17 (by decide) (rdR (sh_G_pages)) rfl ?_
    refine pw_aload_n n_19_24 rfl rfl ?_
    refine pw_getf (a := cV (tN x)) n_19_25 fl_0_188 (by decide) (rdX (sh_V_ringPage (tN x) (by omega)) (by decide)) rfl ?_
    refine pw_aald (a := 2) (t := 103) (u := 2) n_19_28 (by assumption) rfl (by decide) rfl (rdR (sh_PA (tN (X 17 (tN x) 0)) (by omega))) rfl ?_
    refine pw_getf (a := cP (tN (X 17 (tN x) 0))) n_19_29 fl_0_136 (by decide) (rdR (sh_P_words (tN (X 17 (tN x) 0)) (by omega))) rfl ?_
    refine pw_astore (l := [some (.ref 1), some (.int x), some (.int (xDc X x)), some (.ref (cV (tN x) + 1)), some (.ref (cP (tN (X 17 (tN x) 0)) + 2)), none, none, none, none, none, none]) n_19_32 rfl rfl ?_
    refine pw_aload n_19_34 rfl rfl ?_
    refine pw_iconst n_19_36 ic_1 rfl ?_
    refine pw_iald (a := cP (tN (X 17 (tN x) 0)) + 1) n_19_37 (by decide) (by decide) (rdX (sh_PW (tN (X 17 (tN x) 0)) (by omega) 1 (by omega)) (by decide)) rfl ?_
    refine pw_i2l n_19_38 rfl ?_
    refine pw_aload_n n_19_39 rfl rfl ?_
    refine pw_getf (a := cV (tN x)) n_19_40 fl_0_252 (by decide) (rdX (sh_V_reaped (tN x) (by omega)) (by decide)) rfl ?_
    refine pw_i2l n_19_43 rfl ?_
    refine pw_lsub n_19_44 rfl ?_
    refine pw_lstore (l := [some (.ref 1), some (.int x), some (.int (xDc X x)), some (.ref (cV (tN x) + 1)), some (.ref (cP (tN (X 17 (tN x) 0)) + 2)), some (.long ((Int32.toInt64 (X 2 (tN (X 17 (tN x) 0)) 1)) - (Int32.toInt64 (X 23 (tN x) 0)))), none, none, none, none, none]) n_19_45 rfl rfl ?_
    refine pw_lload n_19_47 rfl rfl ?_
    refine pw_lconst n_19_49 lc_0 rfl ?_
    refine pw_lcmp n_19_50 rfl ?_
    refine pw_ifc_ne (q := 58) n_19_51 rfl rfl (fun h2 => ?_) (fun h2 => ?_)
    ·
      refine pw_lload n_19_58 rfl rfl ?_
      refine pw_lconst n_19_60 lc_1 rfl ?_
      refine pw_lcmp n_19_61 rfl ?_
      refine pw_ifc_lt (q := 76) n_19_62 rfl rfl (fun h3 => ?_) (fun h3 => ?_)
      ·
        refine pw_ldc2 n_19_76 l2_0_257 rfl ?_
        exact pw_lreturn n_19_79 rfl (by first | (simp [xReap, xRe, xRe1, xRe2, xRe3, xRn, h1, h2, h3, (i64_c h3), bI_t, bI_f, nI_add1, gup_k, eSet_k, eClr_k, hSet_k, hClr_k, qSet_k, qCls_k]; done) | contradiction | (split <;> first | rfl | (simp_all; done)) | simp [xReap, xRe, xRe1, xRe2, xRe3, xRn, h1, h2, h3, (i64_c h3), bI_t, bI_f, nI_add1, gup_k, eSet_k, eClr_k, hSet_k, hClr_k, qSet_k, qCls_k])
      ·
        refine pw_lload n_19_65 rfl rfl ?_
        refine pw_aload_n n_19_67 rfl rfl ?_
        refine pw_virtV (a := cV (tN x)) (as := []) (st := [.long ((Int32.toInt64 (X 2 (tN (X 17 (tN x) 0)) 1)) - (Int32.toInt64 (X 23 (tN x) 0)))]) n_19_68 cl_0_221 ⟨rfl, rfl, rfl⟩ (sum8 rfl) (E_tg (sh_V_present (tN x) (by omega))) rfl (w_64 (v := (tN x)) (by omega) _) ?_
        refine pw_i2l n_19_71 rfl ?_
        refine pw_lcmp n_19_72 rfl ?_
        refine pw_ifc_le (q := 80) n_19_73 rfl rfl (fun h4 => ?_) (fun h4 => ?_)
        ·
          refine pw_aload_n n_19_80 rfl rfl ?_
          refine pw_getf (a := cV (tN x)) n_19_81 fl_0_252 (by decide) (rdX (sh_V_reaped (tN x) (by omega)) (by decide)) rfl ?_
          refine pw_iconst n_19_84 ic_3 rfl ?_
          refine pw_irem n_19_85 (by decide) rfl ?_
          refine pw_istore (l := [some (.ref 1), some (.int x), some (.int (xDc X x)), some (.ref (cV (tN x) + 1)), some (.ref (cP (tN (X 17 (tN x) 0)) + 2)), some (.long ((Int32.toInt64 (X 2 (tN (X 17 (tN x) 0)) 1)) - (Int32.toInt64 (X 23 (tN x) 0)))), none, some (.int (rem3 (X 23 (tN x) 0))), none, none, none]) n_19_86 rfl rfl ?_
          refine pw_aload n_19_88 rfl rfl ?_
          refine pw_iconst n_19_90 ic_5 rfl ?_
          refine pw_iload n_19_91 rfl rfl ?_
          refine pw_iadd n_19_93 rfl ?_
          refine pw_iald (a := cP (tN (X 17 (tN x) 0)) + 1) n_19_94 (by assumption) rfl (rdX (sh_PW (tN (X 17 (tN x) 0)) (by omega) (tN (5 + (rem3 (X 23 (tN x) 0)))) (by omega)) (by decide)) rfl ?_
          refine pw_istore (l := [some (.ref 1), some (.int x), some (.int (xDc X x)), some (.ref (cV (tN x) + 1)), some (.ref (cP (tN (X 17 (tN x) 0)) + 2)), some (.long ((Int32.toInt64 (X 2 (tN (X 17 (tN x) 0)) 1)) - (Int32.toInt64 (X 23 (tN x) 0)))), none, some (.int (rem3 (X 23 (tN x) 0))), some (.int (X 2 (tN (X 17 (tN x) 0)) (tN (5 + (rem3 (X 23 (tN x) 0)))))), none, none]) n_19_95 rfl rfl ?_
          refine pw_aload_n n_19_97 rfl rfl ?_
          refine pw_dup n_19_98 rfl rfl ?_
          refine pw_getf (a := cV (tN x)) n_19_99 fl_0_252 (by decide) (rdX (sh_V_reaped (tN x) (by omega)) (by decide)) rfl ?_
          refine pw_iconst n_19_102 ic_1 rfl ?_
          refine pw_iadd n_19_103 rfl ?_
          refine pw_putf (a := cV (tN x)) n_19_104 fl_0_252 (by decide) rfl rfl (Or.inl rfl) (wrX (sh_V_reaped (tN x) (by omega)) (by decide)) rfl ?_
          refine pw_aload_n n_19_107 rfl rfl ?_
          refine pw_aload_n n_19_108 rfl rfl ?_
          refine pw_getf (v := .int (X 15 (tN x) 0)) (a := cV (tN x)) n_19_109 fl_0_224 (by decide) (rdX (sh_V_front (tN x) (by omega)) (by decide)) rfl ?_
          refine pw_aload_n n_19_112 rfl rfl ?_
          refine pw_getf (a := cV (tN x)) n_19_113 fl_0_259 (by decide) (rdR (sh_V_notedPages (tN x) (by omega))) rfl ?_
          refine pw_iload n_19_116 rfl rfl ?_
          refine pw_iald (v := .int (X 25 (tN x) (tN (rem3 (X 23 (tN x) 0))))) (a := cV (tN x) + 1) n_19_118 (by assumption) rfl (rdX (sh_NP (tN x) (by omega) (tN (rem3 (X 23 (tN x) 0))) (by omega)) (by decide)) rfl ?_
          refine pw_iconst n_19_119 ic_0 rfl ?_
          refine pw_virtV (a := 0) (as := [.int (X 15 (tN x) 0), .int (X 25 (tN x) (tN (rem3 (X 23 (tN x) 0)))), .int 0]) (st := []) n_19_120 cl_0_262 ⟨rfl, rfl, rfl⟩ (sum8 rfl) (E_tg sh_G_domains) rfl (w_11 (x := (X 15 (tN x) 0)) (p := (X 25 (tN x) (tN (rem3 (X 23 (tN x) 0))))) (w := 0) (fun hl => hOk_k (fun b => by simp [gup_k]) (fun b => by simp [gup_k]) (hoA _ (ir_live hl).2)) _) ?_
          refine pw_lstore (l := [some (.ref 1), some (.int x), some (.int (xDc X x)), some (.ref (cV (tN x) + 1)), some (.ref (cP (tN (X 17 (tN x) 0)) + 2)), some (.long ((Int32.toInt64 (X 2 (tN (X 17 (tN x) 0)) 1)) - (Int32.toInt64 (X 23 (tN x) 0)))), none, some (.int (rem3 (X 23 (tN x) 0))), some (.int (X 2 (tN (X 17 (tN x) 0)) (tN (5 + (rem3 (X 23 (tN x) 0)))))), some (.long (xLoad (gup X 23 (tN x) 0 ((X 23 (tN x) 0) + 1)) (X 15 (tN x) 0) (X 25 (tN x) (tN (rem3 (X 23 (tN x) 0)))) 0)), none]) n_19_123 rfl rfl ?_
          refine pw_aload_n n_19_125 rfl rfl ?_
          refine pw_aload_n n_19_126 rfl rfl ?_
          refine pw_getf (v := .int (X 15 (tN x) 0)) (a := cV (tN x)) n_19_127 fl_0_224 (by decide) (rdX (sh_V_front (tN x) (by omega)) (by decide)) rfl ?_
          refine pw_aload_n n_19_130 rfl rfl ?_
          refine pw_getf (a := cV (tN x)) n_19_131 fl_0_266 (by decide) (rdR (sh_V_notedEntries (tN x) (by omega))) rfl ?_
          refine pw_iload n_19_134 rfl rfl ?_
          refine pw_iald (v := .int (X 26 (tN x) (tN (rem3 (X 23 (tN x) 0))))) (a := cV (tN x) + 2) n_19_136 (by assumption) rfl (rdX (sh_NE (tN x) (by omega) (tN (rem3 (X 23 (tN x) 0))) (by omega)) (by decide)) rfl ?_
          refine pw_virtV (a := 0) (as := [.int (X 15 (tN x) 0), .int (X 26 (tN x) (tN (rem3 (X 23 (tN x) 0))))]) (st := []) n_19_137 cl_0_269 ⟨rfl, rfl, rfl⟩ (sum8 rfl) (E_tg sh_G_domains) rfl (w_6 (x := (X 15 (tN x) 0)) (r := (X 26 (tN x) (tN (rem3 (X 23 (tN x) 0))))) _) ?_
          generalize gA1 : xEnd (gup X 23 (tN x) 0 ((X 23 (tN x) 0) + 1)) (X 15 (tN x) 0) (X 26 (tN x) (tN (rem3 (X 23 (tN x) 0)))) = A1
          refine pw_pop n_19_140 rfl rfl ?_
          refine pw_aload_n n_19_141 rfl rfl ?_
          refine pw_aload_n n_19_142 rfl rfl ?_
          refine pw_getf (a := cV (tN x)) n_19_143 fl_0_224 (by decide) (rdX (sh_V_front (tN x) (by omega)) (by decide)) rfl ?_
          refine pw_top (y := X 15 (tN x) 0) (by simp [← gA1, xCo_k, mCo1_k, gup_k, gup_s, vBeg_k, eSet_k, eClr_k, hSet_k, hClr_k, qSet_k, qCls_k, xAlloc_k, xGrant_k, xMap_k, xOpen_k, xBind_k, xSend_k, xStore_k, xEnd_k, xFree_k, xUnmap_k, mAlloc_k, mGrant_k, mMap_k, mOpen_k, mBind_k, mSend_k, mEnd_k, mFree_k, mTk_k]) ?_
          refine pw_aload_n n_19_146 rfl rfl ?_
          refine pw_getf (a := cV (tN x)) n_19_147 fl_0_259 (by decide) (rdR (sh_V_notedPages (tN x) (by omega))) rfl ?_
          refine pw_iload n_19_150 rfl rfl ?_
          refine pw_iald (a := cV (tN x) + 1) n_19_152 (by assumption) rfl (rdX (sh_NP (tN x) (by omega) (tN (rem3 (X 23 (tN x) 0))) (by omega)) (by decide)) rfl ?_
          refine pw_top (y := X 25 (tN x) (tN (rem3 (X 23 (tN x) 0)))) (by simp [← gA1, xCo_k, mCo1_k, gup_k, gup_s, vBeg_k, eSet_k, eClr_k, hSet_k, hClr_k, qSet_k, qCls_k, xAlloc_k, xGrant_k, xMap_k, xOpen_k, xBind_k, xSend_k, xStore_k, xEnd_k, xFree_k, xUnmap_k, mAlloc_k, mGrant_k, mMap_k, mOpen_k, mBind_k, mSend_k, mEnd_k, mFree_k, mTk_k]) ?_
          refine pw_virtV (a := 0) (as := [.int (X 15 (tN x) 0), .int (X 25 (tN x) (tN (rem3 (X 23 (tN x) 0))))]) (st := []) n_19_153 cl_0_272 ⟨rfl, rfl, rfl⟩ (sum8 rfl) (E_tg sh_G_domains) rfl (w_4 (x := (X 15 (tN x) 0)) (p := (X 25 (tN x) (tN (rem3 (X 23 (tN x) 0))))) _) ?_
          generalize gA2 : xFree A1.2 (X 15 (tN x) 0) (X 25 (tN x) (tN (rem3 (X 23 (tN x) 0)))) = A2
          refine pw_pop n_19_156 rfl rfl ?_
          refine pw_iload n_19_157 rfl rfl ?_
          refine pw_if_eq (q := 168) n_19_159 rfl rfl (fun h5 => ?_) (fun h5 => ?_)
          ·
            refine pw_lload n_19_168 rfl rfl ?_
            exact pw_lreturn n_19_170 rfl (by first | (simp [xReap, xRe, xRe1, xRe2, xRe3, xRn, h1, h2, h3, (i64_d h3), h4, (i64_a h4), gA1, gA2, h5, bI_t, bI_f, nI_add1, gup_k, eSet_k, eClr_k, hSet_k, hClr_k, qSet_k, qCls_k]; done) | contradiction | (split <;> first | rfl | (simp_all; done)) | simp [xReap, xRe, xRe1, xRe2, xRe3, xRn, h1, h2, h3, (i64_d h3), h4, (i64_a h4), gA1, gA2, h5, bI_t, bI_f, nI_add1, gup_k, eSet_k, eClr_k, hSet_k, hClr_k, qSet_k, qCls_k])
          ·
            refine pw_ldc2 n_19_162 l2_0_275 rfl ?_
            refine pw_goto (q := 170) n_19_165 rfl ?_
            exact pw_lreturn n_19_170 rfl (by first | (simp [xReap, xRe, xRe1, xRe2, xRe3, xRn, h1, h2, h3, (i64_d h3), h4, (i64_a h4), gA1, gA2, h5, bI_t, bI_f, nI_add1, gup_k, eSet_k, eClr_k, hSet_k, hClr_k, qSet_k, qCls_k]; done) | contradiction | (split <;> first | rfl | (simp_all; done)) | simp [xReap, xRe, xRe1, xRe2, xRe3, xRn, h1, h2, h3, (i64_d h3), h4, (i64_a h4), gA1, gA2, h5, bI_t, bI_f, nI_add1, gup_k, eSet_k, eClr_k, hSet_k, hClr_k, qSet_k, qCls_k])
        ·
          refine pw_ldc2 n_19_76 l2_0_257 rfl ?_
          exact pw_lreturn n_19_79 rfl (by first | (simp [xReap, xRe, xRe1, xRe2, xRe3, xRn, h1, h2, h3, (i64_d h3), h4, (i64_b h4), bI_t, bI_f, nI_add1, gup_k, eSet_k, eClr_k, hSet_k, hClr_k, qSet_k, qCls_k]; done) | contradiction | (split <;> first | rfl | (simp_all; done)) | simp [xReap, xRe, xRe1, xRe2, xRe3, xRn, h1, h2, h3, (i64_d h3), h4, (i64_b h4), bI_t, bI_f, nI_add1, gup_k, eSet_k, eClr_k, hSet_k, hClr_k, qSet_k, qCls_k])
    ·
      refine pw_ldc2 n_19_54 l2_0_255 rfl ?_
      exact pw_lreturn n_19_57 rfl (by first | (simp [xReap, xRe, xRe1, xRe2, xRe3, xRn, h1, h2, (Classical.not_not.mp h2), bI_t, bI_f, nI_add1, gup_k, eSet_k, eClr_k, hSet_k, hClr_k, qSet_k, qCls_k]; done) | contradiction | (split <;> first | rfl | (simp_all; done)) | simp [xReap, xRe, xRe1, xRe2, xRe3, xRn, h1, h2, (Classical.not_not.mp h2), bI_t, bI_f, nI_add1, gup_k, eSet_k, eClr_k, hSet_k, hClr_k, qSet_k, qCls_k])
  ·
    refine pw_iload_n n_19_10 rfl rfl ?_
    refine pw_i2l n_19_11 rfl ?_
    exact pw_lreturn n_19_12 rfl (by first | (simp [xReap, xRe, xRe1, xRe2, xRe3, xRn, h1, bI_t, bI_f, nI_add1, gup_k, eSet_k, eClr_k, hSet_k, hClr_k, qSet_k, qCls_k]; done) | contradiction | (split <;> first | rfl | (simp_all; done)) | simp [xReap, xRe, xRe1, xRe2, xRe3, xRn, h1, bI_t, bI_f, nI_add1, gup_k, eSet_k, eClr_k, hSet_k, hClr_k, qSet_k, qCls_k])
