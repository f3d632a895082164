set_option maxRecDepth 100000 in
set_option maxHeartbeats 4000000 in
theorem w_113t {X M : gS} {x : Int32} {s : Int32} {z : Int32} (dv : ∀ v, v < 3 → ¬ M 61 v 0 = 0 → dvM M v) (su : ∀ v, v < 3 → ¬ M 61 v 0 = 0 → M 68 v 0 = nI (mPo M v) ∧ mPo M v < 2 ^ 30 ∧ mLive M (nI (mF M v)) = true ∧ mpA M) (d : Nat) : pm_Call (d + 3) 113 [.ref 152, .int x, .int 1, .int s, .int z] (gE X M) (some (.int ((mSubmit M x true s z).1)), gE X ((mSubmit M x true s z).2)) := by
  refine pw_start (d := d + 2) (l := [some (.ref 152), some (.int x), some (.int 1), some (.int s), some (.int z), none, none, none, none, none]) (Nat.le_of_ble_eq_true rfl) rfl ?_
  refine pw_aload_n n_113_0 rfl rfl ?_
  refine pw_iload_n n_113_1 rfl rfl ?_
  refine pw_virtV (a := 151) (as := [.int x]) (st := []) n_113_2 cl_7_156 ⟨rfl, rfl, rfl⟩ (sum8 rfl) (E_tg sh_R_state) rfl (w_112 (x := x) (by assumption) _) ?_
  refine pw_istore (l := [some (.ref 152), some (.int x), some (.int 1), some (.int s), some (.int z), some (.int (mTr M x)), none, none, none, none]) n_113_5 rfl rfl ?_
  refine pw_iload n_113_7 rfl rfl ?_
  refine pw_if_ge (q := 15) n_113_9 rfl rfl (fun h1 => ?_) (fun h1 => ?_)
  ·
    obtain ⟨xn, hxn, rfl, hp61⟩ := tr_nn (ge0 h1)
    have txn : tN (nI xn) = xn := nI_clamp (by omega)
    obtain ⟨hf, f5, hb, b5, hg, g5, hre, r6, hrp, p20⟩ := dv xn hxn hp61
    obtain ⟨hpo, o30, hlv, hmp⟩ := su xn hxn hp61
    refine pw_iload_n n_113_15 rfl rfl ?_
    refine pw_if_lt (q := 25) n_113_16 rfl rfl (fun h2 => ?_) (fun h2 => ?_)
    ·
      refine pw_bipush n_113_25 bc_m2 rfl ?_
      exact pw_ireturn (ty := .int) n_113_27 rfl rfl (by first | (simp [mSubmit, mSu, mSu1, mSu2, mSu3, mSuA, nJ_add8, h1, (i32_a h1), txn, h2, (i32_c h2), bI_t, bI_f, nI_add1, gup_k, eSet_k, eClr_k, hSet_k, hClr_k, qSet_k, qCls_k]; done) | contradiction | (split <;> first | rfl | (simp_all; done)) | simp [mSubmit, mSu, mSu1, mSu2, mSu3, mSuA, nJ_add8, h1, (i32_a h1), txn, h2, (i32_c h2), bI_t, bI_f, nI_add1, gup_k, eSet_k, eClr_k, hSet_k, hClr_k, qSet_k, qCls_k])
    ·
      refine pw_iload_n n_113_19 rfl rfl ?_
      refine pw_bipush n_113_20 bc_7 rfl ?_
      refine pw_icmp_le (q := 28) n_113_22 rfl rfl (fun h3 => ?_) (fun h3 => ?_)
      ·
        have h3b := tN_le2 (z := s) (k := 7) (by decide) h3
        obtain ⟨sn, hsn, rfl⟩ := nJ_of (k := 7) (by decide) h2 (le_nlt h3)
        have tsn : tN (nI sn) = sn := nI_clamp (by omega)
        refine pw_aload_n n_113_28 rfl rfl ?_
        refine pw_getf (a := 151) n_113_29 fl_7_44 (by decide) (rdR sh_R_front) rfl ?_
        refine pw_iload_n n_113_32 rfl rfl ?_
        refine pw_iald (a := cM 11) n_113_33 (nI_pos (by omega)) (nI_clamp (by omega)) (rdM (sh_M_front xn (by omega)) (by decide)) rfl ?_
        refine pw_iconst n_113_34 ic_1 rfl ?_
        refine pw_isub n_113_35 rfl ?_
        refine pw_top (y := nI (mF M xn)) (mF_eq hf) ?_
        refine pw_istore (l := [some (.ref 152), some (.int (nI xn)), some (.int 1), some (.int (nI sn)), some (.int z), some (.int (mTr M (nI xn))), some (.int (nI (mF M xn))), none, none, none]) n_113_36 rfl rfl ?_
        refine pw_aload_n n_113_38 rfl rfl ?_
        refine pw_getf (a := 151) n_113_39 fl_7_65 (by decide) (rdR sh_R_posted) rfl ?_
        refine pw_iload_n n_113_42 rfl rfl ?_
        refine pw_iald (a := cM 18) n_113_43 (nI_pos (by omega)) (nI_clamp (by omega)) (rdM (sh_M_posted xn (by omega)) (by decide)) rfl ?_
        refine pw_top (y := nI (mPo M xn)) hpo ?_
        refine pw_aload_n n_113_44 rfl rfl ?_
        refine pw_getf (a := 151) n_113_45 fl_7_68 (by decide) (rdR sh_R_reaped) rfl ?_
        refine pw_iload_n n_113_48 rfl rfl ?_
        refine pw_iald (a := cM 19) n_113_49 (nI_pos (by omega)) (nI_clamp (by omega)) (rdM (sh_M_reaped xn (by omega)) (by decide)) rfl ?_
        refine pw_isub n_113_50 rfl ?_
        refine pw_iconst n_113_51 ic_3 rfl ?_
        refine pw_icmp_eq (q := 82) n_113_52 rfl rfl (fun h4 => ?_) (fun h4 => ?_)
        ·
          refine pw_bipush n_113_82 bc_m7 rfl ?_
          exact pw_ireturn (ty := .int) n_113_84 rfl rfl (by first | (simp [mSubmit, mSu, mSu1, mSu2, mSu3, mSuA, nJ_add8, h1, (i32_a h1), txn, h2, (i32_d h2), h3, (i32_a h3), tsn, h4, bI_t, bI_f, nI_add1, gup_k, eSet_k, eClr_k, hSet_k, hClr_k, qSet_k, qCls_k]; done) | contradiction | (split <;> first | rfl | (simp_all; done)) | simp [mSubmit, mSu, mSu1, mSu2, mSu3, mSuA, nJ_add8, h1, (i32_a h1), txn, h2, (i32_d h2), h3, (i32_a h3), tsn, h4, bI_t, bI_f, nI_add1, gup_k, eSet_k, eClr_k, hSet_k, hClr_k, qSet_k, qCls_k])
        ·
          refine pw_aload_n n_113_55 rfl rfl ?_
          refine pw_iload n_113_56 rfl rfl ?_
          refine pw_virtV (a := 151) (as := [.int (nI (mF M xn))]) (st := []) n_113_58 cl_7_91 ⟨rfl, rfl, rfl⟩ (sum8 rfl) (E_tg sh_R_state) rfl (w_83 (x := (nI (mF M xn))) _) ?_
          refine pw_bipush n_113_61 bc_6 rfl ?_
          refine pw_icmp_ge (q := 82) n_113_63 rfl rfl (fun h5 => ?_) (fun h5 => ?_)
          ·
            refine pw_bipush n_113_82 bc_m7 rfl ?_
            exact pw_ireturn (ty := .int) n_113_84 rfl rfl (by first | (simp [mSubmit, mSu, mSu1, mSu2, mSu3, mSuA, nJ_add8, h1, (i32_a h1), txn, h2, (i32_d h2), h3, (i32_a h3), tsn, h4, h5, (i32_a h5), bI_t, bI_f, nI_add1, gup_k, eSet_k, eClr_k, hSet_k, hClr_k, qSet_k, qCls_k]; done) | contradiction | (split <;> first | rfl | (simp_all; done)) | simp [mSubmit, mSu, mSu1, mSu2, mSu3, mSuA, nJ_add8, h1, (i32_a h1), txn, h2, (i32_d h2), h3, (i32_a h3), tsn, h4, h5, (i32_a h5), bI_t, bI_f, nI_add1, gup_k, eSet_k, eClr_k, hSet_k, hClr_k, qSet_k, qCls_k])
          ·
            have h5b := tN_lt (z := (mCnt M (nI (mF M xn)))) (k := 6) (by decide) h5
            refine pw_aload_n n_113_66 rfl rfl ?_
            refine pw_virtV (a := 151) (as := []) (st := []) n_113_67 cl_7_109 ⟨rfl, rfl, rfl⟩ (sum8 rfl) (E_tg sh_R_state) rfl (w_84  _) ?_
            refine pw_if_lt (q := 82) n_113_70 rfl rfl (fun h6 => ?_) (fun h6 => ?_)
            ·
              refine pw_bipush n_113_82 bc_m7 rfl ?_
              exact pw_ireturn (ty := .int) n_113_84 rfl rfl (by first | (simp [mSubmit, mSu, mSu1, mSu2, mSu3, mSuA, nJ_add8, h1, (i32_a h1), txn, h2, (i32_d h2), h3, (i32_a h3), tsn, h4, h5, (i32_b h5), h6, (i32_c h6), bI_t, bI_f, nI_add1, gup_k, eSet_k, eClr_k, hSet_k, hClr_k, qSet_k, qCls_k]; done) | contradiction | (split <;> first | rfl | (simp_all; done)) | simp [mSubmit, mSu, mSu1, mSu2, mSu3, mSuA, nJ_add8, h1, (i32_a h1), txn, h2, (i32_d h2), h3, (i32_a h3), tsn, h4, h5, (i32_b h5), h6, (i32_c h6), bI_t, bI_f, nI_add1, gup_k, eSet_k, eClr_k, hSet_k, hClr_k, qSet_k, qCls_k])
            ·
              obtain ⟨sh6, hsh6, esh6⟩ := ir_mFpg h6
              have tsh6 : tN (nI sh6) = sh6 := nI_clamp (by omega)
              have qsh6 : ¬ nI sh6 < 0 := nI_pos (by omega)
              try rw [esh6]
              refine pw_aload_n n_113_73 rfl rfl ?_
              refine pw_iload n_113_74 rfl rfl ?_
              refine pw_virtV (a := 151) (as := [.int (nI (mF M xn))]) (st := []) n_113_76 cl_7_113 ⟨rfl, rfl, rfl⟩ (sum8 rfl) (E_tg sh_R_state) rfl (w_85 (a := (mF M xn)) (by omega) _) ?_
              refine pw_if_ge (q := 85) n_113_79 rfl rfl (fun h7 => ?_) (fun h7 => ?_)
              ·
                obtain ⟨sh7, hsh7, esh7⟩ := ir_mFe (ge0 h7)
                have tsh7 : tN (nI sh7) = sh7 := nI_clamp (by omega)
                have qsh7 : ¬ nI sh7 < 0 := nI_pos (by omega)
                try rw [esh7]
                refine pw_aload_n n_113_85 rfl rfl ?_
                refine pw_iload n_113_86 rfl rfl ?_
                refine pw_virtV (a := 151) (as := [.int (nI (mF M xn))]) (st := []) n_113_88 cl_7_139 ⟨rfl, rfl, rfl⟩ (sum8 rfl) (E_tg sh_R_state) rfl (w_94 (x := (nI (mF M xn))) _) ?_
                generalize gA1 : mAlloc M (nI (mF M xn)) = A1
                have eA1 : A1.1 = nI sh6 := by rw [← gA1, mAlloc_1 hlv h6 h5]; exact esh6
                refine pw_top (y := nI sh6) eA1 ?_
                refine pw_istore (l := [some (.ref 152), some (.int (nI xn)), some (.int 1), some (.int (nI sn)), some (.int z), some (.int (mTr M (nI xn))), some (.int (nI (mF M xn))), some (.int (nI sh6)), none, none]) n_113_91 rfl rfl ?_
                refine pw_iload_n n_113_93 rfl rfl ?_
                refine pw_if_eq_f (q := 109) n_113_94 rfl rfl (by decide) ?_
                refine pw_aload_n n_113_97 rfl rfl ?_
                refine pw_getf (a := 151) n_113_98 fl_7_16 (by decide) (rdR sh_R_words) rfl ?_
                refine pw_bipush n_113_101 bc_8 rfl ?_
                refine pw_iload n_113_103 rfl rfl ?_
                refine pw_imul n_113_105 rfl (pw_top (nJ_mul 8 sh6) ?_)
                refine pw_iload n_113_106 rfl rfl ?_
                refine pw_iast (a := cM 2) n_113_108 (nI_pos (by omega)) (nI_clamp (by omega)) (wrM (sh_M_words (8 * sh6) (by omega)) (by decide)) rfl ?_
                refine pw_aload_n n_113_109 rfl rfl ?_
                refine pw_iload n_113_110 rfl rfl ?_
                refine pw_aload_n n_113_112 rfl rfl ?_
                refine pw_getf (a := 151) n_113_113 fl_7_47 (by decide) (rdR sh_R_back) rfl ?_
                refine pw_iload_n n_113_116 rfl rfl ?_
                refine pw_iald (a := cM 12) n_113_117 (nI_pos (by omega)) (nI_clamp (by omega)) (rdM (sh_M_back xn (by omega)) (by decide)) rfl ?_
                refine pw_top (y := M 62 xn 0) (by simp [← gA1, xCo_k, mCo1_k, gup_k, gup_s, vBeg_k, eSet_k, eClr_k, hSet_k, hClr_k, qSet_k, qCls_k, xAlloc_k, xGrant_k, xMap_k, xOpen_k, xBind_k, xSend_k, xStore_k, xEnd_k, xFree_k, xUnmap_k, mAlloc_k, mGrant_k, mMap_k, mOpen_k, mBind_k, mSend_k, mEnd_k, mFree_k, mTk_k]) ?_
                refine pw_top (y := nI (mB M xn)) hb ?_
                refine pw_iload n_113_118 rfl rfl ?_
                refine pw_iload_n n_113_120 rfl rfl ?_
                refine pw_if_eq_f (q := 128) n_113_121 rfl rfl (by decide) ?_
                refine pw_iconst n_113_124 ic_0 rfl ?_
                refine pw_goto (q := 129) n_113_125 rfl ?_
                refine pw_virtV (a := 151) (as := [.int (nI (mF M xn)), .int (nI (mB M xn)), .int (nI sh6), .int 0]) (st := []) n_113_129 cl_7_142 ⟨rfl, rfl, rfl⟩ (sum8 rfl) (E_tg sh_R_state) rfl (w_96 (x := (nI (mF M xn))) (t := (nI (mB M xn))) (p := (nI sh6)) (k := 0) _) ?_
                generalize gA2 : mGrant (gup A1.2 52 (8 * sh6) 0 z) (nI (mF M xn)) (nI (mB M xn)) (nI sh6) 0 = A2
                refine pw_istore (l := [some (.ref 152), some (.int (nI xn)), some (.int 1), some (.int (nI sn)), some (.int z), some (.int (mTr M (nI xn))), some (.int (nI (mF M xn))), some (.int (nI sh6)), some (.int A2.1), none]) n_113_132 rfl rfl ?_
                refine pw_aload_n n_113_134 rfl rfl ?_
                refine pw_getf (a := 151) n_113_135 fl_7_65 (by decide) (rdR sh_R_posted) rfl ?_
                refine pw_iload_n n_113_138 rfl rfl ?_
                refine pw_iald (a := cM 18) n_113_139 (nI_pos (by omega)) (nI_clamp (by omega)) (rdM (sh_M_posted xn (by omega)) (by decide)) rfl ?_
                refine pw_top (y := M 68 xn 0) (by simp [← gA2, ← gA1, xCo_k, mCo1_k, gup_k, gup_s, vBeg_k, eSet_k, eClr_k, hSet_k, hClr_k, qSet_k, qCls_k, xAlloc_k, xGrant_k, xMap_k, xOpen_k, xBind_k, xSend_k, xStore_k, xEnd_k, xFree_k, xUnmap_k, mAlloc_k, mGrant_k, mMap_k, mOpen_k, mBind_k, mSend_k, mEnd_k, mFree_k, mTk_k]) ?_
                refine pw_top (y := nI (mPo M xn)) hpo ?_
                refine pw_istore (l := [some (.ref 152), some (.int (nI xn)), some (.int 1), some (.int (nI sn)), some (.int z), some (.int (mTr M (nI xn))), some (.int (nI (mF M xn))), some (.int (nI sh6)), some (.int A2.1), some (.int (nI (mPo M xn)))]) n_113_140 rfl rfl ?_
                refine pw_aload_n n_113_142 rfl rfl ?_
                refine pw_getf (a := 151) n_113_143 fl_7_74 (by decide) (rdR sh_R_notePage) rfl ?_
                refine pw_iconst n_113_146 ic_3 rfl ?_
                refine pw_iload_n n_113_147 rfl rfl ?_
                refine pw_imul n_113_148 rfl (pw_top (nJ_mul 3 xn) ?_)
                refine pw_iload n_113_149 rfl rfl ?_
                refine pw_iconst n_113_151 ic_3 rfl ?_
                refine pw_irem n_113_152 (by decide) rfl ?_
                refine pw_top (y := nI (mPo M xn % 3)) (rem3_nI (by omega)) ?_
                refine pw_iadd n_113_153 rfl (pw_top (nJ_add (3 * xn) (mPo M xn % 3)) ?_)
                refine pw_iload n_113_154 rfl rfl ?_
                refine pw_iast (a := cM 21) n_113_156 (nI_pos (by omega)) (nI_clamp (by omega)) (wrM (sh_M_notePage ((3 * xn) + (mPo M xn % 3)) (by omega)) (by decide)) rfl ?_
                refine pw_aload_n n_113_157 rfl rfl ?_
                refine pw_getf (a := 151) n_113_158 fl_7_77 (by decide) (rdR sh_R_noteEntry) rfl ?_
                refine pw_iconst n_113_161 ic_3 rfl ?_
                refine pw_iload_n n_113_162 rfl rfl ?_
                refine pw_imul n_113_163 rfl (pw_top (nJ_mul 3 xn) ?_)
                refine pw_iload n_113_164 rfl rfl ?_
                refine pw_iconst n_113_166 ic_3 rfl ?_
                refine pw_irem n_113_167 (by decide) rfl ?_
                refine pw_top (y := nI (mPo M xn % 3)) (rem3_nI (by omega)) ?_
                refine pw_iadd n_113_168 rfl (pw_top (nJ_add (3 * xn) (mPo M xn % 3)) ?_)
                refine pw_iload n_113_169 rfl rfl ?_
                refine pw_iast (a := cM 22) n_113_171 (nI_pos (by omega)) (nI_clamp (by omega)) (wrM (sh_M_noteEntry ((3 * xn) + (mPo M xn % 3)) (by omega)) (by decide)) rfl ?_
                refine pw_aload_n n_113_172 rfl rfl ?_
                refine pw_getf (a := 151) n_113_173 fl_7_16 (by decide) (rdR sh_R_words) rfl ?_
                refine pw_bipush n_113_176 bc_8 rfl ?_
                refine pw_aload_n n_113_178 rfl rfl ?_
                refine pw_getf (a := 151) n_113_179 fl_7_50 (by decide) (rdR sh_R_ring) rfl ?_
                refine pw_iload_n n_113_182 rfl rfl ?_
                refine pw_iald (a := cM 13) n_113_183 (nI_pos (by omega)) (nI_clamp (by omega)) (rdM (sh_M_ring xn (by omega)) (by decide)) rfl ?_
                refine pw_top (y := M 63 xn 0) (by simp [← gA2, ← gA1, xCo_k, mCo1_k, gup_k, gup_s, vBeg_k, eSet_k, eClr_k, hSet_k, hClr_k, qSet_k, qCls_k, xAlloc_k, xGrant_k, xMap_k, xOpen_k, xBind_k, xSend_k, xStore_k, xEnd_k, xFree_k, xUnmap_k, mAlloc_k, mGrant_k, mMap_k, mOpen_k, mBind_k, mSend_k, mEnd_k, mFree_k, mTk_k]) ?_
                refine pw_top (y := nI (mRp M xn)) hrp ?_
                refine pw_imul n_113_184 rfl (pw_top (nJ_mul 8 (mRp M xn)) ?_)
                refine pw_iconst n_113_185 ic_2 rfl ?_
                refine pw_iadd n_113_186 rfl (pw_top (nJ_add (8 * (mRp M xn)) 2) ?_)
                refine pw_iload n_113_187 rfl rfl ?_
                refine pw_iconst n_113_189 ic_3 rfl ?_
                refine pw_irem n_113_190 (by decide) rfl ?_
                refine pw_top (y := nI (mPo M xn % 3)) (rem3_nI (by omega)) ?_
                refine pw_iadd n_113_191 rfl (pw_top (nJ_add ((8 * (mRp M xn)) + 2) (mPo M xn % 3)) ?_)
                refine pw_iload_n n_113_192 rfl rfl ?_
                refine pw_iload_n n_113_193 rfl rfl ?_
                refine pw_if_eq_f (q := 202) n_113_194 rfl rfl (by decide) ?_
                refine pw_bipush n_113_197 bc_8 rfl ?_
                refine pw_goto (q := 203) n_113_199 rfl ?_
                refine pw_iadd n_113_203 rfl (pw_top (nJ_add sn 8) ?_)
                refine pw_bipush n_113_204 bc_16 rfl ?_
                refine pw_iload n_113_206 rfl rfl ?_
                refine pw_imul n_113_208 rfl ?_
                refine pw_iadd n_113_209 rfl ?_
                refine pw_iast (a := cM 2) n_113_210 (nI_pos (by omega)) (nI_clamp (by omega)) (wrM (sh_M_words (((8 * (mRp M xn)) + 2) + (mPo M xn % 3)) (by omega)) (by decide)) rfl ?_
                refine pw_aload_n n_113_211 rfl rfl ?_
                refine pw_getf (a := 151) n_113_212 fl_7_65 (by decide) (rdR sh_R_posted) rfl ?_
                refine pw_iload_n n_113_215 rfl rfl ?_
                refine pw_iload n_113_216 rfl rfl ?_
                refine pw_iconst n_113_218 ic_1 rfl ?_
                refine pw_iadd n_113_219 rfl (pw_top (nJ_add (mPo M xn) 1) ?_)
                refine pw_iast (a := cM 18) n_113_220 (nI_pos (by omega)) (nI_clamp (by omega)) (wrM (sh_M_posted xn (by omega)) (by decide)) rfl ?_
                refine pw_aload_n n_113_221 rfl rfl ?_
                refine pw_getf (a := 151) n_113_222 fl_7_16 (by decide) (rdR sh_R_words) rfl ?_
                refine pw_bipush n_113_225 bc_8 rfl ?_
                refine pw_aload_n n_113_227 rfl rfl ?_
                refine pw_getf (a := 151) n_113_228 fl_7_50 (by decide) (rdR sh_R_ring) rfl ?_
                refine pw_iload_n n_113_231 rfl rfl ?_
                refine pw_iald (a := cM 13) n_113_232 (nI_pos (by omega)) (nI_clamp (by omega)) (rdM (sh_M_ring xn (by omega)) (by decide)) rfl ?_
                refine pw_top (y := M 63 xn 0) (by simp [← gA2, ← gA1, xCo_k, mCo1_k, gup_k, gup_s, vBeg_k, eSet_k, eClr_k, hSet_k, hClr_k, qSet_k, qCls_k, xAlloc_k, xGrant_k, xMap_k, xOpen_k, xBind_k, xSend_k, xStore_k, xEnd_k, xFree_k, xUnmap_k, mAlloc_k, mGrant_k, mMap_k, mOpen_k, mBind_k, mSend_k, mEnd_k, mFree_k, mTk_k]) ?_
                refine pw_top (y := nI (mRp M xn)) hrp ?_
                refine pw_imul n_113_233 rfl (pw_top (nJ_mul 8 (mRp M xn)) ?_)
                refine pw_iload n_113_234 rfl rfl ?_
                refine pw_iconst n_113_236 ic_1 rfl ?_
                refine pw_iadd n_113_237 rfl (pw_top (nJ_add (mPo M xn) 1) ?_)
                refine pw_iast (a := cM 2) n_113_238 (nI_pos (by omega)) (nI_clamp (by omega)) (wrM (sh_M_words (8 * (mRp M xn)) (by omega)) (by decide)) rfl ?_
                refine pw_aload_n n_113_239 rfl rfl ?_
                refine pw_iload n_113_240 rfl rfl ?_
                refine pw_aload_n n_113_242 rfl rfl ?_
                refine pw_getf (a := 151) n_113_243 fl_7_59 (by decide) (rdR sh_R_frontPort) rfl ?_
                refine pw_iload_n n_113_246 rfl rfl ?_
                refine pw_iald (a := cM 16) n_113_247 (nI_pos (by omega)) (nI_clamp (by omega)) (rdM (sh_M_frontPort xn (by omega)) (by decide)) rfl ?_
                refine pw_top (y := M 66 xn 0) (by simp [← gA2, ← gA1, xCo_k, mCo1_k, gup_k, gup_s, vBeg_k, eSet_k, eClr_k, hSet_k, hClr_k, qSet_k, qCls_k, xAlloc_k, xGrant_k, xMap_k, xOpen_k, xBind_k, xSend_k, xStore_k, xEnd_k, xFree_k, xUnmap_k, mAlloc_k, mGrant_k, mMap_k, mOpen_k, mBind_k, mSend_k, mEnd_k, mFree_k, mTk_k]) ?_
                refine pw_virtV (a := 151) (as := [.int (nI (mF M xn)), .int (M 66 xn 0)]) (st := []) n_113_248 cl_7_159 ⟨rfl, rfl, rfl⟩ (sum8 rfl) (E_tg sh_R_state) rfl (w_109 (x := (nI (mF M xn))) (k := (M 66 xn 0)) (mpA_k (fun a => by simp [← gA2, ← gA1, xCo_k, mCo1_k, gup_k, gup_s, vBeg_k, eSet_k, eClr_k, hSet_k, hClr_k, qSet_k, qCls_k, xAlloc_k, xGrant_k, xMap_k, xOpen_k, xBind_k, xSend_k, xStore_k, xEnd_k, xFree_k, xUnmap_k, mAlloc_k, mGrant_k, mMap_k, mOpen_k, mBind_k, mSend_k, mEnd_k, mFree_k, mTk_k]) (fun a => by simp [← gA2, ← gA1, xCo_k, mCo1_k, gup_k, gup_s, vBeg_k, eSet_k, eClr_k, hSet_k, hClr_k, qSet_k, qCls_k, xAlloc_k, xGrant_k, xMap_k, xOpen_k, xBind_k, xSend_k, xStore_k, xEnd_k, xFree_k, xUnmap_k, mAlloc_k, mGrant_k, mMap_k, mOpen_k, mBind_k, mSend_k, mEnd_k, mFree_k, mTk_k]) hmp) _) ?_
                refine pw_pop n_113_251 rfl rfl ?_
                refine pw_iload n_113_252 rfl rfl ?_
                exact pw_ireturn (ty := .int) n_113_254 rfl rfl (by first | (simp [mSubmit, mSu, mSu1, mSu2, mSu3, mSuA, nJ_add8, h1, (i32_a h1), txn, h2, (i32_d h2), h3, (i32_a h3), tsn, h4, h5, (i32_b h5), h6, (i32_d h6), esh6, tsh6, qsh6, (i32_d qsh6), h7, (i32_a h7), esh7, tsh7, qsh7, (i32_d qsh7), gA1, eA1, gA2, bI_t, bI_f, nI_add1, gup_k, eSet_k, eClr_k, hSet_k, hClr_k, qSet_k, qCls_k]; done) | contradiction | (split <;> first | rfl | (simp_all; done)) | simp [mSubmit, mSu, mSu1, mSu2, mSu3, mSuA, nJ_add8, h1, (i32_a h1), txn, h2, (i32_d h2), h3, (i32_a h3), tsn, h4, h5, (i32_b h5), h6, (i32_d h6), esh6, tsh6, qsh6, (i32_d qsh6), h7, (i32_a h7), esh7, tsh7, qsh7, (i32_d qsh7), gA1, eA1, gA2, bI_t, bI_f, nI_add1, gup_k, eSet_k, eClr_k, hSet_k, hClr_k, qSet_k, qCls_k])
              ·
                refine pw_bipush n_113_82 bc_m7 rfl ?_
                exact pw_ireturn (ty := .int) n_113_84 rfl rfl (by first | (simp [mSubmit, mSu, mSu1, mSu2, mSu3, mSuA, nJ_add8, h1, (i32_a h1), txn, h2, (i32_d h2), h3, (i32_a h3), tsn, h4, h5, (i32_b h5), h6, (i32_d h6), esh6, tsh6, qsh6, (i32_d qsh6), h7, (i32_b h7), bI_t, bI_f, nI_add1, gup_k, eSet_k, eClr_k, hSet_k, hClr_k, qSet_k, qCls_k]; done) | contradiction | (split <;> first | rfl | (simp_all; done)) | simp [mSubmit, mSu, mSu1, mSu2, mSu3, mSuA, nJ_add8, h1, (i32_a h1), txn, h2, (i32_d h2), h3, (i32_a h3), tsn, h4, h5, (i32_b h5), h6, (i32_d h6), esh6, tsh6, qsh6, (i32_d qsh6), h7, (i32_b h7), bI_t, bI_f, nI_add1, gup_k, eSet_k, eClr_k, hSet_k, hClr_k, qSet_k, qCls_k])
      ·
        refine pw_bipush n_113_25 bc_m2 rfl ?_
        exact pw_ireturn (ty := .int) n_113_27 rfl rfl (by first | (simp [mSubmit, mSu, mSu1, mSu2, mSu3, mSuA, nJ_add8, h1, (i32_a h1), txn, h2, (i32_d h2), h3, (i32_b h3), bI_t, bI_f, nI_add1, gup_k, eSet_k, eClr_k, hSet_k, hClr_k, qSet_k, qCls_k]; done) | contradiction | (split <;> first | rfl | (simp_all; done)) | simp [mSubmit, mSu, mSu1, mSu2, mSu3, mSuA, nJ_add8, h1, (i32_a h1), txn, h2, (i32_d h2), h3, (i32_b h3), bI_t, bI_f, nI_add1, gup_k, eSet_k, eClr_k, hSet_k, hClr_k, qSet_k, qCls_k])
  ·
    refine pw_iload n_113_12 rfl rfl ?_
    exact pw_ireturn (ty := .int) n_113_14 rfl rfl (by first | (simp [mSubmit, mSu, mSu1, mSu2, mSu3, mSuA, nJ_add8, h1, (i32_b h1), bI_t, bI_f, nI_add1, gup_k, eSet_k, eClr_k, hSet_k, hClr_k, qSet_k, qCls_k]; done) | contradiction | (split <;> first | rfl | (simp_all; done)) | simp [mSubmit, mSu, mSu1, mSu2, mSu3, mSuA, nJ_add8, h1, (i32_b h1), bI_t, bI_f, nI_add1, gup_k, eSet_k, eClr_k, hSet_k, hClr_k, qSet_k, qCls_k])
set_option maxRecDepth 100000 in
set_option maxHeartbeats 4000000 in
theorem w_113f {X M : gS} {x : Int32} {s : Int32} {z : Int32} (dv : ∀ v, v < 3 → ¬ M 61 v 0 = 0 → dvM M v) (su : ∀ v, v < 3 → ¬ M 61 v 0 = 0 → M 68 v 0 = nI (mPo M v) ∧ mPo M v < 2 ^ 30 ∧ mLive M (nI (mF M v)) = true ∧ mpA M) (d : Nat) : pm_Call (d + 3) 113 [.ref 152, .int x, .int 0, .int s, .int z] (gE X M) (some (.int ((mSubmit M x false s z).1)), gE X ((mSubmit M x false s z).2)) := by
  refine pw_start (d := d + 2) (l := [some (.ref 152), some (.int x), some (.int 0), some (.int s), some (.int z), none, none, none, none, none]) (Nat.le_of_ble_eq_true rfl) rfl ?_
  refine pw_aload_n n_113_0 rfl rfl ?_
  refine pw_iload_n n_113_1 rfl rfl ?_
  refine pw_virtV (a := 151) (as := [.int x]) (st := []) n_113_2 cl_7_156 ⟨rfl, rfl, rfl⟩ (sum8 rfl) (E_tg sh_R_state) rfl (w_112 (x := x) (by assumption) _) ?_
  refine pw_istore (l := [some (.ref 152), some (.int x), some (.int 0), some (.int s), some (.int z), some (.int (mTr M x)), none, none, none, none]) n_113_5 rfl rfl ?_
  refine pw_iload n_113_7 rfl rfl ?_
  refine pw_if_ge (q := 15) n_113_9 rfl rfl (fun h1 => ?_) (fun h1 => ?_)
  ·
    obtain ⟨xn, hxn, rfl, hp61⟩ := tr_nn (ge0 h1)
    have txn : tN (nI xn) = xn := nI_clamp (by omega)
    obtain ⟨hf, f5, hb, b5, hg, g5, hre, r6, hrp, p20⟩ := dv xn hxn hp61
    obtain ⟨hpo, o30, hlv, hmp⟩ := su xn hxn hp61
    refine pw_iload_n n_113_15 rfl rfl ?_
    refine pw_if_lt (q := 25) n_113_16 rfl rfl (fun h2 => ?_) (fun h2 => ?_)
    ·
      refine pw_bipush n_113_25 bc_m2 rfl ?_
      exact pw_ireturn (ty := .int) n_113_27 rfl rfl (by first | (simp [mSubmit, mSu, mSu1, mSu2, mSu3, mSuA, nJ_add8, h1, (i32_a h1), txn, h2, (i32_c h2), bI_t, bI_f, nI_add1, gup_k, eSet_k, eClr_k, hSet_k, hClr_k, qSet_k, qCls_k]; done) | contradiction | (split <;> first | rfl | (simp_all; done)) | simp [mSubmit, mSu, mSu1, mSu2, mSu3, mSuA, nJ_add8, h1, (i32_a h1), txn, h2, (i32_c h2), bI_t, bI_f, nI_add1, gup_k, eSet_k, eClr_k, hSet_k, hClr_k, qSet_k, qCls_k])
    ·
      refine pw_iload_n n_113_19 rfl rfl ?_
      refine pw_bipush n_113_20 bc_7 rfl ?_
      refine pw_icmp_le (q := 28) n_113_22 rfl rfl (fun h3 => ?_) (fun h3 => ?_)
      ·
        have h3b := tN_le2 (z := s) (k := 7) (by decide) h3
        obtain ⟨sn, hsn, rfl⟩ := nJ_of (k := 7) (by decide) h2 (le_nlt h3)
        have tsn : tN (nI sn) = sn := nI_clamp (by omega)
        refine pw_aload_n n_113_28 rfl rfl ?_
        refine pw_getf (a := 151) n_113_29 fl_7_44 (by decide) (rdR sh_R_front) rfl ?_
        refine pw_iload_n n_113_32 rfl rfl ?_
        refine pw_iald (a := cM 11) n_113_33 (nI_pos (by omega)) (nI_clamp (by omega)) (rdM (sh_M_front xn (by omega)) (by decide)) rfl ?_
        refine pw_iconst n_113_34 ic_1 rfl ?_
        refine pw_isub n_113_35 rfl ?_
        refine pw_top (y := nI (mF M xn)) (mF_eq hf) ?_
        refine pw_istore (l := [some (.ref 152), some (.int (nI xn)), some (.int 0), some (.int (nI sn)), some (.int z), some (.int (mTr M (nI xn))), some (.int (nI (mF M xn))), none, none, none]) n_113_36 rfl rfl ?_
        refine pw_aload_n n_113_38 rfl rfl ?_
        refine pw_getf (a := 151) n_113_39 fl_7_65 (by decide) (rdR sh_R_posted) rfl ?_
        refine pw_iload_n n_113_42 rfl rfl ?_
        refine pw_iald (a := cM 18) n_113_43 (nI_pos (by omega)) (nI_clamp (by omega)) (rdM (sh_M_posted xn (by omega)) (by decide)) rfl ?_
        refine pw_top (y := nI (mPo M xn)) hpo ?_
        refine pw_aload_n n_113_44 rfl rfl ?_
        refine pw_getf (a := 151) n_113_45 fl_7_68 (by decide) (rdR sh_R_reaped) rfl ?_
        refine pw_iload_n n_113_48 rfl rfl ?_
        refine pw_iald (a := cM 19) n_113_49 (nI_pos (by omega)) (nI_clamp (by omega)) (rdM (sh_M_reaped xn (by omega)) (by decide)) rfl ?_
        refine pw_isub n_113_50 rfl ?_
        refine pw_iconst n_113_51 ic_3 rfl ?_
        refine pw_icmp_eq (q := 82) n_113_52 rfl rfl (fun h4 => ?_) (fun h4 => ?_)
        ·
          refine pw_bipush n_113_82 bc_m7 rfl ?_
          exact pw_ireturn (ty := .int) n_113_84 rfl rfl (by first | (simp [mSubmit, mSu, mSu1, mSu2, mSu3, mSuA, nJ_add8, h1, (i32_a h1), txn, h2, (i32_d h2), h3, (i32_a h3), tsn, h4, bI_t, bI_f, nI_add1, gup_k, eSet_k, eClr_k, hSet_k, hClr_k, qSet_k, qCls_k]; done) | contradiction | (split <;> first | rfl | (simp_all; done)) | simp [mSubmit, mSu, mSu1, mSu2, mSu3, mSuA, nJ_add8, h1, (i32_a h1), txn, h2, (i32_d h2), h3, (i32_a h3), tsn, h4, bI_t, bI_f, nI_add1, gup_k, eSet_k, eClr_k, hSet_k, hClr_k, qSet_k, qCls_k])
        ·
          refine pw_aload_n n_113_55 rfl rfl ?_
          refine pw_iload n_113_56 rfl rfl ?_
          refine pw_virtV (a := 151) (as := [.int (nI (mF M xn))]) (st := []) n_113_58 cl_7_91 ⟨rfl, rfl, rfl⟩ (sum8 rfl) (E_tg sh_R_state) rfl (w_83 (x := (nI (mF M xn))) _) ?_
          refine pw_bipush n_113_61 bc_6 rfl ?_
          refine pw_icmp_ge (q := 82) n_113_63 rfl rfl (fun h5 => ?_) (fun h5 => ?_)
          ·
            refine pw_bipush n_113_82 bc_m7 rfl ?_
            exact pw_ireturn (ty := .int) n_113_84 rfl rfl (by first | (simp [mSubmit, mSu, mSu1, mSu2, mSu3, mSuA, nJ_add8, h1, (i32_a h1), txn, h2, (i32_d h2), h3, (i32_a h3), tsn, h4, h5, (i32_a h5), bI_t, bI_f, nI_add1, gup_k, eSet_k, eClr_k, hSet_k, hClr_k, qSet_k, qCls_k]; done) | contradiction | (split <;> first | rfl | (simp_all; done)) | simp [mSubmit, mSu, mSu1, mSu2, mSu3, mSuA, nJ_add8, h1, (i32_a h1), txn, h2, (i32_d h2), h3, (i32_a h3), tsn, h4, h5, (i32_a h5), bI_t, bI_f, nI_add1, gup_k, eSet_k, eClr_k, hSet_k, hClr_k, qSet_k, qCls_k])
          ·
            have h5b := tN_lt (z := (mCnt M (nI (mF M xn)))) (k := 6) (by decide) h5
            refine pw_aload_n n_113_66 rfl rfl ?_
            refine pw_virtV (a := 151) (as := []) (st := []) n_113_67 cl_7_109 ⟨rfl, rfl, rfl⟩ (sum8 rfl) (E_tg sh_R_state) rfl (w_84  _) ?_
            refine pw_if_lt (q := 82) n_113_70 rfl rfl (fun h6 => ?_) (fun h6 => ?_)
            ·
              refine pw_bipush n_113_82 bc_m7 rfl ?_
              exact pw_ireturn (ty := .int) n_113_84 rfl rfl (by first | (simp [mSubmit, mSu, mSu1, mSu2, mSu3, mSuA, nJ_add8, h1, (i32_a h1), txn, h2, (i32_d h2), h3, (i32_a h3), tsn, h4, h5, (i32_b h5), h6, (i32_c h6), bI_t, bI_f, nI_add1, gup_k, eSet_k, eClr_k, hSet_k, hClr_k, qSet_k, qCls_k]; done) | contradiction | (split <;> first | rfl | (simp_all; done)) | simp [mSubmit, mSu, mSu1, mSu2, mSu3, mSuA, nJ_add8, h1, (i32_a h1), txn, h2, (i32_d h2), h3, (i32_a h3), tsn, h4, h5, (i32_b h5), h6, (i32_c h6), bI_t, bI_f, nI_add1, gup_k, eSet_k, eClr_k, hSet_k, hClr_k, qSet_k, qCls_k])
            ·
              obtain ⟨sh6, hsh6, esh6⟩ := ir_mFpg h6
              have tsh6 : tN (nI sh6) = sh6 := nI_clamp (by omega)
              have qsh6 : ¬ nI sh6 < 0 := nI_pos (by omega)
              try rw [esh6]
              refine pw_aload_n n_113_73 rfl rfl ?_
              refine pw_iload n_113_74 rfl rfl ?_
              refine pw_virtV (a := 151) (as := [.int (nI (mF M xn))]) (st := []) n_113_76 cl_7_113 ⟨rfl, rfl, rfl⟩ (sum8 rfl) (E_tg sh_R_state) rfl (w_85 (a := (mF M xn)) (by omega) _) ?_
              refine pw_if_ge (q := 85) n_113_79 rfl rfl (fun h7 => ?_) (fun h7 => ?_)
              ·
                obtain ⟨sh7, hsh7, esh7⟩ := ir_mFe (ge0 h7)
                have tsh7 : tN (nI sh7) = sh7 := nI_clamp (by omega)
                have qsh7 : ¬ nI sh7 < 0 := nI_pos (by omega)
                try rw [esh7]
                refine pw_aload_n n_113_85 rfl rfl ?_
                refine pw_iload n_113_86 rfl rfl ?_
                refine pw_virtV (a := 151) (as := [.int (nI (mF M xn))]) (st := []) n_113_88 cl_7_139 ⟨rfl, rfl, rfl⟩ (sum8 rfl) (E_tg sh_R_state) rfl (w_94 (x := (nI (mF M xn))) _) ?_
                generalize gA1 : mAlloc M (nI (mF M xn)) = A1
                have eA1 : A1.1 = nI sh6 := by rw [← gA1, mAlloc_1 hlv h6 h5]; exact esh6
                refine pw_top (y := nI sh6) eA1 ?_
                refine pw_istore (l := [some (.ref 152), some (.int (nI xn)), some (.int 0), some (.int (nI sn)), some (.int z), some (.int (mTr M (nI xn))), some (.int (nI (mF M xn))), some (.int (nI sh6)), none, none]) n_113_91 rfl rfl ?_
                refine pw_iload_n n_113_93 rfl rfl ?_
                refine pw_if_eq_t (q := 109) n_113_94 rfl (by decide) ?_
                refine pw_aload_n n_113_109 rfl rfl ?_
                refine pw_iload n_113_110 rfl rfl ?_
                refine pw_aload_n n_113_112 rfl rfl ?_
                refine pw_getf (a := 151) n_113_113 fl_7_47 (by decide) (rdR sh_R_back) rfl ?_
                refine pw_iload_n n_113_116 rfl rfl ?_
                refine pw_iald (a := cM 12) n_113_117 (nI_pos (by omega)) (nI_clamp (by omega)) (rdM (sh_M_back xn (by omega)) (by decide)) rfl ?_
                refine pw_top (y := M 62 xn 0) (by simp [← gA1, xCo_k, mCo1_k, gup_k, gup_s, vBeg_k, eSet_k, eClr_k, hSet_k, hClr_k, qSet_k, qCls_k, xAlloc_k, xGrant_k, xMap_k, xOpen_k, xBind_k, xSend_k, xStore_k, xEnd_k, xFree_k, xUnmap_k, mAlloc_k, mGrant_k, mMap_k, mOpen_k, mBind_k, mSend_k, mEnd_k, mFree_k, mTk_k]) ?_
                refine pw_top (y := nI (mB M xn)) hb ?_
                refine pw_iload n_113_118 rfl rfl ?_
                refine pw_iload_n n_113_120 rfl rfl ?_
                refine pw_if_eq_t (q := 128) n_113_121 rfl (by decide) ?_
                refine pw_iconst n_113_128 ic_1 rfl ?_
                refine pw_virtV (a := 151) (as := [.int (nI (mF M xn)), .int (nI (mB M xn)), .int (nI sh6), .int 1]) (st := []) n_113_129 cl_7_142 ⟨rfl, rfl, rfl⟩ (sum8 rfl) (E_tg sh_R_state) rfl (w_96 (x := (nI (mF M xn))) (t := (nI (mB M xn))) (p := (nI sh6)) (k := 1) _) ?_
                generalize gA2 : mGrant A1.2 (nI (mF M xn)) (nI (mB M xn)) (nI sh6) 1 = A2
                refine pw_istore (l := [some (.ref 152), some (.int (nI xn)), some (.int 0), some (.int (nI sn)), some (.int z), some (.int (mTr M (nI xn))), some (.int (nI (mF M xn))), some (.int (nI sh6)), some (.int A2.1), none]) n_113_132 rfl rfl ?_
                refine pw_aload_n n_113_134 rfl rfl ?_
                refine pw_getf (a := 151) n_113_135 fl_7_65 (by decide) (rdR sh_R_posted) rfl ?_
                refine pw_iload_n n_113_138 rfl rfl ?_
                refine pw_iald (a := cM 18) n_113_139 (nI_pos (by omega)) (nI_clamp (by omega)) (rdM (sh_M_posted xn (by omega)) (by decide)) rfl ?_
                refine pw_top (y := M 68 xn 0) (by simp [← gA2, ← gA1, xCo_k, mCo1_k, gup_k, gup_s, vBeg_k, eSet_k, eClr_k, hSet_k, hClr_k, qSet_k, qCls_k, xAlloc_k, xGrant_k, xMap_k, xOpen_k, xBind_k, xSend_k, xStore_k, xEnd_k, xFree_k, xUnmap_k, mAlloc_k, mGrant_k, mMap_k, mOpen_k, mBind_k, mSend_k, mEnd_k, mFree_k, mTk_k]) ?_
                refine pw_top (y := nI (mPo M xn)) hpo ?_
                refine pw_istore (l := [some (.ref 152), some (.int (nI xn)), some (.int 0), some (.int (nI sn)), some (.int z), some (.int (mTr M (nI xn))), some (.int (nI (mF M xn))), some (.int (nI sh6)), some (.int A2.1), some (.int (nI (mPo M xn)))]) n_113_140 rfl rfl ?_
                refine pw_aload_n n_113_142 rfl rfl ?_
                refine pw_getf (a := 151) n_113_143 fl_7_74 (by decide) (rdR sh_R_notePage) rfl ?_
                refine pw_iconst n_113_146 ic_3 rfl ?_
                refine pw_iload_n n_113_147 rfl rfl ?_
                refine pw_imul n_113_148 rfl (pw_top (nJ_mul 3 xn) ?_)
                refine pw_iload n_113_149 rfl rfl ?_
                refine pw_iconst n_113_151 ic_3 rfl ?_
                refine pw_irem n_113_152 (by decide) rfl ?_
                refine pw_top (y := nI (mPo M xn % 3)) (rem3_nI (by omega)) ?_
                refine pw_iadd n_113_153 rfl (pw_top (nJ_add (3 * xn) (mPo M xn % 3)) ?_)
                refine pw_iload n_113_154 rfl rfl ?_
                refine pw_iast (a := cM 21) n_113_156 (nI_pos (by omega)) (nI_clamp (by omega)) (wrM (sh_M_notePage ((3 * xn) + (mPo M xn % 3)) (by omega)) (by decide)) rfl ?_
                refine pw_aload_n n_113_157 rfl rfl ?_
                refine pw_getf (a := 151) n_113_158 fl_7_77 (by decide) (rdR sh_R_noteEntry) rfl ?_
                refine pw_iconst n_113_161 ic_3 rfl ?_
                refine pw_iload_n n_113_162 rfl rfl ?_
                refine pw_imul n_113_163 rfl (pw_top (nJ_mul 3 xn) ?_)
                refine pw_iload n_113_164 rfl rfl ?_
                refine pw_iconst n_113_166 ic_3 rfl ?_
                refine pw_irem n_113_167 (by decide) rfl ?_
                refine pw_top (y := nI (mPo M xn % 3)) (rem3_nI (by omega)) ?_
                refine pw_iadd n_113_168 rfl (pw_top (nJ_add (3 * xn) (mPo M xn % 3)) ?_)
                refine pw_iload n_113_169 rfl rfl ?_
                refine pw_iast (a := cM 22) n_113_171 (nI_pos (by omega)) (nI_clamp (by omega)) (wrM (sh_M_noteEntry ((3 * xn) + (mPo M xn % 3)) (by omega)) (by decide)) rfl ?_
                refine pw_aload_n n_113_172 rfl rfl ?_
                refine pw_getf (a := 151) n_113_173 fl_7_16 (by decide) (rdR sh_R_words) rfl ?_
                refine pw_bipush n_113_176 bc_8 rfl ?_
                refine pw_aload_n n_113_178 rfl rfl ?_
                refine pw_getf (a := 151) n_113_179 fl_7_50 (by decide) (rdR sh_R_ring) rfl ?_
                refine pw_iload_n n_113_182 rfl rfl ?_
                refine pw_iald (a := cM 13) n_113_183 (nI_pos (by omega)) (nI_clamp (by omega)) (rdM (sh_M_ring xn (by omega)) (by decide)) rfl ?_
                refine pw_top (y := M 63 xn 0) (by simp [← gA2, ← gA1, xCo_k, mCo1_k, gup_k, gup_s, vBeg_k, eSet_k, eClr_k, hSet_k, hClr_k, qSet_k, qCls_k, xAlloc_k, xGrant_k, xMap_k, xOpen_k, xBind_k, xSend_k, xStore_k, xEnd_k, xFree_k, xUnmap_k, mAlloc_k, mGrant_k, mMap_k, mOpen_k, mBind_k, mSend_k, mEnd_k, mFree_k, mTk_k]) ?_
                refine pw_top (y := nI (mRp M xn)) hrp ?_
                refine pw_imul n_113_184 rfl (pw_top (nJ_mul 8 (mRp M xn)) ?_)
                refine pw_iconst n_113_185 ic_2 rfl ?_
                refine pw_iadd n_113_186 rfl (pw_top (nJ_add (8 * (mRp M xn)) 2) ?_)
                refine pw_iload n_113_187 rfl rfl ?_
                refine pw_iconst n_113_189 ic_3 rfl ?_
                refine pw_irem n_113_190 (by decide) rfl ?_
                refine pw_top (y := nI (mPo M xn % 3)) (rem3_nI (by omega)) ?_
                refine pw_iadd n_113_191 rfl (pw_top (nJ_add ((8 * (mRp M xn)) + 2) (mPo M xn % 3)) ?_)
                refine pw_iload_n n_113_192 rfl rfl ?_
                refine pw_iload_n n_113_193 rfl rfl ?_
                refine pw_if_eq_t (q := 202) n_113_194 rfl (by decide) ?_
                refine pw_iconst n_113_202 ic_0 rfl ?_
                refine pw_iadd n_113_203 rfl (pw_top (nJ_add sn 0) ?_)
                refine pw_bipush n_113_204 bc_16 rfl ?_
                refine pw_iload n_113_206 rfl rfl ?_
                refine pw_imul n_113_208 rfl ?_
                refine pw_iadd n_113_209 rfl ?_
                refine pw_iast (a := cM 2) n_113_210 (nI_pos (by omega)) (nI_clamp (by omega)) (wrM (sh_M_words (((8 * (mRp M xn)) + 2) + (mPo M xn % 3)) (by omega)) (by decide)) rfl ?_
                refine pw_aload_n n_113_211 rfl rfl ?_
                refine pw_getf (a := 151) n_113_212 fl_7_65 (by decide) (rdR sh_R_posted) rfl ?_
                refine pw_iload_n n_113_215 rfl rfl ?_
                refine pw_iload n_113_216 rfl rfl ?_
                refine pw_iconst n_113_218 ic_1 rfl ?_
                refine pw_iadd n_113_219 rfl (pw_top (nJ_add (mPo M xn) 1) ?_)
                refine pw_iast (a := cM 18) n_113_220 (nI_pos (by omega)) (nI_clamp (by omega)) (wrM (sh_M_posted xn (by omega)) (by decide)) rfl ?_
                refine pw_aload_n n_113_221 rfl rfl ?_
                refine pw_getf (a := 151) n_113_222 fl_7_16 (by decide) (rdR sh_R_words) rfl ?_
                refine pw_bipush n_113_225 bc_8 rfl ?_
                refine pw_aload_n n_113_227 rfl rfl ?_
                refine pw_getf (a := 151) n_113_228 fl_7_50 (by decide) (rdR sh_R_ring) rfl ?_
                refine pw_iload_n n_113_231 rfl rfl ?_
                refine pw_iald (a := cM 13) n_113_232 (nI_pos (by omega)) (nI_clamp (by omega)) (rdM (sh_M_ring xn (by omega)) (by decide)) rfl ?_
                refine pw_top (y := M 63 xn 0) (by simp [← gA2, ← gA1, xCo_k, mCo1_k, gup_k, gup_s, vBeg_k, eSet_k, eClr_k, hSet_k, hClr_k, qSet_k, qCls_k, xAlloc_k, xGrant_k, xMap_k, xOpen_k, xBind_k, xSend_k, xStore_k, xEnd_k, xFree_k, xUnmap_k, mAlloc_k, mGrant_k, mMap_k, mOpen_k, mBind_k, mSend_k, mEnd_k, mFree_k, mTk_k]) ?_
                refine pw_top (y := nI (mRp M xn)) hrp ?_
                refine pw_imul n_113_233 rfl (pw_top (nJ_mul 8 (mRp M xn)) ?_)
                refine pw_iload n_113_234 rfl rfl ?_
                refine pw_iconst n_113_236 ic_1 rfl ?_
                refine pw_iadd n_113_237 rfl (pw_top (nJ_add (mPo M xn) 1) ?_)
                refine pw_iast (a := cM 2) n_113_238 (nI_pos (by omega)) (nI_clamp (by omega)) (wrM (sh_M_words (8 * (mRp M xn)) (by omega)) (by decide)) rfl ?_
                refine pw_aload_n n_113_239 rfl rfl ?_
                refine pw_iload n_113_240 rfl rfl ?_
                refine pw_aload_n n_113_242 rfl rfl ?_
                refine pw_getf (a := 151) n_113_243 fl_7_59 (by decide) (rdR sh_R_frontPort) rfl ?_
                refine pw_iload_n n_113_246 rfl rfl ?_
                refine pw_iald (a := cM 16) n_113_247 (nI_pos (by omega)) (nI_clamp (by omega)) (rdM (sh_M_frontPort xn (by omega)) (by decide)) rfl ?_
                refine pw_top (y := M 66 xn 0) (by simp [← gA2, ← gA1, xCo_k, mCo1_k, gup_k, gup_s, vBeg_k, eSet_k, eClr_k, hSet_k, hClr_k, qSet_k, qCls_k, xAlloc_k, xGrant_k, xMap_k, xOpen_k, xBind_k, xSend_k, xStore_k, xEnd_k, xFree_k, xUnmap_k, mAlloc_k, mGrant_k, mMap_k, mOpen_k, mBind_k, mSend_k, mEnd_k, mFree_k, mTk_k]) ?_
                refine pw_virtV (a := 151) (as := [.int (nI (mF M xn)), .int (M 66 xn 0)]) (st := []) n_113_248 cl_7_159 ⟨rfl, rfl, rfl⟩ (sum8 rfl) (E_tg sh_R_state) rfl (w_109 (x := (nI (mF M xn))) (k := (M 66 xn 0)) (mpA_k (fun a => by simp [← gA2, ← gA1, xCo_k, mCo1_k, gup_k, gup_s, vBeg_k, eSet_k, eClr_k, hSet_k, hClr_k, qSet_k, qCls_k, xAlloc_k, xGrant_k, xMap_k, xOpen_k, xBind_k, xSend_k, xStore_k, xEnd_k, xFree_k, xUnmap_k, mAlloc_k, mGrant_k, mMap_k, mOpen_k, mBind_k, mSend_k, mEnd_k, mFree_k, mTk_k]) (fun a => by simp [← gA2, ← gA1, xCo_k, mCo1_k, gup_k, gup_s, vBeg_k, eSet_k, eClr_k, hSet_k, hClr_k, qSet_k, qCls_k, xAlloc_k, xGrant_k, xMap_k, xOpen_k, xBind_k, xSend_k, xStore_k, xEnd_k, xFree_k, xUnmap_k, mAlloc_k, mGrant_k, mMap_k, mOpen_k, mBind_k, mSend_k, mEnd_k, mFree_k, mTk_k]) hmp) _) ?_
                refine pw_pop n_113_251 rfl rfl ?_
                refine pw_iload n_113_252 rfl rfl ?_
                exact pw_ireturn (ty := .int) n_113_254 rfl rfl (by first | (simp [mSubmit, mSu, mSu1, mSu2, mSu3, mSuA, nJ_add8, h1, (i32_a h1), txn, h2, (i32_d h2), h3, (i32_a h3), tsn, h4, h5, (i32_b h5), h6, (i32_d h6), esh6, tsh6, qsh6, (i32_d qsh6), h7, (i32_a h7), esh7, tsh7, qsh7, (i32_d qsh7), gA1, eA1, gA2, bI_t, bI_f, nI_add1, gup_k, eSet_k, eClr_k, hSet_k, hClr_k, qSet_k, qCls_k]; done) | contradiction | (split <;> first | rfl | (simp_all; done)) | simp [mSubmit, mSu, mSu1, mSu2, mSu3, mSuA, nJ_add8, h1, (i32_a h1), txn, h2, (i32_d h2), h3, (i32_a h3), tsn, h4, h5, (i32_b h5), h6, (i32_d h6), esh6, tsh6, qsh6, (i32_d qsh6), h7, (i32_a h7), esh7, tsh7, qsh7, (i32_d qsh7), gA1, eA1, gA2, bI_t, bI_f, nI_add1, gup_k, eSet_k, eClr_k, hSet_k, hClr_k, qSet_k, qCls_k])
              ·
                refine pw_bipush n_113_82 bc_m7 rfl ?_
                exact pw_ireturn (ty := .int) n_113_84 rfl rfl (by first | (simp [mSubmit, mSu, mSu1, mSu2, mSu3, mSuA, nJ_add8, h1, (i32_a h1), txn, h2, (i32_d h2), h3, (i32_a h3), tsn, h4, h5, (i32_b h5), h6, (i32_d h6), esh6, tsh6, qsh6, (i32_d qsh6), h7, (i32_b h7), bI_t, bI_f, nI_add1, gup_k, eSet_k, eClr_k, hSet_k, hClr_k, qSet_k, qCls_k]; done) | contradiction | (split <;> first | rfl | (simp_all; done)) | simp [mSubmit, mSu, mSu1, mSu2, mSu3, mSuA, nJ_add8, h1, (i32_a h1), txn, h2, (i32_d h2), h3, (i32_a h3), tsn, h4, h5, (i32_b h5), h6, (i32_d h6), esh6, tsh6, qsh6, (i32_d qsh6), h7, (i32_b h7), bI_t, bI_f, nI_add1, gup_k, eSet_k, eClr_k, hSet_k, hClr_k, qSet_k, qCls_k])
      ·
        refine pw_bipush n_113_25 bc_m2 rfl ?_
        exact pw_ireturn (ty := .int) n_113_27 rfl rfl (by first | (simp [mSubmit, mSu, mSu1, mSu2, mSu3, mSuA, nJ_add8, h1, (i32_a h1), txn, h2, (i32_d h2), h3, (i32_b h3), bI_t, bI_f, nI_add1, gup_k, eSet_k, eClr_k, hSet_k, hClr_k, qSet_k, qCls_k]; done) | contradiction | (split <;> first | rfl | (simp_all; done)) | simp [mSubmit, mSu, mSu1, mSu2, mSu3, mSuA, nJ_add8, h1, (i32_a h1), txn, h2, (i32_d h2), h3, (i32_b h3), bI_t, bI_f, nI_add1, gup_k, eSet_k, eClr_k, hSet_k, hClr_k, qSet_k, qCls_k])
  ·
    refine pw_iload n_113_12 rfl rfl ?_
    exact pw_ireturn (ty := .int) n_113_14 rfl rfl (by first | (simp [mSubmit, mSu, mSu1, mSu2, mSu3, mSuA, nJ_add8, h1, (i32_b h1), bI_t, bI_f, nI_add1, gup_k, eSet_k, eClr_k, hSet_k, hClr_k, qSet_k, qCls_k]; done) | contradiction | (split <;> first | rfl | (simp_all; done)) | simp [mSubmit, mSu, mSu1, mSu2, mSu3, mSuA, nJ_add8, h1, (i32_b h1), bI_t, bI_f, nI_add1, gup_k, eSet_k, eClr_k, hSet_k, hClr_k, qSet_k, qCls_k])
set_option maxRecDepth 100000 in
set_option maxHeartbeats 4000000 in
theorem w_114 {X M : gS} {x : Int32} (dv : ∀ v, v < 3 → ¬ M 61 v 0 = 0 → dvM M v) (su : ∀ v, v < 3 → ¬ M 61 v 0 = 0 → M 70 v 0 = nI (mTa M v) ∧ mTa M v < 2 ^ 30 ∧ mpA M ∧ (¬ (mCom M v (mSq M v) (decide (mSq M v &&& 8 = 0))).1 < 0 → coMF M (mCom M v (mSq M v) (decide (mSq M v &&& 8 = 0))) v (mSq M v) (decide (mSq M v &&& 8 = 0)))) (d : Nat) : pm_Call (d + 4) 114 [.ref 152, .int x] (gE X M) (some (.int ((mServe M x).1)), gE X ((mServe M x).2)) := by
  refine pw_start (d := d + 3) (l := [some (.ref 152), some (.int x), none, none, none, none, none, none, none, none, none, none, none, none]) (Nat.le_of_ble_eq_true rfl) rfl ?_
  refine pw_aload_n n_114_0 rfl rfl ?_
  refine pw_iload_n n_114_1 rfl rfl ?_
  refine pw_virtV (a := 151) (as := [.int x]) (st := []) n_114_2 cl_7_156 ⟨rfl, rfl, rfl⟩ (sum8 rfl) (E_tg sh_R_state) rfl (w_112 (x := x) (by assumption) _) ?_
  refine pw_istore_n (l := [some (.ref 152), some (.int x), some (.int (mTr M x)), none, none, none, none, none, none, none, none, none, none, none]) n_114_5 rfl rfl ?_
  refine pw_iload_n n_114_6 rfl rfl ?_
  refine pw_if_ge (q := 12) n_114_7 rfl rfl (fun h1 => ?_) (fun h1 => ?_)
  ·
    obtain ⟨xn, hxn, rfl, hp61⟩ := tr_nn (ge0 h1)
    have txn : tN (nI xn) = xn := nI_clamp (by omega)
    obtain ⟨hf, f5, hb, b5, hg, g5, hre, r6, hrp, p20⟩ := dv xn hxn hp61
    obtain ⟨hta, t30, hmp, co⟩ := su xn hxn hp61
    unfold mSq at co
    refine pw_bipush n_114_12 bc_8 rfl ?_
    refine pw_aload_n n_114_14 rfl rfl ?_
    refine pw_getf (a := 151) n_114_15 fl_7_50 (by decide) (rdR sh_R_ring) rfl ?_
    refine pw_iload_n n_114_18 rfl rfl ?_
    refine pw_iald (a := cM 13) n_114_19 (nI_pos (by omega)) (nI_clamp (by omega)) (rdM (sh_M_ring xn (by omega)) (by decide)) rfl ?_
    refine pw_top (y := nI (mRp M xn)) hrp ?_
    refine pw_imul n_114_20 rfl (pw_top (nJ_mul 8 (mRp M xn)) ?_)
    refine pw_istore_n (l := [some (.ref 152), some (.int (nI xn)), some (.int (mTr M (nI xn))), some (.int (nI (8 * (mRp M xn)))), none, none, none, none, none, none, none, none, none, none]) n_114_21 rfl rfl ?_
    refine pw_aload_n n_114_22 rfl rfl ?_
    refine pw_getf (a := 151) n_114_23 fl_7_71 (by decide) (rdR sh_R_taken) rfl ?_
    refine pw_iload_n n_114_26 rfl rfl ?_
    refine pw_iald (a := cM 20) n_114_27 (nI_pos (by omega)) (nI_clamp (by omega)) (rdM (sh_M_taken xn (by omega)) (by decide)) rfl ?_
    refine pw_top (y := nI (mTa M xn)) hta ?_
    refine pw_istore (l := [some (.ref 152), some (.int (nI xn)), some (.int (mTr M (nI xn))), some (.int (nI (8 * (mRp M xn)))), some (.int (nI (mTa M xn))), none, none, none, none, none, none, none, none, none]) n_114_28 rfl rfl ?_
    refine pw_aload_n n_114_30 rfl rfl ?_
    refine pw_getf (a := 151) n_114_31 fl_7_16 (by decide) (rdR sh_R_words) rfl ?_
    refine pw_iload_n n_114_34 rfl rfl ?_
    refine pw_iald (a := cM 2) n_114_35 (nI_pos (by omega)) (nI_clamp (by omega)) (rdM (sh_M_words (8 * (mRp M xn)) (by omega)) (by decide)) rfl ?_
    refine pw_i2l n_114_36 rfl ?_
    refine pw_iload n_114_37 rfl rfl ?_
    refine pw_i2l n_114_39 rfl ?_
    refine pw_lsub n_114_40 rfl ?_
    refine pw_lstore (l := [some (.ref 152), some (.int (nI xn)), some (.int (mTr M (nI xn))), some (.int (nI (8 * (mRp M xn)))), some (.int (nI (mTa M xn))), some (.long ((Int32.toInt64 (M 52 (8 * (mRp M xn)) 0)) - (Int32.toInt64 (nI (mTa M xn))))), none, none, none, none, none, none, none, none]) n_114_41 rfl rfl ?_
    refine pw_lload n_114_43 rfl rfl ?_
    refine pw_lconst n_114_45 lc_1 rfl ?_
    refine pw_lcmp n_114_46 rfl ?_
    refine pw_ifc_lt (q := 59) n_114_47 rfl rfl (fun h2 => ?_) (fun h2 => ?_)
    ·
      refine pw_lload n_114_59 rfl rfl ?_
      refine pw_lconst n_114_61 lc_0 rfl ?_
      refine pw_lcmp n_114_62 rfl ?_
      refine pw_ifc_ne (q := 71) n_114_63 rfl rfl (fun h3 => ?_) (fun h3 => ?_)
      ·
        refine pw_bipush n_114_71 bc_m12 rfl ?_
        exact pw_ireturn (ty := .int) n_114_73 rfl rfl (by first | (simp [mServe, mSn, h1, (i32_a h1), txn, h2, (i64_c h2), h3, bI_t, bI_f, nI_add1, gup_k, eSet_k, eClr_k, hSet_k, hClr_k, qSet_k, qCls_k]; done) | contradiction | (split <;> first | rfl | (simp_all; done)) | simp [mServe, mSn, h1, (i32_a h1), txn, h2, (i64_c h2), h3, bI_t, bI_f, nI_add1, gup_k, eSet_k, eClr_k, hSet_k, hClr_k, qSet_k, qCls_k])
      ·
        refine pw_bipush n_114_66 bc_m11 rfl ?_
        refine pw_goto (q := 73) n_114_68 rfl ?_
        exact pw_ireturn (ty := .int) n_114_73 rfl rfl (by first | (simp [mServe, mSn, h1, (i32_a h1), txn, h2, (i64_c h2), h3, (Classical.not_not.mp h3), bI_t, bI_f, nI_add1, gup_k, eSet_k, eClr_k, hSet_k, hClr_k, qSet_k, qCls_k]; done) | contradiction | (split <;> first | rfl | (simp_all; done)) | simp [mServe, mSn, h1, (i32_a h1), txn, h2, (i64_c h2), h3, (Classical.not_not.mp h3), bI_t, bI_f, nI_add1, gup_k, eSet_k, eClr_k, hSet_k, hClr_k, qSet_k, qCls_k])
    ·
      refine pw_lload n_114_50 rfl rfl ?_
      refine pw_ldc2 n_114_52 l2_7_162 rfl ?_
      refine pw_lcmp n_114_55 rfl ?_
      refine pw_ifc_le (q := 74) n_114_56 rfl rfl (fun h4 => ?_) (fun h4 => ?_)
      ·
        refine pw_aload_n n_114_74 rfl rfl ?_
        refine pw_getf (a := 151) n_114_75 fl_7_16 (by decide) (rdR sh_R_words) rfl ?_
        refine pw_iload_n n_114_78 rfl rfl ?_
        refine pw_iconst n_114_79 ic_2 rfl ?_
        refine pw_iadd n_114_80 rfl (pw_top (nJ_add (8 * (mRp M xn)) 2) ?_)
        refine pw_iload n_114_81 rfl rfl ?_
        refine pw_iconst n_114_83 ic_3 rfl ?_
        refine pw_irem n_114_84 (by decide) rfl ?_
        refine pw_top (y := nI (mTa M xn % 3)) (rem3_nI (by omega)) ?_
        refine pw_iadd n_114_85 rfl (pw_top (nJ_add ((8 * (mRp M xn)) + 2) (mTa M xn % 3)) ?_)
        refine pw_iald (a := cM 2) n_114_86 (nI_pos (by omega)) (nI_clamp (by omega)) (rdM (sh_M_words (((8 * (mRp M xn)) + 2) + (mTa M xn % 3)) (by omega)) (by decide)) rfl ?_
        refine pw_istore (l := [some (.ref 152), some (.int (nI xn)), some (.int (mTr M (nI xn))), some (.int (nI (8 * (mRp M xn)))), some (.int (nI (mTa M xn))), some (.long ((Int32.toInt64 (M 52 (8 * (mRp M xn)) 0)) - (Int32.toInt64 (nI (mTa M xn))))), none, some (.int (M 52 (((8 * (mRp M xn)) + 2) + (mTa M xn % 3)) 0)), none, none, none, none, none, none]) n_114_87 rfl rfl ?_
        refine pw_iload n_114_89 rfl rfl ?_
        refine pw_bipush n_114_91 bc_8 rfl ?_
        refine pw_iand n_114_93 rfl ?_
        refine pw_if_eq (q := 101) n_114_94 rfl rfl (fun h5 => ?_) (fun h5 => ?_)
        ·
          simp only [h5, decide_true] at co
          refine pw_iconst n_114_101 ic_0 rfl ?_
          refine pw_istore (l := [some (.ref 152), some (.int (nI xn)), some (.int (mTr M (nI xn))), some (.int (nI (8 * (mRp M xn)))), some (.int (nI (mTa M xn))), some (.long ((Int32.toInt64 (M 52 (8 * (mRp M xn)) 0)) - (Int32.toInt64 (nI (mTa M xn))))), none, some (.int (M 52 (((8 * (mRp M xn)) + 2) + (mTa M xn % 3)) 0)), some (.int 0), none, none, none, none, none]) n_114_102 rfl rfl ?_
          refine pw_aload_n n_114_104 rfl rfl ?_
          refine pw_getf (a := 151) n_114_105 fl_7_44 (by decide) (rdR sh_R_front) rfl ?_
          refine pw_iload_n n_114_108 rfl rfl ?_
          refine pw_iald (a := cM 11) n_114_109 (nI_pos (by omega)) (nI_clamp (by omega)) (rdM (sh_M_front xn (by omega)) (by decide)) rfl ?_
          refine pw_iconst n_114_110 ic_1 rfl ?_
          refine pw_isub n_114_111 rfl ?_
          refine pw_top (y := nI (mF M xn)) (mF_eq hf) ?_
          refine pw_istore (l := [some (.ref 152), some (.int (nI xn)), some (.int (mTr M (nI xn))), some (.int (nI (8 * (mRp M xn)))), some (.int (nI (mTa M xn))), some (.long ((Int32.toInt64 (M 52 (8 * (mRp M xn)) 0)) - (Int32.toInt64 (nI (mTa M xn))))), none, some (.int (M 52 (((8 * (mRp M xn)) + 2) + (mTa M xn % 3)) 0)), some (.int 0), some (.int (nI (mF M xn))), none, none, none, none]) n_114_112 rfl rfl ?_
          refine pw_aload_n n_114_114 rfl rfl ?_
          refine pw_aload_n n_114_115 rfl rfl ?_
          refine pw_getf (a := 151) n_114_116 fl_7_47 (by decide) (rdR sh_R_back) rfl ?_
          refine pw_iload_n n_114_119 rfl rfl ?_
          refine pw_iald (a := cM 12) n_114_120 (nI_pos (by omega)) (nI_clamp (by omega)) (rdM (sh_M_back xn (by omega)) (by decide)) rfl ?_
          refine pw_top (y := nI (mB M xn)) hb ?_
          refine pw_iload n_114_121 rfl rfl ?_
          refine pw_iload n_114_123 rfl rfl ?_
          refine pw_iconst n_114_125 ic_4 rfl ?_
          refine pw_ishr n_114_126 rfl ?_
          refine pw_iload n_114_127 rfl rfl ?_
          refine pw_if_ne_f (q := 136) n_114_129 rfl rfl (by decide) ?_
          refine pw_iconst n_114_132 ic_1 rfl ?_
          refine pw_goto (q := 137) n_114_133 rfl ?_
          refine pw_virtV (a := 151) (as := [.int (nI (mB M xn)), .int (nI (mF M xn)), .int ((M 52 (((8 * (mRp M xn)) + 2) + (mTa M xn % 3)) 0) >>> ((4 : Int32) &&& 31)), .int 1]) (st := []) n_114_137 cl_7_146 ⟨rfl, rfl, rfl⟩ (sum8 rfl) (E_tg sh_R_state) rfl (w_99 (x := (nI (mB M xn))) (f := (nI (mF M xn))) (r := ((M 52 (((8 * (mRp M xn)) + 2) + (mTa M xn % 3)) 0) >>> ((4 : Int32) &&& 31))) (w := true) _) ?_
          generalize gA1 : mMap M (nI (mB M xn)) (nI (mF M xn)) ((M 52 (((8 * (mRp M xn)) + 2) + (mTa M xn % 3)) 0) >>> ((4 : Int32) &&& 31)) true = A1
          refine pw_istore (l := [some (.ref 152), some (.int (nI xn)), some (.int (mTr M (nI xn))), some (.int (nI (8 * (mRp M xn)))), some (.int (nI (mTa M xn))), some (.long ((Int32.toInt64 (M 52 (8 * (mRp M xn)) 0)) - (Int32.toInt64 (nI (mTa M xn))))), none, some (.int (M 52 (((8 * (mRp M xn)) + 2) + (mTa M xn % 3)) 0)), some (.int 0), some (.int (nI (mF M xn))), some (.int A1.1), none, none, none]) n_114_140 rfl rfl ?_
          refine pw_iload n_114_142 rfl rfl ?_
          refine pw_if_ge (q := 152) n_114_144 rfl rfl (fun h6 => ?_) (fun h6 => ?_)
          ·
            have k0 : ¬ A1.1 < 0 := ge0 h6
            rw [show mCom M xn (M 52 (((8 * (mRp M xn)) + 2) + (mTa M xn % 3)) 0) true = A1 from gA1] at co
            obtain ⟨e0, e1, k1, pg0, pg1, mt⟩ := co k0
            obtain ⟨s0, s1⟩ := and7_ir (M 52 (((8 * (mRp M xn)) + 2) + (mTa M xn % 3)) 0)
            have ek : A1.1 = nI (tN A1.1) := nI_tN k0
            rw [ek]
            refine pw_iconst n_114_152 ic_0 rfl ?_
            refine pw_istore (l := [some (.ref 152), some (.int (nI xn)), some (.int (mTr M (nI xn))), some (.int (nI (8 * (mRp M xn)))), some (.int (nI (mTa M xn))), some (.long ((Int32.toInt64 (M 52 (8 * (mRp M xn)) 0)) - (Int32.toInt64 (nI (mTa M xn))))), none, some (.int (M 52 (((8 * (mRp M xn)) + 2) + (mTa M xn % 3)) 0)), some (.int 0), some (.int (nI (mF M xn))), some (.int (nI (tN A1.1))), some (.int 0), none, none]) n_114_153 rfl rfl ?_
            refine pw_iload n_114_155 rfl rfl ?_
            refine pw_if_lt_f (q := 243) n_114_157 rfl rfl (nI_pos (by omega)) ?_
            refine pw_bipush n_114_160 bc_8 rfl ?_
            refine pw_aload_n n_114_162 rfl rfl ?_
            refine pw_getf (a := 151) n_114_163 fl_7_25 (by decide) (rdR sh_R_entryPage) rfl ?_
            refine pw_bipush n_114_166 bc_6 rfl ?_
            refine pw_iload n_114_168 rfl rfl ?_
            refine pw_imul n_114_170 rfl (pw_top (nJ_mul 6 (mF M xn)) ?_)
            refine pw_iload n_114_171 rfl rfl ?_
            refine pw_iconst n_114_173 ic_4 rfl ?_
            refine pw_ishr n_114_174 rfl ?_
            refine pw_top (y := nI (tN ((M 52 (((8 * (mRp M xn)) + 2) + (mTa M xn % 3)) 0) >>> ((4 : Int32) &&& 31)))) (nI_tN e0) ?_
            refine pw_iadd n_114_175 rfl (pw_top (nJ_add (6 * (mF M xn)) (tN ((M 52 (((8 * (mRp M xn)) + 2) + (mTa M xn % 3)) 0) >>> ((4 : Int32) &&& 31)))) ?_)
            refine pw_iald (a := cM 5) n_114_176 (nI_pos (by omega)) (nI_clamp (by omega)) (rdM (sh_M_entryPage ((6 * (mF M xn)) + (tN ((M 52 (((8 * (mRp M xn)) + 2) + (mTa M xn % 3)) 0) >>> ((4 : Int32) &&& 31)))) (by omega)) (by decide)) rfl ?_
            refine pw_top (y := M 55 ((6 * (mF M xn)) + (tN ((M 52 (((8 * (mRp M xn)) + 2) + (mTa M xn % 3)) 0) >>> ((4 : Int32) &&& 31)))) 0) (by simp [← gA1, xCo_k, mCo1_k, gup_k, gup_s, vBeg_k, eSet_k, eClr_k, hSet_k, hClr_k, qSet_k, qCls_k, xAlloc_k, xGrant_k, xMap_k, xOpen_k, xBind_k, xSend_k, xStore_k, xEnd_k, xFree_k, xUnmap_k, mAlloc_k, mGrant_k, mMap_k, mOpen_k, mBind_k, mSend_k, mEnd_k, mFree_k, mTk_k]) ?_
            refine pw_top (y := nI (tN (M 55 ((6 * (mF M xn)) + (tN ((M 52 (((8 * (mRp M xn)) + 2) + (mTa M xn % 3)) 0) >>> ((4 : Int32) &&& 31)))) 0))) (nI_tN pg0) ?_
            refine pw_imul n_114_177 rfl (pw_top (nJ_mul 8 (tN (M 55 ((6 * (mF M xn)) + (tN ((M 52 (((8 * (mRp M xn)) + 2) + (mTa M xn % 3)) 0) >>> ((4 : Int32) &&& 31)))) 0))) ?_)
            refine pw_istore (l := [some (.ref 152), some (.int (nI xn)), some (.int (mTr M (nI xn))), some (.int (nI (8 * (mRp M xn)))), some (.int (nI (mTa M xn))), some (.long ((Int32.toInt64 (M 52 (8 * (mRp M xn)) 0)) - (Int32.toInt64 (nI (mTa M xn))))), none, some (.int (M 52 (((8 * (mRp M xn)) + 2) + (mTa M xn % 3)) 0)), some (.int 0), some (.int (nI (mF M xn))), some (.int (nI (tN A1.1))), some (.int 0), some (.int (nI (8 * (tN (M 55 ((6 * (mF M xn)) + (tN ((M 52 (((8 * (mRp M xn)) + 2) + (mTa M xn % 3)) 0) >>> ((4 : Int32) &&& 31)))) 0))))), none]) n_114_178 rfl rfl ?_
            refine pw_bipush n_114_180 bc_8 rfl ?_
            refine pw_iload_n n_114_182 rfl rfl ?_
            refine pw_imul n_114_183 rfl (pw_top (nJ_mul 8 xn) ?_)
            refine pw_iload n_114_184 rfl rfl ?_
            refine pw_bipush n_114_186 bc_7 rfl ?_
            refine pw_iand n_114_188 rfl ?_
            refine pw_top (y := nI (tN ((M 52 (((8 * (mRp M xn)) + 2) + (mTa M xn % 3)) 0) &&& 7))) (nI_tN s0) ?_
            refine pw_iadd n_114_189 rfl (pw_top (nJ_add (8 * xn) (tN ((M 52 (((8 * (mRp M xn)) + 2) + (mTa M xn % 3)) 0) &&& 7))) ?_)
            refine pw_istore (l := [some (.ref 152), some (.int (nI xn)), some (.int (mTr M (nI xn))), some (.int (nI (8 * (mRp M xn)))), some (.int (nI (mTa M xn))), some (.long ((Int32.toInt64 (M 52 (8 * (mRp M xn)) 0)) - (Int32.toInt64 (nI (mTa M xn))))), none, some (.int (M 52 (((8 * (mRp M xn)) + 2) + (mTa M xn % 3)) 0)), some (.int 0), some (.int (nI (mF M xn))), some (.int (nI (tN A1.1))), some (.int 0), some (.int (nI (8 * (tN (M 55 ((6 * (mF M xn)) + (tN ((M 52 (((8 * (mRp M xn)) + 2) + (mTa M xn % 3)) 0) >>> ((4 : Int32) &&& 31)))) 0))))), some (.int (nI ((8 * xn) + (tN ((M 52 (((8 * (mRp M xn)) + 2) + (mTa M xn % 3)) 0) &&& 7)))))]) n_114_190 rfl rfl ?_
            refine pw_iload n_114_192 rfl rfl ?_
            refine pw_if_eq_t (q := 214) n_114_194 rfl (by decide) ?_
            refine pw_aload_n n_114_214 rfl rfl ?_
            refine pw_getf (a := 151) n_114_215 fl_7_16 (by decide) (rdR sh_R_words) rfl ?_
            refine pw_iload n_114_218 rfl rfl ?_
            refine pw_aload_n n_114_220 rfl rfl ?_
            refine pw_getf (a := 151) n_114_221 fl_7_80 (by decide) (rdR sh_R_disk) rfl ?_
            refine pw_iload n_114_224 rfl rfl ?_
            refine pw_iald (a := cM 23) n_114_226 (nI_pos (by omega)) (nI_clamp (by omega)) (rdM (sh_M_disk ((8 * xn) + (tN ((M 52 (((8 * (mRp M xn)) + 2) + (mTa M xn % 3)) 0) &&& 7))) (by omega)) (by decide)) rfl ?_
            refine pw_top (y := M 73 ((8 * xn) + (tN ((M 52 (((8 * (mRp M xn)) + 2) + (mTa M xn % 3)) 0) &&& 7))) 0) (by simp [← gA1, xCo_k, mCo1_k, gup_k, gup_s, vBeg_k, eSet_k, eClr_k, hSet_k, hClr_k, qSet_k, qCls_k, xAlloc_k, xGrant_k, xMap_k, xOpen_k, xBind_k, xSend_k, xStore_k, xEnd_k, xFree_k, xUnmap_k, mAlloc_k, mGrant_k, mMap_k, mOpen_k, mBind_k, mSend_k, mEnd_k, mFree_k, mTk_k]) ?_
            refine pw_iast (a := cM 2) n_114_227 (nI_pos (by omega)) (nI_clamp (by omega)) (wrM (sh_M_words (8 * (tN (M 55 ((6 * (mF M xn)) + (tN ((M 52 (((8 * (mRp M xn)) + 2) + (mTa M xn % 3)) 0) >>> ((4 : Int32) &&& 31)))) 0))) (by omega)) (by decide)) rfl ?_
            refine pw_aload_n n_114_228 rfl rfl ?_
            refine pw_iconst n_114_229 ic_5 rfl ?_
            refine pw_aload_n n_114_230 rfl rfl ?_
            refine pw_getf (a := 151) n_114_231 fl_7_47 (by decide) (rdR sh_R_back) rfl ?_
            refine pw_iload_n n_114_234 rfl rfl ?_
            refine pw_iald (a := cM 12) n_114_235 (nI_pos (by omega)) (nI_clamp (by omega)) (rdM (sh_M_back xn (by omega)) (by decide)) rfl ?_
            refine pw_top (y := M 62 xn 0) (by simp [← gA1, xCo_k, mCo1_k, gup_k, gup_s, vBeg_k, eSet_k, eClr_k, hSet_k, hClr_k, qSet_k, qCls_k, xAlloc_k, xGrant_k, xMap_k, xOpen_k, xBind_k, xSend_k, xStore_k, xEnd_k, xFree_k, xUnmap_k, mAlloc_k, mGrant_k, mMap_k, mOpen_k, mBind_k, mSend_k, mEnd_k, mFree_k, mTk_k]) ?_
            refine pw_top (y := nI (mB M xn)) hb ?_
            refine pw_imul n_114_236 rfl (pw_top (nJ_mul 5 (mB M xn)) ?_)
            refine pw_iload n_114_237 rfl rfl ?_
            refine pw_iadd n_114_239 rfl (pw_top (nJ_add (5 * (mB M xn)) (tN A1.1)) ?_)
            refine pw_virt0 (a := 151) (as := [.int (nI ((5 * (mB M xn)) + (tN A1.1)))]) (st := []) n_114_240 cl_7_98 ⟨rfl, rfl, rfl⟩ (sum8 rfl) (E_tg sh_R_state) rfl (w_91 (h := ((5 * (mB M xn)) + (tN A1.1))) (e := (mE (gup A1.2 52 (8 * (tN (M 55 ((6 * (mF M xn)) + (tN ((M 52 (((8 * (mRp M xn)) + 2) + (mTa M xn % 3)) 0) >>> ((4 : Int32) &&& 31)))) 0))) 0 (M 73 ((8 * xn) + (tN ((M 52 (((8 * (mRp M xn)) + 2) + (mTa M xn % 3)) 0) &&& 7))) 0)) ((5 * (mB M xn)) + (tN A1.1)))) (by omega) mt.1 mt.2.1 mt.2.2.1 mt.2.2.2 _) ?_
            refine pw_aload_n n_114_243 rfl rfl ?_
            refine pw_getf (a := 151) n_114_244 fl_7_16 (by decide) (rdR sh_R_words) rfl ?_
            refine pw_iload_n n_114_247 rfl rfl ?_
            refine pw_iconst n_114_248 ic_5 rfl ?_
            refine pw_iadd n_114_249 rfl (pw_top (nJ_add (8 * (mRp M xn)) 5) ?_)
            refine pw_iload n_114_250 rfl rfl ?_
            refine pw_iconst n_114_252 ic_3 rfl ?_
            refine pw_irem n_114_253 (by decide) rfl ?_
            refine pw_top (y := nI (mTa M xn % 3)) (rem3_nI (by omega)) ?_
            refine pw_iadd n_114_254 rfl (pw_top (nJ_add ((8 * (mRp M xn)) + 5) (mTa M xn % 3)) ?_)
            refine pw_iload n_114_255 rfl rfl ?_
            refine pw_iast (a := cM 2) n_114_257 (nI_pos (by omega)) (nI_clamp (by omega)) (wrM (sh_M_words (((8 * (mRp M xn)) + 5) + (mTa M xn % 3)) (by omega)) (by decide)) rfl ?_
            refine pw_aload_n n_114_258 rfl rfl ?_
            refine pw_getf (a := 151) n_114_259 fl_7_71 (by decide) (rdR sh_R_taken) rfl ?_
            refine pw_iload_n n_114_262 rfl rfl ?_
            refine pw_iload n_114_263 rfl rfl ?_
            refine pw_iconst n_114_265 ic_1 rfl ?_
            refine pw_iadd n_114_266 rfl (pw_top (nJ_add (mTa M xn) 1) ?_)
            refine pw_iast (a := cM 20) n_114_267 (nI_pos (by omega)) (nI_clamp (by omega)) (wrM (sh_M_taken xn (by omega)) (by decide)) rfl ?_
            refine pw_aload_n n_114_268 rfl rfl ?_
            refine pw_getf (a := 151) n_114_269 fl_7_16 (by decide) (rdR sh_R_words) rfl ?_
            refine pw_iload_n n_114_272 rfl rfl ?_
            refine pw_iconst n_114_273 ic_1 rfl ?_
            refine pw_iadd n_114_274 rfl (pw_top (nJ_add (8 * (mRp M xn)) 1) ?_)
            refine pw_iload n_114_275 rfl rfl ?_
            refine pw_iconst n_114_277 ic_1 rfl ?_
            refine pw_iadd n_114_278 rfl (pw_top (nJ_add (mTa M xn) 1) ?_)
            refine pw_iast (a := cM 2) n_114_279 (nI_pos (by omega)) (nI_clamp (by omega)) (wrM (sh_M_words ((8 * (mRp M xn)) + 1) (by omega)) (by decide)) rfl ?_
            refine pw_aload_n n_114_280 rfl rfl ?_
            refine pw_aload_n n_114_281 rfl rfl ?_
            refine pw_getf (a := 151) n_114_282 fl_7_47 (by decide) (rdR sh_R_back) rfl ?_
            refine pw_iload_n n_114_285 rfl rfl ?_
            refine pw_iald (a := cM 12) n_114_286 (nI_pos (by omega)) (nI_clamp (by omega)) (rdM (sh_M_back xn (by omega)) (by decide)) rfl ?_
            refine pw_top (y := M 62 xn 0) (by simp [← gA1, xCo_k, mCo1_k, gup_k, gup_s, vBeg_k, eSet_k, eClr_k, hSet_k, hClr_k, qSet_k, qCls_k, xAlloc_k, xGrant_k, xMap_k, xOpen_k, xBind_k, xSend_k, xStore_k, xEnd_k, xFree_k, xUnmap_k, mAlloc_k, mGrant_k, mMap_k, mOpen_k, mBind_k, mSend_k, mEnd_k, mFree_k, mTk_k]) ?_
            refine pw_top (y := nI (mB M xn)) hb ?_
            refine pw_aload_n n_114_287 rfl rfl ?_
            refine pw_getf (a := 151) n_114_288 fl_7_62 (by decide) (rdR sh_R_backPort) rfl ?_
            refine pw_iload_n n_114_291 rfl rfl ?_
            refine pw_iald (a := cM 17) n_114_292 (nI_pos (by omega)) (nI_clamp (by omega)) (rdM (sh_M_backPort xn (by omega)) (by decide)) rfl ?_
            refine pw_top (y := M 67 xn 0) (by simp [← gA1, xCo_k, mCo1_k, gup_k, gup_s, vBeg_k, eSet_k, eClr_k, hSet_k, hClr_k, qSet_k, qCls_k, xAlloc_k, xGrant_k, xMap_k, xOpen_k, xBind_k, xSend_k, xStore_k, xEnd_k, xFree_k, xUnmap_k, mAlloc_k, mGrant_k, mMap_k, mOpen_k, mBind_k, mSend_k, mEnd_k, mFree_k, mTk_k]) ?_
            refine pw_virtV (a := 151) (as := [.int (nI (mB M xn)), .int (M 67 xn 0)]) (st := []) n_114_293 cl_7_159 ⟨rfl, rfl, rfl⟩ (sum8 rfl) (E_tg sh_R_state) rfl (w_109 (x := (nI (mB M xn))) (k := (M 67 xn 0)) (mpA_k (fun a => by simp [← gA1, xCo_k, mCo1_k, gup_k, gup_s, vBeg_k, eSet_k, eClr_k, hSet_k, hClr_k, qSet_k, qCls_k, xAlloc_k, xGrant_k, xMap_k, xOpen_k, xBind_k, xSend_k, xStore_k, xEnd_k, xFree_k, xUnmap_k, mAlloc_k, mGrant_k, mMap_k, mOpen_k, mBind_k, mSend_k, mEnd_k, mFree_k, mTk_k]) (fun a => by simp [← gA1, xCo_k, mCo1_k, gup_k, gup_s, vBeg_k, eSet_k, eClr_k, hSet_k, hClr_k, qSet_k, qCls_k, xAlloc_k, xGrant_k, xMap_k, xOpen_k, xBind_k, xSend_k, xStore_k, xEnd_k, xFree_k, xUnmap_k, mAlloc_k, mGrant_k, mMap_k, mOpen_k, mBind_k, mSend_k, mEnd_k, mFree_k, mTk_k]) hmp) _) ?_
            refine pw_pop n_114_296 rfl rfl ?_
            refine pw_iload n_114_297 rfl rfl ?_
            exact pw_ireturn (ty := .int) n_114_299 rfl rfl (by rw [show mServe M (nI xn) = mSe M xn from by simp [mServe, mSn, h1, (i32_a h1), txn, h2, (i64_d h2), h4, (i64_a h4), h5, h6, (i32_a h6)]]; simp [mSe, mSe2, mSe1, mSq, mCo2, mCo1, mCom, h1, (i32_a h1), txn, h2, (i64_d h2), h4, (i64_a h4), h5, gA1, h6, (i32_a h6)])
          ·
            refine pw_iload n_114_147 rfl rfl ?_
            refine pw_goto (q := 153) n_114_149 rfl ?_
            refine pw_istore (l := [some (.ref 152), some (.int (nI xn)), some (.int (mTr M (nI xn))), some (.int (nI (8 * (mRp M xn)))), some (.int (nI (mTa M xn))), some (.long ((Int32.toInt64 (M 52 (8 * (mRp M xn)) 0)) - (Int32.toInt64 (nI (mTa M xn))))), none, some (.int (M 52 (((8 * (mRp M xn)) + 2) + (mTa M xn % 3)) 0)), some (.int 0), some (.int (nI (mF M xn))), some (.int A1.1), some (.int A1.1), none, none]) n_114_153 rfl rfl ?_
            refine pw_iload n_114_155 rfl rfl ?_
            refine pw_if_lt_t (q := 243) n_114_157 rfl (i32_b h6) ?_
            refine pw_aload_n n_114_243 rfl rfl ?_
            refine pw_getf (a := 151) n_114_244 fl_7_16 (by decide) (rdR sh_R_words) rfl ?_
            refine pw_iload_n n_114_247 rfl rfl ?_
            refine pw_iconst n_114_248 ic_5 rfl ?_
            refine pw_iadd n_114_249 rfl (pw_top (nJ_add (8 * (mRp M xn)) 5) ?_)
            refine pw_iload n_114_250 rfl rfl ?_
            refine pw_iconst n_114_252 ic_3 rfl ?_
            refine pw_irem n_114_253 (by decide) rfl ?_
            refine pw_top (y := nI (mTa M xn % 3)) (rem3_nI (by omega)) ?_
            refine pw_iadd n_114_254 rfl (pw_top (nJ_add ((8 * (mRp M xn)) + 5) (mTa M xn % 3)) ?_)
            refine pw_iload n_114_255 rfl rfl ?_
            refine pw_iast (a := cM 2) n_114_257 (nI_pos (by omega)) (nI_clamp (by omega)) (wrM (sh_M_words (((8 * (mRp M xn)) + 5) + (mTa M xn % 3)) (by omega)) (by decide)) rfl ?_
            refine pw_aload_n n_114_258 rfl rfl ?_
            refine pw_getf (a := 151) n_114_259 fl_7_71 (by decide) (rdR sh_R_taken) rfl ?_
            refine pw_iload_n n_114_262 rfl rfl ?_
            refine pw_iload n_114_263 rfl rfl ?_
            refine pw_iconst n_114_265 ic_1 rfl ?_
            refine pw_iadd n_114_266 rfl (pw_top (nJ_add (mTa M xn) 1) ?_)
            refine pw_iast (a := cM 20) n_114_267 (nI_pos (by omega)) (nI_clamp (by omega)) (wrM (sh_M_taken xn (by omega)) (by decide)) rfl ?_
            refine pw_aload_n n_114_268 rfl rfl ?_
            refine pw_getf (a := 151) n_114_269 fl_7_16 (by decide) (rdR sh_R_words) rfl ?_
            refine pw_iload_n n_114_272 rfl rfl ?_
            refine pw_iconst n_114_273 ic_1 rfl ?_
            refine pw_iadd n_114_274 rfl (pw_top (nJ_add (8 * (mRp M xn)) 1) ?_)
            refine pw_iload n_114_275 rfl rfl ?_
            refine pw_iconst n_114_277 ic_1 rfl ?_
            refine pw_iadd n_114_278 rfl (pw_top (nJ_add (mTa M xn) 1) ?_)
            refine pw_iast (a := cM 2) n_114_279 (nI_pos (by omega)) (nI_clamp (by omega)) (wrM (sh_M_words ((8 * (mRp M xn)) + 1) (by omega)) (by decide)) rfl ?_
            refine pw_aload_n n_114_280 rfl rfl ?_
            refine pw_aload_n n_114_281 rfl rfl ?_
            refine pw_getf (a := 151) n_114_282 fl_7_47 (by decide) (rdR sh_R_back) rfl ?_
            refine pw_iload_n n_114_285 rfl rfl ?_
            refine pw_iald (a := cM 12) n_114_286 (nI_pos (by omega)) (nI_clamp (by omega)) (rdM (sh_M_back xn (by omega)) (by decide)) rfl ?_
            refine pw_top (y := M 62 xn 0) (by simp [← gA1, xCo_k, mCo1_k, gup_k, gup_s, vBeg_k, eSet_k, eClr_k, hSet_k, hClr_k, qSet_k, qCls_k, xAlloc_k, xGrant_k, xMap_k, xOpen_k, xBind_k, xSend_k, xStore_k, xEnd_k, xFree_k, xUnmap_k, mAlloc_k, mGrant_k, mMap_k, mOpen_k, mBind_k, mSend_k, mEnd_k, mFree_k, mTk_k]) ?_
            refine pw_top (y := nI (mB M xn)) hb ?_
            refine pw_aload_n n_114_287 rfl rfl ?_
            refine pw_getf (a := 151) n_114_288 fl_7_62 (by decide) (rdR sh_R_backPort) rfl ?_
            refine pw_iload_n n_114_291 rfl rfl ?_
            refine pw_iald (a := cM 17) n_114_292 (nI_pos (by omega)) (nI_clamp (by omega)) (rdM (sh_M_backPort xn (by omega)) (by decide)) rfl ?_
            refine pw_top (y := M 67 xn 0) (by simp [← gA1, xCo_k, mCo1_k, gup_k, gup_s, vBeg_k, eSet_k, eClr_k, hSet_k, hClr_k, qSet_k, qCls_k, xAlloc_k, xGrant_k, xMap_k, xOpen_k, xBind_k, xSend_k, xStore_k, xEnd_k, xFree_k, xUnmap_k, mAlloc_k, mGrant_k, mMap_k, mOpen_k, mBind_k, mSend_k, mEnd_k, mFree_k, mTk_k]) ?_
            refine pw_virtV (a := 151) (as := [.int (nI (mB M xn)), .int (M 67 xn 0)]) (st := []) n_114_293 cl_7_159 ⟨rfl, rfl, rfl⟩ (sum8 rfl) (E_tg sh_R_state) rfl (w_109 (x := (nI (mB M xn))) (k := (M 67 xn 0)) (mpA_k (fun a => by simp [← gA1, xCo_k, mCo1_k, gup_k, gup_s, vBeg_k, eSet_k, eClr_k, hSet_k, hClr_k, qSet_k, qCls_k, xAlloc_k, xGrant_k, xMap_k, xOpen_k, xBind_k, xSend_k, xStore_k, xEnd_k, xFree_k, xUnmap_k, mAlloc_k, mGrant_k, mMap_k, mOpen_k, mBind_k, mSend_k, mEnd_k, mFree_k, mTk_k]) (fun a => by simp [← gA1, xCo_k, mCo1_k, gup_k, gup_s, vBeg_k, eSet_k, eClr_k, hSet_k, hClr_k, qSet_k, qCls_k, xAlloc_k, xGrant_k, xMap_k, xOpen_k, xBind_k, xSend_k, xStore_k, xEnd_k, xFree_k, xUnmap_k, mAlloc_k, mGrant_k, mMap_k, mOpen_k, mBind_k, mSend_k, mEnd_k, mFree_k, mTk_k]) hmp) _) ?_
            refine pw_pop n_114_296 rfl rfl ?_
            refine pw_iload n_114_297 rfl rfl ?_
            exact pw_ireturn (ty := .int) n_114_299 rfl rfl (by rw [show mServe M (nI xn) = mSe M xn from by simp [mServe, mSn, h1, (i32_a h1), txn, h2, (i64_d h2), h4, (i64_a h4), h5, h6, (i32_b h6)]]; simp [mSe, mSe2, mSe1, mSq, mCo2, mCo1, mCom, h1, (i32_a h1), txn, h2, (i64_d h2), h4, (i64_a h4), h5, gA1, h6, (i32_b h6)])
        ·
          simp only [h5, decide_false] at co
          refine pw_iconst n_114_97 ic_1 rfl ?_
          refine pw_goto (q := 102) n_114_98 rfl ?_
          refine pw_istore (l := [some (.ref 152), some (.int (nI xn)), some (.int (mTr M (nI xn))), some (.int (nI (8 * (mRp M xn)))), some (.int (nI (mTa M xn))), some (.long ((Int32.toInt64 (M 52 (8 * (mRp M xn)) 0)) - (Int32.toInt64 (nI (mTa M xn))))), none, some (.int (M 52 (((8 * (mRp M xn)) + 2) + (mTa M xn % 3)) 0)), some (.int 1), none, none, none, none, none]) n_114_102 rfl rfl ?_
          refine pw_aload_n n_114_104 rfl rfl ?_
          refine pw_getf (a := 151) n_114_105 fl_7_44 (by decide) (rdR sh_R_front) rfl ?_
          refine pw_iload_n n_114_108 rfl rfl ?_
          refine pw_iald (a := cM 11) n_114_109 (nI_pos (by omega)) (nI_clamp (by omega)) (rdM (sh_M_front xn (by omega)) (by decide)) rfl ?_
          refine pw_iconst n_114_110 ic_1 rfl ?_
          refine pw_isub n_114_111 rfl ?_
          refine pw_top (y := nI (mF M xn)) (mF_eq hf) ?_
          refine pw_istore (l := [some (.ref 152), some (.int (nI xn)), some (.int (mTr M (nI xn))), some (.int (nI (8 * (mRp M xn)))), some (.int (nI (mTa M xn))), some (.long ((Int32.toInt64 (M 52 (8 * (mRp M xn)) 0)) - (Int32.toInt64 (nI (mTa M xn))))), none, some (.int (M 52 (((8 * (mRp M xn)) + 2) + (mTa M xn % 3)) 0)), some (.int 1), some (.int (nI (mF M xn))), none, none, none, none]) n_114_112 rfl rfl ?_
          refine pw_aload_n n_114_114 rfl rfl ?_
          refine pw_aload_n n_114_115 rfl rfl ?_
          refine pw_getf (a := 151) n_114_116 fl_7_47 (by decide) (rdR sh_R_back) rfl ?_
          refine pw_iload_n n_114_119 rfl rfl ?_
          refine pw_iald (a := cM 12) n_114_120 (nI_pos (by omega)) (nI_clamp (by omega)) (rdM (sh_M_back xn (by omega)) (by decide)) rfl ?_
          refine pw_top (y := nI (mB M xn)) hb ?_
          refine pw_iload n_114_121 rfl rfl ?_
          refine pw_iload n_114_123 rfl rfl ?_
          refine pw_iconst n_114_125 ic_4 rfl ?_
          refine pw_ishr n_114_126 rfl ?_
          refine pw_iload n_114_127 rfl rfl ?_
          refine pw_if_ne_t (q := 136) n_114_129 rfl (by decide) ?_
          refine pw_iconst n_114_136 ic_0 rfl ?_
          refine pw_virtV (a := 151) (as := [.int (nI (mB M xn)), .int (nI (mF M xn)), .int ((M 52 (((8 * (mRp M xn)) + 2) + (mTa M xn % 3)) 0) >>> ((4 : Int32) &&& 31)), .int 0]) (st := []) n_114_137 cl_7_146 ⟨rfl, rfl, rfl⟩ (sum8 rfl) (E_tg sh_R_state) rfl (w_99 (x := (nI (mB M xn))) (f := (nI (mF M xn))) (r := ((M 52 (((8 * (mRp M xn)) + 2) + (mTa M xn % 3)) 0) >>> ((4 : Int32) &&& 31))) (w := false) _) ?_
          generalize gA1 : mMap M (nI (mB M xn)) (nI (mF M xn)) ((M 52 (((8 * (mRp M xn)) + 2) + (mTa M xn % 3)) 0) >>> ((4 : Int32) &&& 31)) false = A1
          refine pw_istore (l := [some (.ref 152), some (.int (nI xn)), some (.int (mTr M (nI xn))), some (.int (nI (8 * (mRp M xn)))), some (.int (nI (mTa M xn))), some (.long ((Int32.toInt64 (M 52 (8 * (mRp M xn)) 0)) - (Int32.toInt64 (nI (mTa M xn))))), none, some (.int (M 52 (((8 * (mRp M xn)) + 2) + (mTa M xn % 3)) 0)), some (.int 1), some (.int (nI (mF M xn))), some (.int A1.1), none, none, none]) n_114_140 rfl rfl ?_
          refine pw_iload n_114_142 rfl rfl ?_
          refine pw_if_ge (q := 152) n_114_144 rfl rfl (fun h7 => ?_) (fun h7 => ?_)
          ·
            have k0 : ¬ A1.1 < 0 := ge0 h7
            rw [show mCom M xn (M 52 (((8 * (mRp M xn)) + 2) + (mTa M xn % 3)) 0) false = A1 from gA1] at co
            obtain ⟨e0, e1, k1, pg0, pg1, mt⟩ := co k0
            obtain ⟨s0, s1⟩ := and7_ir (M 52 (((8 * (mRp M xn)) + 2) + (mTa M xn % 3)) 0)
            have ek : A1.1 = nI (tN A1.1) := nI_tN k0
            rw [ek]
            refine pw_iconst n_114_152 ic_0 rfl ?_
            refine pw_istore (l := [some (.ref 152), some (.int (nI xn)), some (.int (mTr M (nI xn))), some (.int (nI (8 * (mRp M xn)))), some (.int (nI (mTa M xn))), some (.long ((Int32.toInt64 (M 52 (8 * (mRp M xn)) 0)) - (Int32.toInt64 (nI (mTa M xn))))), none, some (.int (M 52 (((8 * (mRp M xn)) + 2) + (mTa M xn % 3)) 0)), some (.int 1), some (.int (nI (mF M xn))), some (.int (nI (tN A1.1))), some (.int 0), none, none]) n_114_153 rfl rfl ?_
            refine pw_iload n_114_155 rfl rfl ?_
            refine pw_if_lt_f (q := 243) n_114_157 rfl rfl (nI_pos (by omega)) ?_
            refine pw_bipush n_114_160 bc_8 rfl ?_
            refine pw_aload_n n_114_162 rfl rfl ?_
            refine pw_getf (a := 151) n_114_163 fl_7_25 (by decide) (rdR sh_R_entryPage) rfl ?_
            refine pw_bipush n_114_166 bc_6 rfl ?_
            refine pw_iload n_114_168 rfl rfl ?_
            refine pw_imul n_114_170 rfl (pw_top (nJ_mul 6 (mF M xn)) ?_)
            refine pw_iload n_114_171 rfl rfl ?_
            refine pw_iconst n_114_173 ic_4 rfl ?_
            refine pw_ishr n_114_174 rfl ?_
            refine pw_top (y := nI (tN ((M 52 (((8 * (mRp M xn)) + 2) + (mTa M xn % 3)) 0) >>> ((4 : Int32) &&& 31)))) (nI_tN e0) ?_
            refine pw_iadd n_114_175 rfl (pw_top (nJ_add (6 * (mF M xn)) (tN ((M 52 (((8 * (mRp M xn)) + 2) + (mTa M xn % 3)) 0) >>> ((4 : Int32) &&& 31)))) ?_)
            refine pw_iald (a := cM 5) n_114_176 (nI_pos (by omega)) (nI_clamp (by omega)) (rdM (sh_M_entryPage ((6 * (mF M xn)) + (tN ((M 52 (((8 * (mRp M xn)) + 2) + (mTa M xn % 3)) 0) >>> ((4 : Int32) &&& 31)))) (by omega)) (by decide)) rfl ?_
            refine pw_top (y := M 55 ((6 * (mF M xn)) + (tN ((M 52 (((8 * (mRp M xn)) + 2) + (mTa M xn % 3)) 0) >>> ((4 : Int32) &&& 31)))) 0) (by simp [← gA1, xCo_k, mCo1_k, gup_k, gup_s, vBeg_k, eSet_k, eClr_k, hSet_k, hClr_k, qSet_k, qCls_k, xAlloc_k, xGrant_k, xMap_k, xOpen_k, xBind_k, xSend_k, xStore_k, xEnd_k, xFree_k, xUnmap_k, mAlloc_k, mGrant_k, mMap_k, mOpen_k, mBind_k, mSend_k, mEnd_k, mFree_k, mTk_k]) ?_
            refine pw_top (y := nI (tN (M 55 ((6 * (mF M xn)) + (tN ((M 52 (((8 * (mRp M xn)) + 2) + (mTa M xn % 3)) 0) >>> ((4 : Int32) &&& 31)))) 0))) (nI_tN pg0) ?_
            refine pw_imul n_114_177 rfl (pw_top (nJ_mul 8 (tN (M 55 ((6 * (mF M xn)) + (tN ((M 52 (((8 * (mRp M xn)) + 2) + (mTa M xn % 3)) 0) >>> ((4 : Int32) &&& 31)))) 0))) ?_)
            refine pw_istore (l := [some (.ref 152), some (.int (nI xn)), some (.int (mTr M (nI xn))), some (.int (nI (8 * (mRp M xn)))), some (.int (nI (mTa M xn))), some (.long ((Int32.toInt64 (M 52 (8 * (mRp M xn)) 0)) - (Int32.toInt64 (nI (mTa M xn))))), none, some (.int (M 52 (((8 * (mRp M xn)) + 2) + (mTa M xn % 3)) 0)), some (.int 1), some (.int (nI (mF M xn))), some (.int (nI (tN A1.1))), some (.int 0), some (.int (nI (8 * (tN (M 55 ((6 * (mF M xn)) + (tN ((M 52 (((8 * (mRp M xn)) + 2) + (mTa M xn % 3)) 0) >>> ((4 : Int32) &&& 31)))) 0))))), none]) n_114_178 rfl rfl ?_
            refine pw_bipush n_114_180 bc_8 rfl ?_
            refine pw_iload_n n_114_182 rfl rfl ?_
            refine pw_imul n_114_183 rfl (pw_top (nJ_mul 8 xn) ?_)
            refine pw_iload n_114_184 rfl rfl ?_
            refine pw_bipush n_114_186 bc_7 rfl ?_
            refine pw_iand n_114_188 rfl ?_
            refine pw_top (y := nI (tN ((M 52 (((8 * (mRp M xn)) + 2) + (mTa M xn % 3)) 0) &&& 7))) (nI_tN s0) ?_
            refine pw_iadd n_114_189 rfl (pw_top (nJ_add (8 * xn) (tN ((M 52 (((8 * (mRp M xn)) + 2) + (mTa M xn % 3)) 0) &&& 7))) ?_)
            refine pw_istore (l := [some (.ref 152), some (.int (nI xn)), some (.int (mTr M (nI xn))), some (.int (nI (8 * (mRp M xn)))), some (.int (nI (mTa M xn))), some (.long ((Int32.toInt64 (M 52 (8 * (mRp M xn)) 0)) - (Int32.toInt64 (nI (mTa M xn))))), none, some (.int (M 52 (((8 * (mRp M xn)) + 2) + (mTa M xn % 3)) 0)), some (.int 1), some (.int (nI (mF M xn))), some (.int (nI (tN A1.1))), some (.int 0), some (.int (nI (8 * (tN (M 55 ((6 * (mF M xn)) + (tN ((M 52 (((8 * (mRp M xn)) + 2) + (mTa M xn % 3)) 0) >>> ((4 : Int32) &&& 31)))) 0))))), some (.int (nI ((8 * xn) + (tN ((M 52 (((8 * (mRp M xn)) + 2) + (mTa M xn % 3)) 0) &&& 7)))))]) n_114_190 rfl rfl ?_
            refine pw_iload n_114_192 rfl rfl ?_
            refine pw_if_eq_f (q := 214) n_114_194 rfl rfl (by decide) ?_
            refine pw_aload_n n_114_197 rfl rfl ?_
            refine pw_getf (a := 151) n_114_198 fl_7_80 (by decide) (rdR sh_R_disk) rfl ?_
            refine pw_iload n_114_201 rfl rfl ?_
            refine pw_aload_n n_114_203 rfl rfl ?_
            refine pw_getf (a := 151) n_114_204 fl_7_16 (by decide) (rdR sh_R_words) rfl ?_
            refine pw_iload n_114_207 rfl rfl ?_
            refine pw_iald (a := cM 2) n_114_209 (nI_pos (by omega)) (nI_clamp (by omega)) (rdM (sh_M_words (8 * (tN (M 55 ((6 * (mF M xn)) + (tN ((M 52 (((8 * (mRp M xn)) + 2) + (mTa M xn % 3)) 0) >>> ((4 : Int32) &&& 31)))) 0))) (by omega)) (by decide)) rfl ?_
            refine pw_top (y := M 52 (8 * (tN (M 55 ((6 * (mF M xn)) + (tN ((M 52 (((8 * (mRp M xn)) + 2) + (mTa M xn % 3)) 0) >>> ((4 : Int32) &&& 31)))) 0))) 0) (by simp [← gA1, xCo_k, mCo1_k, gup_k, gup_s, vBeg_k, eSet_k, eClr_k, hSet_k, hClr_k, qSet_k, qCls_k, xAlloc_k, xGrant_k, xMap_k, xOpen_k, xBind_k, xSend_k, xStore_k, xEnd_k, xFree_k, xUnmap_k, mAlloc_k, mGrant_k, mMap_k, mOpen_k, mBind_k, mSend_k, mEnd_k, mFree_k, mTk_k]) ?_
            refine pw_iast (a := cM 23) n_114_210 (nI_pos (by omega)) (nI_clamp (by omega)) (wrM (sh_M_disk ((8 * xn) + (tN ((M 52 (((8 * (mRp M xn)) + 2) + (mTa M xn % 3)) 0) &&& 7))) (by omega)) (by decide)) rfl ?_
            refine pw_goto (q := 228) n_114_211 rfl ?_
            refine pw_aload_n n_114_228 rfl rfl ?_
            refine pw_iconst n_114_229 ic_5 rfl ?_
            refine pw_aload_n n_114_230 rfl rfl ?_
            refine pw_getf (a := 151) n_114_231 fl_7_47 (by decide) (rdR sh_R_back) rfl ?_
            refine pw_iload_n n_114_234 rfl rfl ?_
            refine pw_iald (a := cM 12) n_114_235 (nI_pos (by omega)) (nI_clamp (by omega)) (rdM (sh_M_back xn (by omega)) (by decide)) rfl ?_
            refine pw_top (y := M 62 xn 0) (by simp [← gA1, xCo_k, mCo1_k, gup_k, gup_s, vBeg_k, eSet_k, eClr_k, hSet_k, hClr_k, qSet_k, qCls_k, xAlloc_k, xGrant_k, xMap_k, xOpen_k, xBind_k, xSend_k, xStore_k, xEnd_k, xFree_k, xUnmap_k, mAlloc_k, mGrant_k, mMap_k, mOpen_k, mBind_k, mSend_k, mEnd_k, mFree_k, mTk_k]) ?_
            refine pw_top (y := nI (mB M xn)) hb ?_
            refine pw_imul n_114_236 rfl (pw_top (nJ_mul 5 (mB M xn)) ?_)
            refine pw_iload n_114_237 rfl rfl ?_
            refine pw_iadd n_114_239 rfl (pw_top (nJ_add (5 * (mB M xn)) (tN A1.1)) ?_)
            refine pw_virt0 (a := 151) (as := [.int (nI ((5 * (mB M xn)) + (tN A1.1)))]) (st := []) n_114_240 cl_7_98 ⟨rfl, rfl, rfl⟩ (sum8 rfl) (E_tg sh_R_state) rfl (w_91 (h := ((5 * (mB M xn)) + (tN A1.1))) (e := (mE (gup A1.2 73 ((8 * xn) + (tN ((M 52 (((8 * (mRp M xn)) + 2) + (mTa M xn % 3)) 0) &&& 7))) 0 (M 52 (8 * (tN (M 55 ((6 * (mF M xn)) + (tN ((M 52 (((8 * (mRp M xn)) + 2) + (mTa M xn % 3)) 0) >>> ((4 : Int32) &&& 31)))) 0))) 0)) ((5 * (mB M xn)) + (tN A1.1)))) (by omega) mt.1 mt.2.1 mt.2.2.1 mt.2.2.2 _) ?_
            refine pw_aload_n n_114_243 rfl rfl ?_
            refine pw_getf (a := 151) n_114_244 fl_7_16 (by decide) (rdR sh_R_words) rfl ?_
            refine pw_iload_n n_114_247 rfl rfl ?_
            refine pw_iconst n_114_248 ic_5 rfl ?_
            refine pw_iadd n_114_249 rfl (pw_top (nJ_add (8 * (mRp M xn)) 5) ?_)
            refine pw_iload n_114_250 rfl rfl ?_
            refine pw_iconst n_114_252 ic_3 rfl ?_
            refine pw_irem n_114_253 (by decide) rfl ?_
            refine pw_top (y := nI (mTa M xn % 3)) (rem3_nI (by omega)) ?_
            refine pw_iadd n_114_254 rfl (pw_top (nJ_add ((8 * (mRp M xn)) + 5) (mTa M xn % 3)) ?_)
            refine pw_iload n_114_255 rfl rfl ?_
            refine pw_iast (a := cM 2) n_114_257 (nI_pos (by omega)) (nI_clamp (by omega)) (wrM (sh_M_words (((8 * (mRp M xn)) + 5) + (mTa M xn % 3)) (by omega)) (by decide)) rfl ?_
            refine pw_aload_n n_114_258 rfl rfl ?_
            refine pw_getf (a := 151) n_114_259 fl_7_71 (by decide) (rdR sh_R_taken) rfl ?_
            refine pw_iload_n n_114_262 rfl rfl ?_
            refine pw_iload n_114_263 rfl rfl ?_
            refine pw_iconst n_114_265 ic_1 rfl ?_
            refine pw_iadd n_114_266 rfl (pw_top (nJ_add (mTa M xn) 1) ?_)
            refine pw_iast (a := cM 20) n_114_267 (nI_pos (by omega)) (nI_clamp (by omega)) (wrM (sh_M_taken xn (by omega)) (by decide)) rfl ?_
            refine pw_aload_n n_114_268 rfl rfl ?_
            refine pw_getf (a := 151) n_114_269 fl_7_16 (by decide) (rdR sh_R_words) rfl ?_
            refine pw_iload_n n_114_272 rfl rfl ?_
            refine pw_iconst n_114_273 ic_1 rfl ?_
            refine pw_iadd n_114_274 rfl (pw_top (nJ_add (8 * (mRp M xn)) 1) ?_)
            refine pw_iload n_114_275 rfl rfl ?_
            refine pw_iconst n_114_277 ic_1 rfl ?_
            refine pw_iadd n_114_278 rfl (pw_top (nJ_add (mTa M xn) 1) ?_)
            refine pw_iast (a := cM 2) n_114_279 (nI_pos (by omega)) (nI_clamp (by omega)) (wrM (sh_M_words ((8 * (mRp M xn)) + 1) (by omega)) (by decide)) rfl ?_
            refine pw_aload_n n_114_280 rfl rfl ?_
            refine pw_aload_n n_114_281 rfl rfl ?_
            refine pw_getf (a := 151) n_114_282 fl_7_47 (by decide) (rdR sh_R_back) rfl ?_
            refine pw_iload_n n_114_285 rfl rfl ?_
            refine pw_iald (a := cM 12) n_114_286 (nI_pos (by omega)) (nI_clamp (by omega)) (rdM (sh_M_back xn (by omega)) (by decide)) rfl ?_
            refine pw_top (y := M 62 xn 0) (by simp [← gA1, xCo_k, mCo1_k, gup_k, gup_s, vBeg_k, eSet_k, eClr_k, hSet_k, hClr_k, qSet_k, qCls_k, xAlloc_k, xGrant_k, xMap_k, xOpen_k, xBind_k, xSend_k, xStore_k, xEnd_k, xFree_k, xUnmap_k, mAlloc_k, mGrant_k, mMap_k, mOpen_k, mBind_k, mSend_k, mEnd_k, mFree_k, mTk_k]) ?_
            refine pw_top (y := nI (mB M xn)) hb ?_
            refine pw_aload_n n_114_287 rfl rfl ?_
            refine pw_getf (a := 151) n_114_288 fl_7_62 (by decide) (rdR sh_R_backPort) rfl ?_
            refine pw_iload_n n_114_291 rfl rfl ?_
            refine pw_iald (a := cM 17) n_114_292 (nI_pos (by omega)) (nI_clamp (by omega)) (rdM (sh_M_backPort xn (by omega)) (by decide)) rfl ?_
            refine pw_top (y := M 67 xn 0) (by simp [← gA1, xCo_k, mCo1_k, gup_k, gup_s, vBeg_k, eSet_k, eClr_k, hSet_k, hClr_k, qSet_k, qCls_k, xAlloc_k, xGrant_k, xMap_k, xOpen_k, xBind_k, xSend_k, xStore_k, xEnd_k, xFree_k, xUnmap_k, mAlloc_k, mGrant_k, mMap_k, mOpen_k, mBind_k, mSend_k, mEnd_k, mFree_k, mTk_k]) ?_
            refine pw_virtV (a := 151) (as := [.int (nI (mB M xn)), .int (M 67 xn 0)]) (st := []) n_114_293 cl_7_159 ⟨rfl, rfl, rfl⟩ (sum8 rfl) (E_tg sh_R_state) rfl (w_109 (x := (nI (mB M xn))) (k := (M 67 xn 0)) (mpA_k (fun a => by simp [← gA1, xCo_k, mCo1_k, gup_k, gup_s, vBeg_k, eSet_k, eClr_k, hSet_k, hClr_k, qSet_k, qCls_k, xAlloc_k, xGrant_k, xMap_k, xOpen_k, xBind_k, xSend_k, xStore_k, xEnd_k, xFree_k, xUnmap_k, mAlloc_k, mGrant_k, mMap_k, mOpen_k, mBind_k, mSend_k, mEnd_k, mFree_k, mTk_k]) (fun a => by simp [← gA1, xCo_k, mCo1_k, gup_k, gup_s, vBeg_k, eSet_k, eClr_k, hSet_k, hClr_k, qSet_k, qCls_k, xAlloc_k, xGrant_k, xMap_k, xOpen_k, xBind_k, xSend_k, xStore_k, xEnd_k, xFree_k, xUnmap_k, mAlloc_k, mGrant_k, mMap_k, mOpen_k, mBind_k, mSend_k, mEnd_k, mFree_k, mTk_k]) hmp) _) ?_
            refine pw_pop n_114_296 rfl rfl ?_
            refine pw_iload n_114_297 rfl rfl ?_
            exact pw_ireturn (ty := .int) n_114_299 rfl rfl (by rw [show mServe M (nI xn) = mSe M xn from by simp [mServe, mSn, h1, (i32_a h1), txn, h2, (i64_d h2), h4, (i64_a h4), h5, h7, (i32_a h7)]]; simp [mSe, mSe2, mSe1, mSq, mCo2, mCo1, mCom, h1, (i32_a h1), txn, h2, (i64_d h2), h4, (i64_a h4), h5, gA1, h7, (i32_a h7)])
          ·
            refine pw_iload n_114_147 rfl rfl ?_
            refine pw_goto (q := 153) n_114_149 rfl ?_
            refine pw_istore (l := [some (.ref 152), some (.int (nI xn)), some (.int (mTr M (nI xn))), some (.int (nI (8 * (mRp M xn)))), some (.int (nI (mTa M xn))), some (.long ((Int32.toInt64 (M 52 (8 * (mRp M xn)) 0)) - (Int32.toInt64 (nI (mTa M xn))))), none, some (.int (M 52 (((8 * (mRp M xn)) + 2) + (mTa M xn % 3)) 0)), some (.int 1), some (.int (nI (mF M xn))), some (.int A1.1), some (.int A1.1), none, none]) n_114_153 rfl rfl ?_
            refine pw_iload n_114_155 rfl rfl ?_
            refine pw_if_lt_t (q := 243) n_114_157 rfl (i32_b h7) ?_
            refine pw_aload_n n_114_243 rfl rfl ?_
            refine pw_getf (a := 151) n_114_244 fl_7_16 (by decide) (rdR sh_R_words) rfl ?_
            refine pw_iload_n n_114_247 rfl rfl ?_
            refine pw_iconst n_114_248 ic_5 rfl ?_
            refine pw_iadd n_114_249 rfl (pw_top (nJ_add (8 * (mRp M xn)) 5) ?_)
            refine pw_iload n_114_250 rfl rfl ?_
            refine pw_iconst n_114_252 ic_3 rfl ?_
            refine pw_irem n_114_253 (by decide) rfl ?_
            refine pw_top (y := nI (mTa M xn % 3)) (rem3_nI (by omega)) ?_
            refine pw_iadd n_114_254 rfl (pw_top (nJ_add ((8 * (mRp M xn)) + 5) (mTa M xn % 3)) ?_)
            refine pw_iload n_114_255 rfl rfl ?_
            refine pw_iast (a := cM 2) n_114_257 (nI_pos (by omega)) (nI_clamp (by omega)) (wrM (sh_M_words (((8 * (mRp M xn)) + 5) + (mTa M xn % 3)) (by omega)) (by decide)) rfl ?_
            refine pw_aload_n n_114_258 rfl rfl ?_
            refine pw_getf (a := 151) n_114_259 fl_7_71 (by decide) (rdR sh_R_taken) rfl ?_
            refine pw_iload_n n_114_262 rfl rfl ?_
            refine pw_iload n_114_263 rfl rfl ?_
            refine pw_iconst n_114_265 ic_1 rfl ?_
            refine pw_iadd n_114_266 rfl (pw_top (nJ_add (mTa M xn) 1) ?_)
            refine pw_iast (a := cM 20) n_114_267 (nI_pos (by omega)) (nI_clamp (by omega)) (wrM (sh_M_taken xn (by omega)) (by decide)) rfl ?_
            refine pw_aload_n n_114_268 rfl rfl ?_
            refine pw_getf (a := 151) n_114_269 fl_7_16 (by decide) (rdR sh_R_words) rfl ?_
            refine pw_iload_n n_114_272 rfl rfl ?_
            refine pw_iconst n_114_273 ic_1 rfl ?_
            refine pw_iadd n_114_274 rfl (pw_top (nJ_add (8 * (mRp M xn)) 1) ?_)
            refine pw_iload n_114_275 rfl rfl ?_
            refine pw_iconst n_114_277 ic_1 rfl ?_
            refine pw_iadd n_114_278 rfl (pw_top (nJ_add (mTa M xn) 1) ?_)
            refine pw_iast (a := cM 2) n_114_279 (nI_pos (by omega)) (nI_clamp (by omega)) (wrM (sh_M_words ((8 * (mRp M xn)) + 1) (by omega)) (by decide)) rfl ?_
            refine pw_aload_n n_114_280 rfl rfl ?_
            refine pw_aload_n n_114_281 rfl rfl ?_
            refine pw_getf (a := 151) n_114_282 fl_7_47 (by decide) (rdR sh_R_back) rfl ?_
            refine pw_iload_n n_114_285 rfl rfl ?_
            refine pw_iald (a := cM 12) n_114_286 (nI_pos (by omega)) (nI_clamp (by omega)) (rdM (sh_M_back xn (by omega)) (by decide)) rfl ?_
            refine pw_top (y := M 62 xn 0) (by simp [← gA1, xCo_k, mCo1_k, gup_k, gup_s, vBeg_k, eSet_k, eClr_k, hSet_k, hClr_k, qSet_k, qCls_k, xAlloc_k, xGrant_k, xMap_k, xOpen_k, xBind_k, xSend_k, xStore_k, xEnd_k, xFree_k, xUnmap_k, mAlloc_k, mGrant_k, mMap_k, mOpen_k, mBind_k, mSend_k, mEnd_k, mFree_k, mTk_k]) ?_
            refine pw_top (y := nI (mB M xn)) hb ?_
            refine pw_aload_n n_114_287 rfl rfl ?_
            refine pw_getf (a := 151) n_114_288 fl_7_62 (by decide) (rdR sh_R_backPort) rfl ?_
            refine pw_iload_n n_114_291 rfl rfl ?_
            refine pw_iald (a := cM 17) n_114_292 (nI_pos (by omega)) (nI_clamp (by omega)) (rdM (sh_M_backPort xn (by omega)) (by decide)) rfl ?_
            refine pw_top (y := M 67 xn 0) (by simp [← gA1, xCo_k, mCo1_k, gup_k, gup_s, vBeg_k, eSet_k, eClr_k, hSet_k, hClr_k, qSet_k, qCls_k, xAlloc_k, xGrant_k, xMap_k, xOpen_k, xBind_k, xSend_k, xStore_k, xEnd_k, xFree_k, xUnmap_k, mAlloc_k, mGrant_k, mMap_k, mOpen_k, mBind_k, mSend_k, mEnd_k, mFree_k, mTk_k]) ?_
            refine pw_virtV (a := 151) (as := [.int (nI (mB M xn)), .int (M 67 xn 0)]) (st := []) n_114_293 cl_7_159 ⟨rfl, rfl, rfl⟩ (sum8 rfl) (E_tg sh_R_state) rfl (w_109 (x := (nI (mB M xn))) (k := (M 67 xn 0)) (mpA_k (fun a => by simp [← gA1, xCo_k, mCo1_k, gup_k, gup_s, vBeg_k, eSet_k, eClr_k, hSet_k, hClr_k, qSet_k, qCls_k, xAlloc_k, xGrant_k, xMap_k, xOpen_k, xBind_k, xSend_k, xStore_k, xEnd_k, xFree_k, xUnmap_k, mAlloc_k, mGrant_k, mMap_k, mOpen_k, mBind_k, mSend_k, mEnd_k, mFree_k, mTk_k]) (fun a => by simp [← gA1, xCo_k, mCo1_k, gup_k, gup_s, vBeg_k, eSet_k, eClr_k, hSet_k, hClr_k, qSet_k, qCls_k, xAlloc_k, xGrant_k, xMap_k, xOpen_k, xBind_k, xSend_k, xStore_k, xEnd_k, xFree_k, xUnmap_k, mAlloc_k, mGrant_k, mMap_k, mOpen_k, mBind_k, mSend_k, mEnd_k, mFree_k, mTk_k]) hmp) _) ?_
            refine pw_pop n_114_296 rfl rfl ?_
            refine pw_iload n_114_297 rfl rfl ?_
            exact pw_ireturn (ty := .int) n_114_299 rfl rfl (by rw [show mServe M (nI xn) = mSe M xn from by simp [mServe, mSn, h1, (i32_a h1), txn, h2, (i64_d h2), h4, (i64_a h4), h5, h7, (i32_b h7)]]; simp [mSe, mSe2, mSe1, mSq, mCo2, mCo1, mCom, h1, (i32_a h1), txn, h2, (i64_d h2), h4, (i64_a h4), h5, gA1, h7, (i32_b h7)])
      ·
        refine pw_lload n_114_59 rfl rfl ?_
        refine pw_lconst n_114_61 lc_0 rfl ?_
        refine pw_lcmp n_114_62 rfl ?_
        refine pw_ifc_ne (q := 71) n_114_63 rfl rfl (fun h8 => ?_) (fun h8 => ?_)
        ·
          refine pw_bipush n_114_71 bc_m12 rfl ?_
          exact pw_ireturn (ty := .int) n_114_73 rfl rfl (by first | (simp [mServe, mSn, h1, (i32_a h1), txn, h2, (i64_d h2), h4, (i64_b h4), h8, bI_t, bI_f, nI_add1, gup_k, eSet_k, eClr_k, hSet_k, hClr_k, qSet_k, qCls_k]; done) | contradiction | (split <;> first | rfl | (simp_all; done)) | simp [mServe, mSn, h1, (i32_a h1), txn, h2, (i64_d h2), h4, (i64_b h4), h8, bI_t, bI_f, nI_add1, gup_k, eSet_k, eClr_k, hSet_k, hClr_k, qSet_k, qCls_k])
        ·
          refine pw_bipush n_114_66 bc_m11 rfl ?_
          refine pw_goto (q := 73) n_114_68 rfl ?_
          exact pw_ireturn (ty := .int) n_114_73 rfl rfl (by first | (simp [mServe, mSn, h1, (i32_a h1), txn, h2, (i64_d h2), h4, (i64_b h4), h8, (Classical.not_not.mp h8), bI_t, bI_f, nI_add1, gup_k, eSet_k, eClr_k, hSet_k, hClr_k, qSet_k, qCls_k]; done) | contradiction | (split <;> first | rfl | (simp_all; done)) | simp [mServe, mSn, h1, (i32_a h1), txn, h2, (i64_d h2), h4, (i64_b h4), h8, (Classical.not_not.mp h8), bI_t, bI_f, nI_add1, gup_k, eSet_k, eClr_k, hSet_k, hClr_k, qSet_k, qCls_k])
  ·
    refine pw_iload_n n_114_10 rfl rfl ?_
    exact pw_ireturn (ty := .int) n_114_11 rfl rfl (by first | (simp [mServe, mSn, h1, (i32_b h1), bI_t, bI_f, nI_add1, gup_k, eSet_k, eClr_k, hSet_k, hClr_k, qSet_k, qCls_k]; done) | contradiction | (split <;> first | rfl | (simp_all; done)) | simp [mServe, mSn, h1, (i32_b h1), bI_t, bI_f, nI_add1, gup_k, eSet_k, eClr_k, hSet_k, hClr_k, qSet_k, qCls_k])
set_option maxRecDepth 100000 in
set_option maxHeartbeats 4000000 in
theorem w_115 {X M : gS} {x : Int32} (dv : ∀ v, v < 3 → ¬ M 61 v 0 = 0 → dvM M v) (su : ∀ v, v < 3 → ¬ M 61 v 0 = 0 → M 69 v 0 = nI (mRa M v) ∧ mRa M v < 2 ^ 30 ∧ ∀ a, a < 5 → hOkM M a) (d : Nat) : pm_Call (d + 5) 115 [.ref 152, .int x] (gE X M) (some (.long ((mReap M x).1)), gE X ((mReap M x).2)) := by
  refine pw_start (d := d + 4) (l := [some (.ref 152), some (.int x), none, none, none, none, none, none, none, none, none, none]) (Nat.le_of_ble_eq_true rfl) rfl ?_
  refine pw_aload_n n_115_0 rfl rfl ?_
  refine pw_iload_n n_115_1 rfl rfl ?_
  refine pw_virtV (a := 151) (as := [.int x]) (st := []) n_115_2 cl_7_156 ⟨rfl, rfl, rfl⟩ (sum8 rfl) (E_tg sh_R_state) rfl (w_112 (x := x) (by assumption) _) ?_
  refine pw_istore_n (l := [some (.ref 152), some (.int x), some (.int (mTr M x)), none, none, none, none, none, none, none, none, none]) n_115_5 rfl rfl ?_
  refine pw_iload_n n_115_6 rfl rfl ?_
  refine pw_if_ge (q := 13) n_115_7 rfl rfl (fun h1 => ?_) (fun h1 => ?_)
  ·
    obtain ⟨xn, hxn, rfl, hp61⟩ := tr_nn (ge0 h1)
    have txn : tN (nI xn) = xn := nI_clamp (by omega)
    obtain ⟨hf, f5, hb, b5, hg, g5, hre, r6, hrp, p20⟩ := dv xn hxn hp61
    obtain ⟨hra, a30, hoM⟩ := su xn hxn hp61
    refine pw_bipush n_115_13 bc_8 rfl ?_
    refine pw_aload_n n_115_15 rfl rfl ?_
    refine pw_getf (a := 151) n_115_16 fl_7_50 (by decide) (rdR sh_R_ring) rfl ?_
    refine pw_iload_n n_115_19 rfl rfl ?_
    refine pw_iald (a := cM 13) n_115_20 (nI_pos (by omega)) (nI_clamp (by omega)) (rdM (sh_M_ring xn (by omega)) (by decide)) rfl ?_
    refine pw_top (y := nI (mRp M xn)) hrp ?_
    refine pw_imul n_115_21 rfl (pw_top (nJ_mul 8 (mRp M xn)) ?_)
    refine pw_istore_n (l := [some (.ref 152), some (.int (nI xn)), some (.int (mTr M (nI xn))), some (.int (nI (8 * (mRp M xn)))), none, none, none, none, none, none, none, none]) n_115_22 rfl rfl ?_
    refine pw_aload_n n_115_23 rfl rfl ?_
    refine pw_getf (a := 151) n_115_24 fl_7_68 (by decide) (rdR sh_R_reaped) rfl ?_
    refine pw_iload_n n_115_27 rfl rfl ?_
    refine pw_iald (a := cM 19) n_115_28 (nI_pos (by omega)) (nI_clamp (by omega)) (rdM (sh_M_reaped xn (by omega)) (by decide)) rfl ?_
    refine pw_top (y := nI (mRa M xn)) hra ?_
    refine pw_istore (l := [some (.ref 152), some (.int (nI xn)), some (.int (mTr M (nI xn))), some (.int (nI (8 * (mRp M xn)))), some (.int (nI (mRa M xn))), none, none, none, none, none, none, none]) n_115_29 rfl rfl ?_
    refine pw_aload_n n_115_31 rfl rfl ?_
    refine pw_getf (a := 151) n_115_32 fl_7_16 (by decide) (rdR sh_R_words) rfl ?_
    refine pw_iload_n n_115_35 rfl rfl ?_
    refine pw_iconst n_115_36 ic_1 rfl ?_
    refine pw_iadd n_115_37 rfl (pw_top (nJ_add (8 * (mRp M xn)) 1) ?_)
    refine pw_iald (a := cM 2) n_115_38 (nI_pos (by omega)) (nI_clamp (by omega)) (rdM (sh_M_words ((8 * (mRp M xn)) + 1) (by omega)) (by decide)) rfl ?_
    refine pw_i2l n_115_39 rfl ?_
    refine pw_iload n_115_40 rfl rfl ?_
    refine pw_i2l n_115_42 rfl ?_
    refine pw_lsub n_115_43 rfl ?_
    refine pw_lstore (l := [some (.ref 152), some (.int (nI xn)), some (.int (mTr M (nI xn))), some (.int (nI (8 * (mRp M xn)))), some (.int (nI (mRa M xn))), some (.long ((Int32.toInt64 (M 52 ((8 * (mRp M xn)) + 1) 0)) - (Int32.toInt64 (nI (mRa M xn))))), none, none, none, none, none, none]) n_115_44 rfl rfl ?_
    refine pw_lload n_115_46 rfl rfl ?_
    refine pw_lconst n_115_48 lc_0 rfl ?_
    refine pw_lcmp n_115_49 rfl ?_
    refine pw_ifc_ne (q := 57) n_115_50 rfl rfl (fun h2 => ?_) (fun h2 => ?_)
    ·
      refine pw_lload n_115_57 rfl rfl ?_
      refine pw_lconst n_115_59 lc_0 rfl ?_
      refine pw_lcmp n_115_60 rfl ?_
      refine pw_ifc_lt (q := 80) n_115_61 rfl rfl (fun h3 => ?_) (fun h3 => ?_)
      ·
        refine pw_ldc2 n_115_80 l2_7_166 rfl ?_
        exact pw_lreturn n_115_83 rfl (by first | (simp [mReap, mRe0, mR1, mR2, mR3, mRn, h1, (i32_a h1), txn, h2, h3, (i64_c h3), bI_t, bI_f, nI_add1, gup_k, eSet_k, eClr_k, hSet_k, hClr_k, qSet_k, qCls_k]; done) | contradiction | (split <;> first | rfl | (simp_all; done)) | simp [mReap, mRe0, mR1, mR2, mR3, mRn, h1, (i32_a h1), txn, h2, h3, (i64_c h3), bI_t, bI_f, nI_add1, gup_k, eSet_k, eClr_k, hSet_k, hClr_k, qSet_k, qCls_k])
      ·
        refine pw_lload n_115_64 rfl rfl ?_
        refine pw_aload_n n_115_66 rfl rfl ?_
        refine pw_getf (a := 151) n_115_67 fl_7_65 (by decide) (rdR sh_R_posted) rfl ?_
        refine pw_iload_n n_115_70 rfl rfl ?_
        refine pw_iald (a := cM 18) n_115_71 (nI_pos (by omega)) (nI_clamp (by omega)) (rdM (sh_M_posted xn (by omega)) (by decide)) rfl ?_
        refine pw_iload n_115_72 rfl rfl ?_
        refine pw_isub n_115_74 rfl ?_
        refine pw_i2l n_115_75 rfl ?_
        refine pw_lcmp n_115_76 rfl ?_
        refine pw_ifc_le (q := 84) n_115_77 rfl rfl (fun h4 => ?_) (fun h4 => ?_)
        ·
          refine pw_aload_n n_115_84 rfl rfl ?_
          refine pw_getf (a := 151) n_115_85 fl_7_16 (by decide) (rdR sh_R_words) rfl ?_
          refine pw_iload_n n_115_88 rfl rfl ?_
          refine pw_iconst n_115_89 ic_5 rfl ?_
          refine pw_iadd n_115_90 rfl (pw_top (nJ_add (8 * (mRp M xn)) 5) ?_)
          refine pw_iload n_115_91 rfl rfl ?_
          refine pw_iconst n_115_93 ic_3 rfl ?_
          refine pw_irem n_115_94 (by decide) rfl ?_
          refine pw_top (y := nI (mRa M xn % 3)) (rem3_nI (by omega)) ?_
          refine pw_iadd n_115_95 rfl (pw_top (nJ_add ((8 * (mRp M xn)) + 5) (mRa M xn % 3)) ?_)
          refine pw_iald (a := cM 2) n_115_96 (nI_pos (by omega)) (nI_clamp (by omega)) (rdM (sh_M_words (((8 * (mRp M xn)) + 5) + (mRa M xn % 3)) (by omega)) (by decide)) rfl ?_
          refine pw_istore (l := [some (.ref 152), some (.int (nI xn)), some (.int (mTr M (nI xn))), some (.int (nI (8 * (mRp M xn)))), some (.int (nI (mRa M xn))), some (.long ((Int32.toInt64 (M 52 ((8 * (mRp M xn)) + 1) 0)) - (Int32.toInt64 (nI (mRa M xn))))), none, some (.int (M 52 (((8 * (mRp M xn)) + 5) + (mRa M xn % 3)) 0)), none, none, none, none]) n_115_97 rfl rfl ?_
          refine pw_aload_n n_115_99 rfl rfl ?_
          refine pw_getf (a := 151) n_115_100 fl_7_68 (by decide) (rdR sh_R_reaped) rfl ?_
          refine pw_iload_n n_115_103 rfl rfl ?_
          refine pw_iload n_115_104 rfl rfl ?_
          refine pw_iconst n_115_106 ic_1 rfl ?_
          refine pw_iadd n_115_107 rfl (pw_top (nJ_add (mRa M xn) 1) ?_)
          refine pw_iast (a := cM 19) n_115_108 (nI_pos (by omega)) (nI_clamp (by omega)) (wrM (sh_M_reaped xn (by omega)) (by decide)) rfl ?_
          refine pw_aload_n n_115_109 rfl rfl ?_
          refine pw_getf (a := 151) n_115_110 fl_7_44 (by decide) (rdR sh_R_front) rfl ?_
          refine pw_iload_n n_115_113 rfl rfl ?_
          refine pw_iald (v := .int (M 61 xn 0)) (a := cM 11) n_115_114 (nI_pos (by omega)) (nI_clamp (by omega)) (rdM (sh_M_front xn (by omega)) (by decide)) rfl ?_
          refine pw_iconst n_115_115 ic_1 rfl ?_
          refine pw_isub n_115_116 rfl ?_
          refine pw_top (y := nI (mF M xn)) (mF_eq hf) ?_
          refine pw_istore (l := [some (.ref 152), some (.int (nI xn)), some (.int (mTr M (nI xn))), some (.int (nI (8 * (mRp M xn)))), some (.int (nI (mRa M xn))), some (.long ((Int32.toInt64 (M 52 ((8 * (mRp M xn)) + 1) 0)) - (Int32.toInt64 (nI (mRa M xn))))), none, some (.int (M 52 (((8 * (mRp M xn)) + 5) + (mRa M xn % 3)) 0)), some (.int (nI (mF M xn))), none, none, none]) n_115_117 rfl rfl ?_
          refine pw_aload_n n_115_119 rfl rfl ?_
          refine pw_getf (a := 151) n_115_120 fl_7_74 (by decide) (rdR sh_R_notePage) rfl ?_
          refine pw_iconst n_115_123 ic_3 rfl ?_
          refine pw_iload_n n_115_124 rfl rfl ?_
          refine pw_imul n_115_125 rfl (pw_top (nJ_mul 3 xn) ?_)
          refine pw_iload n_115_126 rfl rfl ?_
          refine pw_iconst n_115_128 ic_3 rfl ?_
          refine pw_irem n_115_129 (by decide) rfl ?_
          refine pw_top (y := nI (mRa M xn % 3)) (rem3_nI (by omega)) ?_
          refine pw_iadd n_115_130 rfl (pw_top (nJ_add (3 * xn) (mRa M xn % 3)) ?_)
          refine pw_iald (v := .int (M 71 ((3 * xn) + (mRa M xn % 3)) 0)) (a := cM 21) n_115_131 (nI_pos (by omega)) (nI_clamp (by omega)) (rdM (sh_M_notePage ((3 * xn) + (mRa M xn % 3)) (by omega)) (by decide)) rfl ?_
          refine pw_istore (l := [some (.ref 152), some (.int (nI xn)), some (.int (mTr M (nI xn))), some (.int (nI (8 * (mRp M xn)))), some (.int (nI (mRa M xn))), some (.long ((Int32.toInt64 (M 52 ((8 * (mRp M xn)) + 1) 0)) - (Int32.toInt64 (nI (mRa M xn))))), none, some (.int (M 52 (((8 * (mRp M xn)) + 5) + (mRa M xn % 3)) 0)), some (.int (nI (mF M xn))), some (.int (M 71 ((3 * xn) + (mRa M xn % 3)) 0)), none, none]) n_115_132 rfl rfl ?_
          refine pw_aload_n n_115_134 rfl rfl ?_
          refine pw_iload n_115_135 rfl rfl ?_
          refine pw_iload n_115_137 rfl rfl ?_
          refine pw_iconst n_115_139 ic_0 rfl ?_
          refine pw_virtV (a := 151) (as := [.int (nI (mF M xn)), .int (M 71 ((3 * xn) + (mRa M xn % 3)) 0), .int 0]) (st := []) n_115_140 cl_7_168 ⟨rfl, rfl, rfl⟩ (sum8 rfl) (E_tg sh_R_state) rfl (w_106 (x := (nI (mF M xn))) (p := (M 71 ((3 * xn) + (mRa M xn % 3)) 0)) (w := 0) (fun _ => hOkM_k (fun a => by simp [gup_k]) (hoM _ (by rw [show tN (nI (mF M xn)) = mF M xn from nI_clamp (by omega)]; exact f5))) _) ?_
          refine pw_lstore (l := [some (.ref 152), some (.int (nI xn)), some (.int (mTr M (nI xn))), some (.int (nI (8 * (mRp M xn)))), some (.int (nI (mRa M xn))), some (.long ((Int32.toInt64 (M 52 ((8 * (mRp M xn)) + 1) 0)) - (Int32.toInt64 (nI (mRa M xn))))), none, some (.int (M 52 (((8 * (mRp M xn)) + 5) + (mRa M xn % 3)) 0)), some (.int (nI (mF M xn))), some (.int (M 71 ((3 * xn) + (mRa M xn % 3)) 0)), some (.long (mLoad (gup M 69 xn 0 (nI ((mRa M xn) + 1))) (nI (mF M xn)) (M 71 ((3 * xn) + (mRa M xn % 3)) 0) 0)), none]) n_115_143 rfl rfl ?_
          refine pw_aload_n n_115_145 rfl rfl ?_
          refine pw_iload n_115_146 rfl rfl ?_
          refine pw_aload_n n_115_148 rfl rfl ?_
          refine pw_getf (a := 151) n_115_149 fl_7_77 (by decide) (rdR sh_R_noteEntry) rfl ?_
          refine pw_iconst n_115_152 ic_3 rfl ?_
          refine pw_iload_n n_115_153 rfl rfl ?_
          refine pw_imul n_115_154 rfl (pw_top (nJ_mul 3 xn) ?_)
          refine pw_iload n_115_155 rfl rfl ?_
          refine pw_iconst n_115_157 ic_3 rfl ?_
          refine pw_irem n_115_158 (by decide) rfl ?_
          refine pw_top (y := nI (mRa M xn % 3)) (rem3_nI (by omega)) ?_
          refine pw_iadd n_115_159 rfl (pw_top (nJ_add (3 * xn) (mRa M xn % 3)) ?_)
          refine pw_iald (v := .int (M 72 ((3 * xn) + (mRa M xn % 3)) 0)) (a := cM 22) n_115_160 (nI_pos (by omega)) (nI_clamp (by omega)) (rdM (sh_M_noteEntry ((3 * xn) + (mRa M xn % 3)) (by omega)) (by decide)) rfl ?_
          refine pw_virtV (a := 151) (as := [.int (nI (mF M xn)), .int (M 72 ((3 * xn) + (mRa M xn % 3)) 0)]) (st := []) n_115_161 cl_7_172 ⟨rfl, rfl, rfl⟩ (sum8 rfl) (E_tg sh_R_state) rfl (w_98 (x := (nI (mF M xn))) (r := (M 72 ((3 * xn) + (mRa M xn % 3)) 0)) _) ?_
          generalize gA1 : mEnd (gup M 69 xn 0 (nI ((mRa M xn) + 1))) (nI (mF M xn)) (M 72 ((3 * xn) + (mRa M xn % 3)) 0) = A1
          refine pw_pop n_115_164 rfl rfl ?_
          refine pw_aload_n n_115_165 rfl rfl ?_
          refine pw_iload n_115_166 rfl rfl ?_
          refine pw_iload n_115_168 rfl rfl ?_
          refine pw_virtV (a := 151) (as := [.int (nI (mF M xn)), .int (M 71 ((3 * xn) + (mRa M xn % 3)) 0)]) (st := []) n_115_170 cl_7_175 ⟨rfl, rfl, rfl⟩ (sum8 rfl) (E_tg sh_R_state) rfl (w_95 (x := (nI (mF M xn))) (p := (M 71 ((3 * xn) + (mRa M xn % 3)) 0)) _) ?_
          generalize gA2 : mFree A1.2 (nI (mF M xn)) (M 71 ((3 * xn) + (mRa M xn % 3)) 0) = A2
          refine pw_pop n_115_173 rfl rfl ?_
          refine pw_iload n_115_174 rfl rfl ?_
          refine pw_if_eq (q := 185) n_115_176 rfl rfl (fun h5 => ?_) (fun h5 => ?_)
          ·
            refine pw_lload n_115_185 rfl rfl ?_
            exact pw_lreturn n_115_187 rfl (by first | (simp [mReap, mRe0, mR1, mR2, mR3, mRn, h1, (i32_a h1), txn, h2, h3, (i64_d h3), h4, (i64_a h4), gA1, gA2, h5, bI_t, bI_f, nI_add1, gup_k, eSet_k, eClr_k, hSet_k, hClr_k, qSet_k, qCls_k]; done) | contradiction | (split <;> first | rfl | (simp_all; done)) | simp [mReap, mRe0, mR1, mR2, mR3, mRn, h1, (i32_a h1), txn, h2, h3, (i64_d h3), h4, (i64_a h4), gA1, gA2, h5, bI_t, bI_f, nI_add1, gup_k, eSet_k, eClr_k, hSet_k, hClr_k, qSet_k, qCls_k])
          ·
            refine pw_ldc2 n_115_179 l2_7_178 rfl ?_
            refine pw_goto (q := 187) n_115_182 rfl ?_
            exact pw_lreturn n_115_187 rfl (by first | (simp [mReap, mRe0, mR1, mR2, mR3, mRn, h1, (i32_a h1), txn, h2, h3, (i64_d h3), h4, (i64_a h4), gA1, gA2, h5, bI_t, bI_f, nI_add1, gup_k, eSet_k, eClr_k, hSet_k, hClr_k, qSet_k, qCls_k]; done) | contradiction | (split <;> first | rfl | (simp_all; done)) | simp [mReap, mRe0, mR1, mR2, mR3, mRn, h1, (i32_a h1), txn, h2, h3, (i64_d h3), h4, (i64_a h4), gA1, gA2, h5, bI_t, bI_f, nI_add1, gup_k, eSet_k, eClr_k, hSet_k, hClr_k, qSet_k, qCls_k])
        ·
          refine pw_ldc2 n_115_80 l2_7_166 rfl ?_
          exact pw_lreturn n_115_83 rfl (by first | (simp [mReap, mRe0, mR1, mR2, mR3, mRn, h1, (i32_a h1), txn, h2, h3, (i64_d h3), h4, (i64_b h4), bI_t, bI_f, nI_add1, gup_k, eSet_k, eClr_k, hSet_k, hClr_k, qSet_k, qCls_k]; done) | contradiction | (split <;> first | rfl | (simp_all; done)) | simp [mReap, mRe0, mR1, mR2, mR3, mRn, h1, (i32_a h1), txn, h2, h3, (i64_d h3), h4, (i64_b h4), bI_t, bI_f, nI_add1, gup_k, eSet_k, eClr_k, hSet_k, hClr_k, qSet_k, qCls_k])
    ·
      refine pw_ldc2 n_115_53 l2_7_164 rfl ?_
      exact pw_lreturn n_115_56 rfl (by first | (simp [mReap, mRe0, mR1, mR2, mR3, mRn, h1, (i32_a h1), txn, h2, (Classical.not_not.mp h2), bI_t, bI_f, nI_add1, gup_k, eSet_k, eClr_k, hSet_k, hClr_k, qSet_k, qCls_k]; done) | contradiction | (split <;> first | rfl | (simp_all; done)) | simp [mReap, mRe0, mR1, mR2, mR3, mRn, h1, (i32_a h1), txn, h2, (Classical.not_not.mp h2), bI_t, bI_f, nI_add1, gup_k, eSet_k, eClr_k, hSet_k, hClr_k, qSet_k, qCls_k])
  ·
    refine pw_iload_n n_115_10 rfl rfl ?_
    refine pw_i2l n_115_11 rfl ?_
    exact pw_lreturn n_115_12 rfl (by first | (simp [mReap, mRe0, mR1, mR2, mR3, mRn, h1, (i32_b h1), bI_t, bI_f, nI_add1, gup_k, eSet_k, eClr_k, hSet_k, hClr_k, qSet_k, qCls_k]; done) | contradiction | (split <;> first | rfl | (simp_all; done)) | simp [mReap, mRe0, mR1, mR2, mR3, mRn, h1, (i32_b h1), bI_t, bI_f, nI_add1, gup_k, eSet_k, eClr_k, hSet_k, hClr_k, qSet_k, qCls_k])
set_option maxRecDepth 100000 in
set_option maxHeartbeats 4000000 in
theorem w_116 {X M : gS} {w : Int32} {a : Int32} {b : Int32} (hmA : ∀ h, h < 25 → ¬ M 56 h 0 = 0 → M 56 h 0 = nI (mE M h + 1) ∧ mE M h < 30) (d : Nat) : pm_Call (d + 2) 116 [.ref 152, .int w, .int a, .int b] (gE X M) (some (.long (mLook M w a b)), gE X M) := by
  refine pw_start (d := d + 1) (l := [some (.ref 152), some (.int w), some (.int a), some (.int b)]) (Nat.le_of_ble_eq_true rfl) rfl ?_
  refine pw_iload_n n_116_0 rfl rfl ?_
  refine pw_if_lt (q := 23) n_116_1 rfl rfl (fun h1 => ?_) (fun h1 => ?_)
  ·
    refine pw_ldc2 n_116_23 l2_7_180 rfl ?_
    exact pw_lreturn n_116_26 rfl (by first | (simp [mLook, h1, (i32_c h1), bI_t, bI_f, nI_add1, gup_k, eSet_k, eClr_k, hSet_k, hClr_k, qSet_k, qCls_k]; done) | contradiction | (split <;> first | rfl | (simp_all; done)) | simp [mLook, h1, (i32_c h1), bI_t, bI_f, nI_add1, gup_k, eSet_k, eClr_k, hSet_k, hClr_k, qSet_k, qCls_k])
  ·
    refine pw_iload_n n_116_4 rfl rfl ?_
    refine pw_if_ge (q := 27) n_116_5 rfl rfl (fun h2 => ?_) (fun h2 => ?_)
    ·
      refine pw_iload_n n_116_27 rfl rfl ?_
      by_cases h3 : w = 0
      · subst h3
        refine pw_tableIn (q := 72) n_116_28 (by decide) rfl rfl ?_
        refine pw_iload_n n_116_72 rfl rfl ?_
        refine pw_iconst n_116_73 ic_4 rfl ?_
        refine pw_icmp_le (q := 83) n_116_74 rfl rfl (fun h4 => ?_) (fun h4 => ?_)
        ·
          have h4b := tN_le2 (z := a) (k := 4) (by decide) h4
          obtain ⟨an, han, rfl⟩ := nJ_of (k := 4) (by decide) h1 (le_nlt h4)
          have tan : tN (nI an) = an := nI_clamp (by omega)
          refine pw_aload_n n_116_83 rfl rfl ?_
          refine pw_getf (a := 151) n_116_84 fl_7_7 (by decide) (rdR sh_R_state) rfl ?_
          refine pw_iload_n n_116_87 rfl rfl ?_
          refine pw_iald (a := cM 0) n_116_88 (nI_pos (by omega)) (nI_clamp (by omega)) (rdM (sh_M_state an (by omega)) (by decide)) rfl ?_
          refine pw_i2l n_116_89 rfl ?_
          exact pw_lreturn n_116_90 rfl (by first | (simp [mLook, h1, (i32_d h1), h2, (i32_a h2), h4, (i32_a h4), tan, bI_t, bI_f, nI_add1, gup_k, eSet_k, eClr_k, hSet_k, hClr_k, qSet_k, qCls_k]; done) | contradiction | (split <;> first | rfl | (simp_all; done)) | simp [mLook, h1, (i32_d h1), h2, (i32_a h2), h4, (i32_a h4), tan, bI_t, bI_f, nI_add1, gup_k, eSet_k, eClr_k, hSet_k, hClr_k, qSet_k, qCls_k])
        ·
          refine pw_ldc2 n_116_77 l2_7_180 rfl ?_
          refine pw_goto (q := 90) n_116_80 rfl ?_
          exact pw_lreturn n_116_90 rfl (by first | (simp [mLook, h1, (i32_d h1), h2, (i32_a h2), h4, (i32_b h4), bI_t, bI_f, nI_add1, gup_k, eSet_k, eClr_k, hSet_k, hClr_k, qSet_k, qCls_k]; done) | contradiction | (split <;> first | rfl | (simp_all; done)) | simp [mLook, h1, (i32_d h1), h2, (i32_a h2), h4, (i32_b h4), bI_t, bI_f, nI_add1, gup_k, eSet_k, eClr_k, hSet_k, hClr_k, qSet_k, qCls_k])
      by_cases h5 : w = 1
      · subst h5
        refine pw_tableIn (q := 91) n_116_28 (by decide) rfl rfl ?_
        refine pw_iload_n n_116_91 rfl rfl ?_
        refine pw_bipush n_116_92 bc_19 rfl ?_
        refine pw_icmp_le (q := 103) n_116_94 rfl rfl (fun h6 => ?_) (fun h6 => ?_)
        ·
          have h6b := tN_le2 (z := a) (k := 19) (by decide) h6
          obtain ⟨an, han, rfl⟩ := nJ_of (k := 19) (by decide) h1 (le_nlt h6)
          have tan : tN (nI an) = an := nI_clamp (by omega)
          refine pw_aload_n n_116_103 rfl rfl ?_
          refine pw_getf (a := 151) n_116_104 fl_7_13 (by decide) (rdR sh_R_owner) rfl ?_
          refine pw_iload_n n_116_107 rfl rfl ?_
          refine pw_iald (a := cM 1) n_116_108 (nI_pos (by omega)) (nI_clamp (by omega)) (rdM (sh_M_owner an (by omega)) (by decide)) rfl ?_
          refine pw_i2l n_116_109 rfl ?_
          refine pw_lconst n_116_110 lc_1 rfl ?_
          refine pw_lsub n_116_111 rfl ?_
          exact pw_lreturn n_116_112 rfl (by first | (simp [mLook, h1, (i32_d h1), h2, (i32_a h2), h6, (i32_a h6), tan, bI_t, bI_f, nI_add1, gup_k, eSet_k, eClr_k, hSet_k, hClr_k, qSet_k, qCls_k]; done) | contradiction | (split <;> first | rfl | (simp_all; done)) | simp [mLook, h1, (i32_d h1), h2, (i32_a h2), h6, (i32_a h6), tan, bI_t, bI_f, nI_add1, gup_k, eSet_k, eClr_k, hSet_k, hClr_k, qSet_k, qCls_k])
        ·
          refine pw_ldc2 n_116_97 l2_7_180 rfl ?_
          refine pw_goto (q := 112) n_116_100 rfl ?_
          exact pw_lreturn n_116_112 rfl (by first | (simp [mLook, h1, (i32_d h1), h2, (i32_a h2), h6, (i32_b h6), bI_t, bI_f, nI_add1, gup_k, eSet_k, eClr_k, hSet_k, hClr_k, qSet_k, qCls_k]; done) | contradiction | (split <;> first | rfl | (simp_all; done)) | simp [mLook, h1, (i32_d h1), h2, (i32_a h2), h6, (i32_b h6), bI_t, bI_f, nI_add1, gup_k, eSet_k, eClr_k, hSet_k, hClr_k, qSet_k, qCls_k])
      by_cases h7 : w = 2
      · subst h7
        refine pw_tableIn (q := 113) n_116_28 (by decide) rfl rfl ?_
        refine pw_iload_n n_116_113 rfl rfl ?_
        refine pw_iconst n_116_114 ic_4 rfl ?_
        refine pw_icmp_gt (q := 137) n_116_115 rfl rfl (fun h8 => ?_) (fun h8 => ?_)
        ·
          refine pw_ldc2 n_116_137 l2_7_180 rfl ?_
          refine pw_goto (q := 154) n_116_140 rfl ?_
          exact pw_lreturn n_116_154 rfl (by first | (simp [mLook, h1, (i32_d h1), h2, (i32_a h2), h8, (i32_c h8), bI_t, bI_f, nI_add1, gup_k, eSet_k, eClr_k, hSet_k, hClr_k, qSet_k, qCls_k]; done) | contradiction | (split <;> first | rfl | (simp_all; done)) | simp [mLook, h1, (i32_d h1), h2, (i32_a h2), h8, (i32_c h8), bI_t, bI_f, nI_add1, gup_k, eSet_k, eClr_k, hSet_k, hClr_k, qSet_k, qCls_k])
        ·
          have h8b := tN_le (z := a) (k := 4) (by decide) h8
          obtain ⟨an, han, rfl⟩ := nJ_of (k := 4) (by decide) h1 h8
          have tan : tN (nI an) = an := nI_clamp (by omega)
          refine pw_iload_n n_116_118 rfl rfl ?_
          refine pw_iconst n_116_119 ic_5 rfl ?_
          refine pw_icmp_gt (q := 137) n_116_120 rfl rfl (fun h9 => ?_) (fun h9 => ?_)
          ·
            refine pw_ldc2 n_116_137 l2_7_180 rfl ?_
            refine pw_goto (q := 154) n_116_140 rfl ?_
            exact pw_lreturn n_116_154 rfl (by first | (simp [mLook, h1, (i32_d h1), h2, (i32_a h2), h8, (i32_d h8), tan, h9, (i32_c h9), bI_t, bI_f, nI_add1, gup_k, eSet_k, eClr_k, hSet_k, hClr_k, qSet_k, qCls_k]; done) | contradiction | (split <;> first | rfl | (simp_all; done)) | simp [mLook, h1, (i32_d h1), h2, (i32_a h2), h8, (i32_d h8), tan, h9, (i32_c h9), bI_t, bI_f, nI_add1, gup_k, eSet_k, eClr_k, hSet_k, hClr_k, qSet_k, qCls_k])
          ·
            have h9b := tN_le (z := b) (k := 5) (by decide) h9
            obtain ⟨bn, hbn, rfl⟩ := nJ_of (k := 5) (by decide) (ge0 h2) h9
            have tbn : tN (nI bn) = bn := nI_clamp (by omega)
            refine pw_aload_n n_116_123 rfl rfl ?_
            refine pw_getf (a := 151) n_116_124 fl_7_19 (by decide) (rdR sh_R_target) rfl ?_
            refine pw_bipush n_116_127 bc_6 rfl ?_
            refine pw_iload_n n_116_129 rfl rfl ?_
            refine pw_imul n_116_130 rfl (pw_top (nJ_mul 6 an) ?_)
            refine pw_iload_n n_116_131 rfl rfl ?_
            refine pw_iadd n_116_132 rfl (pw_top (nJ_add (6 * an) bn) ?_)
            refine pw_iald (a := cM 3) n_116_133 (nI_pos (by omega)) (nI_clamp (by omega)) (rdM (sh_M_target ((6 * an) + bn) (by omega)) (by decide)) rfl ?_
            refine pw_if_ne (q := 143) n_116_134 rfl rfl (fun h10 => ?_) (fun h10 => ?_)
            ·
              refine pw_aload_n n_116_143 rfl rfl ?_
              refine pw_bipush n_116_144 bc_6 rfl ?_
              refine pw_iload_n n_116_146 rfl rfl ?_
              refine pw_imul n_116_147 rfl (pw_top (nJ_mul 6 an) ?_)
              refine pw_iload_n n_116_148 rfl rfl ?_
              refine pw_iadd n_116_149 rfl (pw_top (nJ_add (6 * an) bn) ?_)
              refine pw_virtV (a := 151) (as := [.int (nI ((6 * an) + bn))]) (st := []) n_116_150 cl_7_83 ⟨rfl, rfl, rfl⟩ (sum8 rfl) (E_tg sh_R_state) rfl (w_88 (e := ((6 * an) + bn)) (by omega) _) ?_
              refine pw_i2l n_116_153 rfl ?_
              exact pw_lreturn n_116_154 rfl (by first | (simp [mLook, h1, (i32_d h1), h2, (i32_a h2), h8, (i32_d h8), tan, h9, (i32_d h9), tbn, h10, bI_t, bI_f, nI_add1, gup_k, eSet_k, eClr_k, hSet_k, hClr_k, qSet_k, qCls_k]; done) | contradiction | (split <;> first | rfl | (simp_all; done)) | simp [mLook, h1, (i32_d h1), h2, (i32_a h2), h8, (i32_d h8), tan, h9, (i32_d h9), tbn, h10, bI_t, bI_f, nI_add1, gup_k, eSet_k, eClr_k, hSet_k, hClr_k, qSet_k, qCls_k])
            ·
              refine pw_ldc2 n_116_137 l2_7_180 rfl ?_
              refine pw_goto (q := 154) n_116_140 rfl ?_
              exact pw_lreturn n_116_154 rfl (by first | (simp [mLook, h1, (i32_d h1), h2, (i32_a h2), h8, (i32_d h8), tan, h9, (i32_d h9), tbn, h10, (Classical.not_not.mp h10), bI_t, bI_f, nI_add1, gup_k, eSet_k, eClr_k, hSet_k, hClr_k, qSet_k, qCls_k]; done) | contradiction | (split <;> first | rfl | (simp_all; done)) | simp [mLook, h1, (i32_d h1), h2, (i32_a h2), h8, (i32_d h8), tan, h9, (i32_d h9), tbn, h10, (Classical.not_not.mp h10), bI_t, bI_f, nI_add1, gup_k, eSet_k, eClr_k, hSet_k, hClr_k, qSet_k, qCls_k])
      by_cases h11 : w = 3
      · subst h11
        refine pw_tableIn (q := 155) n_116_28 (by decide) rfl rfl ?_
        refine pw_iload_n n_116_155 rfl rfl ?_
        refine pw_iconst n_116_156 ic_4 rfl ?_
        refine pw_icmp_gt (q := 178) n_116_157 rfl rfl (fun h12 => ?_) (fun h12 => ?_)
        ·
          refine pw_ldc2 n_116_178 l2_7_180 rfl ?_
          refine pw_goto (q := 202) n_116_181 rfl ?_
          exact pw_lreturn n_116_202 rfl (by first | (simp [mLook, h1, (i32_d h1), h2, (i32_a h2), h12, (i32_c h12), bI_t, bI_f, nI_add1, gup_k, eSet_k, eClr_k, hSet_k, hClr_k, qSet_k, qCls_k]; done) | contradiction | (split <;> first | rfl | (simp_all; done)) | simp [mLook, h1, (i32_d h1), h2, (i32_a h2), h12, (i32_c h12), bI_t, bI_f, nI_add1, gup_k, eSet_k, eClr_k, hSet_k, hClr_k, qSet_k, qCls_k])
        ·
          have h12b := tN_le (z := a) (k := 4) (by decide) h12
          obtain ⟨an, han, rfl⟩ := nJ_of (k := 4) (by decide) h1 h12
          have tan : tN (nI an) = an := nI_clamp (by omega)
          refine pw_iload_n n_116_160 rfl rfl ?_
          refine pw_iconst n_116_161 ic_4 rfl ?_
          refine pw_icmp_gt (q := 178) n_116_162 rfl rfl (fun h13 => ?_) (fun h13 => ?_)
          ·
            refine pw_ldc2 n_116_178 l2_7_180 rfl ?_
            refine pw_goto (q := 202) n_116_181 rfl ?_
            exact pw_lreturn n_116_202 rfl (by first | (simp [mLook, h1, (i32_d h1), h2, (i32_a h2), h12, (i32_d h12), tan, h13, (i32_c h13), bI_t, bI_f, nI_add1, gup_k, eSet_k, eClr_k, hSet_k, hClr_k, qSet_k, qCls_k]; done) | contradiction | (split <;> first | rfl | (simp_all; done)) | simp [mLook, h1, (i32_d h1), h2, (i32_a h2), h12, (i32_d h12), tan, h13, (i32_c h13), bI_t, bI_f, nI_add1, gup_k, eSet_k, eClr_k, hSet_k, hClr_k, qSet_k, qCls_k])
          ·
            have h13b := tN_le (z := b) (k := 4) (by decide) h13
            obtain ⟨bn, hbn, rfl⟩ := nJ_of (k := 4) (by decide) (ge0 h2) h13
            have tbn : tN (nI bn) = bn := nI_clamp (by omega)
            refine pw_aload_n n_116_165 rfl rfl ?_
            refine pw_getf (a := 151) n_116_166 fl_7_28 (by decide) (rdR sh_R_mapped) rfl ?_
            refine pw_iconst n_116_169 ic_5 rfl ?_
            refine pw_iload_n n_116_170 rfl rfl ?_
            refine pw_imul n_116_171 rfl (pw_top (nJ_mul 5 an) ?_)
            refine pw_iload_n n_116_172 rfl rfl ?_
            refine pw_iadd n_116_173 rfl (pw_top (nJ_add (5 * an) bn) ?_)
            refine pw_iald (a := cM 6) n_116_174 (nI_pos (by omega)) (nI_clamp (by omega)) (rdM (sh_M_mapped ((5 * an) + bn) (by omega)) (by decide)) rfl ?_
            refine pw_if_ne (q := 184) n_116_175 rfl rfl (fun h14 => ?_) (fun h14 => ?_)
            ·
              obtain ⟨hm, he⟩ := hmA ((5 * an) + bn) (by omega) h14
              refine pw_aload_n n_116_184 rfl rfl ?_
              refine pw_getf (a := 151) n_116_185 fl_7_25 (by decide) (rdR sh_R_entryPage) rfl ?_
              refine pw_aload_n n_116_188 rfl rfl ?_
              refine pw_getf (a := 151) n_116_189 fl_7_28 (by decide) (rdR sh_R_mapped) rfl ?_
              refine pw_iconst n_116_192 ic_5 rfl ?_
              refine pw_iload_n n_116_193 rfl rfl ?_
              refine pw_imul n_116_194 rfl (pw_top (nJ_mul 5 an) ?_)
              refine pw_iload_n n_116_195 rfl rfl ?_
              refine pw_iadd n_116_196 rfl (pw_top (nJ_add (5 * an) bn) ?_)
              refine pw_iald (a := cM 6) n_116_197 (nI_pos (by omega)) (nI_clamp (by omega)) (rdM (sh_M_mapped ((5 * an) + bn) (by omega)) (by decide)) rfl ?_
              refine pw_iconst n_116_198 ic_1 rfl ?_
              refine pw_isub n_116_199 rfl ?_
              refine pw_top (y := nI (mE M ((5 * an) + bn))) (mE_eq hm) ?_
              refine pw_iald (a := cM 5) n_116_200 (nI_pos (by omega)) (nI_clamp (by omega)) (rdM (sh_M_entryPage (mE M ((5 * an) + bn)) (by omega)) (by decide)) rfl ?_
              refine pw_i2l n_116_201 rfl ?_
              exact pw_lreturn n_116_202 rfl (by first | (simp [mLook, h1, (i32_d h1), h2, (i32_a h2), h12, (i32_d h12), tan, h13, (i32_d h13), tbn, h14, bI_t, bI_f, nI_add1, gup_k, eSet_k, eClr_k, hSet_k, hClr_k, qSet_k, qCls_k]; done) | contradiction | (split <;> first | rfl | (simp_all; done)) | simp [mLook, h1, (i32_d h1), h2, (i32_a h2), h12, (i32_d h12), tan, h13, (i32_d h13), tbn, h14, bI_t, bI_f, nI_add1, gup_k, eSet_k, eClr_k, hSet_k, hClr_k, qSet_k, qCls_k])
            ·
              refine pw_ldc2 n_116_178 l2_7_180 rfl ?_
              refine pw_goto (q := 202) n_116_181 rfl ?_
              exact pw_lreturn n_116_202 rfl (by first | (simp [mLook, h1, (i32_d h1), h2, (i32_a h2), h12, (i32_d h12), tan, h13, (i32_d h13), tbn, h14, (Classical.not_not.mp h14), bI_t, bI_f, nI_add1, gup_k, eSet_k, eClr_k, hSet_k, hClr_k, qSet_k, qCls_k]; done) | contradiction | (split <;> first | rfl | (simp_all; done)) | simp [mLook, h1, (i32_d h1), h2, (i32_a h2), h12, (i32_d h12), tan, h13, (i32_d h13), tbn, h14, (Classical.not_not.mp h14), bI_t, bI_f, nI_add1, gup_k, eSet_k, eClr_k, hSet_k, hClr_k, qSet_k, qCls_k])
      by_cases h15 : w = 4
      · subst h15
        refine pw_tableIn (q := 203) n_116_28 (by decide) rfl rfl ?_
        refine pw_iload_n n_116_203 rfl rfl ?_
        refine pw_iconst n_116_204 ic_4 rfl ?_
        refine pw_icmp_le (q := 214) n_116_205 rfl rfl (fun h16 => ?_) (fun h16 => ?_)
        ·
          have h16b := tN_le2 (z := a) (k := 4) (by decide) h16
          obtain ⟨an, han, rfl⟩ := nJ_of (k := 4) (by decide) h1 (le_nlt h16)
          have tan : tN (nI an) = an := nI_clamp (by omega)
          refine pw_aload_n n_116_214 rfl rfl ?_
          refine pw_iload_n n_116_215 rfl rfl ?_
          refine pw_virtV (a := 151) (as := [.int (nI an)]) (st := []) n_116_216 cl_7_91 ⟨rfl, rfl, rfl⟩ (sum8 rfl) (E_tg sh_R_state) rfl (w_83 (x := (nI an)) _) ?_
          refine pw_i2l n_116_219 rfl ?_
          exact pw_lreturn n_116_220 rfl (by first | (simp [mLook, h1, (i32_d h1), h2, (i32_a h2), h16, (i32_a h16), tan, bI_t, bI_f, nI_add1, gup_k, eSet_k, eClr_k, hSet_k, hClr_k, qSet_k, qCls_k]; done) | contradiction | (split <;> first | rfl | (simp_all; done)) | simp [mLook, h1, (i32_d h1), h2, (i32_a h2), h16, (i32_a h16), tan, bI_t, bI_f, nI_add1, gup_k, eSet_k, eClr_k, hSet_k, hClr_k, qSet_k, qCls_k])
        ·
          refine pw_ldc2 n_116_208 l2_7_180 rfl ?_
          refine pw_goto (q := 220) n_116_211 rfl ?_
          exact pw_lreturn n_116_220 rfl (by first | (simp [mLook, h1, (i32_d h1), h2, (i32_a h2), h16, (i32_b h16), bI_t, bI_f, nI_add1, gup_k, eSet_k, eClr_k, hSet_k, hClr_k, qSet_k, qCls_k]; done) | contradiction | (split <;> first | rfl | (simp_all; done)) | simp [mLook, h1, (i32_d h1), h2, (i32_a h2), h16, (i32_b h16), bI_t, bI_f, nI_add1, gup_k, eSet_k, eClr_k, hSet_k, hClr_k, qSet_k, qCls_k])
      by_cases h17 : w = 5
      · subst h17
        refine pw_tableIn (q := 221) n_116_28 (by decide) rfl rfl ?_
        refine pw_iload_n n_116_221 rfl rfl ?_
        refine pw_iconst n_116_222 ic_2 rfl ?_
        refine pw_icmp_gt (q := 241) n_116_223 rfl rfl (fun h18 => ?_) (fun h18 => ?_)
        ·
          refine pw_ldc2 n_116_241 l2_7_180 rfl ?_
          refine pw_goto (q := 261) n_116_244 rfl ?_
          exact pw_lreturn n_116_261 rfl (by first | (simp [mLook, h1, (i32_d h1), h2, (i32_a h2), h18, (i32_c h18), bI_t, bI_f, nI_add1, gup_k, eSet_k, eClr_k, hSet_k, hClr_k, qSet_k, qCls_k]; done) | contradiction | (split <;> first | rfl | (simp_all; done)) | simp [mLook, h1, (i32_d h1), h2, (i32_a h2), h18, (i32_c h18), bI_t, bI_f, nI_add1, gup_k, eSet_k, eClr_k, hSet_k, hClr_k, qSet_k, qCls_k])
        ·
          have h18b := tN_le (z := a) (k := 2) (by decide) h18
          obtain ⟨an, han, rfl⟩ := nJ_of (k := 2) (by decide) h1 h18
          have tan : tN (nI an) = an := nI_clamp (by omega)
          refine pw_iload_n n_116_226 rfl rfl ?_
          refine pw_bipush n_116_227 bc_7 rfl ?_
          refine pw_icmp_gt (q := 241) n_116_229 rfl rfl (fun h19 => ?_) (fun h19 => ?_)
          ·
            refine pw_ldc2 n_116_241 l2_7_180 rfl ?_
            refine pw_goto (q := 261) n_116_244 rfl ?_
            exact pw_lreturn n_116_261 rfl (by first | (simp [mLook, h1, (i32_d h1), h2, (i32_a h2), h18, (i32_d h18), tan, h19, (i32_c h19), bI_t, bI_f, nI_add1, gup_k, eSet_k, eClr_k, hSet_k, hClr_k, qSet_k, qCls_k]; done) | contradiction | (split <;> first | rfl | (simp_all; done)) | simp [mLook, h1, (i32_d h1), h2, (i32_a h2), h18, (i32_d h18), tan, h19, (i32_c h19), bI_t, bI_f, nI_add1, gup_k, eSet_k, eClr_k, hSet_k, hClr_k, qSet_k, qCls_k])
          ·
            have h19b := tN_le (z := b) (k := 7) (by decide) h19
            obtain ⟨bn, hbn, rfl⟩ := nJ_of (k := 7) (by decide) (ge0 h2) h19
            have tbn : tN (nI bn) = bn := nI_clamp (by omega)
            refine pw_aload_n n_116_232 rfl rfl ?_
            refine pw_getf (a := 151) n_116_233 fl_7_44 (by decide) (rdR sh_R_front) rfl ?_
            refine pw_iload_n n_116_236 rfl rfl ?_
            refine pw_iald (a := cM 11) n_116_237 (nI_pos (by omega)) (nI_clamp (by omega)) (rdM (sh_M_front an (by omega)) (by decide)) rfl ?_
            refine pw_if_ne (q := 247) n_116_238 rfl rfl (fun h20 => ?_) (fun h20 => ?_)
            ·
              refine pw_aload_n n_116_247 rfl rfl ?_
              refine pw_getf (a := 151) n_116_248 fl_7_80 (by decide) (rdR sh_R_disk) rfl ?_
              refine pw_bipush n_116_251 bc_8 rfl ?_
              refine pw_iload_n n_116_253 rfl rfl ?_
              refine pw_imul n_116_254 rfl (pw_top (nJ_mul 8 an) ?_)
              refine pw_iload_n n_116_255 rfl rfl ?_
              refine pw_iadd n_116_256 rfl (pw_top (nJ_add (8 * an) bn) ?_)
              refine pw_iald (a := cM 23) n_116_257 (nI_pos (by omega)) (nI_clamp (by omega)) (rdM (sh_M_disk ((8 * an) + bn) (by omega)) (by decide)) rfl ?_
              refine pw_statV (as := [.int (M 73 ((8 * an) + bn) 0)]) (st := []) n_116_258 cl_7_132 ⟨rfl, rfl, rfl⟩ (sum8 rfl) rfl (w_105 (v := (M 73 ((8 * an) + bn) 0)) _) ?_
              exact pw_lreturn n_116_261 rfl (by first | (simp [mLook, h1, (i32_d h1), h2, (i32_a h2), h18, (i32_d h18), tan, h19, (i32_d h19), tbn, h20, bI_t, bI_f, nI_add1, gup_k, eSet_k, eClr_k, hSet_k, hClr_k, qSet_k, qCls_k]; done) | contradiction | (split <;> first | rfl | (simp_all; done)) | simp [mLook, h1, (i32_d h1), h2, (i32_a h2), h18, (i32_d h18), tan, h19, (i32_d h19), tbn, h20, bI_t, bI_f, nI_add1, gup_k, eSet_k, eClr_k, hSet_k, hClr_k, qSet_k, qCls_k])
            ·
              refine pw_ldc2 n_116_241 l2_7_180 rfl ?_
              refine pw_goto (q := 261) n_116_244 rfl ?_
              exact pw_lreturn n_116_261 rfl (by first | (simp [mLook, h1, (i32_d h1), h2, (i32_a h2), h18, (i32_d h18), tan, h19, (i32_d h19), tbn, h20, (Classical.not_not.mp h20), bI_t, bI_f, nI_add1, gup_k, eSet_k, eClr_k, hSet_k, hClr_k, qSet_k, qCls_k]; done) | contradiction | (split <;> first | rfl | (simp_all; done)) | simp [mLook, h1, (i32_d h1), h2, (i32_a h2), h18, (i32_d h18), tan, h19, (i32_d h19), tbn, h20, (Classical.not_not.mp h20), bI_t, bI_f, nI_add1, gup_k, eSet_k, eClr_k, hSet_k, hClr_k, qSet_k, qCls_k])
      by_cases h21 : w = 6
      · subst h21
        refine pw_tableIn (q := 262) n_116_28 (by decide) rfl rfl ?_
        refine pw_iload_n n_116_262 rfl rfl ?_
        refine pw_iconst n_116_263 ic_2 rfl ?_
        refine pw_icmp_gt (q := 276) n_116_264 rfl rfl (fun h22 => ?_) (fun h22 => ?_)
        ·
          refine pw_ldc2 n_116_276 l2_7_180 rfl ?_
          refine pw_goto (q := 296) n_116_279 rfl ?_
          exact pw_lreturn n_116_296 rfl (by first | (simp [mLook, h1, (i32_d h1), h2, (i32_a h2), h22, (i32_c h22), bI_t, bI_f, nI_add1, gup_k, eSet_k, eClr_k, hSet_k, hClr_k, qSet_k, qCls_k]; done) | contradiction | (split <;> first | rfl | (simp_all; done)) | simp [mLook, h1, (i32_d h1), h2, (i32_a h2), h22, (i32_c h22), bI_t, bI_f, nI_add1, gup_k, eSet_k, eClr_k, hSet_k, hClr_k, qSet_k, qCls_k])
        ·
          have h22b := tN_le (z := a) (k := 2) (by decide) h22
          obtain ⟨an, han, rfl⟩ := nJ_of (k := 2) (by decide) h1 h22
          have tan : tN (nI an) = an := nI_clamp (by omega)
          refine pw_aload_n n_116_267 rfl rfl ?_
          refine pw_getf (a := 151) n_116_268 fl_7_44 (by decide) (rdR sh_R_front) rfl ?_
          refine pw_iload_n n_116_271 rfl rfl ?_
          refine pw_iald (a := cM 11) n_116_272 (nI_pos (by omega)) (nI_clamp (by omega)) (rdM (sh_M_front an (by omega)) (by decide)) rfl ?_
          refine pw_if_ne (q := 282) n_116_273 rfl rfl (fun h23 => ?_) (fun h23 => ?_)
          ·
            refine pw_aload_n n_116_282 rfl rfl ?_
            refine pw_getf (a := 151) n_116_283 fl_7_65 (by decide) (rdR sh_R_posted) rfl ?_
            refine pw_iload_n n_116_286 rfl rfl ?_
            refine pw_iald (a := cM 18) n_116_287 (nI_pos (by omega)) (nI_clamp (by omega)) (rdM (sh_M_posted an (by omega)) (by decide)) rfl ?_
            refine pw_aload_n n_116_288 rfl rfl ?_
            refine pw_getf (a := 151) n_116_289 fl_7_68 (by decide) (rdR sh_R_reaped) rfl ?_
            refine pw_iload_n n_116_292 rfl rfl ?_
            refine pw_iald (a := cM 19) n_116_293 (nI_pos (by omega)) (nI_clamp (by omega)) (rdM (sh_M_reaped an (by omega)) (by decide)) rfl ?_
            refine pw_isub n_116_294 rfl ?_
            refine pw_i2l n_116_295 rfl ?_
            exact pw_lreturn n_116_296 rfl (by first | (simp [mLook, h1, (i32_d h1), h2, (i32_a h2), h22, (i32_d h22), tan, h23, bI_t, bI_f, nI_add1, gup_k, eSet_k, eClr_k, hSet_k, hClr_k, qSet_k, qCls_k]; done) | contradiction | (split <;> first | rfl | (simp_all; done)) | simp [mLook, h1, (i32_d h1), h2, (i32_a h2), h22, (i32_d h22), tan, h23, bI_t, bI_f, nI_add1, gup_k, eSet_k, eClr_k, hSet_k, hClr_k, qSet_k, qCls_k])
          ·
            refine pw_ldc2 n_116_276 l2_7_180 rfl ?_
            refine pw_goto (q := 296) n_116_279 rfl ?_
            exact pw_lreturn n_116_296 rfl (by first | (simp [mLook, h1, (i32_d h1), h2, (i32_a h2), h22, (i32_d h22), tan, h23, (Classical.not_not.mp h23), bI_t, bI_f, nI_add1, gup_k, eSet_k, eClr_k, hSet_k, hClr_k, qSet_k, qCls_k]; done) | contradiction | (split <;> first | rfl | (simp_all; done)) | simp [mLook, h1, (i32_d h1), h2, (i32_a h2), h22, (i32_d h22), tan, h23, (Classical.not_not.mp h23), bI_t, bI_f, nI_add1, gup_k, eSet_k, eClr_k, hSet_k, hClr_k, qSet_k, qCls_k])
      refine pw_tableOut (q := 297) n_116_28 (sw7 h3 h5 h7 h11 h15 h17 h21) rfl ?_
      refine pw_ldc2 n_116_297 l2_7_180 rfl ?_
      exact pw_lreturn n_116_300 rfl (by first | (simp [mLook, h1, (i32_d h1), h2, (i32_a h2), h3, h5, h7, h11, h15, h17, h21, bI_t, bI_f, nI_add1, gup_k, eSet_k, eClr_k, hSet_k, hClr_k, qSet_k, qCls_k]; done) | contradiction | (split <;> first | rfl | (simp_all; done)) | simp [mLook, h1, (i32_d h1), h2, (i32_a h2), h3, h5, h7, h11, h15, h17, h21, bI_t, bI_f, nI_add1, gup_k, eSet_k, eClr_k, hSet_k, hClr_k, qSet_k, qCls_k])
    ·
      refine pw_iload_n n_116_8 rfl rfl ?_
      refine pw_iconst n_116_9 ic_2 rfl ?_
      refine pw_icmp_eq (q := 23) n_116_10 rfl rfl (fun h24 => ?_) (fun h24 => ?_)
      ·
        refine pw_ldc2 n_116_23 l2_7_180 rfl ?_
        exact pw_lreturn n_116_26 rfl (by first | (simp [mLook, h1, (i32_d h1), h2, (i32_b h2), h24, bI_t, bI_f, nI_add1, gup_k, eSet_k, eClr_k, hSet_k, hClr_k, qSet_k, qCls_k]; done) | contradiction | (split <;> first | rfl | (simp_all; done)) | simp [mLook, h1, (i32_d h1), h2, (i32_b h2), h24, bI_t, bI_f, nI_add1, gup_k, eSet_k, eClr_k, hSet_k, hClr_k, qSet_k, qCls_k])
      ·
        refine pw_iload_n n_116_13 rfl rfl ?_
        refine pw_iconst n_116_14 ic_3 rfl ?_
        refine pw_icmp_eq (q := 23) n_116_15 rfl rfl (fun h25 => ?_) (fun h25 => ?_)
        ·
          refine pw_ldc2 n_116_23 l2_7_180 rfl ?_
          exact pw_lreturn n_116_26 rfl (by first | (simp [mLook, h1, (i32_d h1), h2, (i32_b h2), h24, h25, bI_t, bI_f, nI_add1, gup_k, eSet_k, eClr_k, hSet_k, hClr_k, qSet_k, qCls_k]; done) | contradiction | (split <;> first | rfl | (simp_all; done)) | simp [mLook, h1, (i32_d h1), h2, (i32_b h2), h24, h25, bI_t, bI_f, nI_add1, gup_k, eSet_k, eClr_k, hSet_k, hClr_k, qSet_k, qCls_k])
        ·
          refine pw_iload_n n_116_18 rfl rfl ?_
          refine pw_iconst n_116_19 ic_5 rfl ?_
          refine pw_icmp_ne (q := 27) n_116_20 rfl rfl (fun h26 => ?_) (fun h26 => ?_)
          ·
            refine pw_iload_n n_116_27 rfl rfl ?_
            by_cases h27 : w = 0
            · subst h27
              refine pw_tableIn (q := 72) n_116_28 (by decide) rfl rfl ?_
              refine pw_iload_n n_116_72 rfl rfl ?_
              refine pw_iconst n_116_73 ic_4 rfl ?_
              refine pw_icmp_le (q := 83) n_116_74 rfl rfl (fun h28 => ?_) (fun h28 => ?_)
              ·
                have h28b := tN_le2 (z := a) (k := 4) (by decide) h28
                obtain ⟨an, han, rfl⟩ := nJ_of (k := 4) (by decide) h1 (le_nlt h28)
                have tan : tN (nI an) = an := nI_clamp (by omega)
                refine pw_aload_n n_116_83 rfl rfl ?_
                refine pw_getf (a := 151) n_116_84 fl_7_7 (by decide) (rdR sh_R_state) rfl ?_
                refine pw_iload_n n_116_87 rfl rfl ?_
                refine pw_iald (a := cM 0) n_116_88 (nI_pos (by omega)) (nI_clamp (by omega)) (rdM (sh_M_state an (by omega)) (by decide)) rfl ?_
                refine pw_i2l n_116_89 rfl ?_
                exact pw_lreturn n_116_90 rfl (by first | (simp [mLook, h1, (i32_d h1), h2, (i32_b h2), h24, h25, h26, h28, (i32_a h28), tan, bI_t, bI_f, nI_add1, gup_k, eSet_k, eClr_k, hSet_k, hClr_k, qSet_k, qCls_k]; done) | contradiction | (split <;> first | rfl | (simp_all; done)) | simp [mLook, h1, (i32_d h1), h2, (i32_b h2), h24, h25, h26, h28, (i32_a h28), tan, bI_t, bI_f, nI_add1, gup_k, eSet_k, eClr_k, hSet_k, hClr_k, qSet_k, qCls_k])
              ·
                refine pw_ldc2 n_116_77 l2_7_180 rfl ?_
                refine pw_goto (q := 90) n_116_80 rfl ?_
                exact pw_lreturn n_116_90 rfl (by first | (simp [mLook, h1, (i32_d h1), h2, (i32_b h2), h24, h25, h26, h28, (i32_b h28), bI_t, bI_f, nI_add1, gup_k, eSet_k, eClr_k, hSet_k, hClr_k, qSet_k, qCls_k]; done) | contradiction | (split <;> first | rfl | (simp_all; done)) | simp [mLook, h1, (i32_d h1), h2, (i32_b h2), h24, h25, h26, h28, (i32_b h28), bI_t, bI_f, nI_add1, gup_k, eSet_k, eClr_k, hSet_k, hClr_k, qSet_k, qCls_k])
            by_cases h29 : w = 1
            · subst h29
              refine pw_tableIn (q := 91) n_116_28 (by decide) rfl rfl ?_
              refine pw_iload_n n_116_91 rfl rfl ?_
              refine pw_bipush n_116_92 bc_19 rfl ?_
              refine pw_icmp_le (q := 103) n_116_94 rfl rfl (fun h30 => ?_) (fun h30 => ?_)
              ·
                have h30b := tN_le2 (z := a) (k := 19) (by decide) h30
                obtain ⟨an, han, rfl⟩ := nJ_of (k := 19) (by decide) h1 (le_nlt h30)
                have tan : tN (nI an) = an := nI_clamp (by omega)
                refine pw_aload_n n_116_103 rfl rfl ?_
                refine pw_getf (a := 151) n_116_104 fl_7_13 (by decide) (rdR sh_R_owner) rfl ?_
                refine pw_iload_n n_116_107 rfl rfl ?_
                refine pw_iald (a := cM 1) n_116_108 (nI_pos (by omega)) (nI_clamp (by omega)) (rdM (sh_M_owner an (by omega)) (by decide)) rfl ?_
                refine pw_i2l n_116_109 rfl ?_
                refine pw_lconst n_116_110 lc_1 rfl ?_
                refine pw_lsub n_116_111 rfl ?_
                exact pw_lreturn n_116_112 rfl (by first | (simp [mLook, h1, (i32_d h1), h2, (i32_b h2), h24, h25, h26, h30, (i32_a h30), tan, bI_t, bI_f, nI_add1, gup_k, eSet_k, eClr_k, hSet_k, hClr_k, qSet_k, qCls_k]; done) | contradiction | (split <;> first | rfl | (simp_all; done)) | simp [mLook, h1, (i32_d h1), h2, (i32_b h2), h24, h25, h26, h30, (i32_a h30), tan, bI_t, bI_f, nI_add1, gup_k, eSet_k, eClr_k, hSet_k, hClr_k, qSet_k, qCls_k])
              ·
                refine pw_ldc2 n_116_97 l2_7_180 rfl ?_
                refine pw_goto (q := 112) n_116_100 rfl ?_
                exact pw_lreturn n_116_112 rfl (by first | (simp [mLook, h1, (i32_d h1), h2, (i32_b h2), h24, h25, h26, h30, (i32_b h30), bI_t, bI_f, nI_add1, gup_k, eSet_k, eClr_k, hSet_k, hClr_k, qSet_k, qCls_k]; done) | contradiction | (split <;> first | rfl | (simp_all; done)) | simp [mLook, h1, (i32_d h1), h2, (i32_b h2), h24, h25, h26, h30, (i32_b h30), bI_t, bI_f, nI_add1, gup_k, eSet_k, eClr_k, hSet_k, hClr_k, qSet_k, qCls_k])
            by_cases h31 : w = 2
            · subst h31
              exact absurd rfl h24
            by_cases h32 : w = 3
            · subst h32
              exact absurd rfl h25
            by_cases h33 : w = 4
            · subst h33
              refine pw_tableIn (q := 203) n_116_28 (by decide) rfl rfl ?_
              refine pw_iload_n n_116_203 rfl rfl ?_
              refine pw_iconst n_116_204 ic_4 rfl ?_
              refine pw_icmp_le (q := 214) n_116_205 rfl rfl (fun h34 => ?_) (fun h34 => ?_)
              ·
                have h34b := tN_le2 (z := a) (k := 4) (by decide) h34
                obtain ⟨an, han, rfl⟩ := nJ_of (k := 4) (by decide) h1 (le_nlt h34)
                have tan : tN (nI an) = an := nI_clamp (by omega)
                refine pw_aload_n n_116_214 rfl rfl ?_
                refine pw_iload_n n_116_215 rfl rfl ?_
                refine pw_virtV (a := 151) (as := [.int (nI an)]) (st := []) n_116_216 cl_7_91 ⟨rfl, rfl, rfl⟩ (sum8 rfl) (E_tg sh_R_state) rfl (w_83 (x := (nI an)) _) ?_
                refine pw_i2l n_116_219 rfl ?_
                exact pw_lreturn n_116_220 rfl (by first | (simp [mLook, h1, (i32_d h1), h2, (i32_b h2), h24, h25, h26, h34, (i32_a h34), tan, bI_t, bI_f, nI_add1, gup_k, eSet_k, eClr_k, hSet_k, hClr_k, qSet_k, qCls_k]; done) | contradiction | (split <;> first | rfl | (simp_all; done)) | simp [mLook, h1, (i32_d h1), h2, (i32_b h2), h24, h25, h26, h34, (i32_a h34), tan, bI_t, bI_f, nI_add1, gup_k, eSet_k, eClr_k, hSet_k, hClr_k, qSet_k, qCls_k])
              ·
                refine pw_ldc2 n_116_208 l2_7_180 rfl ?_
                refine pw_goto (q := 220) n_116_211 rfl ?_
                exact pw_lreturn n_116_220 rfl (by first | (simp [mLook, h1, (i32_d h1), h2, (i32_b h2), h24, h25, h26, h34, (i32_b h34), bI_t, bI_f, nI_add1, gup_k, eSet_k, eClr_k, hSet_k, hClr_k, qSet_k, qCls_k]; done) | contradiction | (split <;> first | rfl | (simp_all; done)) | simp [mLook, h1, (i32_d h1), h2, (i32_b h2), h24, h25, h26, h34, (i32_b h34), bI_t, bI_f, nI_add1, gup_k, eSet_k, eClr_k, hSet_k, hClr_k, qSet_k, qCls_k])
            by_cases h35 : w = 5
            · subst h35
              exact absurd rfl h26
            by_cases h36 : w = 6
            · subst h36
              refine pw_tableIn (q := 262) n_116_28 (by decide) rfl rfl ?_
              refine pw_iload_n n_116_262 rfl rfl ?_
              refine pw_iconst n_116_263 ic_2 rfl ?_
              refine pw_icmp_gt (q := 276) n_116_264 rfl rfl (fun h37 => ?_) (fun h37 => ?_)
              ·
                refine pw_ldc2 n_116_276 l2_7_180 rfl ?_
                refine pw_goto (q := 296) n_116_279 rfl ?_
                exact pw_lreturn n_116_296 rfl (by first | (simp [mLook, h1, (i32_d h1), h2, (i32_b h2), h24, h25, h26, h37, (i32_c h37), bI_t, bI_f, nI_add1, gup_k, eSet_k, eClr_k, hSet_k, hClr_k, qSet_k, qCls_k]; done) | contradiction | (split <;> first | rfl | (simp_all; done)) | simp [mLook, h1, (i32_d h1), h2, (i32_b h2), h24, h25, h26, h37, (i32_c h37), bI_t, bI_f, nI_add1, gup_k, eSet_k, eClr_k, hSet_k, hClr_k, qSet_k, qCls_k])
              ·
                have h37b := tN_le (z := a) (k := 2) (by decide) h37
                obtain ⟨an, han, rfl⟩ := nJ_of (k := 2) (by decide) h1 h37
                have tan : tN (nI an) = an := nI_clamp (by omega)
                refine pw_aload_n n_116_267 rfl rfl ?_
                refine pw_getf (a := 151) n_116_268 fl_7_44 (by decide) (rdR sh_R_front) rfl ?_
                refine pw_iload_n n_116_271 rfl rfl ?_
                refine pw_iald (a := cM 11) n_116_272 (nI_pos (by omega)) (nI_clamp (by omega)) (rdM (sh_M_front an (by omega)) (by decide)) rfl ?_
                refine pw_if_ne (q := 282) n_116_273 rfl rfl (fun h38 => ?_) (fun h38 => ?_)
                ·
                  refine pw_aload_n n_116_282 rfl rfl ?_
                  refine pw_getf (a := 151) n_116_283 fl_7_65 (by decide) (rdR sh_R_posted) rfl ?_
                  refine pw_iload_n n_116_286 rfl rfl ?_
                  refine pw_iald (a := cM 18) n_116_287 (nI_pos (by omega)) (nI_clamp (by omega)) (rdM (sh_M_posted an (by omega)) (by decide)) rfl ?_
                  refine pw_aload_n n_116_288 rfl rfl ?_
                  refine pw_getf (a := 151) n_116_289 fl_7_68 (by decide) (rdR sh_R_reaped) rfl ?_
                  refine pw_iload_n n_116_292 rfl rfl ?_
                  refine pw_iald (a := cM 19) n_116_293 (nI_pos (by omega)) (nI_clamp (by omega)) (rdM (sh_M_reaped an (by omega)) (by decide)) rfl ?_
                  refine pw_isub n_116_294 rfl ?_
                  refine pw_i2l n_116_295 rfl ?_
                  exact pw_lreturn n_116_296 rfl (by first | (simp [mLook, h1, (i32_d h1), h2, (i32_b h2), h24, h25, h26, h37, (i32_d h37), tan, h38, bI_t, bI_f, nI_add1, gup_k, eSet_k, eClr_k, hSet_k, hClr_k, qSet_k, qCls_k]; done) | contradiction | (split <;> first | rfl | (simp_all; done)) | simp [mLook, h1, (i32_d h1), h2, (i32_b h2), h24, h25, h26, h37, (i32_d h37), tan, h38, bI_t, bI_f, nI_add1, gup_k, eSet_k, eClr_k, hSet_k, hClr_k, qSet_k, qCls_k])
                ·
                  refine pw_ldc2 n_116_276 l2_7_180 rfl ?_
                  refine pw_goto (q := 296) n_116_279 rfl ?_
                  exact pw_lreturn n_116_296 rfl (by first | (simp [mLook, h1, (i32_d h1), h2, (i32_b h2), h24, h25, h26, h37, (i32_d h37), tan, h38, (Classical.not_not.mp h38), bI_t, bI_f, nI_add1, gup_k, eSet_k, eClr_k, hSet_k, hClr_k, qSet_k, qCls_k]; done) | contradiction | (split <;> first | rfl | (simp_all; done)) | simp [mLook, h1, (i32_d h1), h2, (i32_b h2), h24, h25, h26, h37, (i32_d h37), tan, h38, (Classical.not_not.mp h38), bI_t, bI_f, nI_add1, gup_k, eSet_k, eClr_k, hSet_k, hClr_k, qSet_k, qCls_k])
            refine pw_tableOut (q := 297) n_116_28 (sw7 h27 h29 h31 h32 h33 h35 h36) rfl ?_
            refine pw_ldc2 n_116_297 l2_7_180 rfl ?_
            exact pw_lreturn n_116_300 rfl (by first | (simp [mLook, h1, (i32_d h1), h2, (i32_b h2), h24, h25, h26, h27, h29, h31, h32, h33, h35, h36, bI_t, bI_f, nI_add1, gup_k, eSet_k, eClr_k, hSet_k, hClr_k, qSet_k, qCls_k]; done) | contradiction | (split <;> first | rfl | (simp_all; done)) | simp [mLook, h1, (i32_d h1), h2, (i32_b h2), h24, h25, h26, h27, h29, h31, h32, h33, h35, h36, bI_t, bI_f, nI_add1, gup_k, eSet_k, eClr_k, hSet_k, hClr_k, qSet_k, qCls_k])
          ·
            refine pw_ldc2 n_116_23 l2_7_180 rfl ?_
            exact pw_lreturn n_116_26 rfl (by first | (simp [mLook, h1, (i32_d h1), h2, (i32_b h2), h24, h25, h26, (Classical.not_not.mp h26), bI_t, bI_f, nI_add1, gup_k, eSet_k, eClr_k, hSet_k, hClr_k, qSet_k, qCls_k]; done) | contradiction | (split <;> first | rfl | (simp_all; done)) | simp [mLook, h1, (i32_d h1), h2, (i32_b h2), h24, h25, h26, (Classical.not_not.mp h26), bI_t, bI_f, nI_add1, gup_k, eSet_k, eClr_k, hSet_k, hClr_k, qSet_k, qCls_k])
