set_option maxRecDepth 100000 in
set_option maxHeartbeats 4000000 in
theorem L_94_43 {X M : gS} {a : Nat} {p : Nat} (hp : p < 20)  (d : Nat) {r : pm_R} : ∀ (n i : Nat) (Z : gS), i + n = 8 → pw none (d + 1) 94 67 [some (.ref 152), some (.int (nI a)), some (.int (nI p)), some (.int (nI 8))] [] (gE X (lpS (fun w Z => gup Z 52 (8 * p + w) 0 0) n i Z)) r → pw none (d + 1) 94 43 [some (.ref 152), some (.int (nI a)), some (.int (nI p)), some (.int (nI i))] [] (gE X Z) r := by
  intro n
  induction n with
  | zero =>
    intro i Z hi hk
    obtain rfl : i = 8 := by omega
    refine pw_iload_n n_94_43 rfl rfl ?_
    refine pw_bipush n_94_44 bc_8 rfl ?_
    refine pw_icmp_ge_t (q := 67) n_94_46 rfl (nI_le (a := 8) (b := 8) (by omega) (by omega)) ?_
    exact hk
  | succ n ih =>
    intro i Z hi hk
    refine pw_iload_n n_94_43 rfl rfl ?_
    refine pw_bipush n_94_44 bc_8 rfl ?_
    refine pw_icmp_ge_f (q := 67) n_94_46 rfl rfl (nI_ge (a := i) (b := 8) (by omega) (by omega)) ?_
    refine pw_aload_n n_94_49 rfl rfl ?_
    refine pw_getf (a := 151) n_94_50 fl_7_16 (by decide) (rdR sh_R_words) rfl ?_
    refine pw_bipush n_94_53 bc_8 rfl ?_
    refine pw_iload_n n_94_55 rfl rfl ?_
    refine pw_imul n_94_56 rfl (pw_top (nJ_mul 8 p) ?_)
    refine pw_iload_n n_94_57 rfl rfl ?_
    refine pw_iadd n_94_58 rfl (pw_top (nJ_add (8 * p) i) ?_)
    refine pw_iconst n_94_59 ic_0 rfl ?_
    refine pw_iast (a := cM 2) n_94_60 (nI_pos (by omega)) (nI_clamp (by omega)) (wrM (sh_M_words ((8 * p) + i) (by omega)) (by decide)) rfl ?_
    refine pw_iinc (v := nI (i + 1)) (l := [some (.ref 152), some (.int (nI a)), some (.int (nI p)), some (.int (nI (i + 1)))]) n_94_61 rfl (nI_inc i) rfl rfl ?_
    refine pw_goto (q := 43) n_94_64 rfl ?_
    have e0 : gup Z 52 (8 * p + i) 0 0 = gup Z 52 ((8 * p) + i) 0 0 := by first | contradiction | simp [bI_t, bI_f, nI_add1, gup_k, eSet_k, eClr_k, hSet_k, hClr_k, qSet_k, qCls_k]
    refine ih (i + 1) (gup Z 52 ((8 * p) + i) 0 0) (by omega) ?_
    rw [← e0]
    exact hk
set_option maxRecDepth 100000 in
set_option maxHeartbeats 4000000 in
theorem w_94 {X M : gS} {x : Int32}  (d : Nat) : pm_Call (d + 2) 94 [.ref 152, .int x] (gE X M) (some (.int ((mAlloc M x).1)), gE X ((mAlloc M x).2)) := by
  refine pw_start (d := d + 1) (l := [some (.ref 152), some (.int x), none, none]) (Nat.le_of_ble_eq_true rfl) rfl ?_
  refine pw_aload_n n_94_0 rfl rfl ?_
  refine pw_iload_n n_94_1 rfl rfl ?_
  refine pw_virtV (a := 151) (as := [.int x]) (st := []) n_94_2 cl_7_94 ⟨rfl, rfl, rfl⟩ (sum8 rfl) (E_tg sh_R_state) rfl (w_81 (x := x) _) ?_
  refine pw_ifb_ne (q := 10) n_94_5 rfl rfl (fun h1 => ?_) (fun h1 => ?_)
  ·
    obtain ⟨xn, hxn, rfl⟩ := live_nI h1
    have txn : tN (nI xn) = xn := nI_clamp (by omega)
    refine pw_aload_n n_94_10 rfl rfl ?_
    refine pw_virtV (a := 151) (as := []) (st := []) n_94_11 cl_7_109 ⟨rfl, rfl, rfl⟩ (sum8 rfl) (E_tg sh_R_state) rfl (w_84  _) ?_
    refine pw_istore_n (l := [some (.ref 152), some (.int (nI xn)), some (.int (mFpg M)), none]) n_94_14 rfl rfl ?_
    refine pw_iload_n n_94_15 rfl rfl ?_
    refine pw_if_lt (q := 29) n_94_16 rfl rfl (fun h2 => ?_) (fun h2 => ?_)
    ·
      refine pw_bipush n_94_29 bc_m7 rfl ?_
      exact pw_ireturn (ty := .int) n_94_31 rfl rfl (by first | contradiction | simp [mAlloc, mWipe, h1, txn, h2, (i32_c h2), bI_t, bI_f, nI_add1, gup_k, eSet_k, eClr_k, hSet_k, hClr_k, qSet_k, qCls_k])
    ·
      obtain ⟨sh2, hsh2, esh2⟩ := ir_mFpg h2
      have tsh2 : tN (nI sh2) = sh2 := nI_clamp (by omega)
      have qsh2 : ¬ nI sh2 < 0 := nI_pos (by omega)
      rw [esh2]
      refine pw_aload_n n_94_19 rfl rfl ?_
      refine pw_iload_n n_94_20 rfl rfl ?_
      refine pw_virtV (a := 151) (as := [.int (nI xn)]) (st := []) n_94_21 cl_7_91 ⟨rfl, rfl, rfl⟩ (sum8 rfl) (E_tg sh_R_state) rfl (w_83 (x := (nI xn)) _) ?_
      refine pw_bipush n_94_24 bc_6 rfl ?_
      refine pw_icmp_lt (q := 32) n_94_26 rfl rfl (fun h3 => ?_) (fun h3 => ?_)
      ·
        have h3b := tN_lt2 (z := (mCnt M (nI xn))) (k := 6) (by decide) h3
        refine pw_aload_n n_94_32 rfl rfl ?_
        refine pw_getf (a := 151) n_94_33 fl_7_13 (by decide) (rdR sh_R_owner) rfl ?_
        refine pw_iload_n n_94_36 rfl rfl ?_
        refine pw_iload_n n_94_37 rfl rfl ?_
        refine pw_iconst n_94_38 ic_1 rfl ?_
        refine pw_iadd n_94_39 rfl (pw_top (nJ_add xn 1) ?_)
        refine pw_iast (a := cM 1) n_94_40 (nI_pos (by omega)) (nI_clamp (by omega)) (wrM (sh_M_owner sh2 (by omega)) (by decide)) rfl ?_
        refine pw_iconst n_94_41 ic_0 rfl ?_
        refine pw_istore_n (l := [some (.ref 152), some (.int (nI xn)), some (.int (nI sh2)), some (.int 0)]) n_94_42 rfl rfl ?_
        refine L_94_43 (X := X) (M := M) (a := xn) (p := sh2) (by omega) _ 8 0 (gup M 51 sh2 0 (nI (xn + 1))) (by omega) ?_
        refine pw_iload_n n_94_67 rfl rfl ?_
        exact pw_ireturn (ty := .int) n_94_68 rfl rfl (by first | contradiction | simp [mAlloc, mWipe, h1, txn, h2, (i32_d h2), esh2, tsh2, qsh2, (i32_d qsh2), h3, (i32_c h3), bI_t, bI_f, nI_add1, gup_k, eSet_k, eClr_k, hSet_k, hClr_k, qSet_k, qCls_k])
      ·
        refine pw_bipush n_94_29 bc_m7 rfl ?_
        exact pw_ireturn (ty := .int) n_94_31 rfl rfl (by first | contradiction | simp [mAlloc, mWipe, h1, txn, h2, (i32_d h2), esh2, tsh2, qsh2, (i32_d qsh2), h3, (i32_d h3), bI_t, bI_f, nI_add1, gup_k, eSet_k, eClr_k, hSet_k, hClr_k, qSet_k, qCls_k])
  ·
    refine pw_iconst n_94_8 ic_m1 rfl ?_
    exact pw_ireturn (ty := .int) n_94_9 rfl rfl (by first | contradiction | simp [mAlloc, mWipe, h1, bI_t, bI_f, nI_add1, gup_k, eSet_k, eClr_k, hSet_k, hClr_k, qSet_k, qCls_k])
set_option maxRecDepth 100000 in
set_option maxHeartbeats 4000000 in
theorem w_95 {X M : gS} {x : Int32} {p : Int32}  (d : Nat) : pm_Call (d + 3) 95 [.ref 152, .int x, .int p] (gE X M) (some (.int ((mFree M x p).1)), gE X ((mFree M x p).2)) := by
  refine pw_start (d := d + 2) (l := [some (.ref 152), some (.int x), some (.int p)]) (Nat.le_of_ble_eq_true rfl) rfl ?_
  refine pw_aload_n n_95_0 rfl rfl ?_
  refine pw_iload_n n_95_1 rfl rfl ?_
  refine pw_virtV (a := 151) (as := [.int x]) (st := []) n_95_2 cl_7_94 ⟨rfl, rfl, rfl⟩ (sum8 rfl) (E_tg sh_R_state) rfl (w_81 (x := x) _) ?_
  refine pw_ifb_ne (q := 10) n_95_5 rfl rfl (fun h1 => ?_) (fun h1 => ?_)
  ·
    obtain ⟨xn, hxn, rfl⟩ := live_nI h1
    have txn : tN (nI xn) = xn := nI_clamp (by omega)
    refine pw_aload_n n_95_10 rfl rfl ?_
    refine pw_iload_n n_95_11 rfl rfl ?_
    refine pw_iload_n n_95_12 rfl rfl ?_
    refine pw_virtV (a := 151) (as := [.int (nI xn), .int p]) (st := []) n_95_13 cl_7_105 ⟨rfl, rfl, rfl⟩ (sum8 rfl) (E_tg sh_R_state) rfl (w_82 (x := (nI xn)) (p := p) _) ?_
    refine pw_ifb_ne (q := 22) n_95_16 rfl rfl (fun h2 => ?_) (fun h2 => ?_)
    ·
      obtain ⟨h2a, h2b⟩ := ir_mowns h2
      obtain ⟨pn, hpn, rfl⟩ := owns_nI h2
      have tpn : tN (nI pn) = pn := nI_clamp (by omega)
      refine pw_aload_n n_95_22 rfl rfl ?_
      refine pw_iload_n n_95_23 rfl rfl ?_
      refine pw_iload_n n_95_24 rfl rfl ?_
      refine pw_iconst n_95_25 ic_0 rfl ?_
      refine pw_virtV (a := 151) (as := [.int (nI xn), .int (nI pn), .int 0]) (st := []) n_95_26 cl_7_87 ⟨rfl, rfl, rfl⟩ (sum8 rfl) (E_tg sh_R_state) rfl (w_89 (a := xn) (p := (nI pn)) (b := false) (by omega) _) ?_
      refine pw_ifb_eq (q := 35) n_95_29 rfl rfl (fun h3 => ?_) (fun h3 => ?_)
      ·
        refine pw_aload_n n_95_35 rfl rfl ?_
        refine pw_getf (a := 151) n_95_36 fl_7_13 (by decide) (rdR sh_R_owner) rfl ?_
        refine pw_iload_n n_95_39 rfl rfl ?_
        refine pw_iconst n_95_40 ic_0 rfl ?_
        refine pw_iast (a := cM 1) n_95_41 (nI_pos (by omega)) (nI_clamp (by omega)) (wrM (sh_M_owner pn (by omega)) (by decide)) rfl ?_
        refine pw_iconst n_95_42 ic_0 rfl ?_
        exact pw_ireturn (ty := .int) n_95_43 rfl rfl (by first | contradiction | simp [mFree, h1, txn, h2, tpn, h3, bI_t, bI_f, nI_add1, gup_k, eSet_k, eClr_k, hSet_k, hClr_k, qSet_k, qCls_k])
      ·
        refine pw_bipush n_95_32 bc_m4 rfl ?_
        exact pw_ireturn (ty := .int) n_95_34 rfl rfl (by first | contradiction | simp [mFree, h1, txn, h2, tpn, h3, bI_t, bI_f, nI_add1, gup_k, eSet_k, eClr_k, hSet_k, hClr_k, qSet_k, qCls_k])
    ·
      refine pw_bipush n_95_19 bc_m3 rfl ?_
      exact pw_ireturn (ty := .int) n_95_21 rfl rfl (by first | contradiction | simp [mFree, h1, txn, h2, bI_t, bI_f, nI_add1, gup_k, eSet_k, eClr_k, hSet_k, hClr_k, qSet_k, qCls_k])
  ·
    refine pw_iconst n_95_8 ic_m1 rfl ?_
    exact pw_ireturn (ty := .int) n_95_9 rfl rfl (by first | contradiction | simp [mFree, h1, bI_t, bI_f, nI_add1, gup_k, eSet_k, eClr_k, hSet_k, hClr_k, qSet_k, qCls_k])
set_option maxRecDepth 100000 in
set_option maxHeartbeats 4000000 in
theorem w_96 {X M : gS} {x : Int32} {t : Int32} {p : Int32} {k : Int32}  (d : Nat) : pm_Call (d + 2) 96 [.ref 152, .int x, .int t, .int p, .int k] (gE X M) (some (.int ((mGrant M x t p k).1)), gE X ((mGrant M x t p k).2)) := by
  refine pw_start (d := d + 1) (l := [some (.ref 152), some (.int x), some (.int t), some (.int p), some (.int k), none]) (Nat.le_of_ble_eq_true rfl) rfl ?_
  refine pw_aload_n n_96_0 rfl rfl ?_
  refine pw_iload_n n_96_1 rfl rfl ?_
  refine pw_virtV (a := 151) (as := [.int x]) (st := []) n_96_2 cl_7_94 ⟨rfl, rfl, rfl⟩ (sum8 rfl) (E_tg sh_R_state) rfl (w_81 (x := x) _) ?_
  refine pw_ifb_ne (q := 10) n_96_5 rfl rfl (fun h1 => ?_) (fun h1 => ?_)
  ·
    obtain ⟨xn, hxn, rfl⟩ := live_nI h1
    have txn : tN (nI xn) = xn := nI_clamp (by omega)
    refine pw_iload_n n_96_10 rfl rfl ?_
    refine pw_if_lt (q := 35) n_96_11 rfl rfl (fun h2 => ?_) (fun h2 => ?_)
    ·
      refine pw_bipush n_96_35 bc_m2 rfl ?_
      exact pw_ireturn (ty := .int) n_96_37 rfl rfl (by first | contradiction | simp [mGrant, mGr1, h1, txn, h2, (i32_c h2), bI_t, bI_f, nI_add1, gup_k, eSet_k, eClr_k, hSet_k, hClr_k, qSet_k, qCls_k])
    ·
      refine pw_iload_n n_96_14 rfl rfl ?_
      refine pw_iconst n_96_15 ic_4 rfl ?_
      refine pw_icmp_gt (q := 35) n_96_16 rfl rfl (fun h3 => ?_) (fun h3 => ?_)
      ·
        refine pw_bipush n_96_35 bc_m2 rfl ?_
        exact pw_ireturn (ty := .int) n_96_37 rfl rfl (by first | contradiction | simp [mGrant, mGr1, h1, txn, h2, (i32_d h2), h3, (i32_c h3), bI_t, bI_f, nI_add1, gup_k, eSet_k, eClr_k, hSet_k, hClr_k, qSet_k, qCls_k])
      ·
        have h3b := tN_le (z := t) (k := 4) (by decide) h3
        obtain ⟨tn, htn, rfl⟩ := nJ_of (k := 4) (by decide) h2 h3
        have ttn : tN (nI tn) = tn := nI_clamp (by omega)
        refine pw_iload_n n_96_19 rfl rfl ?_
        refine pw_iload_n n_96_20 rfl rfl ?_
        refine pw_icmp_eq (q := 35) n_96_21 rfl rfl (fun h4 => ?_) (fun h4 => ?_)
        ·
          refine pw_bipush n_96_35 bc_m2 rfl ?_
          exact pw_ireturn (ty := .int) n_96_37 rfl rfl (by first | contradiction | simp [mGrant, mGr1, h1, txn, h2, (i32_d h2), h3, (i32_d h3), ttn, h4, bI_t, bI_f, nI_add1, gup_k, eSet_k, eClr_k, hSet_k, hClr_k, qSet_k, qCls_k])
        ·
          refine pw_iload n_96_24 rfl rfl ?_
          refine pw_if_lt (q := 35) n_96_26 rfl rfl (fun h5 => ?_) (fun h5 => ?_)
          ·
            refine pw_bipush n_96_35 bc_m2 rfl ?_
            exact pw_ireturn (ty := .int) n_96_37 rfl rfl (by first | contradiction | simp [mGrant, mGr1, h1, txn, h2, (i32_d h2), h3, (i32_d h3), ttn, h4, h5, (i32_c h5), bI_t, bI_f, nI_add1, gup_k, eSet_k, eClr_k, hSet_k, hClr_k, qSet_k, qCls_k])
          ·
            refine pw_iload n_96_29 rfl rfl ?_
            refine pw_iconst n_96_31 ic_2 rfl ?_
            refine pw_icmp_le (q := 38) n_96_32 rfl rfl (fun h6 => ?_) (fun h6 => ?_)
            ·
              have h6b := tN_le2 (z := k) (k := 2) (by decide) h6
              obtain ⟨kn, hkn, rfl⟩ := nJ_of (k := 2) (by decide) h5 (le_nlt h6)
              have tkn : tN (nI kn) = kn := nI_clamp (by omega)
              refine pw_iload n_96_38 rfl rfl ?_
              refine pw_iconst n_96_40 ic_2 rfl ?_
              refine pw_icmp_ge (q := 56) n_96_41 rfl rfl (fun h7 => ?_) (fun h7 => ?_)
              ·
                refine pw_aload_n n_96_56 rfl rfl ?_
                refine pw_iload_n n_96_57 rfl rfl ?_
                refine pw_virtV (a := 151) (as := [.int (nI xn)]) (st := []) n_96_58 cl_7_113 ⟨rfl, rfl, rfl⟩ (sum8 rfl) (E_tg sh_R_state) rfl (w_85 (a := xn) (by omega) _) ?_
                refine pw_istore (l := [some (.ref 152), some (.int (nI xn)), some (.int (nI tn)), some (.int p), some (.int (nI kn)), some (.int (mFe M xn))]) n_96_61 rfl rfl ?_
                refine pw_iload n_96_63 rfl rfl ?_
                refine pw_if_ge (q := 71) n_96_65 rfl rfl (fun h8 => ?_) (fun h8 => ?_)
                ·
                  obtain ⟨sh8, hsh8, esh8⟩ := ir_mFe (ge0 h8)
                  have tsh8 : tN (nI sh8) = sh8 := nI_clamp (by omega)
                  have qsh8 : ¬ nI sh8 < 0 := nI_pos (by omega)
                  rw [esh8]
                  refine pw_aload_n n_96_71 rfl rfl ?_
                  refine pw_getf (a := 151) n_96_72 fl_7_19 (by decide) (rdR sh_R_target) rfl ?_
                  refine pw_bipush n_96_75 bc_6 rfl ?_
                  refine pw_iload_n n_96_77 rfl rfl ?_
                  refine pw_imul n_96_78 rfl (pw_top (nJ_mul 6 xn) ?_)
                  refine pw_iload n_96_79 rfl rfl ?_
                  refine pw_iadd n_96_81 rfl (pw_top (nJ_add (6 * xn) sh8) ?_)
                  refine pw_iload_n n_96_82 rfl rfl ?_
                  refine pw_iconst n_96_83 ic_1 rfl ?_
                  refine pw_iadd n_96_84 rfl (pw_top (nJ_add tn 1) ?_)
                  refine pw_iast (a := cM 3) n_96_85 (nI_pos (by omega)) (nI_clamp (by omega)) (wrM (sh_M_target ((6 * xn) + sh8) (by omega)) (by decide)) rfl ?_
                  refine pw_aload_n n_96_86 rfl rfl ?_
                  refine pw_getf (a := 151) n_96_87 fl_7_22 (by decide) (rdR sh_R_kinds) rfl ?_
                  refine pw_bipush n_96_90 bc_6 rfl ?_
                  refine pw_iload_n n_96_92 rfl rfl ?_
                  refine pw_imul n_96_93 rfl (pw_top (nJ_mul 6 xn) ?_)
                  refine pw_iload n_96_94 rfl rfl ?_
                  refine pw_iadd n_96_96 rfl (pw_top (nJ_add (6 * xn) sh8) ?_)
                  refine pw_iload n_96_97 rfl rfl ?_
                  refine pw_iast (a := cM 4) n_96_99 (nI_pos (by omega)) (nI_clamp (by omega)) (wrM (sh_M_kinds ((6 * xn) + sh8) (by omega)) (by decide)) rfl ?_
                  refine pw_aload_n n_96_100 rfl rfl ?_
                  refine pw_getf (a := 151) n_96_101 fl_7_25 (by decide) (rdR sh_R_entryPage) rfl ?_
                  refine pw_bipush n_96_104 bc_6 rfl ?_
                  refine pw_iload_n n_96_106 rfl rfl ?_
                  refine pw_imul n_96_107 rfl (pw_top (nJ_mul 6 xn) ?_)
                  refine pw_iload n_96_108 rfl rfl ?_
                  refine pw_iadd n_96_110 rfl (pw_top (nJ_add (6 * xn) sh8) ?_)
                  refine pw_iload n_96_111 rfl rfl ?_
                  refine pw_iconst n_96_113 ic_2 rfl ?_
                  refine pw_icmp_ge (q := 121) n_96_114 rfl rfl (fun h9 => ?_) (fun h9 => ?_)
                  ·
                    refine pw_iconst n_96_121 ic_0 rfl ?_
                    refine pw_iast (a := cM 5) n_96_122 (nI_pos (by omega)) (nI_clamp (by omega)) (wrM (sh_M_entryPage ((6 * xn) + sh8) (by omega)) (by decide)) rfl ?_
                    refine pw_iload n_96_123 rfl rfl ?_
                    exact pw_ireturn (ty := .int) n_96_125 rfl rfl (by first | contradiction | simp [mGrant, mGr1, h1, txn, h2, (i32_d h2), h3, (i32_d h3), ttn, h4, h5, (i32_d h5), h6, (i32_a h6), tkn, h7, (i32_a h7), h8, (i32_a h8), esh8, tsh8, qsh8, (i32_d qsh8), h9, (i32_a h9), bI_t, bI_f, nI_add1, gup_k, eSet_k, eClr_k, hSet_k, hClr_k, qSet_k, qCls_k])
                  ·
                    refine pw_iload_n n_96_117 rfl rfl ?_
                    refine pw_goto (q := 122) n_96_118 rfl ?_
                    refine pw_iast (a := cM 5) n_96_122 (nI_pos (by omega)) (nI_clamp (by omega)) (wrM (sh_M_entryPage ((6 * xn) + sh8) (by omega)) (by decide)) rfl ?_
                    refine pw_iload n_96_123 rfl rfl ?_
                    exact pw_ireturn (ty := .int) n_96_125 rfl rfl (by first | contradiction | simp [mGrant, mGr1, h1, txn, h2, (i32_d h2), h3, (i32_d h3), ttn, h4, h5, (i32_d h5), h6, (i32_a h6), tkn, h7, (i32_a h7), h8, (i32_a h8), esh8, tsh8, qsh8, (i32_d qsh8), h9, (i32_b h9), bI_t, bI_f, nI_add1, gup_k, eSet_k, eClr_k, hSet_k, hClr_k, qSet_k, qCls_k])
                ·
                  refine pw_bipush n_96_68 bc_m7 rfl ?_
                  exact pw_ireturn (ty := .int) n_96_70 rfl rfl (by first | contradiction | simp [mGrant, mGr1, h1, txn, h2, (i32_d h2), h3, (i32_d h3), ttn, h4, h5, (i32_d h5), h6, (i32_a h6), tkn, h7, (i32_a h7), h8, (i32_b h8), bI_t, bI_f, nI_add1, gup_k, eSet_k, eClr_k, hSet_k, hClr_k, qSet_k, qCls_k])
              ·
                refine pw_aload_n n_96_44 rfl rfl ?_
                refine pw_iload_n n_96_45 rfl rfl ?_
                refine pw_iload_n n_96_46 rfl rfl ?_
                refine pw_virtV (a := 151) (as := [.int (nI xn), .int p]) (st := []) n_96_47 cl_7_105 ⟨rfl, rfl, rfl⟩ (sum8 rfl) (E_tg sh_R_state) rfl (w_82 (x := (nI xn)) (p := p) _) ?_
                refine pw_ifb_ne (q := 56) n_96_50 rfl rfl (fun h10 => ?_) (fun h10 => ?_)
                ·
                  obtain ⟨h10a, h10b⟩ := ir_mowns h10
                  obtain ⟨pn, hpn, rfl⟩ := owns_nI h10
                  have tpn : tN (nI pn) = pn := nI_clamp (by omega)
                  refine pw_aload_n n_96_56 rfl rfl ?_
                  refine pw_iload_n n_96_57 rfl rfl ?_
                  refine pw_virtV (a := 151) (as := [.int (nI xn)]) (st := []) n_96_58 cl_7_113 ⟨rfl, rfl, rfl⟩ (sum8 rfl) (E_tg sh_R_state) rfl (w_85 (a := xn) (by omega) _) ?_
                  refine pw_istore (l := [some (.ref 152), some (.int (nI xn)), some (.int (nI tn)), some (.int (nI pn)), some (.int (nI kn)), some (.int (mFe M xn))]) n_96_61 rfl rfl ?_
                  refine pw_iload n_96_63 rfl rfl ?_
                  refine pw_if_ge (q := 71) n_96_65 rfl rfl (fun h11 => ?_) (fun h11 => ?_)
                  ·
                    obtain ⟨sh11, hsh11, esh11⟩ := ir_mFe (ge0 h11)
                    have tsh11 : tN (nI sh11) = sh11 := nI_clamp (by omega)
                    have qsh11 : ¬ nI sh11 < 0 := nI_pos (by omega)
                    rw [esh11]
                    refine pw_aload_n n_96_71 rfl rfl ?_
                    refine pw_getf (a := 151) n_96_72 fl_7_19 (by decide) (rdR sh_R_target) rfl ?_
                    refine pw_bipush n_96_75 bc_6 rfl ?_
                    refine pw_iload_n n_96_77 rfl rfl ?_
                    refine pw_imul n_96_78 rfl (pw_top (nJ_mul 6 xn) ?_)
                    refine pw_iload n_96_79 rfl rfl ?_
                    refine pw_iadd n_96_81 rfl (pw_top (nJ_add (6 * xn) sh11) ?_)
                    refine pw_iload_n n_96_82 rfl rfl ?_
                    refine pw_iconst n_96_83 ic_1 rfl ?_
                    refine pw_iadd n_96_84 rfl (pw_top (nJ_add tn 1) ?_)
                    refine pw_iast (a := cM 3) n_96_85 (nI_pos (by omega)) (nI_clamp (by omega)) (wrM (sh_M_target ((6 * xn) + sh11) (by omega)) (by decide)) rfl ?_
                    refine pw_aload_n n_96_86 rfl rfl ?_
                    refine pw_getf (a := 151) n_96_87 fl_7_22 (by decide) (rdR sh_R_kinds) rfl ?_
                    refine pw_bipush n_96_90 bc_6 rfl ?_
                    refine pw_iload_n n_96_92 rfl rfl ?_
                    refine pw_imul n_96_93 rfl (pw_top (nJ_mul 6 xn) ?_)
                    refine pw_iload n_96_94 rfl rfl ?_
                    refine pw_iadd n_96_96 rfl (pw_top (nJ_add (6 * xn) sh11) ?_)
                    refine pw_iload n_96_97 rfl rfl ?_
                    refine pw_iast (a := cM 4) n_96_99 (nI_pos (by omega)) (nI_clamp (by omega)) (wrM (sh_M_kinds ((6 * xn) + sh11) (by omega)) (by decide)) rfl ?_
                    refine pw_aload_n n_96_100 rfl rfl ?_
                    refine pw_getf (a := 151) n_96_101 fl_7_25 (by decide) (rdR sh_R_entryPage) rfl ?_
                    refine pw_bipush n_96_104 bc_6 rfl ?_
                    refine pw_iload_n n_96_106 rfl rfl ?_
                    refine pw_imul n_96_107 rfl (pw_top (nJ_mul 6 xn) ?_)
                    refine pw_iload n_96_108 rfl rfl ?_
                    refine pw_iadd n_96_110 rfl (pw_top (nJ_add (6 * xn) sh11) ?_)
                    refine pw_iload n_96_111 rfl rfl ?_
                    refine pw_iconst n_96_113 ic_2 rfl ?_
                    refine pw_icmp_ge (q := 121) n_96_114 rfl rfl (fun h12 => ?_) (fun h12 => ?_)
                    ·
                      refine pw_iconst n_96_121 ic_0 rfl ?_
                      refine pw_iast (a := cM 5) n_96_122 (nI_pos (by omega)) (nI_clamp (by omega)) (wrM (sh_M_entryPage ((6 * xn) + sh11) (by omega)) (by decide)) rfl ?_
                      refine pw_iload n_96_123 rfl rfl ?_
                      exact pw_ireturn (ty := .int) n_96_125 rfl rfl (by first | contradiction | simp [mGrant, mGr1, h1, txn, h2, (i32_d h2), h3, (i32_d h3), ttn, h4, h5, (i32_d h5), h6, (i32_a h6), tkn, h7, (i32_b h7), h10, tpn, h11, (i32_a h11), esh11, tsh11, qsh11, (i32_d qsh11), h12, (i32_a h12), bI_t, bI_f, nI_add1, gup_k, eSet_k, eClr_k, hSet_k, hClr_k, qSet_k, qCls_k])
                    ·
                      refine pw_iload_n n_96_117 rfl rfl ?_
                      refine pw_goto (q := 122) n_96_118 rfl ?_
                      refine pw_iast (a := cM 5) n_96_122 (nI_pos (by omega)) (nI_clamp (by omega)) (wrM (sh_M_entryPage ((6 * xn) + sh11) (by omega)) (by decide)) rfl ?_
                      refine pw_iload n_96_123 rfl rfl ?_
                      exact pw_ireturn (ty := .int) n_96_125 rfl rfl (by first | contradiction | simp [mGrant, mGr1, h1, txn, h2, (i32_d h2), h3, (i32_d h3), ttn, h4, h5, (i32_d h5), h6, (i32_a h6), tkn, h7, (i32_b h7), h10, tpn, h11, (i32_a h11), esh11, tsh11, qsh11, (i32_d qsh11), h12, (i32_b h12), bI_t, bI_f, nI_add1, gup_k, eSet_k, eClr_k, hSet_k, hClr_k, qSet_k, qCls_k])
                  ·
                    refine pw_bipush n_96_68 bc_m7 rfl ?_
                    exact pw_ireturn (ty := .int) n_96_70 rfl rfl (by first | contradiction | simp [mGrant, mGr1, h1, txn, h2, (i32_d h2), h3, (i32_d h3), ttn, h4, h5, (i32_d h5), h6, (i32_a h6), tkn, h7, (i32_b h7), h10, tpn, h11, (i32_b h11), bI_t, bI_f, nI_add1, gup_k, eSet_k, eClr_k, hSet_k, hClr_k, qSet_k, qCls_k])
                ·
                  refine pw_bipush n_96_53 bc_m3 rfl ?_
                  exact pw_ireturn (ty := .int) n_96_55 rfl rfl (by first | contradiction | simp [mGrant, mGr1, h1, txn, h2, (i32_d h2), h3, (i32_d h3), ttn, h4, h5, (i32_d h5), h6, (i32_a h6), tkn, h7, (i32_b h7), h10, bI_t, bI_f, nI_add1, gup_k, eSet_k, eClr_k, hSet_k, hClr_k, qSet_k, qCls_k])
            ·
              refine pw_bipush n_96_35 bc_m2 rfl ?_
              exact pw_ireturn (ty := .int) n_96_37 rfl rfl (by first | contradiction | simp [mGrant, mGr1, h1, txn, h2, (i32_d h2), h3, (i32_d h3), ttn, h4, h5, (i32_d h5), h6, (i32_b h6), bI_t, bI_f, nI_add1, gup_k, eSet_k, eClr_k, hSet_k, hClr_k, qSet_k, qCls_k])
  ·
    refine pw_iconst n_96_8 ic_m1 rfl ?_
    exact pw_ireturn (ty := .int) n_96_9 rfl rfl (by first | contradiction | simp [mGrant, mGr1, h1, bI_t, bI_f, nI_add1, gup_k, eSet_k, eClr_k, hSet_k, hClr_k, qSet_k, qCls_k])
set_option maxRecDepth 100000 in
set_option maxHeartbeats 4000000 in
theorem w_97 {X M : gS} {a : Nat} {r : Int32} (ha : a < 5) (d : Nat) : pm_Call (d + 1) 97 [.ref 152, .int (nI a), .int r] (gE X M) (some (.int (mEnt M a r)), gE X M) := by
  refine pw_start (d := d) (l := [some (.ref 152), some (.int (nI a)), some (.int r)]) (Nat.le_of_ble_eq_true rfl) rfl ?_
  refine pw_iload_n n_97_0 rfl rfl ?_
  refine pw_if_lt (q := 23) n_97_1 rfl rfl (fun h1 => ?_) (fun h1 => ?_)
  ·
    refine pw_iconst n_97_23 ic_m1 rfl ?_
    refine pw_goto (q := 33) n_97_24 rfl ?_
    exact pw_ireturn (ty := .int) n_97_33 rfl rfl (by first | contradiction | simp [mEnt, h1, (i32_c h1), bI_t, bI_f, nI_add1, gup_k, eSet_k, eClr_k, hSet_k, hClr_k, qSet_k, qCls_k])
  ·
    refine pw_iload_n n_97_4 rfl rfl ?_
    refine pw_iconst n_97_5 ic_5 rfl ?_
    refine pw_icmp_gt (q := 23) n_97_6 rfl rfl (fun h2 => ?_) (fun h2 => ?_)
    ·
      refine pw_iconst n_97_23 ic_m1 rfl ?_
      refine pw_goto (q := 33) n_97_24 rfl ?_
      exact pw_ireturn (ty := .int) n_97_33 rfl rfl (by first | contradiction | simp [mEnt, h1, (i32_d h1), h2, (i32_c h2), bI_t, bI_f, nI_add1, gup_k, eSet_k, eClr_k, hSet_k, hClr_k, qSet_k, qCls_k])
    ·
      have h2b := tN_le (z := r) (k := 5) (by decide) h2
      obtain ⟨rn, hrn, rfl⟩ := nJ_of (k := 5) (by decide) h1 h2
      have trn : tN (nI rn) = rn := nI_clamp (by omega)
      refine pw_aload_n n_97_9 rfl rfl ?_
      refine pw_getf (a := 151) n_97_10 fl_7_19 (by decide) (rdR sh_R_target) rfl ?_
      refine pw_bipush n_97_13 bc_6 rfl ?_
      refine pw_iload_n n_97_15 rfl rfl ?_
      refine pw_imul n_97_16 rfl (pw_top (nJ_mul 6 a) ?_)
      refine pw_iload_n n_97_17 rfl rfl ?_
      refine pw_iadd n_97_18 rfl (pw_top (nJ_add (6 * a) rn) ?_)
      refine pw_iald (a := cM 3) n_97_19 (nI_pos (by omega)) (nI_clamp (by omega)) (rdM (sh_M_target ((6 * a) + rn) (by omega)) (by decide)) rfl ?_
      refine pw_if_ne (q := 27) n_97_20 rfl rfl (fun h3 => ?_) (fun h3 => ?_)
      ·
        refine pw_bipush n_97_27 bc_6 rfl ?_
        refine pw_iload_n n_97_29 rfl rfl ?_
        refine pw_imul n_97_30 rfl (pw_top (nJ_mul 6 a) ?_)
        refine pw_iload_n n_97_31 rfl rfl ?_
        refine pw_iadd n_97_32 rfl (pw_top (nJ_add (6 * a) rn) ?_)
        exact pw_ireturn (ty := .int) n_97_33 rfl rfl (by first | contradiction | simp [mEnt, h1, (i32_d h1), h2, (i32_d h2), trn, h3, bI_t, bI_f, nI_add1, gup_k, eSet_k, eClr_k, hSet_k, hClr_k, qSet_k, qCls_k])
      ·
        refine pw_iconst n_97_23 ic_m1 rfl ?_
        refine pw_goto (q := 33) n_97_24 rfl ?_
        exact pw_ireturn (ty := .int) n_97_33 rfl rfl (by first | contradiction | simp [mEnt, h1, (i32_d h1), h2, (i32_d h2), trn, h3, (Classical.not_not.mp h3), bI_t, bI_f, nI_add1, gup_k, eSet_k, eClr_k, hSet_k, hClr_k, qSet_k, qCls_k])
set_option maxRecDepth 100000 in
set_option maxHeartbeats 4000000 in
theorem w_98 {X M : gS} {x : Int32} {r : Int32}  (d : Nat) : pm_Call (d + 2) 98 [.ref 152, .int x, .int r] (gE X M) (some (.int ((mEnd M x r).1)), gE X ((mEnd M x r).2)) := by
  refine pw_start (d := d + 1) (l := [some (.ref 152), some (.int x), some (.int r), none]) (Nat.le_of_ble_eq_true rfl) rfl ?_
  refine pw_aload_n n_98_0 rfl rfl ?_
  refine pw_iload_n n_98_1 rfl rfl ?_
  refine pw_virtV (a := 151) (as := [.int x]) (st := []) n_98_2 cl_7_94 ⟨rfl, rfl, rfl⟩ (sum8 rfl) (E_tg sh_R_state) rfl (w_81 (x := x) _) ?_
  refine pw_ifb_ne (q := 10) n_98_5 rfl rfl (fun h1 => ?_) (fun h1 => ?_)
  ·
    obtain ⟨xn, hxn, rfl⟩ := live_nI h1
    have txn : tN (nI xn) = xn := nI_clamp (by omega)
    refine pw_aload_n n_98_10 rfl rfl ?_
    refine pw_iload_n n_98_11 rfl rfl ?_
    refine pw_iload_n n_98_12 rfl rfl ?_
    refine pw_virtV (a := 151) (as := [.int (nI xn), .int r]) (st := []) n_98_13 cl_7_116 ⟨rfl, rfl, rfl⟩ (sum8 rfl) (E_tg sh_R_state) rfl (w_97 (a := xn) (r := r) (by omega) _) ?_
    refine pw_istore_n (l := [some (.ref 152), some (.int (nI xn)), some (.int r), some (.int (mEnt M xn r))]) n_98_16 rfl rfl ?_
    refine pw_iload_n n_98_17 rfl rfl ?_
    refine pw_if_ge (q := 24) n_98_18 rfl rfl (fun h2 => ?_) (fun h2 => ?_)
    ·
      obtain ⟨sh2, hsh2, esh2⟩ := ir_mEnt (ge0 h2)
      have tsh2 : tN (nI sh2) = sh2 := nI_clamp (by omega)
      have qsh2 : ¬ nI sh2 < 0 := nI_pos (by omega)
      rw [esh2]
      refine pw_aload_n n_98_24 rfl rfl ?_
      refine pw_iload_n n_98_25 rfl rfl ?_
      refine pw_virtV (a := 151) (as := [.int (nI sh2)]) (st := []) n_98_26 cl_7_83 ⟨rfl, rfl, rfl⟩ (sum8 rfl) (E_tg sh_R_state) rfl (w_88 (e := sh2) (by omega) _) ?_
      refine pw_if_le (q := 35) n_98_29 rfl rfl (fun h3 => ?_) (fun h3 => ?_)
      ·
        refine pw_aload_n n_98_35 rfl rfl ?_
        refine pw_getf (a := 151) n_98_36 fl_7_19 (by decide) (rdR sh_R_target) rfl ?_
        refine pw_iload_n n_98_39 rfl rfl ?_
        refine pw_iconst n_98_40 ic_0 rfl ?_
        refine pw_iast (a := cM 3) n_98_41 (nI_pos (by omega)) (nI_clamp (by omega)) (wrM (sh_M_target sh2 (by omega)) (by decide)) rfl ?_
        refine pw_iconst n_98_42 ic_0 rfl ?_
        exact pw_ireturn (ty := .int) n_98_43 rfl rfl (by first | contradiction | simp [mEnd, h1, txn, h2, (i32_a h2), esh2, tsh2, qsh2, (i32_d qsh2), h3, (i32_a h3), bI_t, bI_f, nI_add1, gup_k, eSet_k, eClr_k, hSet_k, hClr_k, qSet_k, qCls_k])
      ·
        refine pw_bipush n_98_32 bc_m4 rfl ?_
        exact pw_ireturn (ty := .int) n_98_34 rfl rfl (by first | contradiction | simp [mEnd, h1, txn, h2, (i32_a h2), esh2, tsh2, qsh2, (i32_d qsh2), h3, (i32_b h3), bI_t, bI_f, nI_add1, gup_k, eSet_k, eClr_k, hSet_k, hClr_k, qSet_k, qCls_k])
    ·
      refine pw_bipush n_98_21 bc_m5 rfl ?_
      exact pw_ireturn (ty := .int) n_98_23 rfl rfl (by first | contradiction | simp [mEnd, h1, txn, h2, (i32_b h2), bI_t, bI_f, nI_add1, gup_k, eSet_k, eClr_k, hSet_k, hClr_k, qSet_k, qCls_k])
  ·
    refine pw_iconst n_98_8 ic_m1 rfl ?_
    exact pw_ireturn (ty := .int) n_98_9 rfl rfl (by first | contradiction | simp [mEnd, h1, bI_t, bI_f, nI_add1, gup_k, eSet_k, eClr_k, hSet_k, hClr_k, qSet_k, qCls_k])
set_option maxRecDepth 100000 in
set_option maxHeartbeats 4000000 in
theorem w_99 {X M : gS} {x : Int32} {f : Int32} {r : Int32} {w : Bool}  (d : Nat) : pm_Call (d + 2) 99 [.ref 152, .int x, .int f, .int r, .int (bI w)] (gE X M) (some (.int ((mMap M x f r w).1)), gE X ((mMap M x f r w).2)) := by
  refine pw_start (d := d + 1) (l := [some (.ref 152), some (.int x), some (.int f), some (.int r), some (.int (bI w)), none, none]) (Nat.le_of_ble_eq_true rfl) rfl ?_
  refine pw_aload_n n_99_0 rfl rfl ?_
  refine pw_iload_n n_99_1 rfl rfl ?_
  refine pw_virtV (a := 151) (as := [.int x]) (st := []) n_99_2 cl_7_94 ⟨rfl, rfl, rfl⟩ (sum8 rfl) (E_tg sh_R_state) rfl (w_81 (x := x) _) ?_
  refine pw_ifb_eq (q := 16) n_99_5 rfl rfl (fun h1 => ?_) (fun h1 => ?_)
  ·
    refine pw_iconst n_99_16 ic_m1 rfl ?_
    exact pw_ireturn (ty := .int) n_99_17 rfl rfl (by first | contradiction | simp [mMap, mMp1, h1, bI_t, bI_f, nI_add1, gup_k, eSet_k, eClr_k, hSet_k, hClr_k, qSet_k, qCls_k])
  ·
    obtain ⟨xn, hxn, rfl⟩ := live_nI h1
    have txn : tN (nI xn) = xn := nI_clamp (by omega)
    refine pw_aload_n n_99_8 rfl rfl ?_
    refine pw_iload_n n_99_9 rfl rfl ?_
    refine pw_virtV (a := 151) (as := [.int f]) (st := []) n_99_10 cl_7_94 ⟨rfl, rfl, rfl⟩ (sum8 rfl) (E_tg sh_R_state) rfl (w_81 (x := f) _) ?_
    refine pw_ifb_ne (q := 18) n_99_13 rfl rfl (fun h2 => ?_) (fun h2 => ?_)
    ·
      obtain ⟨fn, hfn, rfl⟩ := live_nI h2
      have tfn : tN (nI fn) = fn := nI_clamp (by omega)
      refine pw_aload_n n_99_18 rfl rfl ?_
      refine pw_iload_n n_99_19 rfl rfl ?_
      refine pw_iload_n n_99_20 rfl rfl ?_
      refine pw_virtV (a := 151) (as := [.int (nI fn), .int r]) (st := []) n_99_21 cl_7_116 ⟨rfl, rfl, rfl⟩ (sum8 rfl) (E_tg sh_R_state) rfl (w_97 (a := fn) (r := r) (by omega) _) ?_
      refine pw_istore (l := [some (.ref 152), some (.int (nI xn)), some (.int (nI fn)), some (.int r), some (.int (bI w)), some (.int (mEnt M fn r)), none]) n_99_24 rfl rfl ?_
      refine pw_iload n_99_26 rfl rfl ?_
      refine pw_if_lt (q := 55) n_99_28 rfl rfl (fun h3 => ?_) (fun h3 => ?_)
      ·
        refine pw_bipush n_99_55 bc_m5 rfl ?_
        exact pw_ireturn (ty := .int) n_99_57 rfl rfl (by first | contradiction | simp [mMap, mMp1, h1, txn, h2, tfn, h3, (i32_c h3), bI_t, bI_f, nI_add1, gup_k, eSet_k, eClr_k, hSet_k, hClr_k, qSet_k, qCls_k])
      ·
        obtain ⟨sh3, hsh3, esh3⟩ := ir_mEnt h3
        have tsh3 : tN (nI sh3) = sh3 := nI_clamp (by omega)
        have qsh3 : ¬ nI sh3 < 0 := nI_pos (by omega)
        rw [esh3]
        refine pw_aload_n n_99_31 rfl rfl ?_
        refine pw_getf (a := 151) n_99_32 fl_7_22 (by decide) (rdR sh_R_kinds) rfl ?_
        refine pw_iload n_99_35 rfl rfl ?_
        refine pw_iald (a := cM 4) n_99_37 (nI_pos (by omega)) (nI_clamp (by omega)) (rdM (sh_M_kinds sh3 (by omega)) (by decide)) rfl ?_
        refine pw_iconst n_99_38 ic_2 rfl ?_
        refine pw_icmp_eq (q := 55) n_99_39 rfl rfl (fun h4 => ?_) (fun h4 => ?_)
        ·
          refine pw_bipush n_99_55 bc_m5 rfl ?_
          exact pw_ireturn (ty := .int) n_99_57 rfl rfl (by first | contradiction | simp [mMap, mMp1, h1, txn, h2, tfn, h3, (i32_d h3), esh3, tsh3, qsh3, (i32_d qsh3), h4, bI_t, bI_f, nI_add1, gup_k, eSet_k, eClr_k, hSet_k, hClr_k, qSet_k, qCls_k])
        ·
          refine pw_aload_n n_99_42 rfl rfl ?_
          refine pw_getf (a := 151) n_99_43 fl_7_19 (by decide) (rdR sh_R_target) rfl ?_
          refine pw_iload n_99_46 rfl rfl ?_
          refine pw_iald (a := cM 3) n_99_48 (nI_pos (by omega)) (nI_clamp (by omega)) (rdM (sh_M_target sh3 (by omega)) (by decide)) rfl ?_
          refine pw_iload_n n_99_49 rfl rfl ?_
          refine pw_iconst n_99_50 ic_1 rfl ?_
          refine pw_iadd n_99_51 rfl (pw_top (nJ_add xn 1) ?_)
          refine pw_icmp_eq (q := 58) n_99_52 rfl rfl (fun h5 => ?_) (fun h5 => ?_)
          ·
            refine pw_iload n_99_58 rfl rfl ?_
            refine pw_ifb_eq (q := 76) n_99_60 rfl rfl (fun h6 => ?_) (fun h6 => ?_)
            ·
              refine pw_aload_n n_99_76 rfl rfl ?_
              refine pw_iload_n n_99_77 rfl rfl ?_
              refine pw_virtV (a := 151) (as := [.int (nI xn)]) (st := []) n_99_78 cl_7_120 ⟨rfl, rfl, rfl⟩ (sum8 rfl) (E_tg sh_R_state) rfl (w_86 (a := xn) (by omega) _) ?_
              refine pw_istore (l := [some (.ref 152), some (.int (nI xn)), some (.int (nI fn)), some (.int r), some (.int (bI w)), some (.int (nI sh3)), some (.int (mFh M xn))]) n_99_81 rfl rfl ?_
              refine pw_iload n_99_83 rfl rfl ?_
              refine pw_if_ge (q := 91) n_99_85 rfl rfl (fun h7 => ?_) (fun h7 => ?_)
              ·
                obtain ⟨sh7, hsh7, esh7⟩ := ir_mFh (ge0 h7)
                have tsh7 : tN (nI sh7) = sh7 := nI_clamp (by omega)
                have qsh7 : ¬ nI sh7 < 0 := nI_pos (by omega)
                rw [esh7]
                refine pw_aload_n n_99_91 rfl rfl ?_
                refine pw_getf (a := 151) n_99_92 fl_7_28 (by decide) (rdR sh_R_mapped) rfl ?_
                refine pw_iconst n_99_95 ic_5 rfl ?_
                refine pw_iload_n n_99_96 rfl rfl ?_
                refine pw_imul n_99_97 rfl (pw_top (nJ_mul 5 xn) ?_)
                refine pw_iload n_99_98 rfl rfl ?_
                refine pw_iadd n_99_100 rfl (pw_top (nJ_add (5 * xn) sh7) ?_)
                refine pw_iload n_99_101 rfl rfl ?_
                refine pw_iconst n_99_103 ic_1 rfl ?_
                refine pw_iadd n_99_104 rfl (pw_top (nJ_add sh3 1) ?_)
                refine pw_iast (a := cM 6) n_99_105 (nI_pos (by omega)) (nI_clamp (by omega)) (wrM (sh_M_mapped ((5 * xn) + sh7) (by omega)) (by decide)) rfl ?_
                refine pw_aload_n n_99_106 rfl rfl ?_
                refine pw_getf (a := 151) n_99_107 fl_7_31 (by decide) (rdR sh_R_writes) rfl ?_
                refine pw_iconst n_99_110 ic_5 rfl ?_
                refine pw_iload_n n_99_111 rfl rfl ?_
                refine pw_imul n_99_112 rfl (pw_top (nJ_mul 5 xn) ?_)
                refine pw_iload n_99_113 rfl rfl ?_
                refine pw_iadd n_99_115 rfl (pw_top (nJ_add (5 * xn) sh7) ?_)
                refine pw_iload n_99_116 rfl rfl ?_
                refine pw_zast (a := cM 7) n_99_118 (nI_pos (by omega)) (nI_clamp (by omega)) (bI_nar _) (wrM (sh_M_writes ((5 * xn) + sh7) (by omega)) (by decide)) rfl ?_
                refine pw_iload n_99_119 rfl rfl ?_
                exact pw_ireturn (ty := .int) n_99_121 rfl rfl (by first | contradiction | simp [mMap, mMp1, h1, txn, h2, tfn, h3, (i32_d h3), esh3, tsh3, qsh3, (i32_d qsh3), h4, h5, h6, h7, (i32_a h7), esh7, tsh7, qsh7, (i32_d qsh7), bI_t, bI_f, nI_add1, gup_k, eSet_k, eClr_k, hSet_k, hClr_k, qSet_k, qCls_k])
              ·
                refine pw_bipush n_99_88 bc_m7 rfl ?_
                exact pw_ireturn (ty := .int) n_99_90 rfl rfl (by first | contradiction | simp [mMap, mMp1, h1, txn, h2, tfn, h3, (i32_d h3), esh3, tsh3, qsh3, (i32_d qsh3), h4, h5, h6, h7, (i32_b h7), bI_t, bI_f, nI_add1, gup_k, eSet_k, eClr_k, hSet_k, hClr_k, qSet_k, qCls_k])
            ·
              refine pw_aload_n n_99_63 rfl rfl ?_
              refine pw_getf (a := 151) n_99_64 fl_7_22 (by decide) (rdR sh_R_kinds) rfl ?_
              refine pw_iload n_99_67 rfl rfl ?_
              refine pw_iald (a := cM 4) n_99_69 (nI_pos (by omega)) (nI_clamp (by omega)) (rdM (sh_M_kinds sh3 (by omega)) (by decide)) rfl ?_
              refine pw_if_ne (q := 76) n_99_70 rfl rfl (fun h8 => ?_) (fun h8 => ?_)
              ·
                refine pw_aload_n n_99_76 rfl rfl ?_
                refine pw_iload_n n_99_77 rfl rfl ?_
                refine pw_virtV (a := 151) (as := [.int (nI xn)]) (st := []) n_99_78 cl_7_120 ⟨rfl, rfl, rfl⟩ (sum8 rfl) (E_tg sh_R_state) rfl (w_86 (a := xn) (by omega) _) ?_
                refine pw_istore (l := [some (.ref 152), some (.int (nI xn)), some (.int (nI fn)), some (.int r), some (.int (bI w)), some (.int (nI sh3)), some (.int (mFh M xn))]) n_99_81 rfl rfl ?_
                refine pw_iload n_99_83 rfl rfl ?_
                refine pw_if_ge (q := 91) n_99_85 rfl rfl (fun h9 => ?_) (fun h9 => ?_)
                ·
                  obtain ⟨sh9, hsh9, esh9⟩ := ir_mFh (ge0 h9)
                  have tsh9 : tN (nI sh9) = sh9 := nI_clamp (by omega)
                  have qsh9 : ¬ nI sh9 < 0 := nI_pos (by omega)
                  rw [esh9]
                  refine pw_aload_n n_99_91 rfl rfl ?_
                  refine pw_getf (a := 151) n_99_92 fl_7_28 (by decide) (rdR sh_R_mapped) rfl ?_
                  refine pw_iconst n_99_95 ic_5 rfl ?_
                  refine pw_iload_n n_99_96 rfl rfl ?_
                  refine pw_imul n_99_97 rfl (pw_top (nJ_mul 5 xn) ?_)
                  refine pw_iload n_99_98 rfl rfl ?_
                  refine pw_iadd n_99_100 rfl (pw_top (nJ_add (5 * xn) sh9) ?_)
                  refine pw_iload n_99_101 rfl rfl ?_
                  refine pw_iconst n_99_103 ic_1 rfl ?_
                  refine pw_iadd n_99_104 rfl (pw_top (nJ_add sh3 1) ?_)
                  refine pw_iast (a := cM 6) n_99_105 (nI_pos (by omega)) (nI_clamp (by omega)) (wrM (sh_M_mapped ((5 * xn) + sh9) (by omega)) (by decide)) rfl ?_
                  refine pw_aload_n n_99_106 rfl rfl ?_
                  refine pw_getf (a := 151) n_99_107 fl_7_31 (by decide) (rdR sh_R_writes) rfl ?_
                  refine pw_iconst n_99_110 ic_5 rfl ?_
                  refine pw_iload_n n_99_111 rfl rfl ?_
                  refine pw_imul n_99_112 rfl (pw_top (nJ_mul 5 xn) ?_)
                  refine pw_iload n_99_113 rfl rfl ?_
                  refine pw_iadd n_99_115 rfl (pw_top (nJ_add (5 * xn) sh9) ?_)
                  refine pw_iload n_99_116 rfl rfl ?_
                  refine pw_zast (a := cM 7) n_99_118 (nI_pos (by omega)) (nI_clamp (by omega)) (bI_nar _) (wrM (sh_M_writes ((5 * xn) + sh9) (by omega)) (by decide)) rfl ?_
                  refine pw_iload n_99_119 rfl rfl ?_
                  exact pw_ireturn (ty := .int) n_99_121 rfl rfl (by first | contradiction | simp [mMap, mMp1, h1, txn, h2, tfn, h3, (i32_d h3), esh3, tsh3, qsh3, (i32_d qsh3), h4, h5, h6, h8, h9, (i32_a h9), esh9, tsh9, qsh9, (i32_d qsh9), bI_t, bI_f, nI_add1, gup_k, eSet_k, eClr_k, hSet_k, hClr_k, qSet_k, qCls_k])
                ·
                  refine pw_bipush n_99_88 bc_m7 rfl ?_
                  exact pw_ireturn (ty := .int) n_99_90 rfl rfl (by first | contradiction | simp [mMap, mMp1, h1, txn, h2, tfn, h3, (i32_d h3), esh3, tsh3, qsh3, (i32_d qsh3), h4, h5, h6, h8, h9, (i32_b h9), bI_t, bI_f, nI_add1, gup_k, eSet_k, eClr_k, hSet_k, hClr_k, qSet_k, qCls_k])
              ·
                refine pw_bipush n_99_73 bc_m6 rfl ?_
                exact pw_ireturn (ty := .int) n_99_75 rfl rfl (by first | contradiction | simp [mMap, mMp1, h1, txn, h2, tfn, h3, (i32_d h3), esh3, tsh3, qsh3, (i32_d qsh3), h4, h5, h6, h8, (Classical.not_not.mp h8), bI_t, bI_f, nI_add1, gup_k, eSet_k, eClr_k, hSet_k, hClr_k, qSet_k, qCls_k])
          ·
            refine pw_bipush n_99_55 bc_m5 rfl ?_
            exact pw_ireturn (ty := .int) n_99_57 rfl rfl (by first | contradiction | simp [mMap, mMp1, h1, txn, h2, tfn, h3, (i32_d h3), esh3, tsh3, qsh3, (i32_d qsh3), h4, h5, bI_t, bI_f, nI_add1, gup_k, eSet_k, eClr_k, hSet_k, hClr_k, qSet_k, qCls_k])
    ·
      refine pw_iconst n_99_16 ic_m1 rfl ?_
      exact pw_ireturn (ty := .int) n_99_17 rfl rfl (by first | contradiction | simp [mMap, mMp1, h1, txn, h2, bI_t, bI_f, nI_add1, gup_k, eSet_k, eClr_k, hSet_k, hClr_k, qSet_k, qCls_k])
set_option maxRecDepth 100000 in
set_option maxHeartbeats 4000000 in
theorem w_101 {X M : gS} {x : Int32} {p : Int32} {t : Int32} {r : Int32}  (d : Nat) : pm_Call (d + 3) 101 [.ref 152, .int x, .int p, .int t, .int r] (gE X M) (some (.int ((mGive M x p t r).1)), gE X ((mGive M x p t r).2)) := by
  refine pw_start (d := d + 2) (l := [some (.ref 152), some (.int x), some (.int p), some (.int t), some (.int r), none]) (Nat.le_of_ble_eq_true rfl) rfl ?_
  refine pw_aload_n n_101_0 rfl rfl ?_
  refine pw_iload_n n_101_1 rfl rfl ?_
  refine pw_virtV (a := 151) (as := [.int x]) (st := []) n_101_2 cl_7_94 ⟨rfl, rfl, rfl⟩ (sum8 rfl) (E_tg sh_R_state) rfl (w_81 (x := x) _) ?_
  refine pw_ifb_eq (q := 16) n_101_5 rfl rfl (fun h1 => ?_) (fun h1 => ?_)
  ·
    refine pw_iconst n_101_16 ic_m1 rfl ?_
    exact pw_ireturn (ty := .int) n_101_17 rfl rfl (by first | contradiction | simp [mGive, h1, bI_t, bI_f, nI_add1, gup_k, eSet_k, eClr_k, hSet_k, hClr_k, qSet_k, qCls_k])
  ·
    obtain ⟨xn, hxn, rfl⟩ := live_nI h1
    have txn : tN (nI xn) = xn := nI_clamp (by omega)
    refine pw_aload_n n_101_8 rfl rfl ?_
    refine pw_iload_n n_101_9 rfl rfl ?_
    refine pw_virtV (a := 151) (as := [.int t]) (st := []) n_101_10 cl_7_94 ⟨rfl, rfl, rfl⟩ (sum8 rfl) (E_tg sh_R_state) rfl (w_81 (x := t) _) ?_
    refine pw_ifb_ne (q := 18) n_101_13 rfl rfl (fun h2 => ?_) (fun h2 => ?_)
    ·
      obtain ⟨tn, htn, rfl⟩ := live_nI h2
      have ttn : tN (nI tn) = tn := nI_clamp (by omega)
      refine pw_aload_n n_101_18 rfl rfl ?_
      refine pw_iload_n n_101_19 rfl rfl ?_
      refine pw_iload_n n_101_20 rfl rfl ?_
      refine pw_virtV (a := 151) (as := [.int (nI xn), .int p]) (st := []) n_101_21 cl_7_105 ⟨rfl, rfl, rfl⟩ (sum8 rfl) (E_tg sh_R_state) rfl (w_82 (x := (nI xn)) (p := p) _) ?_
      refine pw_ifb_ne (q := 30) n_101_24 rfl rfl (fun h3 => ?_) (fun h3 => ?_)
      ·
        obtain ⟨h3a, h3b⟩ := ir_mowns h3
        obtain ⟨pn, hpn, rfl⟩ := owns_nI h3
        have tpn : tN (nI pn) = pn := nI_clamp (by omega)
        refine pw_aload_n n_101_30 rfl rfl ?_
        refine pw_iload_n n_101_31 rfl rfl ?_
        refine pw_iload_n n_101_32 rfl rfl ?_
        refine pw_iconst n_101_33 ic_0 rfl ?_
        refine pw_virtV (a := 151) (as := [.int (nI xn), .int (nI pn), .int 0]) (st := []) n_101_34 cl_7_87 ⟨rfl, rfl, rfl⟩ (sum8 rfl) (E_tg sh_R_state) rfl (w_89 (a := xn) (p := (nI pn)) (b := false) (by omega) _) ?_
        refine pw_ifb_eq (q := 43) n_101_37 rfl rfl (fun h4 => ?_) (fun h4 => ?_)
        ·
          refine pw_aload_n n_101_43 rfl rfl ?_
          refine pw_iload_n n_101_44 rfl rfl ?_
          refine pw_iload n_101_45 rfl rfl ?_
          refine pw_virtV (a := 151) (as := [.int (nI tn), .int r]) (st := []) n_101_47 cl_7_116 ⟨rfl, rfl, rfl⟩ (sum8 rfl) (E_tg sh_R_state) rfl (w_97 (a := tn) (r := r) (by omega) _) ?_
          refine pw_istore (l := [some (.ref 152), some (.int (nI xn)), some (.int (nI pn)), some (.int (nI tn)), some (.int r), some (.int (mEnt M tn r))]) n_101_50 rfl rfl ?_
          refine pw_iload n_101_52 rfl rfl ?_
          refine pw_if_lt (q := 81) n_101_54 rfl rfl (fun h5 => ?_) (fun h5 => ?_)
          ·
            refine pw_bipush n_101_81 bc_m5 rfl ?_
            exact pw_ireturn (ty := .int) n_101_83 rfl rfl (by first | contradiction | simp [mGive, h1, txn, h2, ttn, h3, tpn, h4, h5, (i32_c h5), bI_t, bI_f, nI_add1, gup_k, eSet_k, eClr_k, hSet_k, hClr_k, qSet_k, qCls_k])
          ·
            obtain ⟨sh5, hsh5, esh5⟩ := ir_mEnt h5
            have tsh5 : tN (nI sh5) = sh5 := nI_clamp (by omega)
            have qsh5 : ¬ nI sh5 < 0 := nI_pos (by omega)
            rw [esh5]
            refine pw_aload_n n_101_57 rfl rfl ?_
            refine pw_getf (a := 151) n_101_58 fl_7_22 (by decide) (rdR sh_R_kinds) rfl ?_
            refine pw_iload n_101_61 rfl rfl ?_
            refine pw_iald (a := cM 4) n_101_63 (nI_pos (by omega)) (nI_clamp (by omega)) (rdM (sh_M_kinds sh5 (by omega)) (by decide)) rfl ?_
            refine pw_iconst n_101_64 ic_2 rfl ?_
            refine pw_icmp_ne (q := 81) n_101_65 rfl rfl (fun h6 => ?_) (fun h6 => ?_)
            ·
              refine pw_bipush n_101_81 bc_m5 rfl ?_
              exact pw_ireturn (ty := .int) n_101_83 rfl rfl (by first | contradiction | simp [mGive, h1, txn, h2, ttn, h3, tpn, h4, h5, (i32_d h5), esh5, tsh5, qsh5, (i32_d qsh5), h6, bI_t, bI_f, nI_add1, gup_k, eSet_k, eClr_k, hSet_k, hClr_k, qSet_k, qCls_k])
            ·
              refine pw_aload_n n_101_68 rfl rfl ?_
              refine pw_getf (a := 151) n_101_69 fl_7_19 (by decide) (rdR sh_R_target) rfl ?_
              refine pw_iload n_101_72 rfl rfl ?_
              refine pw_iald (a := cM 3) n_101_74 (nI_pos (by omega)) (nI_clamp (by omega)) (rdM (sh_M_target sh5 (by omega)) (by decide)) rfl ?_
              refine pw_iload_n n_101_75 rfl rfl ?_
              refine pw_iconst n_101_76 ic_1 rfl ?_
              refine pw_iadd n_101_77 rfl (pw_top (nJ_add xn 1) ?_)
              refine pw_icmp_eq (q := 84) n_101_78 rfl rfl (fun h7 => ?_) (fun h7 => ?_)
              ·
                refine pw_aload_n n_101_84 rfl rfl ?_
                refine pw_iload_n n_101_85 rfl rfl ?_
                refine pw_virtV (a := 151) (as := [.int (nI tn)]) (st := []) n_101_86 cl_7_91 ⟨rfl, rfl, rfl⟩ (sum8 rfl) (E_tg sh_R_state) rfl (w_83 (x := (nI tn)) _) ?_
                refine pw_bipush n_101_89 bc_6 rfl ?_
                refine pw_icmp_lt (q := 97) n_101_91 rfl rfl (fun h8 => ?_) (fun h8 => ?_)
                ·
                  have h8b := tN_lt2 (z := (mCnt M (nI tn))) (k := 6) (by decide) h8
                  refine pw_aload_n n_101_97 rfl rfl ?_
                  refine pw_getf (a := 151) n_101_98 fl_7_13 (by decide) (rdR sh_R_owner) rfl ?_
                  refine pw_iload_n n_101_101 rfl rfl ?_
                  refine pw_iload_n n_101_102 rfl rfl ?_
                  refine pw_iconst n_101_103 ic_1 rfl ?_
                  refine pw_iadd n_101_104 rfl (pw_top (nJ_add tn 1) ?_)
                  refine pw_iast (a := cM 1) n_101_105 (nI_pos (by omega)) (nI_clamp (by omega)) (wrM (sh_M_owner pn (by omega)) (by decide)) rfl ?_
                  refine pw_aload_n n_101_106 rfl rfl ?_
                  refine pw_getf (a := 151) n_101_107 fl_7_19 (by decide) (rdR sh_R_target) rfl ?_
                  refine pw_iload n_101_110 rfl rfl ?_
                  refine pw_iconst n_101_112 ic_0 rfl ?_
                  refine pw_iast (a := cM 3) n_101_113 (nI_pos (by omega)) (nI_clamp (by omega)) (wrM (sh_M_target sh5 (by omega)) (by decide)) rfl ?_
                  refine pw_iconst n_101_114 ic_0 rfl ?_
                  exact pw_ireturn (ty := .int) n_101_115 rfl rfl (by first | contradiction | simp [mGive, h1, txn, h2, ttn, h3, tpn, h4, h5, (i32_d h5), esh5, tsh5, qsh5, (i32_d qsh5), h6, (Classical.not_not.mp h6), h7, h8, (i32_c h8), bI_t, bI_f, nI_add1, gup_k, eSet_k, eClr_k, hSet_k, hClr_k, qSet_k, qCls_k])
                ·
                  refine pw_bipush n_101_94 bc_m7 rfl ?_
                  exact pw_ireturn (ty := .int) n_101_96 rfl rfl (by first | contradiction | simp [mGive, h1, txn, h2, ttn, h3, tpn, h4, h5, (i32_d h5), esh5, tsh5, qsh5, (i32_d qsh5), h6, (Classical.not_not.mp h6), h7, h8, (i32_d h8), bI_t, bI_f, nI_add1, gup_k, eSet_k, eClr_k, hSet_k, hClr_k, qSet_k, qCls_k])
              ·
                refine pw_bipush n_101_81 bc_m5 rfl ?_
                exact pw_ireturn (ty := .int) n_101_83 rfl rfl (by first | contradiction | simp [mGive, h1, txn, h2, ttn, h3, tpn, h4, h5, (i32_d h5), esh5, tsh5, qsh5, (i32_d qsh5), h6, (Classical.not_not.mp h6), h7, bI_t, bI_f, nI_add1, gup_k, eSet_k, eClr_k, hSet_k, hClr_k, qSet_k, qCls_k])
        ·
          refine pw_bipush n_101_40 bc_m4 rfl ?_
          exact pw_ireturn (ty := .int) n_101_42 rfl rfl (by first | contradiction | simp [mGive, h1, txn, h2, ttn, h3, tpn, h4, bI_t, bI_f, nI_add1, gup_k, eSet_k, eClr_k, hSet_k, hClr_k, qSet_k, qCls_k])
      ·
        refine pw_bipush n_101_27 bc_m3 rfl ?_
        exact pw_ireturn (ty := .int) n_101_29 rfl rfl (by first | contradiction | simp [mGive, h1, txn, h2, ttn, h3, bI_t, bI_f, nI_add1, gup_k, eSet_k, eClr_k, hSet_k, hClr_k, qSet_k, qCls_k])
    ·
      refine pw_iconst n_101_16 ic_m1 rfl ?_
      exact pw_ireturn (ty := .int) n_101_17 rfl rfl (by first | contradiction | simp [mGive, h1, txn, h2, bI_t, bI_f, nI_add1, gup_k, eSet_k, eClr_k, hSet_k, hClr_k, qSet_k, qCls_k])
set_option maxRecDepth 100000 in
set_option maxHeartbeats 4000000 in
theorem w_105 {X M : gS} {v : Int32}  (d : Nat) : pm_Call (d + 1) 105 [.int v] (gE X M) (some (.long (mPl v)), gE X M) := by
  refine pw_start (d := d) (l := [some (.int v)]) (Nat.le_of_ble_eq_true rfl) rfl ?_
  refine pw_iload_n n_105_0 rfl rfl ?_
  refine pw_if_ge (q := 13) n_105_1 rfl rfl (fun h1 => ?_) (fun h1 => ?_)
  ·
    refine pw_iload_n n_105_13 rfl rfl ?_
    refine pw_i2l n_105_14 rfl ?_
    exact pw_lreturn n_105_15 rfl (by first | contradiction | simp [mPl, h1, (i32_a h1), bI_t, bI_f, nI_add1, gup_k, eSet_k, eClr_k, hSet_k, hClr_k, qSet_k, qCls_k])
  ·
    refine pw_iload_n n_105_4 rfl rfl ?_
    refine pw_i2l n_105_5 rfl ?_
    refine pw_ldc2 n_105_6 l2_7_130 rfl ?_
    refine pw_ladd n_105_9 rfl ?_
    refine pw_goto (q := 15) n_105_10 rfl ?_
    exact pw_lreturn n_105_15 rfl (by first | contradiction | simp [mPl, h1, (i32_b h1), bI_t, bI_f, nI_add1, gup_k, eSet_k, eClr_k, hSet_k, hClr_k, qSet_k, qCls_k])
set_option maxRecDepth 100000 in
set_option maxHeartbeats 4000000 in
theorem w_107 {X M : gS} {x : Int32} {t : Int32}  (d : Nat) : pm_Call (d + 2) 107 [.ref 152, .int x, .int t] (gE X M) (some (.int ((mOpen M x t).1)), gE X ((mOpen M x t).2)) := by
  refine pw_start (d := d + 1) (l := [some (.ref 152), some (.int x), some (.int t), none]) (Nat.le_of_ble_eq_true rfl) rfl ?_
  refine pw_aload_n n_107_0 rfl rfl ?_
  refine pw_iload_n n_107_1 rfl rfl ?_
  refine pw_virtV (a := 151) (as := [.int x]) (st := []) n_107_2 cl_7_94 ⟨rfl, rfl, rfl⟩ (sum8 rfl) (E_tg sh_R_state) rfl (w_81 (x := x) _) ?_
  refine pw_ifb_ne (q := 10) n_107_5 rfl rfl (fun h1 => ?_) (fun h1 => ?_)
  ·
    obtain ⟨xn, hxn, rfl⟩ := live_nI h1
    have txn : tN (nI xn) = xn := nI_clamp (by omega)
    refine pw_iload_n n_107_10 rfl rfl ?_
    refine pw_if_lt (q := 24) n_107_11 rfl rfl (fun h2 => ?_) (fun h2 => ?_)
    ·
      refine pw_bipush n_107_24 bc_m2 rfl ?_
      exact pw_ireturn (ty := .int) n_107_26 rfl rfl (by first | contradiction | simp [mOpen, h1, txn, h2, (i32_c h2), bI_t, bI_f, nI_add1, gup_k, eSet_k, eClr_k, hSet_k, hClr_k, qSet_k, qCls_k])
    ·
      refine pw_iload_n n_107_14 rfl rfl ?_
      refine pw_iconst n_107_15 ic_4 rfl ?_
      refine pw_icmp_gt (q := 24) n_107_16 rfl rfl (fun h3 => ?_) (fun h3 => ?_)
      ·
        refine pw_bipush n_107_24 bc_m2 rfl ?_
        exact pw_ireturn (ty := .int) n_107_26 rfl rfl (by first | contradiction | simp [mOpen, h1, txn, h2, (i32_d h2), h3, (i32_c h3), bI_t, bI_f, nI_add1, gup_k, eSet_k, eClr_k, hSet_k, hClr_k, qSet_k, qCls_k])
      ·
        have h3b := tN_le (z := t) (k := 4) (by decide) h3
        obtain ⟨tn, htn, rfl⟩ := nJ_of (k := 4) (by decide) h2 h3
        have ttn : tN (nI tn) = tn := nI_clamp (by omega)
        refine pw_iload_n n_107_19 rfl rfl ?_
        refine pw_iload_n n_107_20 rfl rfl ?_
        refine pw_icmp_ne (q := 27) n_107_21 rfl rfl (fun h4 => ?_) (fun h4 => ?_)
        ·
          refine pw_aload_n n_107_27 rfl rfl ?_
          refine pw_iload_n n_107_28 rfl rfl ?_
          refine pw_virtV (a := 151) (as := [.int (nI xn)]) (st := []) n_107_29 cl_7_136 ⟨rfl, rfl, rfl⟩ (sum8 rfl) (E_tg sh_R_state) rfl (w_87 (a := xn) (by omega) _) ?_
          refine pw_istore_n (l := [some (.ref 152), some (.int (nI xn)), some (.int (nI tn)), some (.int (mFq M xn))]) n_107_32 rfl rfl ?_
          refine pw_iload_n n_107_33 rfl rfl ?_
          refine pw_if_ge (q := 40) n_107_34 rfl rfl (fun h5 => ?_) (fun h5 => ?_)
          ·
            obtain ⟨sh5, hsh5, esh5⟩ := ir_mFq (ge0 h5)
            have tsh5 : tN (nI sh5) = sh5 := nI_clamp (by omega)
            have qsh5 : ¬ nI sh5 < 0 := nI_pos (by omega)
            rw [esh5]
            refine pw_aload_n n_107_40 rfl rfl ?_
            refine pw_getf (a := 151) n_107_41 fl_7_35 (by decide) (rdR sh_R_port) rfl ?_
            refine pw_iconst n_107_44 ic_4 rfl ?_
            refine pw_iload_n n_107_45 rfl rfl ?_
            refine pw_imul n_107_46 rfl (pw_top (nJ_mul 4 xn) ?_)
            refine pw_iload_n n_107_47 rfl rfl ?_
            refine pw_iadd n_107_48 rfl (pw_top (nJ_add (4 * xn) sh5) ?_)
            refine pw_iconst n_107_49 ic_1 rfl ?_
            refine pw_iast (a := cM 8) n_107_50 (nI_pos (by omega)) (nI_clamp (by omega)) (wrM (sh_M_port ((4 * xn) + sh5) (by omega)) (by decide)) rfl ?_
            refine pw_aload_n n_107_51 rfl rfl ?_
            refine pw_getf (a := 151) n_107_52 fl_7_38 (by decide) (rdR sh_R_far) rfl ?_
            refine pw_iconst n_107_55 ic_4 rfl ?_
            refine pw_iload_n n_107_56 rfl rfl ?_
            refine pw_imul n_107_57 rfl (pw_top (nJ_mul 4 xn) ?_)
            refine pw_iload_n n_107_58 rfl rfl ?_
            refine pw_iadd n_107_59 rfl (pw_top (nJ_add (4 * xn) sh5) ?_)
            refine pw_iload_n n_107_60 rfl rfl ?_
            refine pw_iast (a := cM 9) n_107_61 (nI_pos (by omega)) (nI_clamp (by omega)) (wrM (sh_M_far ((4 * xn) + sh5) (by omega)) (by decide)) rfl ?_
            refine pw_iload_n n_107_62 rfl rfl ?_
            exact pw_ireturn (ty := .int) n_107_63 rfl rfl (by first | contradiction | simp [mOpen, h1, txn, h2, (i32_d h2), h3, (i32_d h3), ttn, h4, h5, (i32_a h5), esh5, tsh5, qsh5, (i32_d qsh5), bI_t, bI_f, nI_add1, gup_k, eSet_k, eClr_k, hSet_k, hClr_k, qSet_k, qCls_k])
          ·
            refine pw_bipush n_107_37 bc_m7 rfl ?_
            exact pw_ireturn (ty := .int) n_107_39 rfl rfl (by first | contradiction | simp [mOpen, h1, txn, h2, (i32_d h2), h3, (i32_d h3), ttn, h4, h5, (i32_b h5), bI_t, bI_f, nI_add1, gup_k, eSet_k, eClr_k, hSet_k, hClr_k, qSet_k, qCls_k])
        ·
          refine pw_bipush n_107_24 bc_m2 rfl ?_
          exact pw_ireturn (ty := .int) n_107_26 rfl rfl (by first | contradiction | simp [mOpen, h1, txn, h2, (i32_d h2), h3, (i32_d h3), ttn, h4, (Classical.not_not.mp h4), bI_t, bI_f, nI_add1, gup_k, eSet_k, eClr_k, hSet_k, hClr_k, qSet_k, qCls_k])
  ·
    refine pw_iconst n_107_8 ic_m1 rfl ?_
    exact pw_ireturn (ty := .int) n_107_9 rfl rfl (by first | contradiction | simp [mOpen, h1, bI_t, bI_f, nI_add1, gup_k, eSet_k, eClr_k, hSet_k, hClr_k, qSet_k, qCls_k])
set_option maxRecDepth 100000 in
set_option maxHeartbeats 4000000 in
theorem w_108 {X M : gS} {x : Int32} {t : Int32} {k : Int32}  (d : Nat) : pm_Call (d + 2) 108 [.ref 152, .int x, .int t, .int k] (gE X M) (some (.int ((mBind M x t k).1)), gE X ((mBind M x t k).2)) := by
  refine pw_start (d := d + 1) (l := [some (.ref 152), some (.int x), some (.int t), some (.int k), none]) (Nat.le_of_ble_eq_true rfl) rfl ?_
  refine pw_aload_n n_108_0 rfl rfl ?_
  refine pw_iload_n n_108_1 rfl rfl ?_
  refine pw_virtV (a := 151) (as := [.int x]) (st := []) n_108_2 cl_7_94 ⟨rfl, rfl, rfl⟩ (sum8 rfl) (E_tg sh_R_state) rfl (w_81 (x := x) _) ?_
  refine pw_ifb_eq (q := 16) n_108_5 rfl rfl (fun h1 => ?_) (fun h1 => ?_)
  ·
    refine pw_iconst n_108_16 ic_m1 rfl ?_
    exact pw_ireturn (ty := .int) n_108_17 rfl rfl (by first | contradiction | simp [mBind, mBd1, h1, bI_t, bI_f, nI_add1, gup_k, eSet_k, eClr_k, hSet_k, hClr_k, qSet_k, qCls_k])
  ·
    obtain ⟨xn, hxn, rfl⟩ := live_nI h1
    have txn : tN (nI xn) = xn := nI_clamp (by omega)
    refine pw_aload_n n_108_8 rfl rfl ?_
    refine pw_iload_n n_108_9 rfl rfl ?_
    refine pw_virtV (a := 151) (as := [.int t]) (st := []) n_108_10 cl_7_94 ⟨rfl, rfl, rfl⟩ (sum8 rfl) (E_tg sh_R_state) rfl (w_81 (x := t) _) ?_
    refine pw_ifb_ne (q := 18) n_108_13 rfl rfl (fun h2 => ?_) (fun h2 => ?_)
    ·
      obtain ⟨tn, htn, rfl⟩ := live_nI h2
      have ttn : tN (nI tn) = tn := nI_clamp (by omega)
      refine pw_iload_n n_108_18 rfl rfl ?_
      refine pw_if_lt (q := 55) n_108_19 rfl rfl (fun h3 => ?_) (fun h3 => ?_)
      ·
        refine pw_bipush n_108_55 bc_m8 rfl ?_
        exact pw_ireturn (ty := .int) n_108_57 rfl rfl (by first | contradiction | simp [mBind, mBd1, h1, txn, h2, ttn, h3, (i32_c h3), bI_t, bI_f, nI_add1, gup_k, eSet_k, eClr_k, hSet_k, hClr_k, qSet_k, qCls_k])
      ·
        refine pw_iload_n n_108_22 rfl rfl ?_
        refine pw_iconst n_108_23 ic_3 rfl ?_
        refine pw_icmp_gt (q := 55) n_108_24 rfl rfl (fun h4 => ?_) (fun h4 => ?_)
        ·
          refine pw_bipush n_108_55 bc_m8 rfl ?_
          exact pw_ireturn (ty := .int) n_108_57 rfl rfl (by first | contradiction | simp [mBind, mBd1, h1, txn, h2, ttn, h3, (i32_d h3), h4, (i32_c h4), bI_t, bI_f, nI_add1, gup_k, eSet_k, eClr_k, hSet_k, hClr_k, qSet_k, qCls_k])
        ·
          have h4b := tN_le (z := k) (k := 3) (by decide) h4
          obtain ⟨kn, hkn, rfl⟩ := nJ_of (k := 3) (by decide) h3 h4
          have tkn : tN (nI kn) = kn := nI_clamp (by omega)
          refine pw_aload_n n_108_27 rfl rfl ?_
          refine pw_getf (a := 151) n_108_28 fl_7_35 (by decide) (rdR sh_R_port) rfl ?_
          refine pw_iconst n_108_31 ic_4 rfl ?_
          refine pw_iload_n n_108_32 rfl rfl ?_
          refine pw_imul n_108_33 rfl (pw_top (nJ_mul 4 tn) ?_)
          refine pw_iload_n n_108_34 rfl rfl ?_
          refine pw_iadd n_108_35 rfl (pw_top (nJ_add (4 * tn) kn) ?_)
          refine pw_iald (a := cM 8) n_108_36 (nI_pos (by omega)) (nI_clamp (by omega)) (rdM (sh_M_port ((4 * tn) + kn) (by omega)) (by decide)) rfl ?_
          refine pw_iconst n_108_37 ic_1 rfl ?_
          refine pw_icmp_ne (q := 55) n_108_38 rfl rfl (fun h5 => ?_) (fun h5 => ?_)
          ·
            refine pw_bipush n_108_55 bc_m8 rfl ?_
            exact pw_ireturn (ty := .int) n_108_57 rfl rfl (by first | contradiction | simp [mBind, mBd1, h1, txn, h2, ttn, h3, (i32_d h3), h4, (i32_d h4), tkn, h5, bI_t, bI_f, nI_add1, gup_k, eSet_k, eClr_k, hSet_k, hClr_k, qSet_k, qCls_k])
          ·
            refine pw_aload_n n_108_41 rfl rfl ?_
            refine pw_getf (a := 151) n_108_42 fl_7_38 (by decide) (rdR sh_R_far) rfl ?_
            refine pw_iconst n_108_45 ic_4 rfl ?_
            refine pw_iload_n n_108_46 rfl rfl ?_
            refine pw_imul n_108_47 rfl (pw_top (nJ_mul 4 tn) ?_)
            refine pw_iload_n n_108_48 rfl rfl ?_
            refine pw_iadd n_108_49 rfl (pw_top (nJ_add (4 * tn) kn) ?_)
            refine pw_iald (a := cM 9) n_108_50 (nI_pos (by omega)) (nI_clamp (by omega)) (rdM (sh_M_far ((4 * tn) + kn) (by omega)) (by decide)) rfl ?_
            refine pw_iload_n n_108_51 rfl rfl ?_
            refine pw_icmp_eq (q := 58) n_108_52 rfl rfl (fun h6 => ?_) (fun h6 => ?_)
            ·
              refine pw_aload_n n_108_58 rfl rfl ?_
              refine pw_iload_n n_108_59 rfl rfl ?_
              refine pw_virtV (a := 151) (as := [.int (nI xn)]) (st := []) n_108_60 cl_7_136 ⟨rfl, rfl, rfl⟩ (sum8 rfl) (E_tg sh_R_state) rfl (w_87 (a := xn) (by omega) _) ?_
              refine pw_istore (l := [some (.ref 152), some (.int (nI xn)), some (.int (nI tn)), some (.int (nI kn)), some (.int (mFq M xn))]) n_108_63 rfl rfl ?_
              refine pw_iload n_108_65 rfl rfl ?_
              refine pw_if_ge (q := 73) n_108_67 rfl rfl (fun h7 => ?_) (fun h7 => ?_)
              ·
                obtain ⟨sh7, hsh7, esh7⟩ := ir_mFq (ge0 h7)
                have tsh7 : tN (nI sh7) = sh7 := nI_clamp (by omega)
                have qsh7 : ¬ nI sh7 < 0 := nI_pos (by omega)
                rw [esh7]
                refine pw_aload_n n_108_73 rfl rfl ?_
                refine pw_getf (a := 151) n_108_74 fl_7_35 (by decide) (rdR sh_R_port) rfl ?_
                refine pw_iconst n_108_77 ic_4 rfl ?_
                refine pw_iload_n n_108_78 rfl rfl ?_
                refine pw_imul n_108_79 rfl (pw_top (nJ_mul 4 xn) ?_)
                refine pw_iload n_108_80 rfl rfl ?_
                refine pw_iadd n_108_82 rfl (pw_top (nJ_add (4 * xn) sh7) ?_)
                refine pw_iconst n_108_83 ic_2 rfl ?_
                refine pw_iast (a := cM 8) n_108_84 (nI_pos (by omega)) (nI_clamp (by omega)) (wrM (sh_M_port ((4 * xn) + sh7) (by omega)) (by decide)) rfl ?_
                refine pw_aload_n n_108_85 rfl rfl ?_
                refine pw_getf (a := 151) n_108_86 fl_7_38 (by decide) (rdR sh_R_far) rfl ?_
                refine pw_iconst n_108_89 ic_4 rfl ?_
                refine pw_iload_n n_108_90 rfl rfl ?_
                refine pw_imul n_108_91 rfl (pw_top (nJ_mul 4 xn) ?_)
                refine pw_iload n_108_92 rfl rfl ?_
                refine pw_iadd n_108_94 rfl (pw_top (nJ_add (4 * xn) sh7) ?_)
                refine pw_iconst n_108_95 ic_4 rfl ?_
                refine pw_iload_n n_108_96 rfl rfl ?_
                refine pw_imul n_108_97 rfl (pw_top (nJ_mul 4 tn) ?_)
                refine pw_iload_n n_108_98 rfl rfl ?_
                refine pw_iadd n_108_99 rfl (pw_top (nJ_add (4 * tn) kn) ?_)
                refine pw_iast (a := cM 9) n_108_100 (nI_pos (by omega)) (nI_clamp (by omega)) (wrM (sh_M_far ((4 * xn) + sh7) (by omega)) (by decide)) rfl ?_
                refine pw_aload_n n_108_101 rfl rfl ?_
                refine pw_getf (a := 151) n_108_102 fl_7_35 (by decide) (rdR sh_R_port) rfl ?_
                refine pw_iconst n_108_105 ic_4 rfl ?_
                refine pw_iload_n n_108_106 rfl rfl ?_
                refine pw_imul n_108_107 rfl (pw_top (nJ_mul 4 tn) ?_)
                refine pw_iload_n n_108_108 rfl rfl ?_
                refine pw_iadd n_108_109 rfl (pw_top (nJ_add (4 * tn) kn) ?_)
                refine pw_iconst n_108_110 ic_2 rfl ?_
                refine pw_iast (a := cM 8) n_108_111 (nI_pos (by omega)) (nI_clamp (by omega)) (wrM (sh_M_port ((4 * tn) + kn) (by omega)) (by decide)) rfl ?_
                refine pw_aload_n n_108_112 rfl rfl ?_
                refine pw_getf (a := 151) n_108_113 fl_7_38 (by decide) (rdR sh_R_far) rfl ?_
                refine pw_iconst n_108_116 ic_4 rfl ?_
                refine pw_iload_n n_108_117 rfl rfl ?_
                refine pw_imul n_108_118 rfl (pw_top (nJ_mul 4 tn) ?_)
                refine pw_iload_n n_108_119 rfl rfl ?_
                refine pw_iadd n_108_120 rfl (pw_top (nJ_add (4 * tn) kn) ?_)
                refine pw_iconst n_108_121 ic_4 rfl ?_
                refine pw_iload_n n_108_122 rfl rfl ?_
                refine pw_imul n_108_123 rfl (pw_top (nJ_mul 4 xn) ?_)
                refine pw_iload n_108_124 rfl rfl ?_
                refine pw_iadd n_108_126 rfl (pw_top (nJ_add (4 * xn) sh7) ?_)
                refine pw_iast (a := cM 9) n_108_127 (nI_pos (by omega)) (nI_clamp (by omega)) (wrM (sh_M_far ((4 * tn) + kn) (by omega)) (by decide)) rfl ?_
                refine pw_iload n_108_128 rfl rfl ?_
                exact pw_ireturn (ty := .int) n_108_130 rfl rfl (by first | contradiction | simp [mBind, mBd1, h1, txn, h2, ttn, h3, (i32_d h3), h4, (i32_d h4), tkn, h5, (Classical.not_not.mp h5), h6, h7, (i32_a h7), esh7, tsh7, qsh7, (i32_d qsh7), bI_t, bI_f, nI_add1, gup_k, eSet_k, eClr_k, hSet_k, hClr_k, qSet_k, qCls_k])
              ·
                refine pw_bipush n_108_70 bc_m7 rfl ?_
                exact pw_ireturn (ty := .int) n_108_72 rfl rfl (by first | contradiction | simp [mBind, mBd1, h1, txn, h2, ttn, h3, (i32_d h3), h4, (i32_d h4), tkn, h5, (Classical.not_not.mp h5), h6, h7, (i32_b h7), bI_t, bI_f, nI_add1, gup_k, eSet_k, eClr_k, hSet_k, hClr_k, qSet_k, qCls_k])
            ·
              refine pw_bipush n_108_55 bc_m8 rfl ?_
              exact pw_ireturn (ty := .int) n_108_57 rfl rfl (by first | contradiction | simp [mBind, mBd1, h1, txn, h2, ttn, h3, (i32_d h3), h4, (i32_d h4), tkn, h5, (Classical.not_not.mp h5), h6, bI_t, bI_f, nI_add1, gup_k, eSet_k, eClr_k, hSet_k, hClr_k, qSet_k, qCls_k])
    ·
      refine pw_iconst n_108_16 ic_m1 rfl ?_
      exact pw_ireturn (ty := .int) n_108_17 rfl rfl (by first | contradiction | simp [mBind, mBd1, h1, txn, h2, bI_t, bI_f, nI_add1, gup_k, eSet_k, eClr_k, hSet_k, hClr_k, qSet_k, qCls_k])
set_option maxRecDepth 100000 in
set_option maxHeartbeats 4000000 in
theorem L_110_12 {X M : gS} {a : Nat} (ha : a < 5)  (d : Nat) : ∀ n i : Nat, i + n = 4 → pw none (d + 1) 110 12 [some (.ref 152), some (.int (nI a)), some (.int (nI i))] [] (gE X M) (some (.int ((fstS (fun k => !decide (M 60 (4 * a + k) 0 = 0)) (fun k => gup M 60 (4 * a + k) 0 0) (-11) M n i)).1), gE X ((fstS (fun k => !decide (M 60 (4 * a + k) 0 = 0)) (fun k => gup M 60 (4 * a + k) 0 0) (-11) M n i)).2) := by
  intro n
  induction n with
  | zero =>
    intro i hi
    obtain rfl : i = 4 := by omega
    refine pw_iload_n n_110_12 rfl rfl ?_
    refine pw_iconst n_110_13 ic_4 rfl ?_
    refine pw_icmp_ge_t (q := 49) n_110_14 rfl (nI_le (a := 4) (b := 4) (by omega) (by omega)) ?_
    refine pw_bipush n_110_49 bc_m11 rfl ?_
    exact pw_ireturn (ty := .int) n_110_51 rfl rfl (by first | contradiction | simp [fstS, bI_t, bI_f, nI_add1, gup_k, eSet_k, eClr_k, hSet_k, hClr_k, qSet_k, qCls_k])
  | succ n ih =>
    intro i hi
    refine pw_iload_n n_110_12 rfl rfl ?_
    refine pw_iconst n_110_13 ic_4 rfl ?_
    refine pw_icmp_ge_f (q := 49) n_110_14 rfl rfl (nI_ge (a := i) (b := 4) (by omega) (by omega)) ?_
    refine pw_aload_n n_110_17 rfl rfl ?_
    refine pw_getf (a := 151) n_110_18 fl_7_41 (by decide) (rdR sh_R_pending) rfl ?_
    refine pw_iconst n_110_21 ic_4 rfl ?_
    refine pw_iload_n n_110_22 rfl rfl ?_
    refine pw_imul n_110_23 rfl (pw_top (nJ_mul 4 a) ?_)
    refine pw_iload_n n_110_24 rfl rfl ?_
    refine pw_iadd n_110_25 rfl (pw_top (nJ_add (4 * a) i) ?_)
    refine pw_zald (a := cM 10) n_110_26 (nI_pos (by omega)) (nI_clamp (by omega)) (rdM (sh_M_pending ((4 * a) + i) (by omega)) (by decide)) rfl ?_
    refine pw_if_eq (q := 43) n_110_27 rfl rfl (fun h1 => ?_) (fun h1 => ?_)
    ·
      refine pw_iinc (v := nI (i + 1)) (l := [some (.ref 152), some (.int (nI a)), some (.int (nI (i + 1)))]) n_110_43 rfl (nI_inc i) rfl rfl ?_
      refine pw_goto (q := 12) n_110_46 rfl ?_
      rw [show fstS (fun k => !decide (M 60 (4 * a + k) 0 = 0)) (fun k => gup M 60 (4 * a + k) 0 0) (-11) M (n + 1) i = fstS (fun k => !decide (M 60 (4 * a + k) 0 = 0)) (fun k => gup M 60 (4 * a + k) 0 0) (-11) M n (i + 1) from by first | contradiction | simp [fstS, h1, bI_t, bI_f, nI_add1, gup_k, eSet_k, eClr_k, hSet_k, hClr_k, qSet_k, qCls_k]]
      exact ih (i + 1) (by omega)
    ·
      refine pw_aload_n n_110_30 rfl rfl ?_
      refine pw_getf (a := 151) n_110_31 fl_7_41 (by decide) (rdR sh_R_pending) rfl ?_
      refine pw_iconst n_110_34 ic_4 rfl ?_
      refine pw_iload_n n_110_35 rfl rfl ?_
      refine pw_imul n_110_36 rfl (pw_top (nJ_mul 4 a) ?_)
      refine pw_iload_n n_110_37 rfl rfl ?_
      refine pw_iadd n_110_38 rfl (pw_top (nJ_add (4 * a) i) ?_)
      refine pw_iconst n_110_39 ic_0 rfl ?_
      refine pw_zast (a := cM 10) n_110_40 (nI_pos (by omega)) (nI_clamp (by omega)) rfl (wrM (sh_M_pending ((4 * a) + i) (by omega)) (by decide)) rfl ?_
      refine pw_iload_n n_110_41 rfl rfl ?_
      exact pw_ireturn (ty := .int) n_110_42 rfl rfl (by first | contradiction | simp [fstS, h1, bI_t, bI_f, nI_add1, gup_k, eSet_k, eClr_k, hSet_k, hClr_k, qSet_k, qCls_k])
set_option maxRecDepth 100000 in
set_option maxHeartbeats 4000000 in
theorem w_110 {X M : gS} {x : Int32}  (d : Nat) : pm_Call (d + 2) 110 [.ref 152, .int x] (gE X M) (some (.int ((mNext M x).1)), gE X ((mNext M x).2)) := by
  refine pw_start (d := d + 1) (l := [some (.ref 152), some (.int x), none]) (Nat.le_of_ble_eq_true rfl) rfl ?_
  refine pw_aload_n n_110_0 rfl rfl ?_
  refine pw_iload_n n_110_1 rfl rfl ?_
  refine pw_virtV (a := 151) (as := [.int x]) (st := []) n_110_2 cl_7_94 ⟨rfl, rfl, rfl⟩ (sum8 rfl) (E_tg sh_R_state) rfl (w_81 (x := x) _) ?_
  refine pw_ifb_ne (q := 10) n_110_5 rfl rfl (fun h1 => ?_) (fun h1 => ?_)
  ·
    obtain ⟨xn, hxn, rfl⟩ := live_nI h1
    have txn : tN (nI xn) = xn := nI_clamp (by omega)
    refine pw_iconst n_110_10 ic_0 rfl ?_
    refine pw_istore_n (l := [some (.ref 152), some (.int (nI xn)), some (.int 0)]) n_110_11 rfl rfl ?_
    rw [show mNext M (nI xn) = fstS (fun k => !decide (M 60 (4 * xn + k) 0 = 0)) (fun k => gup M 60 (4 * xn + k) 0 0) (-11) M 4 0 from by first | contradiction | simp [mNext, h1, txn, bI_t, bI_f, nI_add1, gup_k, eSet_k, eClr_k, hSet_k, hClr_k, qSet_k, qCls_k]]
    exact L_110_12 (a := xn) (by omega) _ 4 0 (by omega)
  ·
    refine pw_iconst n_110_8 ic_m1 rfl ?_
    exact pw_ireturn (ty := .int) n_110_9 rfl rfl (by first | contradiction | simp [mNext, h1, bI_t, bI_f, nI_add1, gup_k, eSet_k, eClr_k, hSet_k, hClr_k, qSet_k, qCls_k])
