set_option maxRecDepth 100000 in
set_option maxHeartbeats 4000000 in
theorem L_93_12 {X M : gS} {a : Nat} (ha : a < 5)  (d : Nat) {r : pm_R} : ∀ (n i : Nat) (Z : gS), i + n = 3 → pw none (d + 3) 93 61 [some (.ref 152), some (.int (nI a)), some (.int (nI 3))] [] (gE X (lpS (fun v Z => if 0 < Z 61 v 0 ∧ (Z 61 v 0 = nI (a + 1) ∨ Z 62 v 0 = nI a) then gup Z 61 v 0 0 else Z) n i Z)) r → pw none (d + 3) 93 12 [some (.ref 152), some (.int (nI a)), some (.int (nI i))] [] (gE X Z) r := by
  intro n
  induction n with
  | zero =>
    intro i Z hi hk
    obtain rfl : i = 3 := by omega
    refine pw_iload_n n_93_12 rfl rfl ?_
    refine pw_iconst n_93_13 ic_3 rfl ?_
    refine pw_icmp_ge_t (q := 61) n_93_14 rfl (nI_le (a := 3) (b := 3) (by omega) (by omega)) ?_
    exact hk
  | succ n ih =>
    intro i Z hi hk
    refine pw_iload_n n_93_12 rfl rfl ?_
    refine pw_iconst n_93_13 ic_3 rfl ?_
    refine pw_icmp_ge_f (q := 61) n_93_14 rfl rfl (nI_ge (a := i) (b := 3) (by omega) (by omega)) ?_
    refine pw_aload_n n_93_17 rfl rfl ?_
    refine pw_getf (a := 151) n_93_18 fl_7_44 (by decide) (rdR sh_R_front) rfl ?_
    refine pw_iload_n n_93_21 rfl rfl ?_
    refine pw_iald (a := cM 11) n_93_22 (nI_pos (by omega)) (nI_clamp (by omega)) (rdM (sh_M_front i (by omega)) (by decide)) rfl ?_
    refine pw_if_le (q := 55) n_93_23 rfl rfl (fun h1 => ?_) (fun h1 => ?_)
    ·
      refine pw_iinc (v := nI (i + 1)) (l := [some (.ref 152), some (.int (nI a)), some (.int (nI (i + 1)))]) n_93_55 rfl (nI_inc i) rfl rfl ?_
      refine pw_goto (q := 12) n_93_58 rfl ?_
      have e0 : (if 0 < Z 61 i 0 ∧ (Z 61 i 0 = nI (a + 1) ∨ Z 62 i 0 = nI a) then gup Z 61 i 0 0 else Z) = Z := by first | (simp [h1, (i32_a h1), bI_t, bI_f, nI_add1, gup_k, eSet_k, eClr_k, hSet_k, hClr_k, qSet_k, qCls_k]; done) | contradiction | (split <;> first | rfl | (simp_all; done)) | simp [h1, (i32_a h1), bI_t, bI_f, nI_add1, gup_k, eSet_k, eClr_k, hSet_k, hClr_k, qSet_k, qCls_k]
      refine ih (i + 1) Z (by omega) ?_
      rw [← e0]
      exact hk
    ·
      refine pw_aload_n n_93_26 rfl rfl ?_
      refine pw_getf (a := 151) n_93_27 fl_7_44 (by decide) (rdR sh_R_front) rfl ?_
      refine pw_iload_n n_93_30 rfl rfl ?_
      refine pw_iald (a := cM 11) n_93_31 (nI_pos (by omega)) (nI_clamp (by omega)) (rdM (sh_M_front i (by omega)) (by decide)) rfl ?_
      refine pw_iload_n n_93_32 rfl rfl ?_
      refine pw_iconst n_93_33 ic_1 rfl ?_
      refine pw_iadd n_93_34 rfl (pw_top (nJ_add a 1) ?_)
      refine pw_icmp_eq (q := 48) n_93_35 rfl rfl (fun h2 => ?_) (fun h2 => ?_)
      ·
        refine pw_aload_n n_93_48 rfl rfl ?_
        refine pw_getf (a := 151) n_93_49 fl_7_44 (by decide) (rdR sh_R_front) rfl ?_
        refine pw_iload_n n_93_52 rfl rfl ?_
        refine pw_iconst n_93_53 ic_0 rfl ?_
        refine pw_iast (a := cM 11) n_93_54 (nI_pos (by omega)) (nI_clamp (by omega)) (wrM (sh_M_front i (by omega)) (by decide)) rfl ?_
        refine pw_iinc (v := nI (i + 1)) (l := [some (.ref 152), some (.int (nI a)), some (.int (nI (i + 1)))]) n_93_55 rfl (nI_inc i) rfl rfl ?_
        refine pw_goto (q := 12) n_93_58 rfl ?_
        have e0 : (if 0 < Z 61 i 0 ∧ (Z 61 i 0 = nI (a + 1) ∨ Z 62 i 0 = nI a) then gup Z 61 i 0 0 else Z) = gup Z 61 i 0 0 := by first | (simp [h1, (i32_b h1), h2, bI_t, bI_f, nI_add1, gup_k, eSet_k, eClr_k, hSet_k, hClr_k, qSet_k, qCls_k]; done) | contradiction | (split <;> first | rfl | (simp_all; done)) | simp [h1, (i32_b h1), h2, bI_t, bI_f, nI_add1, gup_k, eSet_k, eClr_k, hSet_k, hClr_k, qSet_k, qCls_k]
        refine ih (i + 1) (gup Z 61 i 0 0) (by omega) ?_
        rw [← e0]
        exact hk
      ·
        refine pw_aload_n n_93_38 rfl rfl ?_
        refine pw_getf (a := 151) n_93_39 fl_7_47 (by decide) (rdR sh_R_back) rfl ?_
        refine pw_iload_n n_93_42 rfl rfl ?_
        refine pw_iald (a := cM 12) n_93_43 (nI_pos (by omega)) (nI_clamp (by omega)) (rdM (sh_M_back i (by omega)) (by decide)) rfl ?_
        refine pw_iload_n n_93_44 rfl rfl ?_
        refine pw_icmp_ne (q := 55) n_93_45 rfl rfl (fun h3 => ?_) (fun h3 => ?_)
        ·
          refine pw_iinc (v := nI (i + 1)) (l := [some (.ref 152), some (.int (nI a)), some (.int (nI (i + 1)))]) n_93_55 rfl (nI_inc i) rfl rfl ?_
          refine pw_goto (q := 12) n_93_58 rfl ?_
          have e0 : (if 0 < Z 61 i 0 ∧ (Z 61 i 0 = nI (a + 1) ∨ Z 62 i 0 = nI a) then gup Z 61 i 0 0 else Z) = Z := by first | (simp [h1, (i32_b h1), h2, h3, bI_t, bI_f, nI_add1, gup_k, eSet_k, eClr_k, hSet_k, hClr_k, qSet_k, qCls_k]; done) | contradiction | (split <;> first | rfl | (simp_all; done)) | simp [h1, (i32_b h1), h2, h3, bI_t, bI_f, nI_add1, gup_k, eSet_k, eClr_k, hSet_k, hClr_k, qSet_k, qCls_k]
          refine ih (i + 1) Z (by omega) ?_
          rw [← e0]
          exact hk
        ·
          refine pw_aload_n n_93_48 rfl rfl ?_
          refine pw_getf (a := 151) n_93_49 fl_7_44 (by decide) (rdR sh_R_front) rfl ?_
          refine pw_iload_n n_93_52 rfl rfl ?_
          refine pw_iconst n_93_53 ic_0 rfl ?_
          refine pw_iast (a := cM 11) n_93_54 (nI_pos (by omega)) (nI_clamp (by omega)) (wrM (sh_M_front i (by omega)) (by decide)) rfl ?_
          refine pw_iinc (v := nI (i + 1)) (l := [some (.ref 152), some (.int (nI a)), some (.int (nI (i + 1)))]) n_93_55 rfl (nI_inc i) rfl rfl ?_
          refine pw_goto (q := 12) n_93_58 rfl ?_
          have e0 : (if 0 < Z 61 i 0 ∧ (Z 61 i 0 = nI (a + 1) ∨ Z 62 i 0 = nI a) then gup Z 61 i 0 0 else Z) = gup Z 61 i 0 0 := by first | (simp [h1, (i32_b h1), h2, h3, (Classical.not_not.mp h3), bI_t, bI_f, nI_add1, gup_k, eSet_k, eClr_k, hSet_k, hClr_k, qSet_k, qCls_k]; done) | contradiction | (split <;> first | rfl | (simp_all; done)) | simp [h1, (i32_b h1), h2, h3, (Classical.not_not.mp h3), bI_t, bI_f, nI_add1, gup_k, eSet_k, eClr_k, hSet_k, hClr_k, qSet_k, qCls_k]
          refine ih (i + 1) (gup Z 61 i 0 0) (by omega) ?_
          rw [← e0]
          exact hk
set_option maxRecDepth 100000 in
set_option maxHeartbeats 4000000 in
theorem L_93_65 {X M : gS} {a : Nat} (ha : a < 5)  (d : Nat) {r : pm_R} : ∀ (n i : Nat) (Z : gS), i + n = 5 * a + 5 → lpOk (fun h Z => if 0 < Z 56 h 0 then mTk Z h (mE Z h) else Z) mtOk n i Z → pw none (d + 3) 93 94 [some (.ref 152), some (.int (nI a)), some (.int (nI (5 * a + 5)))] [] (gE X (lpS (fun h Z => if 0 < Z 56 h 0 then mTk Z h (mE Z h) else Z) n i Z)) r → pw none (d + 3) 93 65 [some (.ref 152), some (.int (nI a)), some (.int (nI i))] [] (gE X Z) r := by
  intro n
  induction n with
  | zero =>
    intro i Z hi hok hk
    have hi0 : i = 5 * a + 5 := by omega
    subst hi0
    refine pw_iload_n n_93_65 rfl rfl ?_
    refine pw_iconst n_93_66 ic_5 rfl ?_
    refine pw_iload_n n_93_67 rfl rfl ?_
    refine pw_imul n_93_68 rfl (pw_top (nJ_mul 5 a) ?_)
    refine pw_iconst n_93_69 ic_5 rfl ?_
    refine pw_iadd n_93_70 rfl (pw_top (nJ_add (5 * a) 5) ?_)
    refine pw_icmp_ge_t (q := 94) n_93_71 rfl (nI_le (a := (5 * a) + 5) (b := 5 * a + 5) (by omega) (by omega)) ?_
    exact hk
  | succ n ih =>
    intro i Z hi hok hk
    refine pw_iload_n n_93_65 rfl rfl ?_
    refine pw_iconst n_93_66 ic_5 rfl ?_
    refine pw_iload_n n_93_67 rfl rfl ?_
    refine pw_imul n_93_68 rfl (pw_top (nJ_mul 5 a) ?_)
    refine pw_iconst n_93_69 ic_5 rfl ?_
    refine pw_iadd n_93_70 rfl (pw_top (nJ_add (5 * a) 5) ?_)
    refine pw_icmp_ge_f (q := 94) n_93_71 rfl rfl (nI_ge (a := i) (b := (5 * a) + 5) (by omega) (by omega)) ?_
    refine pw_aload_n n_93_74 rfl rfl ?_
    refine pw_getf (a := 151) n_93_75 fl_7_28 (by decide) (rdR sh_R_mapped) rfl ?_
    refine pw_iload_n n_93_78 rfl rfl ?_
    refine pw_iald (a := cM 6) n_93_79 (nI_pos (by omega)) (nI_clamp (by omega)) (rdM (sh_M_mapped i (by omega)) (by decide)) rfl ?_
    refine pw_if_le (q := 88) n_93_80 rfl rfl (fun h1 => ?_) (fun h1 => ?_)
    ·
      refine pw_iinc (v := nI (i + 1)) (l := [some (.ref 152), some (.int (nI a)), some (.int (nI (i + 1)))]) n_93_88 rfl (nI_inc i) rfl rfl ?_
      refine pw_goto (q := 65) n_93_91 rfl ?_
      have e0 : (if 0 < Z 56 i 0 then mTk Z i (mE Z i) else Z) = Z := by first | (simp [h1, (i32_a h1), bI_t, bI_f, nI_add1, gup_k, eSet_k, eClr_k, hSet_k, hClr_k, qSet_k, qCls_k]; done) | contradiction | (split <;> first | rfl | (simp_all; done)) | simp [h1, (i32_a h1), bI_t, bI_f, nI_add1, gup_k, eSet_k, eClr_k, hSet_k, hClr_k, qSet_k, qCls_k]
      refine ih (i + 1) Z (by omega) (by rw [← e0]; exact hok.2) ?_
      rw [← e0]
      exact hk
    ·
      obtain ⟨hm, he, p0, p1⟩ := hok.1 h1
      refine pw_aload_n n_93_83 rfl rfl ?_
      refine pw_iload_n n_93_84 rfl rfl ?_
      refine pw_virt0 (a := 151) (as := [.int (nI i)]) (st := []) n_93_85 cl_7_98 ⟨rfl, rfl, rfl⟩ (sum8 rfl) (E_tg sh_R_state) rfl (w_91 (h := i) (e := (mE Z i)) (by omega) (by assumption) (by omega) (by assumption) (by assumption) _) ?_
      refine pw_iinc (v := nI (i + 1)) (l := [some (.ref 152), some (.int (nI a)), some (.int (nI (i + 1)))]) n_93_88 rfl (nI_inc i) rfl rfl ?_
      refine pw_goto (q := 65) n_93_91 rfl ?_
      have e0 : (if 0 < Z 56 i 0 then mTk Z i (mE Z i) else Z) = mTk Z i (mE Z i) := by first | (simp [h1, (i32_b h1), bI_t, bI_f, nI_add1, gup_k, eSet_k, eClr_k, hSet_k, hClr_k, qSet_k, qCls_k]; done) | contradiction | (split <;> first | rfl | (simp_all; done)) | simp [h1, (i32_b h1), bI_t, bI_f, nI_add1, gup_k, eSet_k, eClr_k, hSet_k, hClr_k, qSet_k, qCls_k]
      refine ih (i + 1) (mTk Z i (mE Z i)) (by omega) (by rw [← e0]; exact hok.2) ?_
      rw [← e0]
      exact hk
set_option maxRecDepth 100000 in
set_option maxHeartbeats 4000000 in
theorem L_93_98 {X M : gS} {a : Nat} (ha : a < 5)  (d : Nat) {r : pm_R} : ∀ (n i : Nat) (Z : gS), i + n = 4 * a + 4 → lpOk (fun k Z => mCls (mCl1 Z k) k) mpOk n i Z → pw none (d + 3) 93 138 [some (.ref 152), some (.int (nI a)), some (.int (nI (4 * a + 4)))] [] (gE X (lpS (fun k Z => mCls (mCl1 Z k) k) n i Z)) r → pw none (d + 3) 93 98 [some (.ref 152), some (.int (nI a)), some (.int (nI i))] [] (gE X Z) r := by
  intro n
  induction n with
  | zero =>
    intro i Z hi hok hk
    have hi0 : i = 4 * a + 4 := by omega
    subst hi0
    refine pw_iload_n n_93_98 rfl rfl ?_
    refine pw_iconst n_93_99 ic_4 rfl ?_
    refine pw_iload_n n_93_100 rfl rfl ?_
    refine pw_imul n_93_101 rfl (pw_top (nJ_mul 4 a) ?_)
    refine pw_iconst n_93_102 ic_4 rfl ?_
    refine pw_iadd n_93_103 rfl (pw_top (nJ_add (4 * a) 4) ?_)
    refine pw_icmp_ge_t (q := 138) n_93_104 rfl (nI_le (a := (4 * a) + 4) (b := 4 * a + 4) (by omega) (by omega)) ?_
    exact hk
  | succ n ih =>
    intro i Z hi hok hk
    refine pw_iload_n n_93_98 rfl rfl ?_
    refine pw_iconst n_93_99 ic_4 rfl ?_
    refine pw_iload_n n_93_100 rfl rfl ?_
    refine pw_imul n_93_101 rfl (pw_top (nJ_mul 4 a) ?_)
    refine pw_iconst n_93_102 ic_4 rfl ?_
    refine pw_iadd n_93_103 rfl (pw_top (nJ_add (4 * a) 4) ?_)
    refine pw_icmp_ge_f (q := 138) n_93_104 rfl rfl (nI_ge (a := i) (b := (4 * a) + 4) (by omega) (by omega)) ?_
    refine pw_aload_n n_93_107 rfl rfl ?_
    refine pw_getf (a := 151) n_93_108 fl_7_35 (by decide) (rdR sh_R_port) rfl ?_
    refine pw_iload_n n_93_111 rfl rfl ?_
    refine pw_iald (a := cM 8) n_93_112 (nI_pos (by omega)) (nI_clamp (by omega)) (rdM (sh_M_port i (by omega)) (by decide)) rfl ?_
    refine pw_iconst n_93_113 ic_2 rfl ?_
    refine pw_icmp_ne (q := 127) n_93_114 rfl rfl (fun h1 => ?_) (fun h1 => ?_)
    ·
      refine pw_aload_n n_93_127 rfl rfl ?_
      refine pw_iload_n n_93_128 rfl rfl ?_
      refine pw_virt0 (a := 151) (as := [.int (nI i)]) (st := []) n_93_129 cl_7_102 ⟨rfl, rfl, rfl⟩ (sum8 rfl) (E_tg sh_R_state) rfl (w_92 (k := i) (by omega) _) ?_
      refine pw_iinc (v := nI (i + 1)) (l := [some (.ref 152), some (.int (nI a)), some (.int (nI (i + 1)))]) n_93_132 rfl (nI_inc i) rfl rfl ?_
      refine pw_goto (q := 98) n_93_135 rfl ?_
      have e0 : mCls (mCl1 Z i) i = mCls Z i := by first | (simp [mCl1, h1, bI_t, bI_f, nI_add1, gup_k, eSet_k, eClr_k, hSet_k, hClr_k, qSet_k, qCls_k]; done) | contradiction | (split <;> first | rfl | (simp_all; done)) | simp [mCl1, h1, bI_t, bI_f, nI_add1, gup_k, eSet_k, eClr_k, hSet_k, hClr_k, qSet_k, qCls_k]
      refine ih (i + 1) (mCls Z i) (by omega) (by rw [← e0]; exact hok.2) ?_
      rw [← e0]
      exact hk
    ·
      obtain ⟨f0, f1⟩ := hok.1 (Classical.not_not.mp h1)
      refine pw_aload_n n_93_117 rfl rfl ?_
      refine pw_aload_n n_93_118 rfl rfl ?_
      refine pw_getf (a := 151) n_93_119 fl_7_38 (by decide) (rdR sh_R_far) rfl ?_
      refine pw_iload_n n_93_122 rfl rfl ?_
      refine pw_iald (a := cM 9) n_93_123 (nI_pos (by omega)) (nI_clamp (by omega)) (rdM (sh_M_far i (by omega)) (by decide)) rfl ?_
      refine pw_top (y := nI (tN (Z 59 i 0))) (nI_tN f0) ?_
      refine pw_virt0 (a := 151) (as := [.int (nI (tN (Z 59 i 0)))]) (st := []) n_93_124 cl_7_102 ⟨rfl, rfl, rfl⟩ (sum8 rfl) (E_tg sh_R_state) rfl (w_92 (k := (tN (Z 59 i 0))) (by omega) _) ?_
      refine pw_aload_n n_93_127 rfl rfl ?_
      refine pw_iload_n n_93_128 rfl rfl ?_
      refine pw_virt0 (a := 151) (as := [.int (nI i)]) (st := []) n_93_129 cl_7_102 ⟨rfl, rfl, rfl⟩ (sum8 rfl) (E_tg sh_R_state) rfl (w_92 (k := i) (by omega) _) ?_
      refine pw_iinc (v := nI (i + 1)) (l := [some (.ref 152), some (.int (nI a)), some (.int (nI (i + 1)))]) n_93_132 rfl (nI_inc i) rfl rfl ?_
      refine pw_goto (q := 98) n_93_135 rfl ?_
      have e0 : mCls (mCl1 Z i) i = mCls (mCls Z (tN (Z 59 i 0))) i := by first | (simp [mCl1, h1, (Classical.not_not.mp h1), bI_t, bI_f, nI_add1, gup_k, eSet_k, eClr_k, hSet_k, hClr_k, qSet_k, qCls_k]; done) | contradiction | (split <;> first | rfl | (simp_all; done)) | simp [mCl1, h1, (Classical.not_not.mp h1), bI_t, bI_f, nI_add1, gup_k, eSet_k, eClr_k, hSet_k, hClr_k, qSet_k, qCls_k]
      refine ih (i + 1) (mCls (mCls Z (tN (Z 59 i 0))) i) (by omega) (by rw [← e0]; exact hok.2) ?_
      rw [← e0]
      exact hk
set_option maxRecDepth 100000 in
set_option maxHeartbeats 4000000 in
theorem L_93_143 {X M : gS} {a : Nat} (ha : a < 5)  (d : Nat) {r : pm_R} : ∀ (n i : Nat) (Z : gS), i + n = 6 * a + 6 → pw none (d + 3) 93 175 [some (.ref 152), some (.int (nI a)), some (.int (nI (6 * a + 6)))] [] (gE X (lpS (fun e Z => if mMps Z e = 0 then gup Z 53 e 0 0 else Z) n i Z)) r → pw none (d + 3) 93 143 [some (.ref 152), some (.int (nI a)), some (.int (nI i))] [] (gE X Z) r := by
  intro n
  induction n with
  | zero =>
    intro i Z hi hk
    have hi0 : i = 6 * a + 6 := by omega
    subst hi0
    refine pw_iload_n n_93_143 rfl rfl ?_
    refine pw_bipush n_93_144 bc_6 rfl ?_
    refine pw_iload_n n_93_146 rfl rfl ?_
    refine pw_imul n_93_147 rfl (pw_top (nJ_mul 6 a) ?_)
    refine pw_bipush n_93_148 bc_6 rfl ?_
    refine pw_iadd n_93_150 rfl (pw_top (nJ_add (6 * a) 6) ?_)
    refine pw_icmp_ge_t (q := 175) n_93_151 rfl (nI_le (a := (6 * a) + 6) (b := 6 * a + 6) (by omega) (by omega)) ?_
    exact hk
  | succ n ih =>
    intro i Z hi hk
    refine pw_iload_n n_93_143 rfl rfl ?_
    refine pw_bipush n_93_144 bc_6 rfl ?_
    refine pw_iload_n n_93_146 rfl rfl ?_
    refine pw_imul n_93_147 rfl (pw_top (nJ_mul 6 a) ?_)
    refine pw_bipush n_93_148 bc_6 rfl ?_
    refine pw_iadd n_93_150 rfl (pw_top (nJ_add (6 * a) 6) ?_)
    refine pw_icmp_ge_f (q := 175) n_93_151 rfl rfl (nI_ge (a := i) (b := (6 * a) + 6) (by omega) (by omega)) ?_
    refine pw_aload_n n_93_154 rfl rfl ?_
    refine pw_iload_n n_93_155 rfl rfl ?_
    refine pw_virtV (a := 151) (as := [.int (nI i)]) (st := []) n_93_156 cl_7_83 ⟨rfl, rfl, rfl⟩ (sum8 rfl) (E_tg sh_R_state) rfl (w_88 (e := i) (by omega) _) ?_
    refine pw_if_ne (q := 169) n_93_159 rfl rfl (fun h1 => ?_) (fun h1 => ?_)
    ·
      refine pw_iinc (v := nI (i + 1)) (l := [some (.ref 152), some (.int (nI a)), some (.int (nI (i + 1)))]) n_93_169 rfl (nI_inc i) rfl rfl ?_
      refine pw_goto (q := 143) n_93_172 rfl ?_
      have e0 : (if mMps Z i = 0 then gup Z 53 i 0 0 else Z) = Z := by first | (simp [h1, bI_t, bI_f, nI_add1, gup_k, eSet_k, eClr_k, hSet_k, hClr_k, qSet_k, qCls_k]; done) | contradiction | (split <;> first | rfl | (simp_all; done)) | simp [h1, bI_t, bI_f, nI_add1, gup_k, eSet_k, eClr_k, hSet_k, hClr_k, qSet_k, qCls_k]
      refine ih (i + 1) Z (by omega) ?_
      rw [← e0]
      exact hk
    ·
      refine pw_aload_n n_93_162 rfl rfl ?_
      refine pw_getf (a := 151) n_93_163 fl_7_19 (by decide) (rdR sh_R_target) rfl ?_
      refine pw_iload_n n_93_166 rfl rfl ?_
      refine pw_iconst n_93_167 ic_0 rfl ?_
      refine pw_iast (a := cM 3) n_93_168 (nI_pos (by omega)) (nI_clamp (by omega)) (wrM (sh_M_target i (by omega)) (by decide)) rfl ?_
      refine pw_iinc (v := nI (i + 1)) (l := [some (.ref 152), some (.int (nI a)), some (.int (nI (i + 1)))]) n_93_169 rfl (nI_inc i) rfl rfl ?_
      refine pw_goto (q := 143) n_93_172 rfl ?_
      have e0 : (if mMps Z i = 0 then gup Z 53 i 0 0 else Z) = gup Z 53 i 0 0 := by first | (simp [h1, (Classical.not_not.mp h1), bI_t, bI_f, nI_add1, gup_k, eSet_k, eClr_k, hSet_k, hClr_k, qSet_k, qCls_k]; done) | contradiction | (split <;> first | rfl | (simp_all; done)) | simp [h1, (Classical.not_not.mp h1), bI_t, bI_f, nI_add1, gup_k, eSet_k, eClr_k, hSet_k, hClr_k, qSet_k, qCls_k]
      refine ih (i + 1) (gup Z 53 i 0 0) (by omega) ?_
      rw [← e0]
      exact hk
set_option maxRecDepth 100000 in
set_option maxHeartbeats 4000000 in
theorem L_93_177 {X M : gS} {a : Nat} (ha : a < 5)  (d : Nat) {r : pm_R} : ∀ (n i : Nat) (Z : gS), i + n = 20 → pw none (d + 3) 93 215 [some (.ref 152), some (.int (nI a)), some (.int (nI 20))] [] (gE X (lpS (fun p Z => if mOwns Z (nI a) (nI p) = true ∧ mHeld Z a (nI p) true = false then gup Z 51 p 0 0 else Z) n i Z)) r → pw none (d + 3) 93 177 [some (.ref 152), some (.int (nI a)), some (.int (nI i))] [] (gE X Z) r := by
  intro n
  induction n with
  | zero =>
    intro i Z hi hk
    obtain rfl : i = 20 := by omega
    refine pw_iload_n n_93_177 rfl rfl ?_
    refine pw_bipush n_93_178 bc_20 rfl ?_
    refine pw_icmp_ge_t (q := 215) n_93_180 rfl (nI_le (a := 20) (b := 20) (by omega) (by omega)) ?_
    exact hk
  | succ n ih =>
    intro i Z hi hk
    refine pw_iload_n n_93_177 rfl rfl ?_
    refine pw_bipush n_93_178 bc_20 rfl ?_
    refine pw_icmp_ge_f (q := 215) n_93_180 rfl rfl (nI_ge (a := i) (b := 20) (by omega) (by omega)) ?_
    refine pw_aload_n n_93_183 rfl rfl ?_
    refine pw_iload_n n_93_184 rfl rfl ?_
    refine pw_iload_n n_93_185 rfl rfl ?_
    refine pw_virtV (a := 151) (as := [.int (nI a), .int (nI i)]) (st := []) n_93_186 cl_7_105 ⟨rfl, rfl, rfl⟩ (sum8 rfl) (E_tg sh_R_state) rfl (w_82 (x := (nI a)) (p := (nI i)) _) ?_
    refine pw_ifb_eq (q := 209) n_93_189 rfl rfl (fun h1 => ?_) (fun h1 => ?_)
    ·
      refine pw_iinc (v := nI (i + 1)) (l := [some (.ref 152), some (.int (nI a)), some (.int (nI (i + 1)))]) n_93_209 rfl (nI_inc i) rfl rfl ?_
      refine pw_goto (q := 177) n_93_212 rfl ?_
      have e0 : (if mOwns Z (nI a) (nI i) = true ∧ mHeld Z a (nI i) true = false then gup Z 51 i 0 0 else Z) = Z := by first | (simp [h1, bI_t, bI_f, nI_add1, gup_k, eSet_k, eClr_k, hSet_k, hClr_k, qSet_k, qCls_k]; done) | contradiction | (split <;> first | rfl | (simp_all; done)) | simp [h1, bI_t, bI_f, nI_add1, gup_k, eSet_k, eClr_k, hSet_k, hClr_k, qSet_k, qCls_k]
      refine ih (i + 1) Z (by omega) ?_
      rw [← e0]
      exact hk
    ·
      obtain ⟨h1a, h1b⟩ := ir_mowns h1
      refine pw_aload_n n_93_192 rfl rfl ?_
      refine pw_iload_n n_93_193 rfl rfl ?_
      refine pw_iload_n n_93_194 rfl rfl ?_
      refine pw_iconst n_93_195 ic_1 rfl ?_
      refine pw_virtV (a := 151) (as := [.int (nI a), .int (nI i), .int 1]) (st := []) n_93_196 cl_7_87 ⟨rfl, rfl, rfl⟩ (sum8 rfl) (E_tg sh_R_state) rfl (w_89 (a := a) (p := (nI i)) (b := true) (by omega) _) ?_
      refine pw_ifb_ne (q := 209) n_93_199 rfl rfl (fun h2 => ?_) (fun h2 => ?_)
      ·
        refine pw_iinc (v := nI (i + 1)) (l := [some (.ref 152), some (.int (nI a)), some (.int (nI (i + 1)))]) n_93_209 rfl (nI_inc i) rfl rfl ?_
        refine pw_goto (q := 177) n_93_212 rfl ?_
        have e0 : (if mOwns Z (nI a) (nI i) = true ∧ mHeld Z a (nI i) true = false then gup Z 51 i 0 0 else Z) = Z := by first | (simp [h1, h2, bI_t, bI_f, nI_add1, gup_k, eSet_k, eClr_k, hSet_k, hClr_k, qSet_k, qCls_k]; done) | contradiction | (split <;> first | rfl | (simp_all; done)) | simp [h1, h2, bI_t, bI_f, nI_add1, gup_k, eSet_k, eClr_k, hSet_k, hClr_k, qSet_k, qCls_k]
        refine ih (i + 1) Z (by omega) ?_
        rw [← e0]
        exact hk
      ·
        refine pw_aload_n n_93_202 rfl rfl ?_
        refine pw_getf (a := 151) n_93_203 fl_7_13 (by decide) (rdR sh_R_owner) rfl ?_
        refine pw_iload_n n_93_206 rfl rfl ?_
        refine pw_iconst n_93_207 ic_0 rfl ?_
        refine pw_iast (a := cM 1) n_93_208 (nI_pos (by omega)) (nI_clamp (by omega)) (wrM (sh_M_owner i (by omega)) (by decide)) rfl ?_
        refine pw_iinc (v := nI (i + 1)) (l := [some (.ref 152), some (.int (nI a)), some (.int (nI (i + 1)))]) n_93_209 rfl (nI_inc i) rfl rfl ?_
        refine pw_goto (q := 177) n_93_212 rfl ?_
        have e0 : (if mOwns Z (nI a) (nI i) = true ∧ mHeld Z a (nI i) true = false then gup Z 51 i 0 0 else Z) = gup Z 51 i 0 0 := by first | (simp [h1, h2, bI_t, bI_f, nI_add1, gup_k, eSet_k, eClr_k, hSet_k, hClr_k, qSet_k, qCls_k]; done) | contradiction | (split <;> first | rfl | (simp_all; done)) | simp [h1, h2, bI_t, bI_f, nI_add1, gup_k, eSet_k, eClr_k, hSet_k, hClr_k, qSet_k, qCls_k]
        refine ih (i + 1) (gup Z 51 i 0 0) (by omega) ?_
        rw [← e0]
        exact hk
set_option maxRecDepth 100000 in
set_option maxHeartbeats 4000000 in
theorem w_93 {X M : gS} {x : Int32} (hk2 : mLive M x = true → lpOk (fun h Z => if 0 < Z 56 h 0 then mTk Z h (mE Z h) else Z) mtOk 5 (5 * tN x) (mDe1 M (tN x))) (hk3 : mLive M x = true → lpOk (fun k Z => mCls (mCl1 Z k) k) mpOk 4 (4 * tN x) (mDe2 (mDe1 M (tN x)) (tN x))) (d : Nat) : pm_Call (d + 4) 93 [.ref 152, .int x] (gE X M) (some (.int ((mDestroy M x).1)), gE X ((mDestroy M x).2)) := by
  refine pw_start (d := d + 3) (l := [some (.ref 152), some (.int x), none]) (Nat.le_of_ble_eq_true rfl) rfl ?_
  refine pw_aload_n n_93_0 rfl rfl ?_
  refine pw_iload_n n_93_1 rfl rfl ?_
  refine pw_virtV (a := 151) (as := [.int x]) (st := []) n_93_2 cl_7_94 ⟨rfl, rfl, rfl⟩ (sum8 rfl) (E_tg sh_R_state) rfl (w_81 (x := x) _) ?_
  refine pw_ifb_ne (q := 10) n_93_5 rfl rfl (fun h1 => ?_) (fun h1 => ?_)
  ·
    obtain ⟨xn, hxn, rfl⟩ := live_nI h1
    have txn : tN (nI xn) = xn := nI_clamp (by omega)
    have hk2n := hk2 h1
    rw [txn] at hk2n
    have hk3n := hk3 h1
    rw [txn] at hk3n
    refine pw_iconst n_93_10 ic_0 rfl ?_
    refine pw_istore_n (l := [some (.ref 152), some (.int (nI xn)), some (.int 0)]) n_93_11 rfl rfl ?_
    refine L_93_12 (X := X) (M := M) (a := xn) (by omega) _ 3 0 M (by omega) ?_
    change pw none _ _ _ _ _ (gE X (mDe1 M xn)) _
    refine pw_iconst n_93_61 ic_5 rfl ?_
    refine pw_iload_n n_93_62 rfl rfl ?_
    refine pw_imul n_93_63 rfl (pw_top (nJ_mul 5 xn) ?_)
    refine pw_istore_n (l := [some (.ref 152), some (.int (nI xn)), some (.int (nI (5 * xn)))]) n_93_64 rfl rfl ?_
    refine L_93_65 (X := X) (M := M) (a := xn) (by omega) _ 5 (5 * xn) (mDe1 M xn) (by omega) hk2n ?_
    change pw none _ _ _ _ _ (gE X (mDe2 (mDe1 M xn) xn)) _
    refine pw_iconst n_93_94 ic_4 rfl ?_
    refine pw_iload_n n_93_95 rfl rfl ?_
    refine pw_imul n_93_96 rfl (pw_top (nJ_mul 4 xn) ?_)
    refine pw_istore_n (l := [some (.ref 152), some (.int (nI xn)), some (.int (nI (4 * xn)))]) n_93_97 rfl rfl ?_
    refine L_93_98 (X := X) (M := M) (a := xn) (by omega) _ 4 (4 * xn) (mDe2 (mDe1 M xn) xn) (by omega) hk3n ?_
    change pw none _ _ _ _ _ (gE X (mDe3 (mDe2 (mDe1 M xn) xn) xn)) _
    refine pw_bipush n_93_138 bc_6 rfl ?_
    refine pw_iload_n n_93_140 rfl rfl ?_
    refine pw_imul n_93_141 rfl (pw_top (nJ_mul 6 xn) ?_)
    refine pw_istore_n (l := [some (.ref 152), some (.int (nI xn)), some (.int (nI (6 * xn)))]) n_93_142 rfl rfl ?_
    refine L_93_143 (X := X) (M := M) (a := xn) (by omega) _ 6 (6 * xn) (mDe3 (mDe2 (mDe1 M xn) xn) xn) (by omega) ?_
    change pw none _ _ _ _ _ (gE X (mDe4 (mDe3 (mDe2 (mDe1 M xn) xn) xn) xn)) _
    refine pw_iconst n_93_175 ic_0 rfl ?_
    refine pw_istore_n (l := [some (.ref 152), some (.int (nI xn)), some (.int 0)]) n_93_176 rfl rfl ?_
    refine L_93_177 (X := X) (M := M) (a := xn) (by omega) _ 20 0 (mDe4 (mDe3 (mDe2 (mDe1 M xn) xn) xn) xn) (by omega) ?_
    change pw none _ _ _ _ _ (gE X (mDe5 (mDe4 (mDe3 (mDe2 (mDe1 M xn) xn) xn) xn) xn)) _
    refine pw_aload_n n_93_215 rfl rfl ?_
    refine pw_getf (a := 151) n_93_216 fl_7_7 (by decide) (rdR sh_R_state) rfl ?_
    refine pw_iload_n n_93_219 rfl rfl ?_
    refine pw_aload_n n_93_220 rfl rfl ?_
    refine pw_iload_n n_93_221 rfl rfl ?_
    refine pw_virtV (a := 151) (as := [.int (nI xn)]) (st := [.int (nI xn), .ref (cM 0 + 1)]) n_93_222 cl_7_91 ⟨rfl, rfl, rfl⟩ (sum8 rfl) (E_tg sh_R_state) rfl (w_83 (x := (nI xn)) _) ?_
    refine pw_if_le (q := 232) n_93_225 rfl rfl (fun h2 => ?_) (fun h2 => ?_)
    ·
      refine pw_iconst n_93_232 ic_0 rfl ?_
      refine pw_iast (a := cM 0) n_93_233 (nI_pos (by omega)) (nI_clamp (by omega)) (wrM (sh_M_state xn (by omega)) (by decide)) rfl ?_
      refine pw_iconst n_93_234 ic_0 rfl ?_
      exact pw_ireturn (ty := .int) n_93_235 rfl rfl (by simp [mDestroy, mDe6, h1, txn, h2, (i32_a h2)])
    ·
      refine pw_iconst n_93_228 ic_2 rfl ?_
      refine pw_goto (q := 233) n_93_229 rfl ?_
      refine pw_iast (a := cM 0) n_93_233 (nI_pos (by omega)) (nI_clamp (by omega)) (wrM (sh_M_state xn (by omega)) (by decide)) rfl ?_
      refine pw_iconst n_93_234 ic_0 rfl ?_
      exact pw_ireturn (ty := .int) n_93_235 rfl rfl (by simp [mDestroy, mDe6, h1, txn, h2, (i32_b h2)])
  ·
    refine pw_iconst n_93_8 ic_m1 rfl ?_
    exact pw_ireturn (ty := .int) n_93_9 rfl rfl (by simp [mDestroy, mDe6, h1])
set_option maxRecDepth 100000 in
set_option maxHeartbeats 4000000 in
theorem w_100 {X M : gS} {x : Int32} {h : Int32} (tk : mLive M x = true → ∀ j, j < 5 → ¬ M 56 (5 * tN x + j) 0 = 0 → mtF M (5 * tN x + j)) (d : Nat) : pm_Call (d + 4) 100 [.ref 152, .int x, .int h] (gE X M) (some (.int ((mUnmap M x h).1)), gE X ((mUnmap M x h).2)) := by
  refine pw_start (d := d + 3) (l := [some (.ref 152), some (.int x), some (.int h)]) (Nat.le_of_ble_eq_true rfl) rfl ?_
  refine pw_aload_n n_100_0 rfl rfl ?_
  refine pw_iload_n n_100_1 rfl rfl ?_
  refine pw_virtV (a := 151) (as := [.int x]) (st := []) n_100_2 cl_7_94 ⟨rfl, rfl, rfl⟩ (sum8 rfl) (E_tg sh_R_state) rfl (w_81 (x := x) _) ?_
  refine pw_ifb_ne (q := 10) n_100_5 rfl rfl (fun h1 => ?_) (fun h1 => ?_)
  ·
    obtain ⟨xn, hxn, rfl⟩ := live_nI h1
    have txn : tN (nI xn) = xn := nI_clamp (by omega)
    have tkn := tk h1
    rw [txn] at tkn
    refine pw_iload_n n_100_10 rfl rfl ?_
    refine pw_if_lt (q := 32) n_100_11 rfl rfl (fun h2 => ?_) (fun h2 => ?_)
    ·
      refine pw_bipush n_100_32 bc_m5 rfl ?_
      exact pw_ireturn (ty := .int) n_100_34 rfl rfl (by first | (simp [mUnmap, h1, txn, h2, (i32_c h2), bI_t, bI_f, nI_add1, gup_k, eSet_k, eClr_k, hSet_k, hClr_k, qSet_k, qCls_k]; done) | contradiction | (split <;> first | rfl | (simp_all; done)) | simp [mUnmap, h1, txn, h2, (i32_c h2), bI_t, bI_f, nI_add1, gup_k, eSet_k, eClr_k, hSet_k, hClr_k, qSet_k, qCls_k])
    ·
      refine pw_iload_n n_100_14 rfl rfl ?_
      refine pw_iconst n_100_15 ic_4 rfl ?_
      refine pw_icmp_gt (q := 32) n_100_16 rfl rfl (fun h3 => ?_) (fun h3 => ?_)
      ·
        refine pw_bipush n_100_32 bc_m5 rfl ?_
        exact pw_ireturn (ty := .int) n_100_34 rfl rfl (by first | (simp [mUnmap, h1, txn, h2, (i32_d h2), h3, (i32_c h3), bI_t, bI_f, nI_add1, gup_k, eSet_k, eClr_k, hSet_k, hClr_k, qSet_k, qCls_k]; done) | contradiction | (split <;> first | rfl | (simp_all; done)) | simp [mUnmap, h1, txn, h2, (i32_d h2), h3, (i32_c h3), bI_t, bI_f, nI_add1, gup_k, eSet_k, eClr_k, hSet_k, hClr_k, qSet_k, qCls_k])
      ·
        have h3b := tN_le (z := h) (k := 4) (by decide) h3
        obtain ⟨hn, hhn, rfl⟩ := nJ_of (k := 4) (by decide) h2 h3
        have thn : tN (nI hn) = hn := nI_clamp (by omega)
        refine pw_aload_n n_100_19 rfl rfl ?_
        refine pw_getf (a := 151) n_100_20 fl_7_28 (by decide) (rdR sh_R_mapped) rfl ?_
        refine pw_iconst n_100_23 ic_5 rfl ?_
        refine pw_iload_n n_100_24 rfl rfl ?_
        refine pw_imul n_100_25 rfl (pw_top (nJ_mul 5 xn) ?_)
        refine pw_iload_n n_100_26 rfl rfl ?_
        refine pw_iadd n_100_27 rfl (pw_top (nJ_add (5 * xn) hn) ?_)
        refine pw_iald (a := cM 6) n_100_28 (nI_pos (by omega)) (nI_clamp (by omega)) (rdM (sh_M_mapped ((5 * xn) + hn) (by omega)) (by decide)) rfl ?_
        refine pw_if_ne (q := 35) n_100_29 rfl rfl (fun h4 => ?_) (fun h4 => ?_)
        ·
          obtain ⟨hm, he, p0, p1⟩ := tkn hn hhn h4
          refine pw_aload_n n_100_35 rfl rfl ?_
          refine pw_iconst n_100_36 ic_5 rfl ?_
          refine pw_iload_n n_100_37 rfl rfl ?_
          refine pw_imul n_100_38 rfl (pw_top (nJ_mul 5 xn) ?_)
          refine pw_iload_n n_100_39 rfl rfl ?_
          refine pw_iadd n_100_40 rfl (pw_top (nJ_add (5 * xn) hn) ?_)
          refine pw_virt0 (a := 151) (as := [.int (nI ((5 * xn) + hn))]) (st := []) n_100_41 cl_7_98 ⟨rfl, rfl, rfl⟩ (sum8 rfl) (E_tg sh_R_state) rfl (w_91 (h := ((5 * xn) + hn)) (e := (mE M ((5 * xn) + hn))) (by omega) (by assumption) (by omega) (by assumption) (by assumption) _) ?_
          refine pw_iconst n_100_44 ic_0 rfl ?_
          exact pw_ireturn (ty := .int) n_100_45 rfl rfl (by first | (simp [mUnmap, h1, txn, h2, (i32_d h2), h3, (i32_d h3), thn, h4, bI_t, bI_f, nI_add1, gup_k, eSet_k, eClr_k, hSet_k, hClr_k, qSet_k, qCls_k]; done) | contradiction | (split <;> first | rfl | (simp_all; done)) | simp [mUnmap, h1, txn, h2, (i32_d h2), h3, (i32_d h3), thn, h4, bI_t, bI_f, nI_add1, gup_k, eSet_k, eClr_k, hSet_k, hClr_k, qSet_k, qCls_k])
        ·
          refine pw_bipush n_100_32 bc_m5 rfl ?_
          exact pw_ireturn (ty := .int) n_100_34 rfl rfl (by first | (simp [mUnmap, h1, txn, h2, (i32_d h2), h3, (i32_d h3), thn, h4, (Classical.not_not.mp h4), bI_t, bI_f, nI_add1, gup_k, eSet_k, eClr_k, hSet_k, hClr_k, qSet_k, qCls_k]; done) | contradiction | (split <;> first | rfl | (simp_all; done)) | simp [mUnmap, h1, txn, h2, (i32_d h2), h3, (i32_d h3), thn, h4, (Classical.not_not.mp h4), bI_t, bI_f, nI_add1, gup_k, eSet_k, eClr_k, hSet_k, hClr_k, qSet_k, qCls_k])
  ·
    refine pw_iconst n_100_8 ic_m1 rfl ?_
    exact pw_ireturn (ty := .int) n_100_9 rfl rfl (by first | (simp [mUnmap, h1, bI_t, bI_f, nI_add1, gup_k, eSet_k, eClr_k, hSet_k, hClr_k, qSet_k, qCls_k]; done) | contradiction | (split <;> first | rfl | (simp_all; done)) | simp [mUnmap, h1, bI_t, bI_f, nI_add1, gup_k, eSet_k, eClr_k, hSet_k, hClr_k, qSet_k, qCls_k])
set_option maxRecDepth 100000 in
set_option maxHeartbeats 4000000 in
theorem L_102_13 {X M : gS} {a : Nat} {p : Int32} {s : Bool} (ha : a < 5) (hok : hOkM M a)  (d : Nat) {r : pm_R} : ∀ (n i : Nat) (c : Bool), i + n = 5 * a + 5 → pw none (d + 1) 102 83 [some (.ref 152), some (.int (nI a)), some (.int p), some (.int (bI s)), some (.int (bI (orb (fun h => decide (0 < M 56 h 0) && decide (M 55 (mE M h) 0 = p) && (!decide (M 57 h 0 = 0) || !s)) n i c))), some (.int (nI (5 * a + 5)))] [] (gE X M) r → pw none (d + 1) 102 13 [some (.ref 152), some (.int (nI a)), some (.int p), some (.int (bI s)), some (.int (bI c)), some (.int (nI i))] [] (gE X M) r := by
  intro n
  induction n with
  | zero =>
    intro i c hi hk
    have hi0 : i = 5 * a + 5 := by omega
    subst hi0
    refine pw_iload n_102_13 rfl rfl ?_
    refine pw_iconst n_102_15 ic_5 rfl ?_
    refine pw_iload_n n_102_16 rfl rfl ?_
    refine pw_imul n_102_17 rfl (pw_top (nJ_mul 5 a) ?_)
    refine pw_iconst n_102_18 ic_5 rfl ?_
    refine pw_iadd n_102_19 rfl (pw_top (nJ_add (5 * a) 5) ?_)
    refine pw_icmp_ge_t (q := 83) n_102_20 rfl (nI_le (a := (5 * a) + 5) (b := 5 * a + 5) (by omega) (by omega)) ?_
    exact hk
  | succ n ih =>
    intro i c hi hk
    refine pw_iload n_102_13 rfl rfl ?_
    refine pw_iconst n_102_15 ic_5 rfl ?_
    refine pw_iload_n n_102_16 rfl rfl ?_
    refine pw_imul n_102_17 rfl (pw_top (nJ_mul 5 a) ?_)
    refine pw_iconst n_102_18 ic_5 rfl ?_
    refine pw_iadd n_102_19 rfl (pw_top (nJ_add (5 * a) 5) ?_)
    refine pw_icmp_ge_f (q := 83) n_102_20 rfl rfl (nI_ge (a := i) (b := (5 * a) + 5) (by omega) (by omega)) ?_
    refine pw_iload n_102_23 rfl rfl ?_
    refine pw_ifb_ne (q := 70) n_102_25 rfl rfl (fun h1 => ?_) (fun h1 => ?_)
    ·
      refine pw_iconst n_102_70 ic_1 rfl ?_
      refine pw_goto (q := 75) n_102_71 rfl ?_
      refine pw_istore (l := [some (.ref 152), some (.int (nI a)), some (.int p), some (.int (bI s)), some (.int 1), some (.int (nI i))]) n_102_75 rfl rfl ?_
      refine pw_iinc (v := nI (i + 1)) (l := [some (.ref 152), some (.int (nI a)), some (.int p), some (.int (bI s)), some (.int 1), some (.int (nI (i + 1)))]) n_102_77 rfl (nI_inc i) rfl rfl ?_
      refine pw_goto (q := 13) n_102_80 rfl ?_
      have e0 : (c || ((fun h => decide (0 < M 56 h 0) && decide (M 55 (mE M h) 0 = p) && (!decide (M 57 h 0 = 0) || !s)) i)) = true := by first | (simp [h1, bI_t, bI_f, nI_add1, gup_k, eSet_k, eClr_k, hSet_k, hClr_k, qSet_k, qCls_k]; done) | contradiction | (split <;> first | rfl | (simp_all; done)) | simp [h1, bI_t, bI_f, nI_add1, gup_k, eSet_k, eClr_k, hSet_k, hClr_k, qSet_k, qCls_k]
      refine ih (i + 1) true (by omega) ?_
      rw [← e0]
      exact hk
    ·
      refine pw_aload_n n_102_28 rfl rfl ?_
      refine pw_getf (a := 151) n_102_29 fl_7_28 (by decide) (rdR sh_R_mapped) rfl ?_
      refine pw_iload n_102_32 rfl rfl ?_
      refine pw_iald (a := cM 6) n_102_34 (nI_pos (by omega)) (nI_clamp (by omega)) (rdM (sh_M_mapped i (by omega)) (by decide)) rfl ?_
      refine pw_if_le (q := 74) n_102_35 rfl rfl (fun h2 => ?_) (fun h2 => ?_)
      ·
        refine pw_iconst n_102_74 ic_0 rfl ?_
        refine pw_istore (l := [some (.ref 152), some (.int (nI a)), some (.int p), some (.int (bI s)), some (.int 0), some (.int (nI i))]) n_102_75 rfl rfl ?_
        refine pw_iinc (v := nI (i + 1)) (l := [some (.ref 152), some (.int (nI a)), some (.int p), some (.int (bI s)), some (.int 0), some (.int (nI (i + 1)))]) n_102_77 rfl (nI_inc i) rfl rfl ?_
        refine pw_goto (q := 13) n_102_80 rfl ?_
        have e0 : (c || ((fun h => decide (0 < M 56 h 0) && decide (M 55 (mE M h) 0 = p) && (!decide (M 57 h 0 = 0) || !s)) i)) = false := by first | (simp [h1, h2, (i32_a h2), bI_t, bI_f, nI_add1, gup_k, eSet_k, eClr_k, hSet_k, hClr_k, qSet_k, qCls_k]; done) | contradiction | (split <;> first | rfl | (simp_all; done)) | simp [h1, h2, (i32_a h2), bI_t, bI_f, nI_add1, gup_k, eSet_k, eClr_k, hSet_k, hClr_k, qSet_k, qCls_k]
        refine ih (i + 1) false (by omega) ?_
        rw [← e0]
        exact hk
      ·
        obtain ⟨hm, he⟩ := hok i (by omega) h2
        refine pw_aload_n n_102_38 rfl rfl ?_
        refine pw_getf (a := 151) n_102_39 fl_7_25 (by decide) (rdR sh_R_entryPage) rfl ?_
        refine pw_aload_n n_102_42 rfl rfl ?_
        refine pw_getf (a := 151) n_102_43 fl_7_28 (by decide) (rdR sh_R_mapped) rfl ?_
        refine pw_iload n_102_46 rfl rfl ?_
        refine pw_iald (a := cM 6) n_102_48 (nI_pos (by omega)) (nI_clamp (by omega)) (rdM (sh_M_mapped i (by omega)) (by decide)) rfl ?_
        refine pw_iconst n_102_49 ic_1 rfl ?_
        refine pw_isub n_102_50 rfl ?_
        refine pw_top (y := nI (mE M i)) (mE_eq hm) ?_
        refine pw_iald (a := cM 5) n_102_51 (nI_pos (by omega)) (nI_clamp (by omega)) (rdM (sh_M_entryPage (mE M i) (by omega)) (by decide)) rfl ?_
        refine pw_iload_n n_102_52 rfl rfl ?_
        refine pw_icmp_ne (q := 74) n_102_53 rfl rfl (fun h3 => ?_) (fun h3 => ?_)
        ·
          refine pw_iconst n_102_74 ic_0 rfl ?_
          refine pw_istore (l := [some (.ref 152), some (.int (nI a)), some (.int p), some (.int (bI s)), some (.int 0), some (.int (nI i))]) n_102_75 rfl rfl ?_
          refine pw_iinc (v := nI (i + 1)) (l := [some (.ref 152), some (.int (nI a)), some (.int p), some (.int (bI s)), some (.int 0), some (.int (nI (i + 1)))]) n_102_77 rfl (nI_inc i) rfl rfl ?_
          refine pw_goto (q := 13) n_102_80 rfl ?_
          have e0 : (c || ((fun h => decide (0 < M 56 h 0) && decide (M 55 (mE M h) 0 = p) && (!decide (M 57 h 0 = 0) || !s)) i)) = false := by first | (simp [h1, h2, (i32_b h2), h3, bI_t, bI_f, nI_add1, gup_k, eSet_k, eClr_k, hSet_k, hClr_k, qSet_k, qCls_k]; done) | contradiction | (split <;> first | rfl | (simp_all; done)) | simp [h1, h2, (i32_b h2), h3, bI_t, bI_f, nI_add1, gup_k, eSet_k, eClr_k, hSet_k, hClr_k, qSet_k, qCls_k]
          refine ih (i + 1) false (by omega) ?_
          rw [← e0]
          exact hk
        ·
          refine pw_aload_n n_102_56 rfl rfl ?_
          refine pw_getf (a := 151) n_102_57 fl_7_31 (by decide) (rdR sh_R_writes) rfl ?_
          refine pw_iload n_102_60 rfl rfl ?_
          refine pw_zald (a := cM 7) n_102_62 (nI_pos (by omega)) (nI_clamp (by omega)) (rdM (sh_M_writes i (by omega)) (by decide)) rfl ?_
          refine pw_if_ne (q := 70) n_102_63 rfl rfl (fun h4 => ?_) (fun h4 => ?_)
          ·
            refine pw_iconst n_102_70 ic_1 rfl ?_
            refine pw_goto (q := 75) n_102_71 rfl ?_
            refine pw_istore (l := [some (.ref 152), some (.int (nI a)), some (.int p), some (.int (bI s)), some (.int 1), some (.int (nI i))]) n_102_75 rfl rfl ?_
            refine pw_iinc (v := nI (i + 1)) (l := [some (.ref 152), some (.int (nI a)), some (.int p), some (.int (bI s)), some (.int 1), some (.int (nI (i + 1)))]) n_102_77 rfl (nI_inc i) rfl rfl ?_
            refine pw_goto (q := 13) n_102_80 rfl ?_
            have e0 : (c || ((fun h => decide (0 < M 56 h 0) && decide (M 55 (mE M h) 0 = p) && (!decide (M 57 h 0 = 0) || !s)) i)) = true := by first | (simp [h1, h2, (i32_b h2), h3, (Classical.not_not.mp h3), h4, bI_t, bI_f, nI_add1, gup_k, eSet_k, eClr_k, hSet_k, hClr_k, qSet_k, qCls_k]; done) | contradiction | (split <;> first | rfl | (simp_all; done)) | simp [h1, h2, (i32_b h2), h3, (Classical.not_not.mp h3), h4, bI_t, bI_f, nI_add1, gup_k, eSet_k, eClr_k, hSet_k, hClr_k, qSet_k, qCls_k]
            refine ih (i + 1) true (by omega) ?_
            rw [← e0]
            exact hk
          ·
            refine pw_iload_n n_102_66 rfl rfl ?_
            refine pw_ifb_ne (q := 74) n_102_67 rfl rfl (fun h5 => ?_) (fun h5 => ?_)
            ·
              refine pw_iconst n_102_74 ic_0 rfl ?_
              refine pw_istore (l := [some (.ref 152), some (.int (nI a)), some (.int p), some (.int (bI s)), some (.int 0), some (.int (nI i))]) n_102_75 rfl rfl ?_
              refine pw_iinc (v := nI (i + 1)) (l := [some (.ref 152), some (.int (nI a)), some (.int p), some (.int (bI s)), some (.int 0), some (.int (nI (i + 1)))]) n_102_77 rfl (nI_inc i) rfl rfl ?_
              refine pw_goto (q := 13) n_102_80 rfl ?_
              have e0 : (c || ((fun h => decide (0 < M 56 h 0) && decide (M 55 (mE M h) 0 = p) && (!decide (M 57 h 0 = 0) || !s)) i)) = false := by first | (simp [h1, h2, (i32_b h2), h3, (Classical.not_not.mp h3), h4, (Classical.not_not.mp h4), h5, bI_t, bI_f, nI_add1, gup_k, eSet_k, eClr_k, hSet_k, hClr_k, qSet_k, qCls_k]; done) | contradiction | (split <;> first | rfl | (simp_all; done)) | simp [h1, h2, (i32_b h2), h3, (Classical.not_not.mp h3), h4, (Classical.not_not.mp h4), h5, bI_t, bI_f, nI_add1, gup_k, eSet_k, eClr_k, hSet_k, hClr_k, qSet_k, qCls_k]
              refine ih (i + 1) false (by omega) ?_
              rw [← e0]
              exact hk
            ·
              refine pw_iconst n_102_70 ic_1 rfl ?_
              refine pw_goto (q := 75) n_102_71 rfl ?_
              refine pw_istore (l := [some (.ref 152), some (.int (nI a)), some (.int p), some (.int (bI s)), some (.int 1), some (.int (nI i))]) n_102_75 rfl rfl ?_
              refine pw_iinc (v := nI (i + 1)) (l := [some (.ref 152), some (.int (nI a)), some (.int p), some (.int (bI s)), some (.int 1), some (.int (nI (i + 1)))]) n_102_77 rfl (nI_inc i) rfl rfl ?_
              refine pw_goto (q := 13) n_102_80 rfl ?_
              have e0 : (c || ((fun h => decide (0 < M 56 h 0) && decide (M 55 (mE M h) 0 = p) && (!decide (M 57 h 0 = 0) || !s)) i)) = true := by first | (simp [h1, h2, (i32_b h2), h3, (Classical.not_not.mp h3), h4, (Classical.not_not.mp h4), h5, bI_t, bI_f, nI_add1, gup_k, eSet_k, eClr_k, hSet_k, hClr_k, qSet_k, qCls_k]; done) | contradiction | (split <;> first | rfl | (simp_all; done)) | simp [h1, h2, (i32_b h2), h3, (Classical.not_not.mp h3), h4, (Classical.not_not.mp h4), h5, bI_t, bI_f, nI_add1, gup_k, eSet_k, eClr_k, hSet_k, hClr_k, qSet_k, qCls_k]
              refine ih (i + 1) true (by omega) ?_
              rw [← e0]
              exact hk
set_option maxRecDepth 100000 in
set_option maxHeartbeats 4000000 in
theorem w_102 {X M : gS} {a : Nat} {p : Int32} {s : Bool} (ha : a < 5) (hok : hOkM M a) (d : Nat) : pm_Call (d + 2) 102 [.ref 152, .int (nI a), .int p, .int (bI s)] (gE X M) (some (.int (bI (mMay M a p s))), gE X M) := by
  refine pw_start (d := d + 1) (l := [some (.ref 152), some (.int (nI a)), some (.int p), some (.int (bI s)), none, none]) (Nat.le_of_ble_eq_true rfl) rfl ?_
  refine pw_aload_n n_102_0 rfl rfl ?_
  refine pw_iload_n n_102_1 rfl rfl ?_
  refine pw_iload_n n_102_2 rfl rfl ?_
  refine pw_virtV (a := 151) (as := [.int (nI a), .int p]) (st := []) n_102_3 cl_7_105 ⟨rfl, rfl, rfl⟩ (sum8 rfl) (E_tg sh_R_state) rfl (w_82 (x := (nI a)) (p := p) _) ?_
  refine pw_istore (l := [some (.ref 152), some (.int (nI a)), some (.int p), some (.int (bI s)), some (.int (bI (mOwns M (nI a) p))), none]) n_102_6 rfl rfl ?_
  refine pw_iconst n_102_8 ic_5 rfl ?_
  refine pw_iload_n n_102_9 rfl rfl ?_
  refine pw_imul n_102_10 rfl (pw_top (nJ_mul 5 a) ?_)
  refine pw_istore (l := [some (.ref 152), some (.int (nI a)), some (.int p), some (.int (bI s)), some (.int (bI (mOwns M (nI a) p))), some (.int (nI (5 * a)))]) n_102_11 rfl rfl ?_
  refine L_102_13 (X := X) (M := M) ha hok _ 5 (5 * a) (mOwns M (nI a) p) (by omega) ?_
  refine pw_iload n_102_83 rfl rfl ?_
  exact pw_ireturn (ty := .boolean) n_102_85 rfl (bI_nar _) (by first | (simp [mMay, bI_t, bI_f, nI_add1, gup_k, eSet_k, eClr_k, hSet_k, hClr_k, qSet_k, qCls_k]; done) | contradiction | (split <;> first | rfl | (simp_all; done)) | simp [mMay, bI_t, bI_f, nI_add1, gup_k, eSet_k, eClr_k, hSet_k, hClr_k, qSet_k, qCls_k])
set_option maxRecDepth 100000 in
set_option maxHeartbeats 4000000 in
theorem w_103 {X M : gS} {x : Int32} {p : Int32} {w : Int32} {s : Bool} (hok0 : mLive M x = true → hOkM M (tN x)) (d : Nat) : pm_Call (d + 3) 103 [.ref 152, .int x, .int p, .int w, .int (bI s)] (gE X M) (some (.int (mRef M x p w s)), gE X M) := by
  refine pw_start (d := d + 2) (l := [some (.ref 152), some (.int x), some (.int p), some (.int w), some (.int (bI s))]) (Nat.le_of_ble_eq_true rfl) rfl ?_
  refine pw_aload_n n_103_0 rfl rfl ?_
  refine pw_iload_n n_103_1 rfl rfl ?_
  refine pw_virtV (a := 151) (as := [.int x]) (st := []) n_103_2 cl_7_94 ⟨rfl, rfl, rfl⟩ (sum8 rfl) (E_tg sh_R_state) rfl (w_81 (x := x) _) ?_
  refine pw_ifb_ne (q := 10) n_103_5 rfl rfl (fun h1 => ?_) (fun h1 => ?_)
  ·
    obtain ⟨xn, hxn, rfl⟩ := live_nI h1
    have txn : tN (nI xn) = xn := nI_clamp (by omega)
    have hokn := hok0 h1
    rw [txn] at hokn
    refine pw_iload_n n_103_10 rfl rfl ?_
    refine pw_if_lt (q := 30) n_103_11 rfl rfl (fun h2 => ?_) (fun h2 => ?_)
    ·
      refine pw_bipush n_103_30 bc_m2 rfl ?_
      exact pw_ireturn (ty := .int) n_103_32 rfl rfl (by first | (simp [mRef, h1, txn, h2, (i32_c h2), bI_t, bI_f, nI_add1, gup_k, eSet_k, eClr_k, hSet_k, hClr_k, qSet_k, qCls_k]; done) | contradiction | (split <;> first | rfl | (simp_all; done)) | simp [mRef, h1, txn, h2, (i32_c h2), bI_t, bI_f, nI_add1, gup_k, eSet_k, eClr_k, hSet_k, hClr_k, qSet_k, qCls_k])
    ·
      refine pw_iload_n n_103_14 rfl rfl ?_
      refine pw_bipush n_103_15 bc_19 rfl ?_
      refine pw_icmp_gt (q := 30) n_103_17 rfl rfl (fun h3 => ?_) (fun h3 => ?_)
      ·
        refine pw_bipush n_103_30 bc_m2 rfl ?_
        exact pw_ireturn (ty := .int) n_103_32 rfl rfl (by first | (simp [mRef, h1, txn, h2, (i32_d h2), h3, (i32_c h3), bI_t, bI_f, nI_add1, gup_k, eSet_k, eClr_k, hSet_k, hClr_k, qSet_k, qCls_k]; done) | contradiction | (split <;> first | rfl | (simp_all; done)) | simp [mRef, h1, txn, h2, (i32_d h2), h3, (i32_c h3), bI_t, bI_f, nI_add1, gup_k, eSet_k, eClr_k, hSet_k, hClr_k, qSet_k, qCls_k])
      ·
        have h3b := tN_le (z := p) (k := 19) (by decide) h3
        obtain ⟨pn, hpn, rfl⟩ := nJ_of (k := 19) (by decide) h2 h3
        have tpn : tN (nI pn) = pn := nI_clamp (by omega)
        refine pw_iload_n n_103_20 rfl rfl ?_
        refine pw_if_lt (q := 30) n_103_21 rfl rfl (fun h4 => ?_) (fun h4 => ?_)
        ·
          refine pw_bipush n_103_30 bc_m2 rfl ?_
          exact pw_ireturn (ty := .int) n_103_32 rfl rfl (by first | (simp [mRef, h1, txn, h2, (i32_d h2), h3, (i32_d h3), tpn, h4, (i32_c h4), bI_t, bI_f, nI_add1, gup_k, eSet_k, eClr_k, hSet_k, hClr_k, qSet_k, qCls_k]; done) | contradiction | (split <;> first | rfl | (simp_all; done)) | simp [mRef, h1, txn, h2, (i32_d h2), h3, (i32_d h3), tpn, h4, (i32_c h4), bI_t, bI_f, nI_add1, gup_k, eSet_k, eClr_k, hSet_k, hClr_k, qSet_k, qCls_k])
        ·
          refine pw_iload_n n_103_24 rfl rfl ?_
          refine pw_bipush n_103_25 bc_7 rfl ?_
          refine pw_icmp_le (q := 33) n_103_27 rfl rfl (fun h5 => ?_) (fun h5 => ?_)
          ·
            have h5b := tN_le2 (z := w) (k := 7) (by decide) h5
            obtain ⟨wn, hwn, rfl⟩ := nJ_of (k := 7) (by decide) h4 (le_nlt h5)
            have twn : tN (nI wn) = wn := nI_clamp (by omega)
            refine pw_aload_n n_103_33 rfl rfl ?_
            refine pw_iload_n n_103_34 rfl rfl ?_
            refine pw_iload_n n_103_35 rfl rfl ?_
            refine pw_iload n_103_36 rfl rfl ?_
            refine pw_virtV (a := 151) (as := [.int (nI xn), .int (nI pn), .int (bI s)]) (st := []) n_103_38 cl_7_123 ⟨rfl, rfl, rfl⟩ (sum8 rfl) (E_tg sh_R_state) rfl (w_102 (a := xn) (p := (nI pn)) (s := s) (by omega) (by assumption) _) ?_
            refine pw_ifb_eq (q := 48) n_103_41 rfl rfl (fun h6 => ?_) (fun h6 => ?_)
            ·
              refine pw_bipush n_103_48 bc_m3 rfl ?_
              exact pw_ireturn (ty := .int) n_103_50 rfl rfl (by first | (simp [mRef, h1, txn, h2, (i32_d h2), h3, (i32_d h3), tpn, h4, (i32_d h4), h5, (i32_a h5), twn, h6, bI_t, bI_f, nI_add1, gup_k, eSet_k, eClr_k, hSet_k, hClr_k, qSet_k, qCls_k]; done) | contradiction | (split <;> first | rfl | (simp_all; done)) | simp [mRef, h1, txn, h2, (i32_d h2), h3, (i32_d h3), tpn, h4, (i32_d h4), h5, (i32_a h5), twn, h6, bI_t, bI_f, nI_add1, gup_k, eSet_k, eClr_k, hSet_k, hClr_k, qSet_k, qCls_k])
            ·
              refine pw_iconst n_103_44 ic_0 rfl ?_
              refine pw_goto (q := 50) n_103_45 rfl ?_
              exact pw_ireturn (ty := .int) n_103_50 rfl rfl (by first | (simp [mRef, h1, txn, h2, (i32_d h2), h3, (i32_d h3), tpn, h4, (i32_d h4), h5, (i32_a h5), twn, h6, bI_t, bI_f, nI_add1, gup_k, eSet_k, eClr_k, hSet_k, hClr_k, qSet_k, qCls_k]; done) | contradiction | (split <;> first | rfl | (simp_all; done)) | simp [mRef, h1, txn, h2, (i32_d h2), h3, (i32_d h3), tpn, h4, (i32_d h4), h5, (i32_a h5), twn, h6, bI_t, bI_f, nI_add1, gup_k, eSet_k, eClr_k, hSet_k, hClr_k, qSet_k, qCls_k])
          ·
            refine pw_bipush n_103_30 bc_m2 rfl ?_
            exact pw_ireturn (ty := .int) n_103_32 rfl rfl (by first | (simp [mRef, h1, txn, h2, (i32_d h2), h3, (i32_d h3), tpn, h4, (i32_d h4), h5, (i32_b h5), bI_t, bI_f, nI_add1, gup_k, eSet_k, eClr_k, hSet_k, hClr_k, qSet_k, qCls_k]; done) | contradiction | (split <;> first | rfl | (simp_all; done)) | simp [mRef, h1, txn, h2, (i32_d h2), h3, (i32_d h3), tpn, h4, (i32_d h4), h5, (i32_b h5), bI_t, bI_f, nI_add1, gup_k, eSet_k, eClr_k, hSet_k, hClr_k, qSet_k, qCls_k])
  ·
    refine pw_iconst n_103_8 ic_m1 rfl ?_
    exact pw_ireturn (ty := .int) n_103_9 rfl rfl (by first | (simp [mRef, h1, bI_t, bI_f, nI_add1, gup_k, eSet_k, eClr_k, hSet_k, hClr_k, qSet_k, qCls_k]; done) | contradiction | (split <;> first | rfl | (simp_all; done)) | simp [mRef, h1, bI_t, bI_f, nI_add1, gup_k, eSet_k, eClr_k, hSet_k, hClr_k, qSet_k, qCls_k])
