theorem pw_scr {L : Nat} {f : Nat → Int32} {j d mid pc q : Nat} {ls : pm_L} {st : List Value} {Q : pm_H} {r : pm_R} (hd : pm_ins mid pc = some (.iaload, 1)) (hj : j < L) (hL : L ≤ 2560) (hq : pc + 1 = q) (k : pw (some (L, f)) d mid q ls (.int (f j) :: st) Q r) : pw (some (L, f)) d mid pc ls (.int (nI j) :: .ref 0 :: st) Q r := by
  have e : (nI j).toNatClampNeg = j := nI_clamp (by omega)
  refine pw_salod hd ?_ hq ?_
  · rw [e]
    exact fun h => h.elim (nI_pos (by omega)) (fun h => by omega)
  · rw [e]
    exact k
theorem lw_cont {L i : Nat} (hL : L ≤ 2560) (h : i + 5 ≤ L) : ¬ Int32.ofNat L - 5 < nI i := by
  have e : Int32.ofNat L - 5 = nI (L - 5) := by
    have h1 : nI (L - 5) + nI 5 = nI L := by rw [nJ_add]; congr 1; omega
    show nI L - nI 5 = nI (L - 5)
    rw [← h1, Int32.add_sub_cancel]
  rw [e]
  exact nI_nlt (by omega) (by omega)
theorem lw_stop {L i : Nat} (hL : L ≤ 2560) (hi : i ≤ L) (h : ¬ i + 5 ≤ L) : Int32.ofNat L - 5 < nI i := by
  rw [Int32.lt_iff_toInt_lt, nI_toInt (by omega)]
  have e : (Int32.ofNat L - 5).toInt = (L : Int) - 5 := by
    rw [Int32.toInt_sub]
    have h1 : (Int32.ofNat L).toInt = (L : Int) := nI_toInt (by omega)
    rw [h1]
    show ((L : Int) - 5).bmod (2 ^ 32) = (L : Int) - 5
    rw [Int.bmod_eq_of_le (by omega) (by omega)]
  rw [e]
  omega
theorem nJ_inc5 (i : Nat) : nI i + Int32.ofInt 5 = nI (i + 5) := nJ_add i 5
set_option maxRecDepth 100000 in
set_option maxHeartbeats 4000000 in
theorem lawc_0 {X M : gS} {L i : Nat} {f : Nat → Int32} {r : pm_R} (hL : L ≤ 2560) (hi : i + 5 ≤ L) (hz : f i &&& 31 = 0) (heq : (xCreate X).1 = (mCreate M).1) (hk : pw (some (L, f)) 8 119 18 [some (.ref 0), some (.ref 1), some (.ref 152), some (.int (nI (i + 5)))] [] (gE ((xCreate X).2) ((mCreate M).2)) r) : pw (some (L, f)) 8 119 18 [some (.ref 0), some (.ref 1), some (.ref 152), some (.int (nI i))] [] (gE X M) r := by
  refine pw_iload_n n_119_18 rfl rfl ?_
  refine pw_aload_n n_119_19 rfl rfl ?_
  refine pw_salen n_119_20 rfl ?_
  refine pw_iconst n_119_21 ic_5 rfl ?_
  refine pw_isub n_119_22 rfl ?_
  refine pw_icmp_gt_f (q := 889) n_119_23 rfl rfl (lw_cont hL (by omega)) ?_
  refine pw_aload_n n_119_26 rfl rfl ?_
  refine pw_iload_n n_119_27 rfl rfl ?_
  refine pw_scr n_119_28 (by omega) hL rfl ?_
  refine pw_bipush n_119_29 bc_31 rfl ?_
  refine pw_iand n_119_31 rfl ?_
  refine pw_top (y := 0) hz ?_
  refine pw_tableIn (q := 128) n_119_32 (by decide) rfl rfl ?_
  refine pw_aload_n n_119_128 rfl rfl ?_
  refine pw_virtV (a := 0) (as := []) (st := []) n_119_129 cl_8_13 ⟨rfl, rfl, rfl⟩ (sum8 rfl) (E_tg sh_G_domains) rfl (w_1  _) ?_
  refine pw_aload_n n_119_132 rfl rfl ?_
  refine pw_virtV (a := 151) (as := []) (st := [.int ((xCreate X).1)]) n_119_133 cl_8_17 ⟨rfl, rfl, rfl⟩ (sum8 rfl) (E_tg sh_R_state) rfl (w_90  _) ?_
  refine pw_icmp_eq_t (q := 883) n_119_136 rfl heq ?_
  refine pw_iinc (v := nI (i + 5)) (l := [some (.ref 0), some (.ref 1), some (.ref 152), some (.int (nI (i + 5)))]) n_119_883 rfl (nJ_inc5 i) rfl rfl ?_
  refine pw_goto (q := 18) n_119_886 rfl ?_
  exact hk
set_option maxRecDepth 100000 in
set_option maxHeartbeats 4000000 in
theorem lawc_1 {X M : gS} {L i : Nat} {f : Nat → Int32} {r : pm_R} (hL : L ≤ 2560) (hi : i + 5 ≤ L) (hz : f i &&& 31 = 1) (xhokA : xLive X (f (i + 1)) = true → lpOk (fun h Y => if Y 7 (tN (f (i + 1))) h = -1 then Y else xTk Y (tN (f (i + 1))) h) (tkOk (tN (f (i + 1)))) 5 0 (xRmD X (f (i + 1)))) (xhokB : xLive X (f (i + 1)) = true → lpOk (fun k Y => qCls (xClQ1 Y (tN (f (i + 1))) k) (tN (f (i + 1))) k) (pqOk (tN (f (i + 1)))) 4 0 (xTkA (xRmD X (f (i + 1))) (tN (f (i + 1))))) (mhk2 : mLive M (f (i + 1)) = true → lpOk (fun h Z => if 0 < Z 56 h 0 then mTk Z h (mE Z h) else Z) mtOk 5 (5 * tN (f (i + 1))) (mDe1 M (tN (f (i + 1))))) (mhk3 : mLive M (f (i + 1)) = true → lpOk (fun k Z => mCls (mCl1 Z k) k) mpOk 4 (4 * tN (f (i + 1))) (mDe2 (mDe1 M (tN (f (i + 1)))) (tN (f (i + 1))))) (heq : (xDestroy X (f (i + 1))).1 = (mDestroy M (f (i + 1))).1) (hk : pw (some (L, f)) 8 119 18 [some (.ref 0), some (.ref 1), some (.ref 152), some (.int (nI (i + 5)))] [] (gE ((xDestroy X (f (i + 1))).2) ((mDestroy M (f (i + 1))).2)) r) : pw (some (L, f)) 8 119 18 [some (.ref 0), some (.ref 1), some (.ref 152), some (.int (nI i))] [] (gE X M) r := by
  refine pw_iload_n n_119_18 rfl rfl ?_
  refine pw_aload_n n_119_19 rfl rfl ?_
  refine pw_salen n_119_20 rfl ?_
  refine pw_iconst n_119_21 ic_5 rfl ?_
  refine pw_isub n_119_22 rfl ?_
  refine pw_icmp_gt_f (q := 889) n_119_23 rfl rfl (lw_cont hL (by omega)) ?_
  refine pw_aload_n n_119_26 rfl rfl ?_
  refine pw_iload_n n_119_27 rfl rfl ?_
  refine pw_scr n_119_28 (by omega) hL rfl ?_
  refine pw_bipush n_119_29 bc_31 rfl ?_
  refine pw_iand n_119_31 rfl ?_
  refine pw_top (y := 1) hz ?_
  refine pw_tableIn (q := 141) n_119_32 (by decide) rfl rfl ?_
  refine pw_aload_n n_119_141 rfl rfl ?_
  refine pw_aload_n n_119_142 rfl rfl ?_
  refine pw_iload_n n_119_143 rfl rfl ?_
  refine pw_iconst n_119_144 ic_1 rfl ?_
  refine pw_iadd n_119_145 rfl (pw_top (nJ_add i 1) ?_)
  refine pw_scr n_119_146 (by omega) hL rfl ?_
  refine pw_virtV (a := 0) (as := [.int (f (i + 1))]) (st := []) n_119_147 cl_8_18 ⟨rfl, rfl, rfl⟩ (sum8 rfl) (E_tg sh_G_domains) rfl (w_2 (x := (f (i + 1))) xhokA xhokB _) ?_
  refine pw_aload_n n_119_150 rfl rfl ?_
  refine pw_aload_n n_119_151 rfl rfl ?_
  refine pw_iload_n n_119_152 rfl rfl ?_
  refine pw_iconst n_119_153 ic_1 rfl ?_
  refine pw_iadd n_119_154 rfl (pw_top (nJ_add i 1) ?_)
  refine pw_scr n_119_155 (by omega) hL rfl ?_
  refine pw_virtV (a := 151) (as := [.int (f (i + 1))]) (st := [.int ((xDestroy X (f (i + 1))).1)]) n_119_156 cl_8_22 ⟨rfl, rfl, rfl⟩ (sum8 rfl) (E_tg sh_R_state) rfl (w_93 (x := (f (i + 1))) mhk2 mhk3 _) ?_
  refine pw_icmp_eq_t (q := 883) n_119_159 rfl heq ?_
  refine pw_iinc (v := nI (i + 5)) (l := [some (.ref 0), some (.ref 1), some (.ref 152), some (.int (nI (i + 5)))]) n_119_883 rfl (nJ_inc5 i) rfl rfl ?_
  refine pw_goto (q := 18) n_119_886 rfl ?_
  exact hk
set_option maxRecDepth 100000 in
set_option maxHeartbeats 4000000 in
theorem lawc_2 {X M : gS} {L i : Nat} {f : Nat → Int32} {r : pm_R} (hL : L ≤ 2560) (hi : i + 5 ≤ L) (hz : f i &&& 31 = 2) (heq : (xAlloc X (f (i + 1))).1 = (mAlloc M (f (i + 1))).1) (hk : pw (some (L, f)) 8 119 18 [some (.ref 0), some (.ref 1), some (.ref 152), some (.int (nI (i + 5)))] [] (gE ((xAlloc X (f (i + 1))).2) ((mAlloc M (f (i + 1))).2)) r) : pw (some (L, f)) 8 119 18 [some (.ref 0), some (.ref 1), some (.ref 152), some (.int (nI i))] [] (gE X M) r := by
  refine pw_iload_n n_119_18 rfl rfl ?_
  refine pw_aload_n n_119_19 rfl rfl ?_
  refine pw_salen n_119_20 rfl ?_
  refine pw_iconst n_119_21 ic_5 rfl ?_
  refine pw_isub n_119_22 rfl ?_
  refine pw_icmp_gt_f (q := 889) n_119_23 rfl rfl (lw_cont hL (by omega)) ?_
  refine pw_aload_n n_119_26 rfl rfl ?_
  refine pw_iload_n n_119_27 rfl rfl ?_
  refine pw_scr n_119_28 (by omega) hL rfl ?_
  refine pw_bipush n_119_29 bc_31 rfl ?_
  refine pw_iand n_119_31 rfl ?_
  refine pw_top (y := 2) hz ?_
  refine pw_tableIn (q := 164) n_119_32 (by decide) rfl rfl ?_
  refine pw_aload_n n_119_164 rfl rfl ?_
  refine pw_aload_n n_119_165 rfl rfl ?_
  refine pw_iload_n n_119_166 rfl rfl ?_
  refine pw_iconst n_119_167 ic_1 rfl ?_
  refine pw_iadd n_119_168 rfl (pw_top (nJ_add i 1) ?_)
  refine pw_scr n_119_169 (by omega) hL rfl ?_
  refine pw_virtV (a := 0) (as := [.int (f (i + 1))]) (st := []) n_119_170 cl_8_23 ⟨rfl, rfl, rfl⟩ (sum8 rfl) (E_tg sh_G_domains) rfl (w_3 (x := (f (i + 1))) _) ?_
  refine pw_aload_n n_119_173 rfl rfl ?_
  refine pw_aload_n n_119_174 rfl rfl ?_
  refine pw_iload_n n_119_175 rfl rfl ?_
  refine pw_iconst n_119_176 ic_1 rfl ?_
  refine pw_iadd n_119_177 rfl (pw_top (nJ_add i 1) ?_)
  refine pw_scr n_119_178 (by omega) hL rfl ?_
  refine pw_virtV (a := 151) (as := [.int (f (i + 1))]) (st := [.int ((xAlloc X (f (i + 1))).1)]) n_119_179 cl_8_26 ⟨rfl, rfl, rfl⟩ (sum8 rfl) (E_tg sh_R_state) rfl (w_94 (x := (f (i + 1))) _) ?_
  refine pw_icmp_eq_t (q := 883) n_119_182 rfl heq ?_
  refine pw_iinc (v := nI (i + 5)) (l := [some (.ref 0), some (.ref 1), some (.ref 152), some (.int (nI (i + 5)))]) n_119_883 rfl (nJ_inc5 i) rfl rfl ?_
  refine pw_goto (q := 18) n_119_886 rfl ?_
  exact hk
set_option maxRecDepth 100000 in
set_option maxHeartbeats 4000000 in
theorem lawc_3 {X M : gS} {L i : Nat} {f : Nat → Int32} {r : pm_R} (hL : L ≤ 2560) (hi : i + 5 ≤ L) (hz : f i &&& 31 = 3) (heq : (xFree X (f (i + 1)) (f (i + 2))).1 = (mFree M (f (i + 1)) (f (i + 2))).1) (hk : pw (some (L, f)) 8 119 18 [some (.ref 0), some (.ref 1), some (.ref 152), some (.int (nI (i + 5)))] [] (gE ((xFree X (f (i + 1)) (f (i + 2))).2) ((mFree M (f (i + 1)) (f (i + 2))).2)) r) : pw (some (L, f)) 8 119 18 [some (.ref 0), some (.ref 1), some (.ref 152), some (.int (nI i))] [] (gE X M) r := by
  refine pw_iload_n n_119_18 rfl rfl ?_
  refine pw_aload_n n_119_19 rfl rfl ?_
  refine pw_salen n_119_20 rfl ?_
  refine pw_iconst n_119_21 ic_5 rfl ?_
  refine pw_isub n_119_22 rfl ?_
  refine pw_icmp_gt_f (q := 889) n_119_23 rfl rfl (lw_cont hL (by omega)) ?_
  refine pw_aload_n n_119_26 rfl rfl ?_
  refine pw_iload_n n_119_27 rfl rfl ?_
  refine pw_scr n_119_28 (by omega) hL rfl ?_
  refine pw_bipush n_119_29 bc_31 rfl ?_
  refine pw_iand n_119_31 rfl ?_
  refine pw_top (y := 3) hz ?_
  refine pw_tableIn (q := 187) n_119_32 (by decide) rfl rfl ?_
  refine pw_aload_n n_119_187 rfl rfl ?_
  refine pw_aload_n n_119_188 rfl rfl ?_
  refine pw_iload_n n_119_189 rfl rfl ?_
  refine pw_iconst n_119_190 ic_1 rfl ?_
  refine pw_iadd n_119_191 rfl (pw_top (nJ_add i 1) ?_)
  refine pw_scr n_119_192 (by omega) hL rfl ?_
  refine pw_aload_n n_119_193 rfl rfl ?_
  refine pw_iload_n n_119_194 rfl rfl ?_
  refine pw_iconst n_119_195 ic_2 rfl ?_
  refine pw_iadd n_119_196 rfl (pw_top (nJ_add i 2) ?_)
  refine pw_scr n_119_197 (by omega) hL rfl ?_
  refine pw_virtV (a := 0) (as := [.int (f (i + 1)), .int (f (i + 2))]) (st := []) n_119_198 cl_8_27 ⟨rfl, rfl, rfl⟩ (sum8 rfl) (E_tg sh_G_domains) rfl (w_4 (x := (f (i + 1))) (p := (f (i + 2))) _) ?_
  refine pw_aload_n n_119_201 rfl rfl ?_
  refine pw_aload_n n_119_202 rfl rfl ?_
  refine pw_iload_n n_119_203 rfl rfl ?_
  refine pw_iconst n_119_204 ic_1 rfl ?_
  refine pw_iadd n_119_205 rfl (pw_top (nJ_add i 1) ?_)
  refine pw_scr n_119_206 (by omega) hL rfl ?_
  refine pw_aload_n n_119_207 rfl rfl ?_
  refine pw_iload_n n_119_208 rfl rfl ?_
  refine pw_iconst n_119_209 ic_2 rfl ?_
  refine pw_iadd n_119_210 rfl (pw_top (nJ_add i 2) ?_)
  refine pw_scr n_119_211 (by omega) hL rfl ?_
  refine pw_virtV (a := 151) (as := [.int (f (i + 1)), .int (f (i + 2))]) (st := [.int ((xFree X (f (i + 1)) (f (i + 2))).1)]) n_119_212 cl_8_31 ⟨rfl, rfl, rfl⟩ (sum8 rfl) (E_tg sh_R_state) rfl (w_95 (x := (f (i + 1))) (p := (f (i + 2))) _) ?_
  refine pw_icmp_eq_t (q := 883) n_119_215 rfl heq ?_
  refine pw_iinc (v := nI (i + 5)) (l := [some (.ref 0), some (.ref 1), some (.ref 152), some (.int (nI (i + 5)))]) n_119_883 rfl (nJ_inc5 i) rfl rfl ?_
  refine pw_goto (q := 18) n_119_886 rfl ?_
  exact hk
set_option maxRecDepth 100000 in
set_option maxHeartbeats 4000000 in
theorem lawc_4 {X M : gS} {L i : Nat} {f : Nat → Int32} {r : pm_R} (hL : L ≤ 2560) (hi : i + 5 ≤ L) (hz : f i &&& 31 = 4) (heq : (xGrant X (f (i + 1)) (f (i + 2)) (f (i + 3)) (f (i + 4))).1 = (mGrant M (f (i + 1)) (f (i + 2)) (f (i + 3)) (f (i + 4))).1) (hk : pw (some (L, f)) 8 119 18 [some (.ref 0), some (.ref 1), some (.ref 152), some (.int (nI (i + 5)))] [] (gE ((xGrant X (f (i + 1)) (f (i + 2)) (f (i + 3)) (f (i + 4))).2) ((mGrant M (f (i + 1)) (f (i + 2)) (f (i + 3)) (f (i + 4))).2)) r) : pw (some (L, f)) 8 119 18 [some (.ref 0), some (.ref 1), some (.ref 152), some (.int (nI i))] [] (gE X M) r := by
  refine pw_iload_n n_119_18 rfl rfl ?_
  refine pw_aload_n n_119_19 rfl rfl ?_
  refine pw_salen n_119_20 rfl ?_
  refine pw_iconst n_119_21 ic_5 rfl ?_
  refine pw_isub n_119_22 rfl ?_
  refine pw_icmp_gt_f (q := 889) n_119_23 rfl rfl (lw_cont hL (by omega)) ?_
  refine pw_aload_n n_119_26 rfl rfl ?_
  refine pw_iload_n n_119_27 rfl rfl ?_
  refine pw_scr n_119_28 (by omega) hL rfl ?_
  refine pw_bipush n_119_29 bc_31 rfl ?_
  refine pw_iand n_119_31 rfl ?_
  refine pw_top (y := 4) hz ?_
  refine pw_tableIn (q := 220) n_119_32 (by decide) rfl rfl ?_
  refine pw_aload_n n_119_220 rfl rfl ?_
  refine pw_aload_n n_119_221 rfl rfl ?_
  refine pw_iload_n n_119_222 rfl rfl ?_
  refine pw_iconst n_119_223 ic_1 rfl ?_
  refine pw_iadd n_119_224 rfl (pw_top (nJ_add i 1) ?_)
  refine pw_scr n_119_225 (by omega) hL rfl ?_
  refine pw_aload_n n_119_226 rfl rfl ?_
  refine pw_iload_n n_119_227 rfl rfl ?_
  refine pw_iconst n_119_228 ic_2 rfl ?_
  refine pw_iadd n_119_229 rfl (pw_top (nJ_add i 2) ?_)
  refine pw_scr n_119_230 (by omega) hL rfl ?_
  refine pw_aload_n n_119_231 rfl rfl ?_
  refine pw_iload_n n_119_232 rfl rfl ?_
  refine pw_iconst n_119_233 ic_3 rfl ?_
  refine pw_iadd n_119_234 rfl (pw_top (nJ_add i 3) ?_)
  refine pw_scr n_119_235 (by omega) hL rfl ?_
  refine pw_aload_n n_119_236 rfl rfl ?_
  refine pw_iload_n n_119_237 rfl rfl ?_
  refine pw_iconst n_119_238 ic_4 rfl ?_
  refine pw_iadd n_119_239 rfl (pw_top (nJ_add i 4) ?_)
  refine pw_scr n_119_240 (by omega) hL rfl ?_
  refine pw_virtV (a := 0) (as := [.int (f (i + 1)), .int (f (i + 2)), .int (f (i + 3)), .int (f (i + 4))]) (st := []) n_119_241 cl_8_32 ⟨rfl, rfl, rfl⟩ (sum8 rfl) (E_tg sh_G_domains) rfl (w_5 (x := (f (i + 1))) (t := (f (i + 2))) (p := (f (i + 3))) (k := (f (i + 4))) _) ?_
  refine pw_aload_n n_119_244 rfl rfl ?_
  refine pw_aload_n n_119_245 rfl rfl ?_
  refine pw_iload_n n_119_246 rfl rfl ?_
  refine pw_iconst n_119_247 ic_1 rfl ?_
  refine pw_iadd n_119_248 rfl (pw_top (nJ_add i 1) ?_)
  refine pw_scr n_119_249 (by omega) hL rfl ?_
  refine pw_aload_n n_119_250 rfl rfl ?_
  refine pw_iload_n n_119_251 rfl rfl ?_
  refine pw_iconst n_119_252 ic_2 rfl ?_
  refine pw_iadd n_119_253 rfl (pw_top (nJ_add i 2) ?_)
  refine pw_scr n_119_254 (by omega) hL rfl ?_
  refine pw_aload_n n_119_255 rfl rfl ?_
  refine pw_iload_n n_119_256 rfl rfl ?_
  refine pw_iconst n_119_257 ic_3 rfl ?_
  refine pw_iadd n_119_258 rfl (pw_top (nJ_add i 3) ?_)
  refine pw_scr n_119_259 (by omega) hL rfl ?_
  refine pw_aload_n n_119_260 rfl rfl ?_
  refine pw_iload_n n_119_261 rfl rfl ?_
  refine pw_iconst n_119_262 ic_4 rfl ?_
  refine pw_iadd n_119_263 rfl (pw_top (nJ_add i 4) ?_)
  refine pw_scr n_119_264 (by omega) hL rfl ?_
  refine pw_virtV (a := 151) (as := [.int (f (i + 1)), .int (f (i + 2)), .int (f (i + 3)), .int (f (i + 4))]) (st := [.int ((xGrant X (f (i + 1)) (f (i + 2)) (f (i + 3)) (f (i + 4))).1)]) n_119_265 cl_8_36 ⟨rfl, rfl, rfl⟩ (sum8 rfl) (E_tg sh_R_state) rfl (w_96 (x := (f (i + 1))) (t := (f (i + 2))) (p := (f (i + 3))) (k := (f (i + 4))) _) ?_
  refine pw_icmp_eq_t (q := 883) n_119_268 rfl heq ?_
  refine pw_iinc (v := nI (i + 5)) (l := [some (.ref 0), some (.ref 1), some (.ref 152), some (.int (nI (i + 5)))]) n_119_883 rfl (nJ_inc5 i) rfl rfl ?_
  refine pw_goto (q := 18) n_119_886 rfl ?_
  exact hk
set_option maxRecDepth 100000 in
set_option maxHeartbeats 4000000 in
theorem lawc_5 {X M : gS} {L i : Nat} {f : Nat → Int32} {r : pm_R} (hL : L ≤ 2560) (hi : i + 5 ≤ L) (hz : f i &&& 31 = 5) (heq : (xEnd X (f (i + 1)) (f (i + 2))).1 = (mEnd M (f (i + 1)) (f (i + 2))).1) (hk : pw (some (L, f)) 8 119 18 [some (.ref 0), some (.ref 1), some (.ref 152), some (.int (nI (i + 5)))] [] (gE ((xEnd X (f (i + 1)) (f (i + 2))).2) ((mEnd M (f (i + 1)) (f (i + 2))).2)) r) : pw (some (L, f)) 8 119 18 [some (.ref 0), some (.ref 1), some (.ref 152), some (.int (nI i))] [] (gE X M) r := by
  refine pw_iload_n n_119_18 rfl rfl ?_
  refine pw_aload_n n_119_19 rfl rfl ?_
  refine pw_salen n_119_20 rfl ?_
  refine pw_iconst n_119_21 ic_5 rfl ?_
  refine pw_isub n_119_22 rfl ?_
  refine pw_icmp_gt_f (q := 889) n_119_23 rfl rfl (lw_cont hL (by omega)) ?_
  refine pw_aload_n n_119_26 rfl rfl ?_
  refine pw_iload_n n_119_27 rfl rfl ?_
  refine pw_scr n_119_28 (by omega) hL rfl ?_
  refine pw_bipush n_119_29 bc_31 rfl ?_
  refine pw_iand n_119_31 rfl ?_
  refine pw_top (y := 5) hz ?_
  refine pw_tableIn (q := 273) n_119_32 (by decide) rfl rfl ?_
  refine pw_aload_n n_119_273 rfl rfl ?_
  refine pw_aload_n n_119_274 rfl rfl ?_
  refine pw_iload_n n_119_275 rfl rfl ?_
  refine pw_iconst n_119_276 ic_1 rfl ?_
  refine pw_iadd n_119_277 rfl (pw_top (nJ_add i 1) ?_)
  refine pw_scr n_119_278 (by omega) hL rfl ?_
  refine pw_aload_n n_119_279 rfl rfl ?_
  refine pw_iload_n n_119_280 rfl rfl ?_
  refine pw_iconst n_119_281 ic_2 rfl ?_
  refine pw_iadd n_119_282 rfl (pw_top (nJ_add i 2) ?_)
  refine pw_scr n_119_283 (by omega) hL rfl ?_
  refine pw_virtV (a := 0) (as := [.int (f (i + 1)), .int (f (i + 2))]) (st := []) n_119_284 cl_8_37 ⟨rfl, rfl, rfl⟩ (sum8 rfl) (E_tg sh_G_domains) rfl (w_6 (x := (f (i + 1))) (r := (f (i + 2))) _) ?_
  refine pw_aload_n n_119_287 rfl rfl ?_
  refine pw_aload_n n_119_288 rfl rfl ?_
  refine pw_iload_n n_119_289 rfl rfl ?_
  refine pw_iconst n_119_290 ic_1 rfl ?_
  refine pw_iadd n_119_291 rfl (pw_top (nJ_add i 1) ?_)
  refine pw_scr n_119_292 (by omega) hL rfl ?_
  refine pw_aload_n n_119_293 rfl rfl ?_
  refine pw_iload_n n_119_294 rfl rfl ?_
  refine pw_iconst n_119_295 ic_2 rfl ?_
  refine pw_iadd n_119_296 rfl (pw_top (nJ_add i 2) ?_)
  refine pw_scr n_119_297 (by omega) hL rfl ?_
  refine pw_virtV (a := 151) (as := [.int (f (i + 1)), .int (f (i + 2))]) (st := [.int ((xEnd X (f (i + 1)) (f (i + 2))).1)]) n_119_298 cl_8_40 ⟨rfl, rfl, rfl⟩ (sum8 rfl) (E_tg sh_R_state) rfl (w_98 (x := (f (i + 1))) (r := (f (i + 2))) _) ?_
  refine pw_icmp_eq_t (q := 883) n_119_301 rfl heq ?_
  refine pw_iinc (v := nI (i + 5)) (l := [some (.ref 0), some (.ref 1), some (.ref 152), some (.int (nI (i + 5)))]) n_119_883 rfl (nJ_inc5 i) rfl rfl ?_
  refine pw_goto (q := 18) n_119_886 rfl ?_
  exact hk
set_option maxRecDepth 100000 in
set_option maxHeartbeats 4000000 in
theorem lawc_6t {X M : gS} {L i : Nat} {f : Nat → Int32} {r : pm_R} (hL : L ≤ 2560) (hi : i + 5 ≤ L) (hz : f i &&& 31 = 6) (hw : ¬ f (i + 4) = 0) (heq : (xMap X (f (i + 1)) (f (i + 2)) (f (i + 3)) true).1 = (mMap M (f (i + 1)) (f (i + 2)) (f (i + 3)) true).1) (hk : pw (some (L, f)) 8 119 18 [some (.ref 0), some (.ref 1), some (.ref 152), some (.int (nI (i + 5)))] [] (gE ((xMap X (f (i + 1)) (f (i + 2)) (f (i + 3)) true).2) ((mMap M (f (i + 1)) (f (i + 2)) (f (i + 3)) true).2)) r) : pw (some (L, f)) 8 119 18 [some (.ref 0), some (.ref 1), some (.ref 152), some (.int (nI i))] [] (gE X M) r := by
  refine pw_iload_n n_119_18 rfl rfl ?_
  refine pw_aload_n n_119_19 rfl rfl ?_
  refine pw_salen n_119_20 rfl ?_
  refine pw_iconst n_119_21 ic_5 rfl ?_
  refine pw_isub n_119_22 rfl ?_
  refine pw_icmp_gt_f (q := 889) n_119_23 rfl rfl (lw_cont hL (by omega)) ?_
  refine pw_aload_n n_119_26 rfl rfl ?_
  refine pw_iload_n n_119_27 rfl rfl ?_
  refine pw_scr n_119_28 (by omega) hL rfl ?_
  refine pw_bipush n_119_29 bc_31 rfl ?_
  refine pw_iand n_119_31 rfl ?_
  refine pw_top (y := 6) hz ?_
  refine pw_tableIn (q := 306) n_119_32 (by decide) rfl rfl ?_
  refine pw_aload_n n_119_306 rfl rfl ?_
  refine pw_aload_n n_119_307 rfl rfl ?_
  refine pw_iload_n n_119_308 rfl rfl ?_
  refine pw_iconst n_119_309 ic_1 rfl ?_
  refine pw_iadd n_119_310 rfl (pw_top (nJ_add i 1) ?_)
  refine pw_scr n_119_311 (by omega) hL rfl ?_
  refine pw_aload_n n_119_312 rfl rfl ?_
  refine pw_iload_n n_119_313 rfl rfl ?_
  refine pw_iconst n_119_314 ic_2 rfl ?_
  refine pw_iadd n_119_315 rfl (pw_top (nJ_add i 2) ?_)
  refine pw_scr n_119_316 (by omega) hL rfl ?_
  refine pw_aload_n n_119_317 rfl rfl ?_
  refine pw_iload_n n_119_318 rfl rfl ?_
  refine pw_iconst n_119_319 ic_3 rfl ?_
  refine pw_iadd n_119_320 rfl (pw_top (nJ_add i 3) ?_)
  refine pw_scr n_119_321 (by omega) hL rfl ?_
  refine pw_aload_n n_119_322 rfl rfl ?_
  refine pw_iload_n n_119_323 rfl rfl ?_
  refine pw_iconst n_119_324 ic_4 rfl ?_
  refine pw_iadd n_119_325 rfl (pw_top (nJ_add i 4) ?_)
  refine pw_scr n_119_326 (by omega) hL rfl ?_
  refine pw_if_eq_f (q := 334) n_119_327 rfl rfl hw ?_
  refine pw_iconst n_119_330 ic_1 rfl ?_
  refine pw_goto (q := 335) n_119_331 rfl ?_
  refine pw_virtV (a := 0) (as := [.int (f (i + 1)), .int (f (i + 2)), .int (f (i + 3)), .int 1]) (st := []) n_119_335 cl_8_41 ⟨rfl, rfl, rfl⟩ (sum8 rfl) (E_tg sh_G_domains) rfl (w_7 (x := (f (i + 1))) (f := (f (i + 2))) (r := (f (i + 3))) (w := true) _) ?_
  refine pw_aload_n n_119_338 rfl rfl ?_
  refine pw_aload_n n_119_339 rfl rfl ?_
  refine pw_iload_n n_119_340 rfl rfl ?_
  refine pw_iconst n_119_341 ic_1 rfl ?_
  refine pw_iadd n_119_342 rfl (pw_top (nJ_add i 1) ?_)
  refine pw_scr n_119_343 (by omega) hL rfl ?_
  refine pw_aload_n n_119_344 rfl rfl ?_
  refine pw_iload_n n_119_345 rfl rfl ?_
  refine pw_iconst n_119_346 ic_2 rfl ?_
  refine pw_iadd n_119_347 rfl (pw_top (nJ_add i 2) ?_)
  refine pw_scr n_119_348 (by omega) hL rfl ?_
  refine pw_aload_n n_119_349 rfl rfl ?_
  refine pw_iload_n n_119_350 rfl rfl ?_
  refine pw_iconst n_119_351 ic_3 rfl ?_
  refine pw_iadd n_119_352 rfl (pw_top (nJ_add i 3) ?_)
  refine pw_scr n_119_353 (by omega) hL rfl ?_
  refine pw_aload_n n_119_354 rfl rfl ?_
  refine pw_iload_n n_119_355 rfl rfl ?_
  refine pw_iconst n_119_356 ic_4 rfl ?_
  refine pw_iadd n_119_357 rfl (pw_top (nJ_add i 4) ?_)
  refine pw_scr n_119_358 (by omega) hL rfl ?_
  refine pw_if_eq_f (q := 366) n_119_359 rfl rfl hw ?_
  refine pw_iconst n_119_362 ic_1 rfl ?_
  refine pw_goto (q := 367) n_119_363 rfl ?_
  refine pw_virtV (a := 151) (as := [.int (f (i + 1)), .int (f (i + 2)), .int (f (i + 3)), .int 1]) (st := [.int ((xMap X (f (i + 1)) (f (i + 2)) (f (i + 3)) true).1)]) n_119_367 cl_8_45 ⟨rfl, rfl, rfl⟩ (sum8 rfl) (E_tg sh_R_state) rfl (w_99 (x := (f (i + 1))) (f := (f (i + 2))) (r := (f (i + 3))) (w := true) _) ?_
  refine pw_icmp_eq_t (q := 883) n_119_370 rfl heq ?_
  refine pw_iinc (v := nI (i + 5)) (l := [some (.ref 0), some (.ref 1), some (.ref 152), some (.int (nI (i + 5)))]) n_119_883 rfl (nJ_inc5 i) rfl rfl ?_
  refine pw_goto (q := 18) n_119_886 rfl ?_
  exact hk
set_option maxRecDepth 100000 in
set_option maxHeartbeats 4000000 in
theorem lawc_6f {X M : gS} {L i : Nat} {f : Nat → Int32} {r : pm_R} (hL : L ≤ 2560) (hi : i + 5 ≤ L) (hz : f i &&& 31 = 6) (hw : f (i + 4) = 0) (heq : (xMap X (f (i + 1)) (f (i + 2)) (f (i + 3)) false).1 = (mMap M (f (i + 1)) (f (i + 2)) (f (i + 3)) false).1) (hk : pw (some (L, f)) 8 119 18 [some (.ref 0), some (.ref 1), some (.ref 152), some (.int (nI (i + 5)))] [] (gE ((xMap X (f (i + 1)) (f (i + 2)) (f (i + 3)) false).2) ((mMap M (f (i + 1)) (f (i + 2)) (f (i + 3)) false).2)) r) : pw (some (L, f)) 8 119 18 [some (.ref 0), some (.ref 1), some (.ref 152), some (.int (nI i))] [] (gE X M) r := by
  refine pw_iload_n n_119_18 rfl rfl ?_
  refine pw_aload_n n_119_19 rfl rfl ?_
  refine pw_salen n_119_20 rfl ?_
  refine pw_iconst n_119_21 ic_5 rfl ?_
  refine pw_isub n_119_22 rfl ?_
  refine pw_icmp_gt_f (q := 889) n_119_23 rfl rfl (lw_cont hL (by omega)) ?_
  refine pw_aload_n n_119_26 rfl rfl ?_
  refine pw_iload_n n_119_27 rfl rfl ?_
  refine pw_scr n_119_28 (by omega) hL rfl ?_
  refine pw_bipush n_119_29 bc_31 rfl ?_
  refine pw_iand n_119_31 rfl ?_
  refine pw_top (y := 6) hz ?_
  refine pw_tableIn (q := 306) n_119_32 (by decide) rfl rfl ?_
  refine pw_aload_n n_119_306 rfl rfl ?_
  refine pw_aload_n n_119_307 rfl rfl ?_
  refine pw_iload_n n_119_308 rfl rfl ?_
  refine pw_iconst n_119_309 ic_1 rfl ?_
  refine pw_iadd n_119_310 rfl (pw_top (nJ_add i 1) ?_)
  refine pw_scr n_119_311 (by omega) hL rfl ?_
  refine pw_aload_n n_119_312 rfl rfl ?_
  refine pw_iload_n n_119_313 rfl rfl ?_
  refine pw_iconst n_119_314 ic_2 rfl ?_
  refine pw_iadd n_119_315 rfl (pw_top (nJ_add i 2) ?_)
  refine pw_scr n_119_316 (by omega) hL rfl ?_
  refine pw_aload_n n_119_317 rfl rfl ?_
  refine pw_iload_n n_119_318 rfl rfl ?_
  refine pw_iconst n_119_319 ic_3 rfl ?_
  refine pw_iadd n_119_320 rfl (pw_top (nJ_add i 3) ?_)
  refine pw_scr n_119_321 (by omega) hL rfl ?_
  refine pw_aload_n n_119_322 rfl rfl ?_
  refine pw_iload_n n_119_323 rfl rfl ?_
  refine pw_iconst n_119_324 ic_4 rfl ?_
  refine pw_iadd n_119_325 rfl (pw_top (nJ_add i 4) ?_)
  refine pw_scr n_119_326 (by omega) hL rfl ?_
  refine pw_if_eq_t (q := 334) n_119_327 rfl hw ?_
  refine pw_iconst n_119_334 ic_0 rfl ?_
  refine pw_virtV (a := 0) (as := [.int (f (i + 1)), .int (f (i + 2)), .int (f (i + 3)), .int 0]) (st := []) n_119_335 cl_8_41 ⟨rfl, rfl, rfl⟩ (sum8 rfl) (E_tg sh_G_domains) rfl (w_7 (x := (f (i + 1))) (f := (f (i + 2))) (r := (f (i + 3))) (w := false) _) ?_
  refine pw_aload_n n_119_338 rfl rfl ?_
  refine pw_aload_n n_119_339 rfl rfl ?_
  refine pw_iload_n n_119_340 rfl rfl ?_
  refine pw_iconst n_119_341 ic_1 rfl ?_
  refine pw_iadd n_119_342 rfl (pw_top (nJ_add i 1) ?_)
  refine pw_scr n_119_343 (by omega) hL rfl ?_
  refine pw_aload_n n_119_344 rfl rfl ?_
  refine pw_iload_n n_119_345 rfl rfl ?_
  refine pw_iconst n_119_346 ic_2 rfl ?_
  refine pw_iadd n_119_347 rfl (pw_top (nJ_add i 2) ?_)
  refine pw_scr n_119_348 (by omega) hL rfl ?_
  refine pw_aload_n n_119_349 rfl rfl ?_
  refine pw_iload_n n_119_350 rfl rfl ?_
  refine pw_iconst n_119_351 ic_3 rfl ?_
  refine pw_iadd n_119_352 rfl (pw_top (nJ_add i 3) ?_)
  refine pw_scr n_119_353 (by omega) hL rfl ?_
  refine pw_aload_n n_119_354 rfl rfl ?_
  refine pw_iload_n n_119_355 rfl rfl ?_
  refine pw_iconst n_119_356 ic_4 rfl ?_
  refine pw_iadd n_119_357 rfl (pw_top (nJ_add i 4) ?_)
  refine pw_scr n_119_358 (by omega) hL rfl ?_
  refine pw_if_eq_t (q := 366) n_119_359 rfl hw ?_
  refine pw_iconst n_119_366 ic_0 rfl ?_
  refine pw_virtV (a := 151) (as := [.int (f (i + 1)), .int (f (i + 2)), .int (f (i + 3)), .int 0]) (st := [.int ((xMap X (f (i + 1)) (f (i + 2)) (f (i + 3)) false).1)]) n_119_367 cl_8_45 ⟨rfl, rfl, rfl⟩ (sum8 rfl) (E_tg sh_R_state) rfl (w_99 (x := (f (i + 1))) (f := (f (i + 2))) (r := (f (i + 3))) (w := false) _) ?_
  refine pw_icmp_eq_t (q := 883) n_119_370 rfl heq ?_
  refine pw_iinc (v := nI (i + 5)) (l := [some (.ref 0), some (.ref 1), some (.ref 152), some (.int (nI (i + 5)))]) n_119_883 rfl (nJ_inc5 i) rfl rfl ?_
  refine pw_goto (q := 18) n_119_886 rfl ?_
  exact hk
set_option maxRecDepth 100000 in
set_option maxHeartbeats 4000000 in
theorem lawc_7 {X M : gS} {L i : Nat} {f : Nat → Int32} {r : pm_R} (hL : L ≤ 2560) (hi : i + 5 ≤ L) (hz : f i &&& 31 = 7) (xtk : xLive X (f (i + 1)) = true → xHasH X (tN (f (i + 1))) (f (i + 2)) = true → tkF X (tN (f (i + 1))) (tN (f (i + 2)))) (mtk : mLive M (f (i + 1)) = true → ∀ j, j < 5 → ¬ M 56 (5 * tN (f (i + 1)) + j) 0 = 0 → mtF M (5 * tN (f (i + 1)) + j)) (heq : (xUnmap X (f (i + 1)) (f (i + 2))).1 = (mUnmap M (f (i + 1)) (f (i + 2))).1) (hk : pw (some (L, f)) 8 119 18 [some (.ref 0), some (.ref 1), some (.ref 152), some (.int (nI (i + 5)))] [] (gE ((xUnmap X (f (i + 1)) (f (i + 2))).2) ((mUnmap M (f (i + 1)) (f (i + 2))).2)) r) : pw (some (L, f)) 8 119 18 [some (.ref 0), some (.ref 1), some (.ref 152), some (.int (nI i))] [] (gE X M) r := by
  refine pw_iload_n n_119_18 rfl rfl ?_
  refine pw_aload_n n_119_19 rfl rfl ?_
  refine pw_salen n_119_20 rfl ?_
  refine pw_iconst n_119_21 ic_5 rfl ?_
  refine pw_isub n_119_22 rfl ?_
  refine pw_icmp_gt_f (q := 889) n_119_23 rfl rfl (lw_cont hL (by omega)) ?_
  refine pw_aload_n n_119_26 rfl rfl ?_
  refine pw_iload_n n_119_27 rfl rfl ?_
  refine pw_scr n_119_28 (by omega) hL rfl ?_
  refine pw_bipush n_119_29 bc_31 rfl ?_
  refine pw_iand n_119_31 rfl ?_
  refine pw_top (y := 7) hz ?_
  refine pw_tableIn (q := 375) n_119_32 (by decide) rfl rfl ?_
  refine pw_aload_n n_119_375 rfl rfl ?_
  refine pw_aload_n n_119_376 rfl rfl ?_
  refine pw_iload_n n_119_377 rfl rfl ?_
  refine pw_iconst n_119_378 ic_1 rfl ?_
  refine pw_iadd n_119_379 rfl (pw_top (nJ_add i 1) ?_)
  refine pw_scr n_119_380 (by omega) hL rfl ?_
  refine pw_aload_n n_119_381 rfl rfl ?_
  refine pw_iload_n n_119_382 rfl rfl ?_
  refine pw_iconst n_119_383 ic_2 rfl ?_
  refine pw_iadd n_119_384 rfl (pw_top (nJ_add i 2) ?_)
  refine pw_scr n_119_385 (by omega) hL rfl ?_
  refine pw_virtV (a := 0) (as := [.int (f (i + 1)), .int (f (i + 2))]) (st := []) n_119_386 cl_8_46 ⟨rfl, rfl, rfl⟩ (sum8 rfl) (E_tg sh_G_domains) rfl (w_8 (x := (f (i + 1))) (h := (f (i + 2))) xtk _) ?_
  refine pw_aload_n n_119_389 rfl rfl ?_
  refine pw_aload_n n_119_390 rfl rfl ?_
  refine pw_iload_n n_119_391 rfl rfl ?_
  refine pw_iconst n_119_392 ic_1 rfl ?_
  refine pw_iadd n_119_393 rfl (pw_top (nJ_add i 1) ?_)
  refine pw_scr n_119_394 (by omega) hL rfl ?_
  refine pw_aload_n n_119_395 rfl rfl ?_
  refine pw_iload_n n_119_396 rfl rfl ?_
  refine pw_iconst n_119_397 ic_2 rfl ?_
  refine pw_iadd n_119_398 rfl (pw_top (nJ_add i 2) ?_)
  refine pw_scr n_119_399 (by omega) hL rfl ?_
  refine pw_virtV (a := 151) (as := [.int (f (i + 1)), .int (f (i + 2))]) (st := [.int ((xUnmap X (f (i + 1)) (f (i + 2))).1)]) n_119_400 cl_8_49 ⟨rfl, rfl, rfl⟩ (sum8 rfl) (E_tg sh_R_state) rfl (w_100 (x := (f (i + 1))) (h := (f (i + 2))) mtk _) ?_
  refine pw_icmp_eq_t (q := 883) n_119_403 rfl heq ?_
  refine pw_iinc (v := nI (i + 5)) (l := [some (.ref 0), some (.ref 1), some (.ref 152), some (.int (nI (i + 5)))]) n_119_883 rfl (nJ_inc5 i) rfl rfl ?_
  refine pw_goto (q := 18) n_119_886 rfl ?_
  exact hk
set_option maxRecDepth 100000 in
set_option maxHeartbeats 4000000 in
theorem lawc_8 {X M : gS} {L i : Nat} {f : Nat → Int32} {r : pm_R} (hL : L ≤ 2560) (hi : i + 5 ≤ L) (hz : f i &&& 31 = 8) (heq : (xGive X (f (i + 1)) (f (i + 2)) (f (i + 3)) (f (i + 4))).1 = (mGive M (f (i + 1)) (f (i + 2)) (f (i + 3)) (f (i + 4))).1) (hk : pw (some (L, f)) 8 119 18 [some (.ref 0), some (.ref 1), some (.ref 152), some (.int (nI (i + 5)))] [] (gE ((xGive X (f (i + 1)) (f (i + 2)) (f (i + 3)) (f (i + 4))).2) ((mGive M (f (i + 1)) (f (i + 2)) (f (i + 3)) (f (i + 4))).2)) r) : pw (some (L, f)) 8 119 18 [some (.ref 0), some (.ref 1), some (.ref 152), some (.int (nI i))] [] (gE X M) r := by
  refine pw_iload_n n_119_18 rfl rfl ?_
  refine pw_aload_n n_119_19 rfl rfl ?_
  refine pw_salen n_119_20 rfl ?_
  refine pw_iconst n_119_21 ic_5 rfl ?_
  refine pw_isub n_119_22 rfl ?_
  refine pw_icmp_gt_f (q := 889) n_119_23 rfl rfl (lw_cont hL (by omega)) ?_
  refine pw_aload_n n_119_26 rfl rfl ?_
  refine pw_iload_n n_119_27 rfl rfl ?_
  refine pw_scr n_119_28 (by omega) hL rfl ?_
  refine pw_bipush n_119_29 bc_31 rfl ?_
  refine pw_iand n_119_31 rfl ?_
  refine pw_top (y := 8) hz ?_
  refine pw_tableIn (q := 408) n_119_32 (by decide) rfl rfl ?_
  refine pw_aload_n n_119_408 rfl rfl ?_
  refine pw_aload_n n_119_409 rfl rfl ?_
  refine pw_iload_n n_119_410 rfl rfl ?_
  refine pw_iconst n_119_411 ic_1 rfl ?_
  refine pw_iadd n_119_412 rfl (pw_top (nJ_add i 1) ?_)
  refine pw_scr n_119_413 (by omega) hL rfl ?_
  refine pw_aload_n n_119_414 rfl rfl ?_
  refine pw_iload_n n_119_415 rfl rfl ?_
  refine pw_iconst n_119_416 ic_2 rfl ?_
  refine pw_iadd n_119_417 rfl (pw_top (nJ_add i 2) ?_)
  refine pw_scr n_119_418 (by omega) hL rfl ?_
  refine pw_aload_n n_119_419 rfl rfl ?_
  refine pw_iload_n n_119_420 rfl rfl ?_
  refine pw_iconst n_119_421 ic_3 rfl ?_
  refine pw_iadd n_119_422 rfl (pw_top (nJ_add i 3) ?_)
  refine pw_scr n_119_423 (by omega) hL rfl ?_
  refine pw_aload_n n_119_424 rfl rfl ?_
  refine pw_iload_n n_119_425 rfl rfl ?_
  refine pw_iconst n_119_426 ic_4 rfl ?_
  refine pw_iadd n_119_427 rfl (pw_top (nJ_add i 4) ?_)
  refine pw_scr n_119_428 (by omega) hL rfl ?_
  refine pw_virtV (a := 0) (as := [.int (f (i + 1)), .int (f (i + 2)), .int (f (i + 3)), .int (f (i + 4))]) (st := []) n_119_429 cl_8_50 ⟨rfl, rfl, rfl⟩ (sum8 rfl) (E_tg sh_G_domains) rfl (w_9 (x := (f (i + 1))) (p := (f (i + 2))) (t := (f (i + 3))) (r := (f (i + 4))) _) ?_
  refine pw_aload_n n_119_432 rfl rfl ?_
  refine pw_aload_n n_119_433 rfl rfl ?_
  refine pw_iload_n n_119_434 rfl rfl ?_
  refine pw_iconst n_119_435 ic_1 rfl ?_
  refine pw_iadd n_119_436 rfl (pw_top (nJ_add i 1) ?_)
  refine pw_scr n_119_437 (by omega) hL rfl ?_
  refine pw_aload_n n_119_438 rfl rfl ?_
  refine pw_iload_n n_119_439 rfl rfl ?_
  refine pw_iconst n_119_440 ic_2 rfl ?_
  refine pw_iadd n_119_441 rfl (pw_top (nJ_add i 2) ?_)
  refine pw_scr n_119_442 (by omega) hL rfl ?_
  refine pw_aload_n n_119_443 rfl rfl ?_
  refine pw_iload_n n_119_444 rfl rfl ?_
  refine pw_iconst n_119_445 ic_3 rfl ?_
  refine pw_iadd n_119_446 rfl (pw_top (nJ_add i 3) ?_)
  refine pw_scr n_119_447 (by omega) hL rfl ?_
  refine pw_aload_n n_119_448 rfl rfl ?_
  refine pw_iload_n n_119_449 rfl rfl ?_
  refine pw_iconst n_119_450 ic_4 rfl ?_
  refine pw_iadd n_119_451 rfl (pw_top (nJ_add i 4) ?_)
  refine pw_scr n_119_452 (by omega) hL rfl ?_
  refine pw_virtV (a := 151) (as := [.int (f (i + 1)), .int (f (i + 2)), .int (f (i + 3)), .int (f (i + 4))]) (st := [.int ((xGive X (f (i + 1)) (f (i + 2)) (f (i + 3)) (f (i + 4))).1)]) n_119_453 cl_8_53 ⟨rfl, rfl, rfl⟩ (sum8 rfl) (E_tg sh_R_state) rfl (w_101 (x := (f (i + 1))) (p := (f (i + 2))) (t := (f (i + 3))) (r := (f (i + 4))) _) ?_
  refine pw_icmp_eq_t (q := 883) n_119_456 rfl heq ?_
  refine pw_iinc (v := nI (i + 5)) (l := [some (.ref 0), some (.ref 1), some (.ref 152), some (.int (nI (i + 5)))]) n_119_883 rfl (nJ_inc5 i) rfl rfl ?_
  refine pw_goto (q := 18) n_119_886 rfl ?_
  exact hk
set_option maxRecDepth 100000 in
set_option maxHeartbeats 4000000 in
theorem lawc_9 {X M : gS} {L i : Nat} {f : Nat → Int32} {r : pm_R} (hL : L ≤ 2560) (hi : i + 5 ≤ L) (hz : f i &&& 31 = 9) (xhok0 : xLive X (f (i + 1)) = true → hOk X (tN (f (i + 1)))) (mhok0 : mLive M (f (i + 1)) = true → hOkM M (tN (f (i + 1)))) (heq : (xStore X (f (i + 1)) (f (i + 2)) (f (i + 3)) (f (i + 4))).1 = (mStore M (f (i + 1)) (f (i + 2)) (f (i + 3)) (f (i + 4))).1) (hk : pw (some (L, f)) 8 119 18 [some (.ref 0), some (.ref 1), some (.ref 152), some (.int (nI (i + 5)))] [] (gE ((xStore X (f (i + 1)) (f (i + 2)) (f (i + 3)) (f (i + 4))).2) ((mStore M (f (i + 1)) (f (i + 2)) (f (i + 3)) (f (i + 4))).2)) r) : pw (some (L, f)) 8 119 18 [some (.ref 0), some (.ref 1), some (.ref 152), some (.int (nI i))] [] (gE X M) r := by
  refine pw_iload_n n_119_18 rfl rfl ?_
  refine pw_aload_n n_119_19 rfl rfl ?_
  refine pw_salen n_119_20 rfl ?_
  refine pw_iconst n_119_21 ic_5 rfl ?_
  refine pw_isub n_119_22 rfl ?_
  refine pw_icmp_gt_f (q := 889) n_119_23 rfl rfl (lw_cont hL (by omega)) ?_
  refine pw_aload_n n_119_26 rfl rfl ?_
  refine pw_iload_n n_119_27 rfl rfl ?_
  refine pw_scr n_119_28 (by omega) hL rfl ?_
  refine pw_bipush n_119_29 bc_31 rfl ?_
  refine pw_iand n_119_31 rfl ?_
  refine pw_top (y := 9) hz ?_
  refine pw_tableIn (q := 461) n_119_32 (by decide) rfl rfl ?_
  refine pw_aload_n n_119_461 rfl rfl ?_
  refine pw_aload_n n_119_462 rfl rfl ?_
  refine pw_iload_n n_119_463 rfl rfl ?_
  refine pw_iconst n_119_464 ic_1 rfl ?_
  refine pw_iadd n_119_465 rfl (pw_top (nJ_add i 1) ?_)
  refine pw_scr n_119_466 (by omega) hL rfl ?_
  refine pw_aload_n n_119_467 rfl rfl ?_
  refine pw_iload_n n_119_468 rfl rfl ?_
  refine pw_iconst n_119_469 ic_2 rfl ?_
  refine pw_iadd n_119_470 rfl (pw_top (nJ_add i 2) ?_)
  refine pw_scr n_119_471 (by omega) hL rfl ?_
  refine pw_aload_n n_119_472 rfl rfl ?_
  refine pw_iload_n n_119_473 rfl rfl ?_
  refine pw_iconst n_119_474 ic_3 rfl ?_
  refine pw_iadd n_119_475 rfl (pw_top (nJ_add i 3) ?_)
  refine pw_scr n_119_476 (by omega) hL rfl ?_
  refine pw_aload_n n_119_477 rfl rfl ?_
  refine pw_iload_n n_119_478 rfl rfl ?_
  refine pw_iconst n_119_479 ic_4 rfl ?_
  refine pw_iadd n_119_480 rfl (pw_top (nJ_add i 4) ?_)
  refine pw_scr n_119_481 (by omega) hL rfl ?_
  refine pw_virtV (a := 0) (as := [.int (f (i + 1)), .int (f (i + 2)), .int (f (i + 3)), .int (f (i + 4))]) (st := []) n_119_482 cl_8_54 ⟨rfl, rfl, rfl⟩ (sum8 rfl) (E_tg sh_G_domains) rfl (w_10 (x := (f (i + 1))) (p := (f (i + 2))) (w := (f (i + 3))) (v := (f (i + 4))) xhok0 _) ?_
  refine pw_aload_n n_119_485 rfl rfl ?_
  refine pw_aload_n n_119_486 rfl rfl ?_
  refine pw_iload_n n_119_487 rfl rfl ?_
  refine pw_iconst n_119_488 ic_1 rfl ?_
  refine pw_iadd n_119_489 rfl (pw_top (nJ_add i 1) ?_)
  refine pw_scr n_119_490 (by omega) hL rfl ?_
  refine pw_aload_n n_119_491 rfl rfl ?_
  refine pw_iload_n n_119_492 rfl rfl ?_
  refine pw_iconst n_119_493 ic_2 rfl ?_
  refine pw_iadd n_119_494 rfl (pw_top (nJ_add i 2) ?_)
  refine pw_scr n_119_495 (by omega) hL rfl ?_
  refine pw_aload_n n_119_496 rfl rfl ?_
  refine pw_iload_n n_119_497 rfl rfl ?_
  refine pw_iconst n_119_498 ic_3 rfl ?_
  refine pw_iadd n_119_499 rfl (pw_top (nJ_add i 3) ?_)
  refine pw_scr n_119_500 (by omega) hL rfl ?_
  refine pw_aload_n n_119_501 rfl rfl ?_
  refine pw_iload_n n_119_502 rfl rfl ?_
  refine pw_iconst n_119_503 ic_4 rfl ?_
  refine pw_iadd n_119_504 rfl (pw_top (nJ_add i 4) ?_)
  refine pw_scr n_119_505 (by omega) hL rfl ?_
  refine pw_virtV (a := 151) (as := [.int (f (i + 1)), .int (f (i + 2)), .int (f (i + 3)), .int (f (i + 4))]) (st := [.int ((xStore X (f (i + 1)) (f (i + 2)) (f (i + 3)) (f (i + 4))).1)]) n_119_506 cl_8_57 ⟨rfl, rfl, rfl⟩ (sum8 rfl) (E_tg sh_R_state) rfl (w_104 (x := (f (i + 1))) (p := (f (i + 2))) (w := (f (i + 3))) (v := (f (i + 4))) mhok0 _) ?_
  refine pw_icmp_eq_t (q := 883) n_119_509 rfl heq ?_
  refine pw_iinc (v := nI (i + 5)) (l := [some (.ref 0), some (.ref 1), some (.ref 152), some (.int (nI (i + 5)))]) n_119_883 rfl (nJ_inc5 i) rfl rfl ?_
  refine pw_goto (q := 18) n_119_886 rfl ?_
  exact hk
set_option maxRecDepth 100000 in
set_option maxHeartbeats 4000000 in
theorem lawc_10 {X M : gS} {L i : Nat} {f : Nat → Int32} {r : pm_R} (hL : L ≤ 2560) (hi : i + 5 ≤ L) (hz : f i &&& 31 = 10) (xhok0 : xLive X (f (i + 1)) = true → hOk X (tN (f (i + 1)))) (mhok0 : mLive M (f (i + 1)) = true → hOkM M (tN (f (i + 1)))) (heq : xLoad X (f (i + 1)) (f (i + 2)) (f (i + 3)) = mLoad M (f (i + 1)) (f (i + 2)) (f (i + 3))) (hk : pw (some (L, f)) 8 119 18 [some (.ref 0), some (.ref 1), some (.ref 152), some (.int (nI (i + 5)))] [] (gE X M) r) : pw (some (L, f)) 8 119 18 [some (.ref 0), some (.ref 1), some (.ref 152), some (.int (nI i))] [] (gE X M) r := by
  refine pw_iload_n n_119_18 rfl rfl ?_
  refine pw_aload_n n_119_19 rfl rfl ?_
  refine pw_salen n_119_20 rfl ?_
  refine pw_iconst n_119_21 ic_5 rfl ?_
  refine pw_isub n_119_22 rfl ?_
  refine pw_icmp_gt_f (q := 889) n_119_23 rfl rfl (lw_cont hL (by omega)) ?_
  refine pw_aload_n n_119_26 rfl rfl ?_
  refine pw_iload_n n_119_27 rfl rfl ?_
  refine pw_scr n_119_28 (by omega) hL rfl ?_
  refine pw_bipush n_119_29 bc_31 rfl ?_
  refine pw_iand n_119_31 rfl ?_
  refine pw_top (y := 10) hz ?_
  refine pw_tableIn (q := 514) n_119_32 (by decide) rfl rfl ?_
  refine pw_aload_n n_119_514 rfl rfl ?_
  refine pw_aload_n n_119_515 rfl rfl ?_
  refine pw_iload_n n_119_516 rfl rfl ?_
  refine pw_iconst n_119_517 ic_1 rfl ?_
  refine pw_iadd n_119_518 rfl (pw_top (nJ_add i 1) ?_)
  refine pw_scr n_119_519 (by omega) hL rfl ?_
  refine pw_aload_n n_119_520 rfl rfl ?_
  refine pw_iload_n n_119_521 rfl rfl ?_
  refine pw_iconst n_119_522 ic_2 rfl ?_
  refine pw_iadd n_119_523 rfl (pw_top (nJ_add i 2) ?_)
  refine pw_scr n_119_524 (by omega) hL rfl ?_
  refine pw_aload_n n_119_525 rfl rfl ?_
  refine pw_iload_n n_119_526 rfl rfl ?_
  refine pw_iconst n_119_527 ic_3 rfl ?_
  refine pw_iadd n_119_528 rfl (pw_top (nJ_add i 3) ?_)
  refine pw_scr n_119_529 (by omega) hL rfl ?_
  refine pw_virtV (a := 0) (as := [.int (f (i + 1)), .int (f (i + 2)), .int (f (i + 3))]) (st := []) n_119_530 cl_8_58 ⟨rfl, rfl, rfl⟩ (sum8 rfl) (E_tg sh_G_domains) rfl (w_11 (x := (f (i + 1))) (p := (f (i + 2))) (w := (f (i + 3))) xhok0 _) ?_
  refine pw_aload_n n_119_533 rfl rfl ?_
  refine pw_aload_n n_119_534 rfl rfl ?_
  refine pw_iload_n n_119_535 rfl rfl ?_
  refine pw_iconst n_119_536 ic_1 rfl ?_
  refine pw_iadd n_119_537 rfl (pw_top (nJ_add i 1) ?_)
  refine pw_scr n_119_538 (by omega) hL rfl ?_
  refine pw_aload_n n_119_539 rfl rfl ?_
  refine pw_iload_n n_119_540 rfl rfl ?_
  refine pw_iconst n_119_541 ic_2 rfl ?_
  refine pw_iadd n_119_542 rfl (pw_top (nJ_add i 2) ?_)
  refine pw_scr n_119_543 (by omega) hL rfl ?_
  refine pw_aload_n n_119_544 rfl rfl ?_
  refine pw_iload_n n_119_545 rfl rfl ?_
  refine pw_iconst n_119_546 ic_3 rfl ?_
  refine pw_iadd n_119_547 rfl (pw_top (nJ_add i 3) ?_)
  refine pw_scr n_119_548 (by omega) hL rfl ?_
  refine pw_virtV (a := 151) (as := [.int (f (i + 1)), .int (f (i + 2)), .int (f (i + 3))]) (st := [.long (xLoad X (f (i + 1)) (f (i + 2)) (f (i + 3)))]) n_119_549 cl_8_62 ⟨rfl, rfl, rfl⟩ (sum8 rfl) (E_tg sh_R_state) rfl (w_106 (x := (f (i + 1))) (p := (f (i + 2))) (w := (f (i + 3))) mhok0 _) ?_
  refine pw_lcmp n_119_552 rfl ?_
  refine pw_ifc_eq (q := 883) n_119_553 rfl rfl (fun _ => ?_) (fun hn => absurd heq hn)
  refine pw_iinc (v := nI (i + 5)) (l := [some (.ref 0), some (.ref 1), some (.ref 152), some (.int (nI (i + 5)))]) n_119_883 rfl (nJ_inc5 i) rfl rfl ?_
  refine pw_goto (q := 18) n_119_886 rfl ?_
  exact hk
set_option maxRecDepth 100000 in
set_option maxHeartbeats 4000000 in
theorem lawc_11 {X M : gS} {L i : Nat} {f : Nat → Int32} {r : pm_R} (hL : L ≤ 2560) (hi : i + 5 ≤ L) (hz : f i &&& 31 = 11) (heq : (xOpen X (f (i + 1)) (f (i + 2))).1 = (mOpen M (f (i + 1)) (f (i + 2))).1) (hk : pw (some (L, f)) 8 119 18 [some (.ref 0), some (.ref 1), some (.ref 152), some (.int (nI (i + 5)))] [] (gE ((xOpen X (f (i + 1)) (f (i + 2))).2) ((mOpen M (f (i + 1)) (f (i + 2))).2)) r) : pw (some (L, f)) 8 119 18 [some (.ref 0), some (.ref 1), some (.ref 152), some (.int (nI i))] [] (gE X M) r := by
  refine pw_iload_n n_119_18 rfl rfl ?_
  refine pw_aload_n n_119_19 rfl rfl ?_
  refine pw_salen n_119_20 rfl ?_
  refine pw_iconst n_119_21 ic_5 rfl ?_
  refine pw_isub n_119_22 rfl ?_
  refine pw_icmp_gt_f (q := 889) n_119_23 rfl rfl (lw_cont hL (by omega)) ?_
  refine pw_aload_n n_119_26 rfl rfl ?_
  refine pw_iload_n n_119_27 rfl rfl ?_
  refine pw_scr n_119_28 (by omega) hL rfl ?_
  refine pw_bipush n_119_29 bc_31 rfl ?_
  refine pw_iand n_119_31 rfl ?_
  refine pw_top (y := 11) hz ?_
  refine pw_tableIn (q := 558) n_119_32 (by decide) rfl rfl ?_
  refine pw_aload_n n_119_558 rfl rfl ?_
  refine pw_aload_n n_119_559 rfl rfl ?_
  refine pw_iload_n n_119_560 rfl rfl ?_
  refine pw_iconst n_119_561 ic_1 rfl ?_
  refine pw_iadd n_119_562 rfl (pw_top (nJ_add i 1) ?_)
  refine pw_scr n_119_563 (by omega) hL rfl ?_
  refine pw_aload_n n_119_564 rfl rfl ?_
  refine pw_iload_n n_119_565 rfl rfl ?_
  refine pw_iconst n_119_566 ic_2 rfl ?_
  refine pw_iadd n_119_567 rfl (pw_top (nJ_add i 2) ?_)
  refine pw_scr n_119_568 (by omega) hL rfl ?_
  refine pw_virtV (a := 0) (as := [.int (f (i + 1)), .int (f (i + 2))]) (st := []) n_119_569 cl_8_63 ⟨rfl, rfl, rfl⟩ (sum8 rfl) (E_tg sh_G_domains) rfl (w_12 (x := (f (i + 1))) (t := (f (i + 2))) _) ?_
  refine pw_aload_n n_119_572 rfl rfl ?_
  refine pw_aload_n n_119_573 rfl rfl ?_
  refine pw_iload_n n_119_574 rfl rfl ?_
  refine pw_iconst n_119_575 ic_1 rfl ?_
  refine pw_iadd n_119_576 rfl (pw_top (nJ_add i 1) ?_)
  refine pw_scr n_119_577 (by omega) hL rfl ?_
  refine pw_aload_n n_119_578 rfl rfl ?_
  refine pw_iload_n n_119_579 rfl rfl ?_
  refine pw_iconst n_119_580 ic_2 rfl ?_
  refine pw_iadd n_119_581 rfl (pw_top (nJ_add i 2) ?_)
  refine pw_scr n_119_582 (by omega) hL rfl ?_
  refine pw_virtV (a := 151) (as := [.int (f (i + 1)), .int (f (i + 2))]) (st := [.int ((xOpen X (f (i + 1)) (f (i + 2))).1)]) n_119_583 cl_8_66 ⟨rfl, rfl, rfl⟩ (sum8 rfl) (E_tg sh_R_state) rfl (w_107 (x := (f (i + 1))) (t := (f (i + 2))) _) ?_
  refine pw_icmp_eq_t (q := 883) n_119_586 rfl heq ?_
  refine pw_iinc (v := nI (i + 5)) (l := [some (.ref 0), some (.ref 1), some (.ref 152), some (.int (nI (i + 5)))]) n_119_883 rfl (nJ_inc5 i) rfl rfl ?_
  refine pw_goto (q := 18) n_119_886 rfl ?_
  exact hk
set_option maxRecDepth 100000 in
set_option maxHeartbeats 4000000 in
theorem lawc_12 {X M : gS} {L i : Nat} {f : Nat → Int32} {r : pm_R} (hL : L ≤ 2560) (hi : i + 5 ≤ L) (hz : f i &&& 31 = 12) (heq : (xBind X (f (i + 1)) (f (i + 2)) (f (i + 3))).1 = (mBind M (f (i + 1)) (f (i + 2)) (f (i + 3))).1) (hk : pw (some (L, f)) 8 119 18 [some (.ref 0), some (.ref 1), some (.ref 152), some (.int (nI (i + 5)))] [] (gE ((xBind X (f (i + 1)) (f (i + 2)) (f (i + 3))).2) ((mBind M (f (i + 1)) (f (i + 2)) (f (i + 3))).2)) r) : pw (some (L, f)) 8 119 18 [some (.ref 0), some (.ref 1), some (.ref 152), some (.int (nI i))] [] (gE X M) r := by
  refine pw_iload_n n_119_18 rfl rfl ?_
  refine pw_aload_n n_119_19 rfl rfl ?_
  refine pw_salen n_119_20 rfl ?_
  refine pw_iconst n_119_21 ic_5 rfl ?_
  refine pw_isub n_119_22 rfl ?_
  refine pw_icmp_gt_f (q := 889) n_119_23 rfl rfl (lw_cont hL (by omega)) ?_
  refine pw_aload_n n_119_26 rfl rfl ?_
  refine pw_iload_n n_119_27 rfl rfl ?_
  refine pw_scr n_119_28 (by omega) hL rfl ?_
  refine pw_bipush n_119_29 bc_31 rfl ?_
  refine pw_iand n_119_31 rfl ?_
  refine pw_top (y := 12) hz ?_
  refine pw_tableIn (q := 591) n_119_32 (by decide) rfl rfl ?_
  refine pw_aload_n n_119_591 rfl rfl ?_
  refine pw_aload_n n_119_592 rfl rfl ?_
  refine pw_iload_n n_119_593 rfl rfl ?_
  refine pw_iconst n_119_594 ic_1 rfl ?_
  refine pw_iadd n_119_595 rfl (pw_top (nJ_add i 1) ?_)
  refine pw_scr n_119_596 (by omega) hL rfl ?_
  refine pw_aload_n n_119_597 rfl rfl ?_
  refine pw_iload_n n_119_598 rfl rfl ?_
  refine pw_iconst n_119_599 ic_2 rfl ?_
  refine pw_iadd n_119_600 rfl (pw_top (nJ_add i 2) ?_)
  refine pw_scr n_119_601 (by omega) hL rfl ?_
  refine pw_aload_n n_119_602 rfl rfl ?_
  refine pw_iload_n n_119_603 rfl rfl ?_
  refine pw_iconst n_119_604 ic_3 rfl ?_
  refine pw_iadd n_119_605 rfl (pw_top (nJ_add i 3) ?_)
  refine pw_scr n_119_606 (by omega) hL rfl ?_
  refine pw_virtV (a := 0) (as := [.int (f (i + 1)), .int (f (i + 2)), .int (f (i + 3))]) (st := []) n_119_607 cl_8_67 ⟨rfl, rfl, rfl⟩ (sum8 rfl) (E_tg sh_G_domains) rfl (w_13 (x := (f (i + 1))) (t := (f (i + 2))) (k := (f (i + 3))) _) ?_
  refine pw_aload_n n_119_610 rfl rfl ?_
  refine pw_aload_n n_119_611 rfl rfl ?_
  refine pw_iload_n n_119_612 rfl rfl ?_
  refine pw_iconst n_119_613 ic_1 rfl ?_
  refine pw_iadd n_119_614 rfl (pw_top (nJ_add i 1) ?_)
  refine pw_scr n_119_615 (by omega) hL rfl ?_
  refine pw_aload_n n_119_616 rfl rfl ?_
  refine pw_iload_n n_119_617 rfl rfl ?_
  refine pw_iconst n_119_618 ic_2 rfl ?_
  refine pw_iadd n_119_619 rfl (pw_top (nJ_add i 2) ?_)
  refine pw_scr n_119_620 (by omega) hL rfl ?_
  refine pw_aload_n n_119_621 rfl rfl ?_
  refine pw_iload_n n_119_622 rfl rfl ?_
  refine pw_iconst n_119_623 ic_3 rfl ?_
  refine pw_iadd n_119_624 rfl (pw_top (nJ_add i 3) ?_)
  refine pw_scr n_119_625 (by omega) hL rfl ?_
  refine pw_virtV (a := 151) (as := [.int (f (i + 1)), .int (f (i + 2)), .int (f (i + 3))]) (st := [.int ((xBind X (f (i + 1)) (f (i + 2)) (f (i + 3))).1)]) n_119_626 cl_8_71 ⟨rfl, rfl, rfl⟩ (sum8 rfl) (E_tg sh_R_state) rfl (w_108 (x := (f (i + 1))) (t := (f (i + 2))) (k := (f (i + 3))) _) ?_
  refine pw_icmp_eq_t (q := 883) n_119_629 rfl heq ?_
  refine pw_iinc (v := nI (i + 5)) (l := [some (.ref 0), some (.ref 1), some (.ref 152), some (.int (nI (i + 5)))]) n_119_883 rfl (nJ_inc5 i) rfl rfl ?_
  refine pw_goto (q := 18) n_119_886 rfl ?_
  exact hk
set_option maxRecDepth 100000 in
set_option maxHeartbeats 4000000 in
theorem lawc_13 {X M : gS} {L i : Nat} {f : Nat → Int32} {r : pm_R} (hL : L ≤ 2560) (hi : i + 5 ≤ L) (hz : f i &&& 31 = 13) (xpq : xLive X (f (i + 1)) = true → xPrt (f (i + 2)) = true → X 10 (tN (f (i + 1))) (tN (f (i + 2))) = 2 → pqF X (tN (f (i + 1))) (tN (f (i + 2)))) (mmp : mpA M) (heq : (xSend X (f (i + 1)) (f (i + 2))).1 = (mSend M (f (i + 1)) (f (i + 2))).1) (hk : pw (some (L, f)) 8 119 18 [some (.ref 0), some (.ref 1), some (.ref 152), some (.int (nI (i + 5)))] [] (gE ((xSend X (f (i + 1)) (f (i + 2))).2) ((mSend M (f (i + 1)) (f (i + 2))).2)) r) : pw (some (L, f)) 8 119 18 [some (.ref 0), some (.ref 1), some (.ref 152), some (.int (nI i))] [] (gE X M) r := by
  refine pw_iload_n n_119_18 rfl rfl ?_
  refine pw_aload_n n_119_19 rfl rfl ?_
  refine pw_salen n_119_20 rfl ?_
  refine pw_iconst n_119_21 ic_5 rfl ?_
  refine pw_isub n_119_22 rfl ?_
  refine pw_icmp_gt_f (q := 889) n_119_23 rfl rfl (lw_cont hL (by omega)) ?_
  refine pw_aload_n n_119_26 rfl rfl ?_
  refine pw_iload_n n_119_27 rfl rfl ?_
  refine pw_scr n_119_28 (by omega) hL rfl ?_
  refine pw_bipush n_119_29 bc_31 rfl ?_
  refine pw_iand n_119_31 rfl ?_
  refine pw_top (y := 13) hz ?_
  refine pw_tableIn (q := 634) n_119_32 (by decide) rfl rfl ?_
  refine pw_aload_n n_119_634 rfl rfl ?_
  refine pw_aload_n n_119_635 rfl rfl ?_
  refine pw_iload_n n_119_636 rfl rfl ?_
  refine pw_iconst n_119_637 ic_1 rfl ?_
  refine pw_iadd n_119_638 rfl (pw_top (nJ_add i 1) ?_)
  refine pw_scr n_119_639 (by omega) hL rfl ?_
  refine pw_aload_n n_119_640 rfl rfl ?_
  refine pw_iload_n n_119_641 rfl rfl ?_
  refine pw_iconst n_119_642 ic_2 rfl ?_
  refine pw_iadd n_119_643 rfl (pw_top (nJ_add i 2) ?_)
  refine pw_scr n_119_644 (by omega) hL rfl ?_
  refine pw_virtV (a := 0) (as := [.int (f (i + 1)), .int (f (i + 2))]) (st := []) n_119_645 cl_8_72 ⟨rfl, rfl, rfl⟩ (sum8 rfl) (E_tg sh_G_domains) rfl (w_14 (x := (f (i + 1))) (k := (f (i + 2))) xpq _) ?_
  refine pw_aload_n n_119_648 rfl rfl ?_
  refine pw_aload_n n_119_649 rfl rfl ?_
  refine pw_iload_n n_119_650 rfl rfl ?_
  refine pw_iconst n_119_651 ic_1 rfl ?_
  refine pw_iadd n_119_652 rfl (pw_top (nJ_add i 1) ?_)
  refine pw_scr n_119_653 (by omega) hL rfl ?_
  refine pw_aload_n n_119_654 rfl rfl ?_
  refine pw_iload_n n_119_655 rfl rfl ?_
  refine pw_iconst n_119_656 ic_2 rfl ?_
  refine pw_iadd n_119_657 rfl (pw_top (nJ_add i 2) ?_)
  refine pw_scr n_119_658 (by omega) hL rfl ?_
  refine pw_virtV (a := 151) (as := [.int (f (i + 1)), .int (f (i + 2))]) (st := [.int ((xSend X (f (i + 1)) (f (i + 2))).1)]) n_119_659 cl_8_75 ⟨rfl, rfl, rfl⟩ (sum8 rfl) (E_tg sh_R_state) rfl (w_109 (x := (f (i + 1))) (k := (f (i + 2))) mmp _) ?_
  refine pw_icmp_eq_t (q := 883) n_119_662 rfl heq ?_
  refine pw_iinc (v := nI (i + 5)) (l := [some (.ref 0), some (.ref 1), some (.ref 152), some (.int (nI (i + 5)))]) n_119_883 rfl (nJ_inc5 i) rfl rfl ?_
  refine pw_goto (q := 18) n_119_886 rfl ?_
  exact hk
set_option maxRecDepth 100000 in
set_option maxHeartbeats 4000000 in
theorem lawc_14 {X M : gS} {L i : Nat} {f : Nat → Int32} {r : pm_R} (hL : L ≤ 2560) (hi : i + 5 ≤ L) (hz : f i &&& 31 = 14) (heq : (xNext X (f (i + 1))).1 = (mNext M (f (i + 1))).1) (hk : pw (some (L, f)) 8 119 18 [some (.ref 0), some (.ref 1), some (.ref 152), some (.int (nI (i + 5)))] [] (gE ((xNext X (f (i + 1))).2) ((mNext M (f (i + 1))).2)) r) : pw (some (L, f)) 8 119 18 [some (.ref 0), some (.ref 1), some (.ref 152), some (.int (nI i))] [] (gE X M) r := by
  refine pw_iload_n n_119_18 rfl rfl ?_
  refine pw_aload_n n_119_19 rfl rfl ?_
  refine pw_salen n_119_20 rfl ?_
  refine pw_iconst n_119_21 ic_5 rfl ?_
  refine pw_isub n_119_22 rfl ?_
  refine pw_icmp_gt_f (q := 889) n_119_23 rfl rfl (lw_cont hL (by omega)) ?_
  refine pw_aload_n n_119_26 rfl rfl ?_
  refine pw_iload_n n_119_27 rfl rfl ?_
  refine pw_scr n_119_28 (by omega) hL rfl ?_
  refine pw_bipush n_119_29 bc_31 rfl ?_
  refine pw_iand n_119_31 rfl ?_
  refine pw_top (y := 14) hz ?_
  refine pw_tableIn (q := 667) n_119_32 (by decide) rfl rfl ?_
  refine pw_aload_n n_119_667 rfl rfl ?_
  refine pw_aload_n n_119_668 rfl rfl ?_
  refine pw_iload_n n_119_669 rfl rfl ?_
  refine pw_iconst n_119_670 ic_1 rfl ?_
  refine pw_iadd n_119_671 rfl (pw_top (nJ_add i 1) ?_)
  refine pw_scr n_119_672 (by omega) hL rfl ?_
  refine pw_virtV (a := 0) (as := [.int (f (i + 1))]) (st := []) n_119_673 cl_8_76 ⟨rfl, rfl, rfl⟩ (sum8 rfl) (E_tg sh_G_domains) rfl (w_15 (x := (f (i + 1))) _) ?_
  refine pw_aload_n n_119_676 rfl rfl ?_
  refine pw_aload_n n_119_677 rfl rfl ?_
  refine pw_iload_n n_119_678 rfl rfl ?_
  refine pw_iconst n_119_679 ic_1 rfl ?_
  refine pw_iadd n_119_680 rfl (pw_top (nJ_add i 1) ?_)
  refine pw_scr n_119_681 (by omega) hL rfl ?_
  refine pw_virtV (a := 151) (as := [.int (f (i + 1))]) (st := [.int ((xNext X (f (i + 1))).1)]) n_119_682 cl_8_79 ⟨rfl, rfl, rfl⟩ (sum8 rfl) (E_tg sh_R_state) rfl (w_110 (x := (f (i + 1))) _) ?_
  refine pw_icmp_eq_t (q := 883) n_119_685 rfl heq ?_
  refine pw_iinc (v := nI (i + 5)) (l := [some (.ref 0), some (.ref 1), some (.ref 152), some (.int (nI (i + 5)))]) n_119_883 rfl (nJ_inc5 i) rfl rfl ?_
  refine pw_goto (q := 18) n_119_886 rfl ?_
  exact hk
set_option maxRecDepth 100000 in
set_option maxHeartbeats 4000000 in
theorem lawc_15 {X M : gS} {L i : Nat} {f : Nat → Int32} {r : pm_R} (hL : L ≤ 2560) (hi : i + 5 ≤ L) (hz : f i &&& 31 = 15) (heq : (xAttach X (f (i + 1)) (f (i + 2))).1 = (mAttach M (f (i + 1)) (f (i + 2))).1) (hk : pw (some (L, f)) 8 119 18 [some (.ref 0), some (.ref 1), some (.ref 152), some (.int (nI (i + 5)))] [] (gE ((xAttach X (f (i + 1)) (f (i + 2))).2) ((mAttach M (f (i + 1)) (f (i + 2))).2)) r) : pw (some (L, f)) 8 119 18 [some (.ref 0), some (.ref 1), some (.ref 152), some (.int (nI i))] [] (gE X M) r := by
  refine pw_iload_n n_119_18 rfl rfl ?_
  refine pw_aload_n n_119_19 rfl rfl ?_
  refine pw_salen n_119_20 rfl ?_
  refine pw_iconst n_119_21 ic_5 rfl ?_
  refine pw_isub n_119_22 rfl ?_
  refine pw_icmp_gt_f (q := 889) n_119_23 rfl rfl (lw_cont hL (by omega)) ?_
  refine pw_aload_n n_119_26 rfl rfl ?_
  refine pw_iload_n n_119_27 rfl rfl ?_
  refine pw_scr n_119_28 (by omega) hL rfl ?_
  refine pw_bipush n_119_29 bc_31 rfl ?_
  refine pw_iand n_119_31 rfl ?_
  refine pw_top (y := 15) hz ?_
  refine pw_tableIn (q := 690) n_119_32 (by decide) rfl rfl ?_
  refine pw_aload_n n_119_690 rfl rfl ?_
  refine pw_aload_n n_119_691 rfl rfl ?_
  refine pw_iload_n n_119_692 rfl rfl ?_
  refine pw_iconst n_119_693 ic_1 rfl ?_
  refine pw_iadd n_119_694 rfl (pw_top (nJ_add i 1) ?_)
  refine pw_scr n_119_695 (by omega) hL rfl ?_
  refine pw_aload_n n_119_696 rfl rfl ?_
  refine pw_iload_n n_119_697 rfl rfl ?_
  refine pw_iconst n_119_698 ic_2 rfl ?_
  refine pw_iadd n_119_699 rfl (pw_top (nJ_add i 2) ?_)
  refine pw_scr n_119_700 (by omega) hL rfl ?_
  refine pw_virtV (a := 0) (as := [.int (f (i + 1)), .int (f (i + 2))]) (st := []) n_119_701 cl_8_80 ⟨rfl, rfl, rfl⟩ (sum8 rfl) (E_tg sh_G_domains) rfl (w_16 (f := (f (i + 1))) (b := (f (i + 2))) _) ?_
  refine pw_aload_n n_119_704 rfl rfl ?_
  refine pw_aload_n n_119_705 rfl rfl ?_
  refine pw_iload_n n_119_706 rfl rfl ?_
  refine pw_iconst n_119_707 ic_1 rfl ?_
  refine pw_iadd n_119_708 rfl (pw_top (nJ_add i 1) ?_)
  refine pw_scr n_119_709 (by omega) hL rfl ?_
  refine pw_aload_n n_119_710 rfl rfl ?_
  refine pw_iload_n n_119_711 rfl rfl ?_
  refine pw_iconst n_119_712 ic_2 rfl ?_
  refine pw_iadd n_119_713 rfl (pw_top (nJ_add i 2) ?_)
  refine pw_scr n_119_714 (by omega) hL rfl ?_
  refine pw_virtV (a := 151) (as := [.int (f (i + 1)), .int (f (i + 2))]) (st := [.int ((xAttach X (f (i + 1)) (f (i + 2))).1)]) n_119_715 cl_8_83 ⟨rfl, rfl, rfl⟩ (sum8 rfl) (E_tg sh_R_state) rfl (w_111 (f := (f (i + 1))) (b := (f (i + 2))) _) ?_
  refine pw_icmp_eq_t (q := 883) n_119_718 rfl heq ?_
  refine pw_iinc (v := nI (i + 5)) (l := [some (.ref 0), some (.ref 1), some (.ref 152), some (.int (nI (i + 5)))]) n_119_883 rfl (nJ_inc5 i) rfl rfl ?_
  refine pw_goto (q := 18) n_119_886 rfl ?_
  exact hk
set_option maxRecDepth 100000 in
set_option maxHeartbeats 4000000 in
theorem lawc_16t {X M : gS} {L i : Nat} {f : Nat → Int32} {r : pm_R} (hL : L ≤ 2560) (hi : i + 5 ≤ L) (hz : f i &&& 31 = 16) (hw : ¬ f (i + 2) = 0) (xdv : xPres X (f (i + 1)) = true → dvF X (tN (f (i + 1)))) (xsu : xDc X (f (i + 1)) = 0 → (¬ X 15 (tN (f (i + 1))) 0 < 0 ∧ tN (X 15 (tN (f (i + 1))) 0) < 5 ∧ ¬ X 17 (tN (f (i + 1))) 0 < 0 ∧ tN (X 17 (tN (f (i + 1))) 0) < 20 ∧ ¬ X 22 (tN (f (i + 1))) 0 < 0 ∧ hOkA X ∧ pqA X)) (mdv : ∀ v, v < 3 → ¬ M 61 v 0 = 0 → dvM M v) (msu : ∀ v, v < 3 → ¬ M 61 v 0 = 0 → M 68 v 0 = nI (mPo M v) ∧ mPo M v < 2 ^ 30 ∧ mLive M (nI (mF M v)) = true ∧ mpA M) (heq : (xSubmit X (f (i + 1)) true (f (i + 3)) (f (i + 4))).1 = (mSubmit M (f (i + 1)) true (f (i + 3)) (f (i + 4))).1) (hk : pw (some (L, f)) 8 119 18 [some (.ref 0), some (.ref 1), some (.ref 152), some (.int (nI (i + 5)))] [] (gE ((xSubmit X (f (i + 1)) true (f (i + 3)) (f (i + 4))).2) ((mSubmit M (f (i + 1)) true (f (i + 3)) (f (i + 4))).2)) r) : pw (some (L, f)) 8 119 18 [some (.ref 0), some (.ref 1), some (.ref 152), some (.int (nI i))] [] (gE X M) r := by
  refine pw_iload_n n_119_18 rfl rfl ?_
  refine pw_aload_n n_119_19 rfl rfl ?_
  refine pw_salen n_119_20 rfl ?_
  refine pw_iconst n_119_21 ic_5 rfl ?_
  refine pw_isub n_119_22 rfl ?_
  refine pw_icmp_gt_f (q := 889) n_119_23 rfl rfl (lw_cont hL (by omega)) ?_
  refine pw_aload_n n_119_26 rfl rfl ?_
  refine pw_iload_n n_119_27 rfl rfl ?_
  refine pw_scr n_119_28 (by omega) hL rfl ?_
  refine pw_bipush n_119_29 bc_31 rfl ?_
  refine pw_iand n_119_31 rfl ?_
  refine pw_top (y := 16) hz ?_
  refine pw_tableIn (q := 723) n_119_32 (by decide) rfl rfl ?_
  refine pw_aload_n n_119_723 rfl rfl ?_
  refine pw_aload_n n_119_724 rfl rfl ?_
  refine pw_iload_n n_119_725 rfl rfl ?_
  refine pw_iconst n_119_726 ic_1 rfl ?_
  refine pw_iadd n_119_727 rfl (pw_top (nJ_add i 1) ?_)
  refine pw_scr n_119_728 (by omega) hL rfl ?_
  refine pw_aload_n n_119_729 rfl rfl ?_
  refine pw_iload_n n_119_730 rfl rfl ?_
  refine pw_iconst n_119_731 ic_2 rfl ?_
  refine pw_iadd n_119_732 rfl (pw_top (nJ_add i 2) ?_)
  refine pw_scr n_119_733 (by omega) hL rfl ?_
  refine pw_if_eq_f (q := 741) n_119_734 rfl rfl hw ?_
  refine pw_iconst n_119_737 ic_1 rfl ?_
  refine pw_goto (q := 742) n_119_738 rfl ?_
  refine pw_aload_n n_119_742 rfl rfl ?_
  refine pw_iload_n n_119_743 rfl rfl ?_
  refine pw_iconst n_119_744 ic_3 rfl ?_
  refine pw_iadd n_119_745 rfl (pw_top (nJ_add i 3) ?_)
  refine pw_scr n_119_746 (by omega) hL rfl ?_
  refine pw_aload_n n_119_747 rfl rfl ?_
  refine pw_iload_n n_119_748 rfl rfl ?_
  refine pw_iconst n_119_749 ic_4 rfl ?_
  refine pw_iadd n_119_750 rfl (pw_top (nJ_add i 4) ?_)
  refine pw_scr n_119_751 (by omega) hL rfl ?_
  refine pw_virtV (a := 0) (as := [.int (f (i + 1)), .int 1, .int (f (i + 3)), .int (f (i + 4))]) (st := []) n_119_752 cl_8_84 ⟨rfl, rfl, rfl⟩ (sum8 rfl) (E_tg sh_G_domains) rfl (w_17t (x := (f (i + 1))) (s := (f (i + 3))) (z := (f (i + 4))) xdv xsu _) ?_
  refine pw_aload_n n_119_755 rfl rfl ?_
  refine pw_aload_n n_119_756 rfl rfl ?_
  refine pw_iload_n n_119_757 rfl rfl ?_
  refine pw_iconst n_119_758 ic_1 rfl ?_
  refine pw_iadd n_119_759 rfl (pw_top (nJ_add i 1) ?_)
  refine pw_scr n_119_760 (by omega) hL rfl ?_
  refine pw_aload_n n_119_761 rfl rfl ?_
  refine pw_iload_n n_119_762 rfl rfl ?_
  refine pw_iconst n_119_763 ic_2 rfl ?_
  refine pw_iadd n_119_764 rfl (pw_top (nJ_add i 2) ?_)
  refine pw_scr n_119_765 (by omega) hL rfl ?_
  refine pw_if_eq_f (q := 773) n_119_766 rfl rfl hw ?_
  refine pw_iconst n_119_769 ic_1 rfl ?_
  refine pw_goto (q := 774) n_119_770 rfl ?_
  refine pw_aload_n n_119_774 rfl rfl ?_
  refine pw_iload_n n_119_775 rfl rfl ?_
  refine pw_iconst n_119_776 ic_3 rfl ?_
  refine pw_iadd n_119_777 rfl (pw_top (nJ_add i 3) ?_)
  refine pw_scr n_119_778 (by omega) hL rfl ?_
  refine pw_aload_n n_119_779 rfl rfl ?_
  refine pw_iload_n n_119_780 rfl rfl ?_
  refine pw_iconst n_119_781 ic_4 rfl ?_
  refine pw_iadd n_119_782 rfl (pw_top (nJ_add i 4) ?_)
  refine pw_scr n_119_783 (by omega) hL rfl ?_
  refine pw_virtV (a := 151) (as := [.int (f (i + 1)), .int 1, .int (f (i + 3)), .int (f (i + 4))]) (st := [.int ((xSubmit X (f (i + 1)) true (f (i + 3)) (f (i + 4))).1)]) n_119_784 cl_8_88 ⟨rfl, rfl, rfl⟩ (sum8 rfl) (E_tg sh_R_state) rfl (w_113t (x := (f (i + 1))) (s := (f (i + 3))) (z := (f (i + 4))) mdv msu _) ?_
  refine pw_icmp_eq_t (q := 883) n_119_787 rfl heq ?_
  refine pw_iinc (v := nI (i + 5)) (l := [some (.ref 0), some (.ref 1), some (.ref 152), some (.int (nI (i + 5)))]) n_119_883 rfl (nJ_inc5 i) rfl rfl ?_
  refine pw_goto (q := 18) n_119_886 rfl ?_
  exact hk
set_option maxRecDepth 100000 in
set_option maxHeartbeats 4000000 in
theorem lawc_16f {X M : gS} {L i : Nat} {f : Nat → Int32} {r : pm_R} (hL : L ≤ 2560) (hi : i + 5 ≤ L) (hz : f i &&& 31 = 16) (hw : f (i + 2) = 0) (xdv : xPres X (f (i + 1)) = true → dvF X (tN (f (i + 1)))) (xsu : xDc X (f (i + 1)) = 0 → (¬ X 15 (tN (f (i + 1))) 0 < 0 ∧ tN (X 15 (tN (f (i + 1))) 0) < 5 ∧ ¬ X 17 (tN (f (i + 1))) 0 < 0 ∧ tN (X 17 (tN (f (i + 1))) 0) < 20 ∧ ¬ X 22 (tN (f (i + 1))) 0 < 0 ∧ hOkA X ∧ pqA X)) (mdv : ∀ v, v < 3 → ¬ M 61 v 0 = 0 → dvM M v) (msu : ∀ v, v < 3 → ¬ M 61 v 0 = 0 → M 68 v 0 = nI (mPo M v) ∧ mPo M v < 2 ^ 30 ∧ mLive M (nI (mF M v)) = true ∧ mpA M) (heq : (xSubmit X (f (i + 1)) false (f (i + 3)) (f (i + 4))).1 = (mSubmit M (f (i + 1)) false (f (i + 3)) (f (i + 4))).1) (hk : pw (some (L, f)) 8 119 18 [some (.ref 0), some (.ref 1), some (.ref 152), some (.int (nI (i + 5)))] [] (gE ((xSubmit X (f (i + 1)) false (f (i + 3)) (f (i + 4))).2) ((mSubmit M (f (i + 1)) false (f (i + 3)) (f (i + 4))).2)) r) : pw (some (L, f)) 8 119 18 [some (.ref 0), some (.ref 1), some (.ref 152), some (.int (nI i))] [] (gE X M) r := by
  refine pw_iload_n n_119_18 rfl rfl ?_
  refine pw_aload_n n_119_19 rfl rfl ?_
  refine pw_salen n_119_20 rfl ?_
  refine pw_iconst n_119_21 ic_5 rfl ?_
  refine pw_isub n_119_22 rfl ?_
  refine pw_icmp_gt_f (q := 889) n_119_23 rfl rfl (lw_cont hL (by omega)) ?_
  refine pw_aload_n n_119_26 rfl rfl ?_
  refine pw_iload_n n_119_27 rfl rfl ?_
  refine pw_scr n_119_28 (by omega) hL rfl ?_
  refine pw_bipush n_119_29 bc_31 rfl ?_
  refine pw_iand n_119_31 rfl ?_
  refine pw_top (y := 16) hz ?_
  refine pw_tableIn (q := 723) n_119_32 (by decide) rfl rfl ?_
  refine pw_aload_n n_119_723 rfl rfl ?_
  refine pw_aload_n n_119_724 rfl rfl ?_
  refine pw_iload_n n_119_725 rfl rfl ?_
  refine pw_iconst n_119_726 ic_1 rfl ?_
  refine pw_iadd n_119_727 rfl (pw_top (nJ_add i 1) ?_)
  refine pw_scr n_119_728 (by omega) hL rfl ?_
  refine pw_aload_n n_119_729 rfl rfl ?_
  refine pw_iload_n n_119_730 rfl rfl ?_
  refine pw_iconst n_119_731 ic_2 rfl ?_
  refine pw_iadd n_119_732 rfl (pw_top (nJ_add i 2) ?_)
  refine pw_scr n_119_733 (by omega) hL rfl ?_
  refine pw_if_eq_t (q := 741) n_119_734 rfl hw ?_
  refine pw_iconst n_119_741 ic_0 rfl ?_
  refine pw_aload_n n_119_742 rfl rfl ?_
  refine pw_iload_n n_119_743 rfl rfl ?_
  refine pw_iconst n_119_744 ic_3 rfl ?_
  refine pw_iadd n_119_745 rfl (pw_top (nJ_add i 3) ?_)
  refine pw_scr n_119_746 (by omega) hL rfl ?_
  refine pw_aload_n n_119_747 rfl rfl ?_
  refine pw_iload_n n_119_748 rfl rfl ?_
  refine pw_iconst n_119_749 ic_4 rfl ?_
  refine pw_iadd n_119_750 rfl (pw_top (nJ_add i 4) ?_)
  refine pw_scr n_119_751 (by omega) hL rfl ?_
  refine pw_virtV (a := 0) (as := [.int (f (i + 1)), .int 0, .int (f (i + 3)), .int (f (i + 4))]) (st := []) n_119_752 cl_8_84 ⟨rfl, rfl, rfl⟩ (sum8 rfl) (E_tg sh_G_domains) rfl (w_17f (x := (f (i + 1))) (s := (f (i + 3))) (z := (f (i + 4))) xdv xsu _) ?_
  refine pw_aload_n n_119_755 rfl rfl ?_
  refine pw_aload_n n_119_756 rfl rfl ?_
  refine pw_iload_n n_119_757 rfl rfl ?_
  refine pw_iconst n_119_758 ic_1 rfl ?_
  refine pw_iadd n_119_759 rfl (pw_top (nJ_add i 1) ?_)
  refine pw_scr n_119_760 (by omega) hL rfl ?_
  refine pw_aload_n n_119_761 rfl rfl ?_
  refine pw_iload_n n_119_762 rfl rfl ?_
  refine pw_iconst n_119_763 ic_2 rfl ?_
  refine pw_iadd n_119_764 rfl (pw_top (nJ_add i 2) ?_)
  refine pw_scr n_119_765 (by omega) hL rfl ?_
  refine pw_if_eq_t (q := 773) n_119_766 rfl hw ?_
  refine pw_iconst n_119_773 ic_0 rfl ?_
  refine pw_aload_n n_119_774 rfl rfl ?_
  refine pw_iload_n n_119_775 rfl rfl ?_
  refine pw_iconst n_119_776 ic_3 rfl ?_
  refine pw_iadd n_119_777 rfl (pw_top (nJ_add i 3) ?_)
  refine pw_scr n_119_778 (by omega) hL rfl ?_
  refine pw_aload_n n_119_779 rfl rfl ?_
  refine pw_iload_n n_119_780 rfl rfl ?_
  refine pw_iconst n_119_781 ic_4 rfl ?_
  refine pw_iadd n_119_782 rfl (pw_top (nJ_add i 4) ?_)
  refine pw_scr n_119_783 (by omega) hL rfl ?_
  refine pw_virtV (a := 151) (as := [.int (f (i + 1)), .int 0, .int (f (i + 3)), .int (f (i + 4))]) (st := [.int ((xSubmit X (f (i + 1)) false (f (i + 3)) (f (i + 4))).1)]) n_119_784 cl_8_88 ⟨rfl, rfl, rfl⟩ (sum8 rfl) (E_tg sh_R_state) rfl (w_113f (x := (f (i + 1))) (s := (f (i + 3))) (z := (f (i + 4))) mdv msu _) ?_
  refine pw_icmp_eq_t (q := 883) n_119_787 rfl heq ?_
  refine pw_iinc (v := nI (i + 5)) (l := [some (.ref 0), some (.ref 1), some (.ref 152), some (.int (nI (i + 5)))]) n_119_883 rfl (nJ_inc5 i) rfl rfl ?_
  refine pw_goto (q := 18) n_119_886 rfl ?_
  exact hk
set_option maxRecDepth 100000 in
set_option maxHeartbeats 4000000 in
theorem lawc_17 {X M : gS} {L i : Nat} {f : Nat → Int32} {r : pm_R} (hL : L ≤ 2560) (hi : i + 5 ≤ L) (hz : f i &&& 31 = 17) (xdv : xPres X (f (i + 1)) = true → dvF X (tN (f (i + 1)))) (xsu : xDc X (f (i + 1)) = 0 → (¬ X 17 (tN (f (i + 1))) 0 < 0 ∧ tN (X 17 (tN (f (i + 1))) 0) < 20 ∧ ¬ X 24 (tN (f (i + 1))) 0 < 0 ∧ pqA X ∧ (¬ (xCom X (tN (f (i + 1))) (X 2 (tN (X 17 (tN (f (i + 1))) 0)) (tN (2 + rem3 (X 24 (tN (f (i + 1))) 0)))) (decide ((X 2 (tN (X 17 (tN (f (i + 1))) 0)) (tN (2 + rem3 (X 24 (tN (f (i + 1))) 0)))) &&& 8 = 0))).1 < 0 → coF X (xCom X (tN (f (i + 1))) (X 2 (tN (X 17 (tN (f (i + 1))) 0)) (tN (2 + rem3 (X 24 (tN (f (i + 1))) 0)))) (decide ((X 2 (tN (X 17 (tN (f (i + 1))) 0)) (tN (2 + rem3 (X 24 (tN (f (i + 1))) 0)))) &&& 8 = 0))) (tN (f (i + 1))) (X 2 (tN (X 17 (tN (f (i + 1))) 0)) (tN (2 + rem3 (X 24 (tN (f (i + 1))) 0)))) (decide ((X 2 (tN (X 17 (tN (f (i + 1))) 0)) (tN (2 + rem3 (X 24 (tN (f (i + 1))) 0)))) &&& 8 = 0))))) (mdv : ∀ v, v < 3 → ¬ M 61 v 0 = 0 → dvM M v) (msu : ∀ v, v < 3 → ¬ M 61 v 0 = 0 → M 70 v 0 = nI (mTa M v) ∧ mTa M v < 2 ^ 30 ∧ mpA M ∧ (¬ (mCom M v (mSq M v) (decide (mSq M v &&& 8 = 0))).1 < 0 → coMF M (mCom M v (mSq M v) (decide (mSq M v &&& 8 = 0))) v (mSq M v) (decide (mSq M v &&& 8 = 0)))) (heq : (xServe X (f (i + 1))).1 = (mServe M (f (i + 1))).1) (hk : pw (some (L, f)) 8 119 18 [some (.ref 0), some (.ref 1), some (.ref 152), some (.int (nI (i + 5)))] [] (gE ((xServe X (f (i + 1))).2) ((mServe M (f (i + 1))).2)) r) : pw (some (L, f)) 8 119 18 [some (.ref 0), some (.ref 1), some (.ref 152), some (.int (nI i))] [] (gE X M) r := by
  refine pw_iload_n n_119_18 rfl rfl ?_
  refine pw_aload_n n_119_19 rfl rfl ?_
  refine pw_salen n_119_20 rfl ?_
  refine pw_iconst n_119_21 ic_5 rfl ?_
  refine pw_isub n_119_22 rfl ?_
  refine pw_icmp_gt_f (q := 889) n_119_23 rfl rfl (lw_cont hL (by omega)) ?_
  refine pw_aload_n n_119_26 rfl rfl ?_
  refine pw_iload_n n_119_27 rfl rfl ?_
  refine pw_scr n_119_28 (by omega) hL rfl ?_
  refine pw_bipush n_119_29 bc_31 rfl ?_
  refine pw_iand n_119_31 rfl ?_
  refine pw_top (y := 17) hz ?_
  refine pw_tableIn (q := 792) n_119_32 (by decide) rfl rfl ?_
  refine pw_aload_n n_119_792 rfl rfl ?_
  refine pw_aload_n n_119_793 rfl rfl ?_
  refine pw_iload_n n_119_794 rfl rfl ?_
  refine pw_iconst n_119_795 ic_1 rfl ?_
  refine pw_iadd n_119_796 rfl (pw_top (nJ_add i 1) ?_)
  refine pw_scr n_119_797 (by omega) hL rfl ?_
  refine pw_virtV (a := 0) (as := [.int (f (i + 1))]) (st := []) n_119_798 cl_8_89 ⟨rfl, rfl, rfl⟩ (sum8 rfl) (E_tg sh_G_domains) rfl (w_18 (x := (f (i + 1))) xdv xsu _) ?_
  refine pw_aload_n n_119_801 rfl rfl ?_
  refine pw_aload_n n_119_802 rfl rfl ?_
  refine pw_iload_n n_119_803 rfl rfl ?_
  refine pw_iconst n_119_804 ic_1 rfl ?_
  refine pw_iadd n_119_805 rfl (pw_top (nJ_add i 1) ?_)
  refine pw_scr n_119_806 (by omega) hL rfl ?_
  refine pw_virtV (a := 151) (as := [.int (f (i + 1))]) (st := [.int ((xServe X (f (i + 1))).1)]) n_119_807 cl_8_92 ⟨rfl, rfl, rfl⟩ (sum8 rfl) (E_tg sh_R_state) rfl (w_114 (x := (f (i + 1))) mdv msu _) ?_
  refine pw_icmp_eq_t (q := 883) n_119_810 rfl heq ?_
  refine pw_iinc (v := nI (i + 5)) (l := [some (.ref 0), some (.ref 1), some (.ref 152), some (.int (nI (i + 5)))]) n_119_883 rfl (nJ_inc5 i) rfl rfl ?_
  refine pw_goto (q := 18) n_119_886 rfl ?_
  exact hk
set_option maxRecDepth 100000 in
set_option maxHeartbeats 4000000 in
theorem lawc_18 {X M : gS} {L i : Nat} {f : Nat → Int32} {r : pm_R} (hL : L ≤ 2560) (hi : i + 5 ≤ L) (hz : f i &&& 31 = 18) (xdv : xPres X (f (i + 1)) = true → dvF X (tN (f (i + 1)))) (xsu : xDc X (f (i + 1)) = 0 → (¬ X 17 (tN (f (i + 1))) 0 < 0 ∧ tN (X 17 (tN (f (i + 1))) 0) < 20 ∧ ¬ X 23 (tN (f (i + 1))) 0 < 0 ∧ hOkA X)) (mdv : ∀ v, v < 3 → ¬ M 61 v 0 = 0 → dvM M v) (msu : ∀ v, v < 3 → ¬ M 61 v 0 = 0 → M 69 v 0 = nI (mRa M v) ∧ mRa M v < 2 ^ 30 ∧ ∀ a, a < 5 → hOkM M a) (heq : (xReap X (f (i + 1))).1 = (mReap M (f (i + 1))).1) (hk : pw (some (L, f)) 8 119 18 [some (.ref 0), some (.ref 1), some (.ref 152), some (.int (nI (i + 5)))] [] (gE ((xReap X (f (i + 1))).2) ((mReap M (f (i + 1))).2)) r) : pw (some (L, f)) 8 119 18 [some (.ref 0), some (.ref 1), some (.ref 152), some (.int (nI i))] [] (gE X M) r := by
  refine pw_iload_n n_119_18 rfl rfl ?_
  refine pw_aload_n n_119_19 rfl rfl ?_
  refine pw_salen n_119_20 rfl ?_
  refine pw_iconst n_119_21 ic_5 rfl ?_
  refine pw_isub n_119_22 rfl ?_
  refine pw_icmp_gt_f (q := 889) n_119_23 rfl rfl (lw_cont hL (by omega)) ?_
  refine pw_aload_n n_119_26 rfl rfl ?_
  refine pw_iload_n n_119_27 rfl rfl ?_
  refine pw_scr n_119_28 (by omega) hL rfl ?_
  refine pw_bipush n_119_29 bc_31 rfl ?_
  refine pw_iand n_119_31 rfl ?_
  refine pw_top (y := 18) hz ?_
  refine pw_tableIn (q := 815) n_119_32 (by decide) rfl rfl ?_
  refine pw_aload_n n_119_815 rfl rfl ?_
  refine pw_aload_n n_119_816 rfl rfl ?_
  refine pw_iload_n n_119_817 rfl rfl ?_
  refine pw_iconst n_119_818 ic_1 rfl ?_
  refine pw_iadd n_119_819 rfl (pw_top (nJ_add i 1) ?_)
  refine pw_scr n_119_820 (by omega) hL rfl ?_
  refine pw_virtV (a := 0) (as := [.int (f (i + 1))]) (st := []) n_119_821 cl_8_93 ⟨rfl, rfl, rfl⟩ (sum8 rfl) (E_tg sh_G_domains) rfl (w_19 (x := (f (i + 1))) xdv xsu _) ?_
  refine pw_aload_n n_119_824 rfl rfl ?_
  refine pw_aload_n n_119_825 rfl rfl ?_
  refine pw_iload_n n_119_826 rfl rfl ?_
  refine pw_iconst n_119_827 ic_1 rfl ?_
  refine pw_iadd n_119_828 rfl (pw_top (nJ_add i 1) ?_)
  refine pw_scr n_119_829 (by omega) hL rfl ?_
  refine pw_virtV (a := 151) (as := [.int (f (i + 1))]) (st := [.long ((xReap X (f (i + 1))).1)]) n_119_830 cl_8_97 ⟨rfl, rfl, rfl⟩ (sum8 rfl) (E_tg sh_R_state) rfl (w_115 (x := (f (i + 1))) mdv msu _) ?_
  refine pw_lcmp n_119_833 rfl ?_
  refine pw_ifc_eq (q := 883) n_119_834 rfl rfl (fun _ => ?_) (fun hn => absurd heq hn)
  refine pw_iinc (v := nI (i + 5)) (l := [some (.ref 0), some (.ref 1), some (.ref 152), some (.int (nI (i + 5)))]) n_119_883 rfl (nJ_inc5 i) rfl rfl ?_
  refine pw_goto (q := 18) n_119_886 rfl ?_
  exact hk
set_option maxRecDepth 100000 in
set_option maxHeartbeats 4000000 in
theorem lawc_19 {X M : gS} {L i : Nat} {f : Nat → Int32} {r : pm_R} (hL : L ≤ 2560) (hi : i + 5 ≤ L) (hz : f i &&& 31 = 19) (xho : xDom (f (i + 2)) = true → hOk X (tN (f (i + 2)))) (mhmA : ∀ h, h < 25 → ¬ M 56 h 0 = 0 → M 56 h 0 = nI (mE M h + 1) ∧ mE M h < 30) (heq : xLook X (f (i + 1)) (f (i + 2)) (f (i + 3)) = mLook M (f (i + 1)) (f (i + 2)) (f (i + 3))) (hk : pw (some (L, f)) 8 119 18 [some (.ref 0), some (.ref 1), some (.ref 152), some (.int (nI (i + 5)))] [] (gE X M) r) : pw (some (L, f)) 8 119 18 [some (.ref 0), some (.ref 1), some (.ref 152), some (.int (nI i))] [] (gE X M) r := by
  refine pw_iload_n n_119_18 rfl rfl ?_
  refine pw_aload_n n_119_19 rfl rfl ?_
  refine pw_salen n_119_20 rfl ?_
  refine pw_iconst n_119_21 ic_5 rfl ?_
  refine pw_isub n_119_22 rfl ?_
  refine pw_icmp_gt_f (q := 889) n_119_23 rfl rfl (lw_cont hL (by omega)) ?_
  refine pw_aload_n n_119_26 rfl rfl ?_
  refine pw_iload_n n_119_27 rfl rfl ?_
  refine pw_scr n_119_28 (by omega) hL rfl ?_
  refine pw_bipush n_119_29 bc_31 rfl ?_
  refine pw_iand n_119_31 rfl ?_
  refine pw_top (y := 19) hz ?_
  refine pw_tableIn (q := 839) n_119_32 (by decide) rfl rfl ?_
  refine pw_aload_n n_119_839 rfl rfl ?_
  refine pw_aload_n n_119_840 rfl rfl ?_
  refine pw_iload_n n_119_841 rfl rfl ?_
  refine pw_iconst n_119_842 ic_1 rfl ?_
  refine pw_iadd n_119_843 rfl (pw_top (nJ_add i 1) ?_)
  refine pw_scr n_119_844 (by omega) hL rfl ?_
  refine pw_aload_n n_119_845 rfl rfl ?_
  refine pw_iload_n n_119_846 rfl rfl ?_
  refine pw_iconst n_119_847 ic_2 rfl ?_
  refine pw_iadd n_119_848 rfl (pw_top (nJ_add i 2) ?_)
  refine pw_scr n_119_849 (by omega) hL rfl ?_
  refine pw_aload_n n_119_850 rfl rfl ?_
  refine pw_iload_n n_119_851 rfl rfl ?_
  refine pw_iconst n_119_852 ic_3 rfl ?_
  refine pw_iadd n_119_853 rfl (pw_top (nJ_add i 3) ?_)
  refine pw_scr n_119_854 (by omega) hL rfl ?_
  refine pw_virtV (a := 0) (as := [.int (f (i + 1)), .int (f (i + 2)), .int (f (i + 3))]) (st := []) n_119_855 cl_8_98 ⟨rfl, rfl, rfl⟩ (sum8 rfl) (E_tg sh_G_domains) rfl (w_20 (w := (f (i + 1))) (a := (f (i + 2))) (b := (f (i + 3))) xho _) ?_
  refine pw_aload_n n_119_858 rfl rfl ?_
  refine pw_aload_n n_119_859 rfl rfl ?_
  refine pw_iload_n n_119_860 rfl rfl ?_
  refine pw_iconst n_119_861 ic_1 rfl ?_
  refine pw_iadd n_119_862 rfl (pw_top (nJ_add i 1) ?_)
  refine pw_scr n_119_863 (by omega) hL rfl ?_
  refine pw_aload_n n_119_864 rfl rfl ?_
  refine pw_iload_n n_119_865 rfl rfl ?_
  refine pw_iconst n_119_866 ic_2 rfl ?_
  refine pw_iadd n_119_867 rfl (pw_top (nJ_add i 2) ?_)
  refine pw_scr n_119_868 (by omega) hL rfl ?_
  refine pw_aload_n n_119_869 rfl rfl ?_
  refine pw_iload_n n_119_870 rfl rfl ?_
  refine pw_iconst n_119_871 ic_3 rfl ?_
  refine pw_iadd n_119_872 rfl (pw_top (nJ_add i 3) ?_)
  refine pw_scr n_119_873 (by omega) hL rfl ?_
  refine pw_virtV (a := 151) (as := [.int (f (i + 1)), .int (f (i + 2)), .int (f (i + 3))]) (st := [.long (xLook X (f (i + 1)) (f (i + 2)) (f (i + 3)))]) n_119_874 cl_8_101 ⟨rfl, rfl, rfl⟩ (sum8 rfl) (E_tg sh_R_state) rfl (w_116 (w := (f (i + 1))) (a := (f (i + 2))) (b := (f (i + 3))) mhmA _) ?_
  refine pw_lcmp n_119_877 rfl ?_
  refine pw_ifc_eq (q := 883) n_119_878 rfl rfl (fun _ => ?_) (fun hn => absurd heq hn)
  refine pw_iinc (v := nI (i + 5)) (l := [some (.ref 0), some (.ref 1), some (.ref 152), some (.int (nI (i + 5)))]) n_119_883 rfl (nJ_inc5 i) rfl rfl ?_
  refine pw_goto (q := 18) n_119_886 rfl ?_
  exact hk
set_option maxRecDepth 100000 in
set_option maxHeartbeats 4000000 in
theorem lawc_d {X M : gS} {L i : Nat} {f : Nat → Int32} {r : pm_R} (hL : L ≤ 2560) (hi : i + 5 ≤ L) (hz : 19 < (f i &&& 31).toInt) (hk : pw (some (L, f)) 8 119 18 [some (.ref 0), some (.ref 1), some (.ref 152), some (.int (nI (i + 5)))] [] (gE X M) r) : pw (some (L, f)) 8 119 18 [some (.ref 0), some (.ref 1), some (.ref 152), some (.int (nI i))] [] (gE X M) r := by
  refine pw_iload_n n_119_18 rfl rfl ?_
  refine pw_aload_n n_119_19 rfl rfl ?_
  refine pw_salen n_119_20 rfl ?_
  refine pw_iconst n_119_21 ic_5 rfl ?_
  refine pw_isub n_119_22 rfl ?_
  refine pw_icmp_gt_f (q := 889) n_119_23 rfl rfl (lw_cont hL (by omega)) ?_
  refine pw_aload_n n_119_26 rfl rfl ?_
  refine pw_iload_n n_119_27 rfl rfl ?_
  refine pw_scr n_119_28 (by omega) hL rfl ?_
  refine pw_bipush n_119_29 bc_31 rfl ?_
  refine pw_iand n_119_31 rfl ?_
  refine pw_tableOut (q := 883) n_119_32 (Or.inr hz) rfl ?_
  refine pw_iinc (v := nI (i + 5)) (l := [some (.ref 0), some (.ref 1), some (.ref 152), some (.int (nI (i + 5)))]) n_119_883 rfl (nJ_inc5 i) rfl rfl ?_
  refine pw_goto (q := 18) n_119_886 rfl ?_
  exact hk
