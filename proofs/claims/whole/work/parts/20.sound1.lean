def pm_ad (sa b k : Nat) : Nat := match k with
  | 0 => sa
  | j + 1 => b + j
def pm_tv (sa b : Nat) (v : Value) : Value := match v with
  | .ref k => .ref (pm_ad sa b k)
  | w => w
theorem pm_tv_cat (sa b : Nat) (v : Value) : (pm_tv sa b v).category = v.category := by cases v <;> rfl
theorem pm_tv_cats (sa b : Nat) (l : List Value) : ((l.map (pm_tv sa b)).map fun v => v.category) = l.map fun v => v.category := by
  rw [List.map_map]
  exact List.map_congr_left fun v _ => pm_tv_cat sa b v
def pm_lok (sa b : Nat) (ar : Array Slot) (nL : Nat) (ls : pm_L) : Prop := ls.length = nL ∧ ar.size = nL ∧ lv_wf ar ∧ ∀ (i : Nat) (v : Value), ls[i]? = some (some v) → ar[i]? = some (.val (pm_tv sa b v))
theorem pm_lok_has {sa b : Nat} {ar : Array Slot} {nL : Nat} {ls : pm_L} (h : pm_lok sa b ar nL ls) : ∃ l, lv_has ar nL l ∧ ∀ (i : Nat) (v : Value), ls[i]? = some (some v) → (i, pm_tv sa b v) ∈ l := by
  refine ⟨(List.range ls.length).filterMap (fun i => match ls[i]? with
    | some (some v) => some (i, pm_tv sa b v)
    | _ => none), ⟨h.2.1, h.2.2.1, fun q hq => ?_⟩, fun i v hi => ?_⟩
  · obtain ⟨i, -, hi⟩ := List.mem_filterMap.mp hq
    split at hi
    · next v hv =>
      cases hi
      exact h.2.2.2 i v hv
    · cases hi
  · refine List.mem_filterMap.mpr ⟨i, List.mem_range.mpr (List.getElem?_eq_some_iff.mp hi).1, ?_⟩
    rw [hi]
theorem pm_kill_len (ls : pm_L) (i : Nat) : (pm_kill ls i).length = ls.length := by
  unfold pm_kill
  split
  · rfl
  · split
    · split
      · simp
      · rfl
    · rfl
theorem pm_kill_get {ls : pm_L} {i j : Nat} {w : Value} (h : (pm_kill ls i)[j]? = some (some w)) : ls[j]? = some (some w) ∧ ¬ (j + 1 = i ∧ w.category = 2) := by
  unfold pm_kill at h
  split at h
  · exact ⟨h, fun q => by omega⟩
  · next k =>
    split at h
    · next u hu =>
      split at h
      · next hc =>
        by_cases hj : j = k
        · subst hj
          rw [List.getElem?_set_self (List.getElem?_eq_some_iff.mp hu).1] at h
          cases h
        · rw [List.getElem?_set_ne (Ne.symm hj)] at h
          exact ⟨h, fun q => hj (by omega)⟩
      · next hc =>
        refine ⟨h, fun q => ?_⟩
        have hj : j = k := by omega
        subst hj
        rw [hu] at h
        cases h
        exact hc q.2
    · next hu =>
      refine ⟨h, fun q => ?_⟩
      have hj : j = k := by omega
      subst hj
      exact hu w h
theorem pm_lok_st1 {sa b : Nat} {ar : Array Slot} {nL i : Nat} {ls ls' : pm_L} {v : Value} {l : List (Nat × Value)} (hlen : ls.length = nL) (hl : ∀ (j : Nat) (w : Value), ls[j]? = some (some w) → (j, pm_tv sa b w) ∈ l)
    (hs : pm_st1 ls i v = some ls') (h : lv_has ar nL ((i, pm_tv sa b v) :: l.filter (fun q => !(q.1 == i) && !(q.1 + 1 == i && q.2.category == 2)))) : i < nL ∧ pm_lok sa b ar nL ls' := by
  unfold pm_st1 at hs
  split at hs
  · next hi =>
    cases hs
    refine ⟨by omega, by simp [pm_kill_len, hlen], h.1, h.2.1, fun j w hj => h.2.2 (j, pm_tv sa b w) ?_⟩
    by_cases hji : j = i
    · subst hji
      rw [List.getElem?_set_self (by rw [pm_kill_len]; exact hi)] at hj
      cases hj
      exact List.mem_cons_self
    · rw [List.getElem?_set_ne (Ne.symm hji)] at hj
      obtain ⟨h1, h2⟩ := pm_kill_get hj
      refine List.mem_cons_of_mem _ (List.mem_filter.mpr ⟨hl j w h1, ?_⟩)
      simp only [Bool.and_eq_true, Bool.not_eq_true', beq_eq_false_iff_ne, ne_eq, Bool.and_eq_false_iff]
      refine ⟨hji, ?_⟩
      by_cases h3 : j + 1 = i
      · exact Or.inr fun q => h2 ⟨h3, by rw [← pm_tv_cat sa b w]; exact q⟩
      · exact Or.inl h3
  · cases hs
theorem pm_lok_st2 {sa b : Nat} {ar : Array Slot} {nL i : Nat} {ls ls' : pm_L} {v : Value} {l : List (Nat × Value)} (hlen : ls.length = nL) (hl : ∀ (j : Nat) (w : Value), ls[j]? = some (some w) → (j, pm_tv sa b w) ∈ l)
    (hs : pm_st2 ls i v = some ls') (h : lv_has ar nL ((i, pm_tv sa b v) :: l.filter (fun q => !(q.1 == i) && (!(q.1 == i + 1) && !(q.1 + 1 == i && q.2.category == 2))))) : i + 1 < nL ∧ pm_lok sa b ar nL ls' := by
  unfold pm_st2 at hs
  split at hs
  · next hi =>
    cases hs
    refine ⟨by omega, by simp [pm_kill_len, hlen], h.1, h.2.1, fun j w hj => h.2.2 (j, pm_tv sa b w) ?_⟩
    by_cases hj1 : j = i + 1
    · subst hj1
      rw [List.getElem?_set_self (by simp [pm_kill_len]; exact hi)] at hj
      cases hj
    · rw [List.getElem?_set_ne (Ne.symm hj1)] at hj
      by_cases hji : j = i
      · subst hji
        rw [List.getElem?_set_self (by rw [pm_kill_len]; omega)] at hj
        cases hj
        exact List.mem_cons_self
      · rw [List.getElem?_set_ne (Ne.symm hji)] at hj
        obtain ⟨h1, h2⟩ := pm_kill_get hj
        refine List.mem_cons_of_mem _ (List.mem_filter.mpr ⟨hl j w h1, ?_⟩)
        simp only [Bool.and_eq_true, Bool.not_eq_true', beq_eq_false_iff_ne, ne_eq, Bool.and_eq_false_iff]
        refine ⟨hji, hj1, ?_⟩
        by_cases h3 : j + 1 = i
        · exact Or.inr fun q => h2 ⟨h3, by rw [← pm_tv_cat sa b w]; exact q⟩
        · exact Or.inl h3
  · cases hs
theorem pm_st1_lt {ls ls' : pm_L} {i : Nat} {v : Value} (h : pm_st1 ls i v = some ls') : i < ls.length := by
  unfold pm_st1 at h
  split at h
  · assumption
  · cases h
theorem pm_st2_lt {ls ls' : pm_L} {i : Nat} {v : Value} (h : pm_st2 ls i v = some ls') : i + 1 < ls.length := by
  unfold pm_st2 at h
  split at h
  · assumption
  · cases h
theorem pm_ldi_spec {ls : pm_L} {i : Nat} {x : Int32} (h : pm_ldi ls i = some x) : ls[i]? = some (some (.int x)) := by
  unfold pm_ldi at h
  split at h
  · next y hy => cases h; exact hy
  · cases h
theorem pm_ldl_spec {ls : pm_L} {i : Nat} {x : Int64} (h : pm_ldl ls i = some x) : ls[i]? = some (some (.long x)) := by
  unfold pm_ldl at h
  split at h
  · next y hy => cases h; exact hy
  · cases h
theorem pm_lda_spec {ls : pm_L} {i : Nat} {x : Nat} (h : pm_lda ls i = some x) : ls[i]? = some (some (.ref x)) := by
  unfold pm_lda at h
  split at h
  · next y hy => cases h; exact hy
  · cases h
section PM1
variable {p : Program} {l : Launch} {e : Env} {R : Room} {s : State} {m : MethodId} {args : Array Value} {below : List Frame} {meth : Method} {c : Code} {H : Heap} {locs : List Loc} {cells slots : Nat} {Q : State → Prop}
theorem pm_f1_ok {sa b mid nL pc n : Nat} {i : Instr} {ls ls' : pm_L} {st st' : List Value} {ar : Array Slot} (hx : p.tables.exec = Jvm.exec) (hb : c.code = pm_code mid) (hown : s.vm.findClass (pm_own mid) = some m.cls) (hts : ∀ w ∈ pm_T, w.before args s = true)
    (hd : decode (pm_code mid) pc = .ok (i, n)) (hl : pm_lok sa b ar nL ls) (h : pm_f1 mid i n ls st = some (ls', st'))
    (kk : ∀ ar' : Array Slot, pm_lok sa b ar' nL ls' → W p l e R s m args below meth c H locs cells slots Q (F0 m (pc + n) ar' (st'.map (pm_tv sa b)))) : W p l e R s m args below meth c H locs cells slots Q (F0 m pc ar (st.map (pm_tv sa b))) := by
  obtain ⟨lv, hv, hin⟩ := pm_lok_has hl
  unfold pm_f1 at h
  split at h
  · cases h; exact lv_iconst hx hb hd rfl (kk ar hl)
  · cases h; exact lv_bipush hx hb hd rfl (kk ar hl)
  · cases h; exact lv_sipush hx hb hd rfl (kk ar hl)
  · cases h; exact lv_lconst hx hb hd rfl (kk ar hl)
  · obtain ⟨v, h1, h2⟩ := Option.map_eq_some_iff.mp h
    cases h2
    exact lv_ldc2 hx hb hown (hts _ (pm_l2_ok h1)) hd (kk ar hl)
  · obtain ⟨v, h1, h2⟩ := Option.map_eq_some_iff.mp h
    cases h2
    exact lv_iload_n hx hb hd rfl (hl.2.2.2 _ _ (pm_ldi_spec h1)) (kk ar hl)
  · obtain ⟨v, h1, h2⟩ := Option.map_eq_some_iff.mp h
    cases h2
    exact lv_iload hx hb hd (hl.2.2.2 _ _ (pm_ldi_spec h1)) (kk ar hl)
  · obtain ⟨v, h1, h2⟩ := Option.map_eq_some_iff.mp h
    cases h2
    exact lv_lload_n hx hb hd rfl (hl.2.2.2 _ _ (pm_ldl_spec h1)) (kk ar hl)
  · obtain ⟨v, h1, h2⟩ := Option.map_eq_some_iff.mp h
    cases h2
    exact lv_lload hx hb hd (hl.2.2.2 _ _ (pm_ldl_spec h1)) (kk ar hl)
  · obtain ⟨v, h1, h2⟩ := Option.map_eq_some_iff.mp h
    cases h2
    exact lv_aload_n hx hb hd rfl (hl.2.2.2 _ _ (pm_lda_spec h1)) (kk ar hl)
  · obtain ⟨v, h1, h2⟩ := Option.map_eq_some_iff.mp h
    cases h2
    exact lv_aload hx hb hd (hl.2.2.2 _ _ (pm_lda_spec h1)) (kk ar hl)
  · obtain ⟨v, h1, h2⟩ := Option.map_eq_some_iff.mp h
    cases h2
    exact lv_istore_n hx hb hd rfl hv (by have := pm_st1_lt h1; have := hl.1; omega) rfl fun ar' h' => kk ar' (pm_lok_st1 hl.1 hin h1 h').2
  · obtain ⟨v, h1, h2⟩ := Option.map_eq_some_iff.mp h
    cases h2
    exact lv_istore hx hb hd hv (by have := pm_st1_lt h1; have := hl.1; omega) rfl fun ar' h' => kk ar' (pm_lok_st1 hl.1 hin h1 h').2
  · obtain ⟨v, h1, h2⟩ := Option.map_eq_some_iff.mp h
    cases h2
    exact lv_lstore_n hx hb hd rfl hv (by have := pm_st2_lt h1; have := hl.1; omega) rfl fun ar' h' => kk ar' (pm_lok_st2 hl.1 hin h1 h').2
  · obtain ⟨v, h1, h2⟩ := Option.map_eq_some_iff.mp h
    cases h2
    exact lv_lstore hx hb hd hv (by have := pm_st2_lt h1; have := hl.1; omega) rfl fun ar' h' => kk ar' (pm_lok_st2 hl.1 hin h1 h').2
  · obtain ⟨v, h1, h2⟩ := Option.map_eq_some_iff.mp h
    cases h2
    exact lv_astore_n hx hb hd rfl hv (by have := pm_st1_lt h1; have := hl.1; omega) rfl fun ar' h' => kk ar' (pm_lok_st1 hl.1 hin h1 h').2
  · obtain ⟨v, h1, h2⟩ := Option.map_eq_some_iff.mp h
    cases h2
    exact lv_astore hx hb hd hv (by have := pm_st1_lt h1; have := hl.1; omega) rfl fun ar' h' => kk ar' (pm_lok_st1 hl.1 hin h1 h').2
  · split at h
    · next x hx1 =>
      obtain ⟨v, h1, h2⟩ := Option.map_eq_some_iff.mp h
      cases h2
      obtain ⟨k, hk⟩ := List.getElem?_of_mem (hin _ _ (pm_ldi_spec hx1))
      exact lv_iinc hx hb hd hv hk rfl (by have := pm_st1_lt h1; have := hl.1; omega) rfl fun ar' h' => kk ar' (pm_lok_st1 hl.1 hin h1 h').2
    · cases h
  · cases h; exact lv_iadd hx hb hd (kk ar hl)
  · cases h; exact lv_isub hx hb hd (kk ar hl)
  · cases h; exact lv_imul hx hb hd (kk ar hl)
  · cases h; exact lv_iand hx hb hd (kk ar hl)
  · cases h; exact lv_ior hx hb hd (kk ar hl)
  · cases h; exact lv_ixor hx hb hd (kk ar hl)
  · split at h
    · cases h
    · next hz => cases h; exact lv_idiv hx hb hd hz (kk ar hl)
  · split at h
    · cases h
    · next hz => cases h; exact lv_irem hx hb hd hz (kk ar hl)
  · cases h; exact lv_ineg hx hb hd (kk ar hl)
  · cases h; exact lv_ishl hx hb hd (kk ar hl)
  · cases h; exact lv_ishr hx hb hd (kk ar hl)
  · cases h; exact lv_ladd hx hb hd (kk ar hl)
  · cases h; exact lv_lsub hx hb hd (kk ar hl)
  · cases h; exact lv_land hx hb hd (kk ar hl)
  · cases h; exact lv_i2l hx hb hd rfl (kk ar hl)
  · cases h; exact lv_l2i hx hb hd rfl (kk ar hl)
  · cases h; exact W.lcmp hx hb hd (kk ar hl)
  · split at h
    · next hz => cases h; exact lv_dup hx hb hd (by rw [pm_tv_cat]; exact hz) (kk ar hl)
    · cases h
  · split at h
    · next hz => cases h; exact lv_pop hx hb hd (by rw [pm_tv_cat]; exact hz) (kk ar hl)
    · cases h
  · split at h
    · next hz => cases h; exact lv_pop2_2 hx hb hd (by rw [pm_tv_cat]; exact hz) (kk ar hl)
    · cases h
  · split at h
    · next hz => cases h; exact lv_dup_x1 hx hb hd (by rw [pm_tv_cat]; exact hz.1) (by rw [pm_tv_cat]; exact hz.2) (kk ar hl)
    · cases h
  · split at h
    · next hz => cases h; exact lv_dup_x2 hx hb hd (by rw [pm_tv_cat]; exact hz.1) (by rw [pm_tv_cat]; exact hz.2.1) (by rw [pm_tv_cat]; exact hz.2.2) (kk ar hl)
    · cases h
  · split at h
    · next hz => cases h; exact lv_dup2_11 hx hb hd (by rw [pm_tv_cat]; exact hz.1) (by rw [pm_tv_cat]; exact hz.2) (kk ar hl)
    · cases h
  · cases h
theorem pm_to_ok {pc t : Nat} {off : Int} {st st' : List Value} (h : pm_to pc off st = some (t, st')) : (pc : Int) + off = (t : Int) ∧ st' = st := by
  unfold pm_to at h
  split at h
  · cases h; exact ⟨by omega, rfl⟩
  · cases h
theorem pm_f2_ok {sa b mid pc n t : Nat} {i : Instr} {st st' : List Value} {ar : Array Slot} (hx : p.tables.exec = Jvm.exec) (hb : c.code = pm_code mid)
    (hd : decode (pm_code mid) pc = .ok (i, n)) (h : pm_f2 i n pc st = some (t, st'))
    (kk : W p l e R s m args below meth c H locs cells slots Q (F0 m t ar (st'.map (pm_tv sa b)))) : W p l e R s m args below meth c H locs cells slots Q (F0 m pc ar (st.map (pm_tv sa b))) := by
  unfold pm_f2 at h
  split at h
  · obtain ⟨h1, rfl⟩ := pm_to_ok h
    exact lv_goto hx hb hd h1 kk
  · next cd off x st0 =>
    obtain ⟨⟨t1, s1⟩, h1, h2⟩ := Option.map_eq_some_iff.mp h
    obtain ⟨hto, rfl⟩ := pm_to_ok h1
    cases cd
    · refine lv_if_eq hx hb hd hto (fun hc => ?_) (fun hc => ?_)
      · rw [if_pos (show pm_c .eq x 0 = true by simp [pm_c, hc])] at h2
        cases h2; exact kk
      · rw [if_neg (show ¬ pm_c .eq x 0 = true by simp [pm_c, hc])] at h2
        cases h2; exact kk
    · refine lv_if_ne hx hb hd hto (fun hc => ?_) (fun hc => ?_)
      · rw [if_pos (show pm_c .ne x 0 = true by simp [pm_c, hc])] at h2
        cases h2; exact kk
      · rw [if_neg (show ¬ pm_c .ne x 0 = true by simp [pm_c, hc])] at h2
        cases h2; exact kk
    · refine lv_if_lt hx hb hd hto (fun hc => ?_) (fun hc => ?_)
      · rw [if_pos (show pm_c .lt x 0 = true by simp [pm_c, hc])] at h2
        cases h2; exact kk
      · rw [if_neg (show ¬ pm_c .lt x 0 = true by simp [pm_c, hc])] at h2
        cases h2; exact kk
    · refine lv_if_ge hx hb hd hto (fun hc => ?_) (fun hc => ?_)
      · rw [if_pos (show pm_c .ge x 0 = true by simp [pm_c, hc])] at h2
        cases h2; exact kk
      · rw [if_neg (show ¬ pm_c .ge x 0 = true by simp [pm_c, hc])] at h2
        cases h2; exact kk
    · refine lv_if_gt hx hb hd hto (fun hc => ?_) (fun hc => ?_)
      · rw [if_pos (show pm_c .gt x 0 = true by simp [pm_c, hc])] at h2
        cases h2; exact kk
      · rw [if_neg (show ¬ pm_c .gt x 0 = true by simp [pm_c, hc])] at h2
        cases h2; exact kk
    · refine lv_if_le hx hb hd hto (fun hc => ?_) (fun hc => ?_)
      · rw [if_pos (show pm_c .le x 0 = true by simp [pm_c, hc])] at h2
        cases h2; exact kk
      · rw [if_neg (show ¬ pm_c .le x 0 = true by simp [pm_c, hc])] at h2
        cases h2; exact kk
  · next cd off y x st0 =>
    obtain ⟨⟨t1, s1⟩, h1, h2⟩ := Option.map_eq_some_iff.mp h
    obtain ⟨hto, rfl⟩ := pm_to_ok h1
    cases cd
    · refine lv_icmp_eq hx hb hd hto (fun hc => ?_) (fun hc => ?_)
      · rw [if_pos (show pm_c .eq x y = true by simp [pm_c, hc])] at h2
        cases h2; exact kk
      · rw [if_neg (show ¬ pm_c .eq x y = true by simp [pm_c, hc])] at h2
        cases h2; exact kk
    · refine lv_icmp_ne hx hb hd hto (fun hc => ?_) (fun hc => ?_)
      · rw [if_pos (show pm_c .ne x y = true by simp [pm_c, hc])] at h2
        cases h2; exact kk
      · rw [if_neg (show ¬ pm_c .ne x y = true by simp [pm_c, hc])] at h2
        cases h2; exact kk
    · refine lv_icmp_lt hx hb hd hto (fun hc => ?_) (fun hc => ?_)
      · rw [if_pos (show pm_c .lt x y = true by simp [pm_c, hc])] at h2
        cases h2; exact kk
      · rw [if_neg (show ¬ pm_c .lt x y = true by simp [pm_c, hc])] at h2
        cases h2; exact kk
    · refine lv_icmp_ge hx hb hd hto (fun hc => ?_) (fun hc => ?_)
      · rw [if_pos (show pm_c .ge x y = true by simp [pm_c, hc])] at h2
        cases h2; exact kk
      · rw [if_neg (show ¬ pm_c .ge x y = true by simp [pm_c, hc])] at h2
        cases h2; exact kk
    · refine lv_icmp_gt hx hb hd hto (fun hc => ?_) (fun hc => ?_)
      · rw [if_pos (show pm_c .gt x y = true by simp [pm_c, hc])] at h2
        cases h2; exact kk
      · rw [if_neg (show ¬ pm_c .gt x y = true by simp [pm_c, hc])] at h2
        cases h2; exact kk
    · refine lv_icmp_le hx hb hd hto (fun hc => ?_) (fun hc => ?_)
      · rw [if_pos (show pm_c .le x y = true by simp [pm_c, hc])] at h2
        cases h2; exact kk
      · rw [if_neg (show ¬ pm_c .le x y = true by simp [pm_c, hc])] at h2
        cases h2; exact kk
  · next d lo hi offs x st0 =>
    split at h
    · next hc =>
      obtain ⟨h1, rfl⟩ := pm_to_ok h
      exact lv_tableOut hx hb hd hc h1 kk
    · next hc =>
      split at h
      · next off ho =>
        obtain ⟨h1, rfl⟩ := pm_to_ok h
        exact lv_tableIn hx hb hd (fun q => hc (Or.inl q)) (fun q => hc (Or.inr q)) ho h1 kk
      · cases h
  · next d ps x st0 =>
    split at h
    · next hc =>
      obtain ⟨h1, rfl⟩ := pm_to_ok h
      exact lv_lookup hx hb hd hc rfl h1 kk
    · cases h
  · cases h
end PM1
