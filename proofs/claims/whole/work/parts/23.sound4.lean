theorem pm_wr_len {P P' : pm_H} {k t j : Nat} {v : Value} (h : pm_wr P k t j v = some P') : P'.length = P.length ∧ pm_sl P' = pm_sl P := by
  obtain ⟨vs, w1, w2, w3⟩ := pm_wr_spec h
  exact ⟨by rw [w3, List.length_set], by rw [w3, pm_sl_set w1]⟩
def pm_le (P P' : pm_H) : Prop := P.length ≤ P'.length ∧ pm_sl P ≤ pm_sl P'
theorem pm_le_rf (P : pm_H) : pm_le P P := ⟨Nat.le_refl _, Nat.le_refl _⟩
theorem pm_le_tr {P P' P'' : pm_H} (h : pm_le P P') (h' : pm_le P' P'') : pm_le P P'' := ⟨Nat.le_trans h.1 h'.1, Nat.le_trans h.2 h'.2⟩
theorem pm_le_app (P : pm_H) (q : Nat × List Value) : pm_le P (P ++ [q]) := ⟨by simp, by rw [pm_sl_app]; omega⟩
theorem pm_le_wr {P P' : pm_H} {k t j : Nat} {v : Value} (h : pm_wr P k t j v = some P') : pm_le P P' := ⟨by rw [(pm_wr_len h).1]; exact Nat.le_refl _, by rw [(pm_wr_len h).2]; exact Nat.le_refl _⟩
theorem pm_f3_le {X : pm_X} {mid n : Nat} {i : Instr} {st st' : List Value} {P P' : pm_H} (h : pm_f3 X mid i n st P = some (st', P')) : pm_le P P' := by
  unfold pm_f3 at h
  split at h
  all_goals first
    | (cases h; done)
    | (repeat' (split at h)
       all_goals first
         | (cases h; done)
         | (cases h; exact pm_le_rf _)
         | (cases h; exact pm_le_app _ _)
         | (obtain ⟨v, h1, h2⟩ := Option.map_eq_some_iff.mp h; cases h2; first | exact pm_le_rf _ | exact pm_le_app _ _ | exact pm_le_wr h1))
theorem pm_f4_le {mid n pc pc' : Nat} {i : Instr} {ls l : pm_L} {st st' : List Value} {P P' : pm_H} (h : pm_f4 mid i n pc ls st P = some (.inl (pc', l, st', P'))) : P' = P := by
  unfold pm_f4 at h
  repeat' (split at h)
  all_goals first
    | (cases h; done)
    | (cases h; rfl)
theorem pm_f4_inl {mid n pc pc' : Nat} {i : Instr} {ls l : pm_L} {st st' : List Value} {P P' : pm_H} (h : pm_f4 mid i n pc ls st P = some (.inl (pc', l, st', P'))) :
    ∃ (x a0 : Nat) (q : Nat × Nat), i = .invokespecial x ∧ n = 3 ∧ st = .ref a0 :: st' ∧ pc' = pc + 3 ∧ l = ls ∧ P' = P ∧ (st'.map fun v => v.category).sum ≤ 8 ∧ pm_cal (pm_oc mid) x = some (4, q) := by
  unfold pm_f4 at h
  split at h
  · (repeat' (split at h)) <;> cases h
  · (repeat' (split at h)) <;> cases h
  · next st0 x =>
    split at h
    · next q1 q2 hcal =>
      split at h
      · next a0 st1 =>
        split at h
        · next hs =>
          cases h
          exact ⟨x, a0, (q1, q2), rfl, rfl, rfl, rfl, rfl, rfl, hs, hcal⟩
        · cases h
      · cases h
    · (repeat' (split at h)) <;> cases h
    · cases h
  all_goals ((repeat' (split at h)) <;> cases h)
theorem pm_step_le {X : pm_X} {mid pc pc' : Nat} {ls l : pm_L} {st st' : List Value} {P P' : pm_H} (h : pm_step X mid pc ls st P = some (.inl (pc', l, st', P'))) : pm_le P P' := by
  unfold pm_step at h
  split at h
  · cases h
  · split at h
    · cases h; exact pm_le_rf _
    · split at h
      · cases h; exact pm_le_rf _
      · split at h
        · next hq => cases h; exact pm_f3_le hq
        · rw [pm_f4_le h]; exact pm_le_rf _
theorem pm_Ex_le {X : pm_X} {C : Nat → List Value → pm_H → pm_R → Prop} (hC : ∀ y as P r, C y as P r → pm_le P r.2) (mid : Nat) : ∀ n pc ls st P r, pm_Ex X C mid n pc ls st P r → pm_le P r.2 := by
  intro n
  induction n with
  | zero => intro pc ls st P r h; cases h
  | succ n ih =>
    intro pc ls st P r h
    simp only [pm_Ex] at h
    split at h
    · next hs => exact pm_le_tr (pm_step_le hs) (ih _ _ _ _ _ h)
    · next hs =>
      obtain ⟨v, Q, h1, h2⟩ := h
      exact pm_le_tr (hC _ _ _ _ h1) (ih _ _ _ _ _ h2)
    · next hs => subst h; exact pm_le_rf _
    · cases h
theorem pm_Call_le : ∀ d y as P r, pm_Call d y as P r → pm_le P r.2 := by
  intro d
  induction d with
  | zero => intro y as P r h; cases h
  | succ d ih =>
    intro y as P r h
    obtain ⟨-, n, h⟩ := h
    exact pm_Ex_le ih y n _ _ _ _ _ h
theorem pm_K_same {dC : Nat → ClassId} {dI : Nat → Nat → Nat} {dA : Nat → ClassId} {u U : State} (hvm : u.vm = U.vm) (h : pm_K dC dI dA u) : pm_K dC dI dA U := by
  have ha : u.vm.Alike U.vm := by rw [hvm]; exact Vm.Alike.refl _
  exact ⟨va_K.moved ha h.1, fun k ty hk => ⟨arrOfT_moved ha (h.2.1 k ty hk).1, (h.2.1 k ty hk).2.moved ha⟩, fun w hw => va_Nw.same (pm_nest_tab w hw) hvm (h.2.2.1 w hw), fun C hC => (h.2.2.2 C hC).moved ha⟩
theorem pm_K_warm {dC : Nat → ClassId} {dI : Nat → Nat → Nat} {dA : Nat → ClassId} {s U : State} (hW : s.WarmedH U.vm) (h : pm_K dC dI dA s) : pm_K dC dI dA U :=
  ⟨va_K.moved hW.alike h.1, fun k ty hk => ⟨arrOfT_moved hW.alike (h.2.1 k ty hk).1, (h.2.1 k ty hk).2.moved hW.alike⟩, fun w hw => by
    obtain ⟨a, i, y, hh, rfl⟩ := pm_nest_form w hw
    exact va_Nw.warmM hW (h.2.2.1 _ hw), fun C hC => (h.2.2.2 C hC).moved hW.alike⟩
def pm_ws (y : Nat) : List Cond := .code (pm_y y) (pm_code y) (pm_maxL y) (pm_ret y) :: pm_T
def pm_rm (d : Nat) (P P' : pm_H) : Room := { frames := d, cells := P'.length - P.length, slots := pm_sl P' - pm_sl P, locals := d * 33 }
def pm_Pc (dC : Nat → ClassId) (dI : Nat → Nat → Nat) (dA : Nat → ClassId) (sa b : Nat) (as : List Value) (P : pm_H) : Array Value → State → Prop := fun a U => a = (as.map (pm_tv sa b)).toArray ∧ pm_rel dC dI dA sa b P U.heap ∧ pm_K dC dI dA U
def pm_Qc (dC : Nat → ClassId) (dI : Nat → Nat → Nat) (dA : Nat → ClassId) (sa b : Nat) (r : pm_R) : Array Value → State → Outcome → State → Prop := fun _ st o t => o = .returned (r.1.map (pm_tv sa b)) ∧ pm_rel dC dI dA sa b r.2 t.heap ∧ ∀ q : Nat, q < b → t.heap[q]? = st.heap[q]?
def pm_Met (l : Launch) (d y : Nat) (as : List Value) (P : pm_H) (r : pm_R) : Prop := ∀ (dC : Nat → ClassId) (dI : Nat → Nat → Nat) (dA : Nat → ClassId) (sa b : Nat),
  Met l (pm_y y) (pm_ws y) (pm_rm d P r.2) (pm_Pc dC dI dA sa b as P) (pm_Qc dC dI dA sa b r) (r.2.length - P.length) (pm_sl r.2 - pm_sl P) (fun q => b ≤ q)
theorem pm_blind (dC : Nat → ClassId) (dI : Nat → Nat → Nat) (dA : Nat → ClassId) (sa b : Nat) (as : List Value) (P : pm_H) : FrameBlind (pm_Pc dC dI dA sa b as P) := fun a U g mk h => ⟨h.1, h.2.1, pm_K_same (u := U) (U := U.calling g mk a) rfl h.2.2⟩
section PM4
variable {p : Program} {l : Launch} {e : Env} {R : Room} {s : State} {m : MethodId} {args : Array Value} {below : List Frame} {meth : Method} {c : Code} {H : Heap} {locs : List Loc} {cells slots : Nat} {Q : State → Prop}
variable {dC : Nat → ClassId} {dI : Nat → Nat → Nat} {dA : Nat → ClassId} {sa b mid pc d : Nat} {P : pm_H} {ar : Array Slot} {H0 : Heap}
theorem pm_after {a : Array Value} {st0 rest : List Value} {r : pm_R} {mc ms : Nat} (hr : va_Run p l e R s m args below meth c H locs cells slots mc ms (F0 m pc ar st0) rest (pm_Qc dC dI dA sa b r a) (fun q => b ≤ q)) (hP : pm_rel dC dI dA sa b P H) (hle : pm_le P r.2) (hS0 : va_S (fun q => b ≤ q) H0 H locs)
    (kk : ∀ (H1 : Heap) (locs1 : List Loc), pm_rel dC dI dA sa b r.2 H1 → va_S (fun q => b ≤ q) H0 H1 locs1 → W p l e R s m args below meth c H1 locs1 (cells + mc) (slots + ms) Q (F0 m (pc + 3) ar ((r.1.map (pm_tv sa b)).toList ++ rest))) : W p l e R s m args below meth c H locs cells slots Q (F0 m pc ar st0) := by
  intro T hT X
  obtain ⟨v, st₀, t, T', L, h0, X', hL, e1, e2, ⟨hv, hrel, hk⟩, st⟩ := hr T hT X
  cases hv
  rw [h0] at hk
  rw [← e1] at hrel hk
  obtain ⟨t2, a1, b1⟩ := kk T'.heap (locs ++ L) hrel ⟨Nat.le_trans hS0.1 (by rw [hrel.1, hP.1]; have := hle.1; omega), fun q h1 h2 => (hk q (by have : ¬ b ≤ q := h2; omega)).trans (hS0.2.1 q h1 h2), fun q hq => by
    rcases List.mem_append.mp hq with h | h
    · exact hS0.2.2 q h
    · exact hL q h⟩ T' rfl X'
  exact ⟨t2, st t2 a1, b1⟩
theorem pm_good (y : Nat) (hc : Cond.code (pm_y y) (pm_code y) (pm_maxL y) (pm_ret y) ∈ pm_T) : GoodIn pm_T (pm_ws y) := by
  intro w hw
  rcases List.mem_cons.mp hw with rfl | h
  · exact ⟨hc, pm_T_good _ hc⟩
  · exact ⟨h, pm_T_good _ h⟩
theorem pm_split {st as0 : List Value} {a k : Nat} (hlen : (st.take a).length = a) (has : (st.take a).reverse = .ref (k + 1) :: as0) :
    st.map (pm_tv sa b) = (as0.map (pm_tv sa b)).reverse ++ .ref (b + k) :: (st.drop a).map (pm_tv sa b) ∧ as0.length = a - 1 := by
  have h1 : st.take a = as0.reverse ++ [Value.ref (k + 1)] := by
    have h2 := congrArg List.reverse has
    rw [List.reverse_reverse, List.reverse_cons] at h2
    exact h2
  constructor
  · have h3 : st = (as0.reverse ++ [Value.ref (k + 1)]) ++ st.drop a := by rw [← h1, List.take_append_drop]
    have h4 : st.map (pm_tv sa b) = ((as0.reverse ++ [Value.ref (k + 1)]) ++ st.drop a).map (pm_tv sa b) := congrArg (List.map (pm_tv sa b)) h3
    rw [h4, List.map_append, List.map_append, List.map_reverse, List.append_assoc]
    rfl
  · have h2 := congrArg List.length has
    rw [List.length_reverse, hlen, List.length_cons] at h2
    omega
theorem pm_split0 {st : List Value} {a : Nat} : st.map (pm_tv sa b) = (((st.take a).reverse).map (pm_tv sa b)).reverse ++ (st.drop a).map (pm_tv sa b) := by
  have h3 : st.map (pm_tv sa b) = (st.take a ++ st.drop a).map (pm_tv sa b) := by rw [List.take_append_drop]
  rw [h3, List.map_append, List.map_reverse, List.reverse_reverse]
theorem pm_sum {st : List Value} (h : (st.map fun v => v.category).sum ≤ 8) {ar : Array Slot} {x : List Value} : 2 * (F0 m pc ar x).monitorRoom + ((st.map (pm_tv sa b)).map fun v => v.category).sum ≤ 8 := by
  rw [pm_tv_cats]
  exact lv_room h
theorem pm_call_ok {i : Instr} {n pc' y : Nat} {ls : pm_L} {as st st' : List Value} {r : pm_R} (hx : p.tables.exec = Jvm.exec) (hb : c.code = pm_code mid) (hml : c.maxLocals = pm_maxL mid) (hown : s.vm.findClass (pm_own mid) = some m.cls) (hts : ∀ w ∈ pm_T, w.before args s = true) (hK : pm_K dC dI dA s)
    (hl : pm_lok sa b ar (pm_maxL mid) ls) (hP : pm_rel dC dI dA sa b P H) (hS0 : va_S (fun q => b ≤ q) H0 H locs) (hd : decode (pm_code mid) pc = .ok (i, n)) (h : pm_f4 mid i n pc ls st P = some (.inr (.inl (y, as, pc', st')))) (hM : pm_Met l d y as P r) (hle : pm_le P r.2)
    (hR : d + 1 ≤ R.frames ∧ (d + 1) * 33 ≤ R.locals) (hRc : cells + (r.2.length - P.length) ≤ R.cells) (hRs : slots + (pm_sl r.2 - pm_sl P) ≤ R.slots)
    (kk : ∀ (H1 : Heap) (locs1 : List Loc), pm_rel dC dI dA sa b r.2 H1 → va_S (fun q => b ≤ q) H0 H1 locs1 → W p l e R s m args below meth c H1 locs1 (cells + (r.2.length - P.length)) (slots + (pm_sl r.2 - pm_sl P)) Q (F0 m pc' ar ((r.1.toList ++ st').map (pm_tv sa b)))) : W p l e R s m args below meth c H locs cells slots Q (F0 m pc ar (st.map (pm_tv sa b))) := by
  have hres : (r.1.map (pm_tv sa b)).toList ++ st'.map (pm_tv sa b) = (r.1.toList ++ st').map (pm_tv sa b) := by cases r.1 <;> simp
  have hroom : ∀ y : Nat, (pm_rm d P r.2).frames + 1 ≤ R.frames ∧ 8 + (pm_maxL y + 11) + (pm_rm d P r.2).locals ≤ R.locals := fun y => ⟨hR.1, by have := hR.2; have := pm_maxL_le y; show 8 + (pm_maxL y + 11) + d * 33 ≤ R.locals; omega⟩
  have hpre : ∀ U : State, U.heap = H → s.WarmedH U.vm → pm_Pc dC dI dA sa b as P (as.map (pm_tv sa b)).toArray U := fun U hU hW => ⟨rfl, by rw [hU]; exact hP, pm_K_warm hW hK⟩
  unfold pm_f4 at h
  split at h
  · next st0 x =>
    split at h
    · next y0 a hcal =>
      split at h
      · next k as0 has =>
        split at h
        · next hcond =>
          obtain ⟨hlen, hsum, htag⟩ := hcond
          rw [has] at h
          cases h
          obtain ⟨hcode, hini, hd3, hlink, hinst, hsel, hoc, r0, hr0, hrn⟩ := pm_cal_ok0 hcal
          obtain ⟨e1, e2⟩ := pm_split (sa := sa) (b := b) hlen has
          obtain ⟨⟨t, vs⟩, ht1, ht2⟩ := Option.map_eq_some_iff.mp htag
          cases ht2
          rw [e1]
          refine pm_after (r := r) (va_runV (C := (pm_y y).cls) (own := pm_own mid) (index := x) (bytes := pm_code y) (maxL := pm_maxL y) (ret := pm_ret y) (n := a - 1) (Ts := pm_T) ⟨hx, hb, hml, hown, hts⟩ (hM dC dI dA sa b) ⟨callB_of (a - 1) hts (pm_good y hcode) rfl rfl rfl (hts _ hini) (hts _ hlink) hd3 (hroom y), hts _ hinst, hts _ hsel⟩ ⟨pm_blind _ _ _ _ _ _ _, ?_, hpre⟩ rfl (by rw [List.length_map]; exact e2) hl.2.1 rfl (pm_sum hsum) hd ⟨hRc, hRs⟩) hP hle hS0 fun H1 locs1 g1 g2 => by rw [hres]; exact kk H1 locs1 g1 g2
          rcases hP.2 k _ ht1 with ⟨-, r1, g1, g2, cell, q1, q2, q3, q4⟩ | ⟨g0, -⟩
          · cases hr0.symm.trans g1
            exact ⟨cell, q1, by rw [q3]; rfl, by rw [q2, ← hrn]; exact (hK.1.1 _ _ hr0).2.1⟩
          · exact absurd g0 (by show ¬ 100 ≤ pm_oc y; omega)
        · cases h
      · cases h
    · cases h
  · next st0 x =>
    split at h
    · next y0 a hcal =>
      split at h
      · next hcond =>
        obtain ⟨hlen, hsum⟩ := hcond
        cases h
        obtain ⟨hcode, hini, hd3, hlink, hst⟩ := pm_cal_ok1 hcal
        rw [pm_split0 (st := st) (a := a)]
        refine pm_after (r := r) (va_runS (own := pm_own mid) (index := x) (bytes := pm_code y) (maxL := pm_maxL y) (ret := pm_ret y) (n := a) (Ts := pm_T) ⟨hx, hb, hml, hown, hts⟩ (hM dC dI dA sa b) ⟨callB_of a hts (pm_good y hcode) rfl rfl rfl (hts _ hini) (hts _ hlink) hd3 (hroom y), hts _ hst⟩ ⟨pm_blind _ _ _ _ _ _ _, hpre⟩ rfl (by rw [List.length_map, List.length_reverse]; exact hlen) hl.2.1 rfl (pm_sum hsum) hd ⟨hRc, hRs⟩) hP hle hS0 fun H1 locs1 g1 g2 => by rw [hres]; exact kk H1 locs1 g1 g2
      · cases h
    · cases h
  · next st0 x =>
    split at h
    · split at h
      · split at h
        · cases h
        · cases h
      · cases h
    · next kd y0 a hne hcal =>
      split at h
      · next hkd =>
        split at h
        · next k as0 has =>
          split at h
          · next hcond =>
            obtain ⟨hlen, hsum⟩ := hcond
            rw [has] at h
            cases h
            obtain ⟨e1, e2⟩ := pm_split (sa := sa) (b := b) hlen has
            rw [e1]
            rcases hkd with rfl | rfl
            · obtain ⟨hcode, hini, hd3, hlink, hinst, hnm⟩ := pm_cal_ok2 hcal
              exact pm_after (r := r) (va_runI (own := pm_own mid) (index := x) (bytes := pm_code y) (maxL := pm_maxL y) (n := a - 1) (Ts := pm_T) ⟨hx, hb, hml, hown, hts⟩ (hM dC dI dA sa b) ⟨callB_of (a - 1) hts (pm_good y hcode.1) (by rw [pm_ws, hcode.2]) rfl rfl (hts _ hini) (hts _ hlink) hd3 (hroom y), hnm, hts _ hinst⟩ ⟨pm_blind _ _ _ _ _ _ _, hpre⟩ rfl (by rw [List.length_map]; exact e2) hl.2.1 rfl (pm_sum hsum) hd ⟨hRc, hRs⟩) hP hle hS0 fun H1 locs1 g1 g2 => by rw [hres]; exact kk H1 locs1 g1 g2
            · obtain ⟨hcode, hini, hd3, host, hlink, hinst, hnm⟩ := pm_cal_ok3 hcal
              exact pm_after (r := r) (va_runIN (own := pm_own mid) (host := host) (index := x) (bytes := pm_code y) (maxL := pm_maxL y) (n := a - 1) (Ts := pm_T) ⟨hx, hb, hml, hown, hts⟩ (hM dC dI dA sa b) ⟨va_cnB (a - 1) hts (pm_good y hcode.1) (by rw [pm_ws, hcode.2]) rfl rfl (hK.2.2.1 _ hlink) (hts _ hini) hd3 (hroom y), hnm, hts _ hinst⟩ ⟨pm_blind _ _ _ _ _ _ _, hpre⟩ rfl (by rw [List.length_map]; exact e2) hl.2.1 rfl (pm_sum hsum) hd ⟨hRc, hRs⟩) hP hle hS0 fun H1 locs1 g1 g2 => by rw [hres]; exact kk H1 locs1 g1 g2
          · cases h
        · cases h
      · cases h
    · cases h
  all_goals (repeat' (split at h)) <;> cases h
end PM4
