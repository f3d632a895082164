def pm_sl (P : pm_H) : Nat := (P.map fun q => q.2.length).sum
theorem pm_sl_app (P : pm_H) (q : Nat × List Value) : pm_sl (P ++ [q]) = pm_sl P + q.2.length := by simp [pm_sl]
theorem pm_sl_set {P : pm_H} {k t j : Nat} {vs : List Value} {v : Value} (h : P[k]? = some (t, vs)) : pm_sl (P.set k (t, vs.set j v)) = pm_sl P := by
  unfold pm_sl
  rw [List.map_set]
  have hl := (List.getElem?_eq_some_iff.mp h).1
  have e : (P.map fun q => q.2.length)[k]? = some vs.length := by rw [List.getElem?_map, h]; rfl
  have e2 : (P.map fun q => q.2.length).set k ((t, vs.set j v).2.length) = P.map fun q => q.2.length := by
    apply List.ext_getElem?
    intro i
    by_cases hi : i = k
    · subst hi
      rw [List.getElem?_set_self (by rw [List.length_map]; exact hl), e]
      simp
    · rw [List.getElem?_set_ne (Ne.symm hi)]
  rw [e2]
section PM3
variable {p : Program} {l : Launch} {e : Env} {R : Room} {s : State} {m : MethodId} {args : Array Value} {below : List Frame} {meth : Method} {c : Code} {H : Heap} {locs : List Loc} {cells slots : Nat} {Q : State → Prop}
variable {dC : Nat → ClassId} {dI : Nat → Nat → Nat} {dA : Nat → ClassId} {sa b mid pc : Nat} {P : pm_H} {ar : Array Slot} {rest : List Value} {H0 : Heap}
theorem pm_clamp {z : Int32} {n : Nat} (h0 : ¬ z < 0) (h : z.toNatClampNeg < n) : ¬ (z < 0 ∨ n ≤ z.toNatClampNeg) := fun q => q.elim h0 (fun q => by omega)
theorem pm_arrV_congr {cA : ClassId} {N : Nat} {f g : Nat → Value} (h : ∀ j, j < N → f j = g j) : arrV cA N f = arrV cA N g := by
  unfold arrV
  congr 2
  funext j
  exact h j.1 j.2
theorem pm_rep {sa b N : Nat} {cA : ClassId} {v : Value} (hv : pm_tv sa b v = v) : arrV cA N (fun _ => v) = arrV cA (List.replicate N v).length (vp_V ((List.replicate N v).map (pm_tv sa b))) := by
  rw [List.length_replicate]
  refine pm_arrV_congr fun j hj => ?_
  rw [pm_V_get (v := v) (by rw [List.getElem?_replicate, if_pos hj]), hv]
theorem pm_new {x t : Nat} (hx : p.tables.exec = Jvm.exec) (hb : c.code = pm_code mid) (hown : s.vm.findClass (pm_own mid) = some m.cls) (hts : ∀ w ∈ pm_T, w.before args s = true) (hK : pm_K dC dI dA s) (hP : pm_rel dC dI dA sa b P H) (hS0 : va_S (fun q => b ≤ q) H0 H locs)
    (hnw : pm_nw (pm_oc mid) x = some t) (hcells : cells + 1 ≤ R.cells) (hslots : slots + pm_N t ≤ R.slots) (hd : decode (pm_code mid) pc = .ok (.new x, 3))
    (kk : ∀ H1 : Heap, pm_rel dC dI dA sa b (P ++ [(t, (List.range (pm_N t)).map fun j => defaultValue (pm_ft t j))]) H1 → va_S (fun q => b ≤ q) H0 H1 locs → W p l e R s m args below meth c H1 locs (cells + 1) (slots + pm_N t) Q (F0 m (pc + 3) ar (.ref (b + P.length) :: rest))) : W p l e R s m args below meth c H locs cells slots Q (F0 m pc ar rest) := by
  obtain ⟨r0, hc, ht, hlink, hinst, hini, hin⟩ := pm_nw_ok hnw
  obtain ⟨htyk, hnm⟩ := pm_ft_ok hc
  have hN : pm_N t = r0.2.2 := by simp [pm_N, hc]
  have hKn := hK.1.1 t _ hc
  rw [hN] at hslots kk
  refine W.newcK hx hb hown (hts _ hlink) (hts _ hinst) (hts _ hini) rfl hd hcells hslots hKn.2.1 hP.1 fun H1 kC hkC e1 z1 o1 => ?_
  refine kk H1 (pm_rel_push hP (by rw [z1, hP.1]) (fun q hq => o1 q (by rw [← hP.1]; exact hq)) (Or.inl ⟨ht, r0, hc, by simp, ?_⟩)) ⟨Nat.le_trans hS0.1 (by rw [z1, hP.1]; omega), fun q h1 h2 => (o1 q (by rw [← hP.1]; exact Nat.lt_of_lt_of_le h1 hS0.1)).trans (hS0.2.1 q h1 h2), hS0.2.2⟩
  refine (u_born (pm_ft t) hts hin hKn hkC e1 htyk).to fun j hj => ?_
  rw [pm_V_get (v := defaultValue (pm_ft t j)) (by simp [hj])]
  cases pm_ft t j <;> rfl
theorem pm_newa {a : ArrayType} {k : Nat} {z : Int32} (hx : p.tables.exec = Jvm.exec) (hb : c.code = pm_code mid) (hts : ∀ w ∈ pm_T, w.before args s = true) (hK : pm_K dC dI dA s) (hP : pm_rel dC dI dA sa b P H) (hS0 : va_S (fun q => b ≤ q) H0 H locs)
    (hk : pm_at k = some (newarray.typeOf a)) (hA : Cond.arrayClass (newarray.typeOf a) ∈ pm_T) (hv : defaultValue (newarray.typeOf a) = .int 0) (hra : ∀ (U : State) (cA : ClassId), va_RA U cA (newarray.typeOf a) → U.vm.findClass ("[" ++ (newarray.typeOf a).toString) = some cA) (h0 : ¬ z < 0) (hz : z.toNatClampNeg * componentBytes (newarray.typeOf a) ≤ 536870912) (hcells : cells + 1 ≤ R.cells) (hslots : slots + z.toNatClampNeg ≤ R.slots) (hd : decode (pm_code mid) pc = .ok (.newarray a, 2))
    (kk : ∀ H1 : Heap, pm_rel dC dI dA sa b (P ++ [(100 + k, List.replicate z.toNatClampNeg (.int 0))]) H1 → va_S (fun q => b ≤ q) H0 H1 locs → W p l e R s m args below meth c H1 locs (cells + 1) (slots + z.toNatClampNeg) Q (F0 m (pc + 2) ar (.ref (b + P.length) :: rest))) : W p l e R s m args below meth c H locs cells slots Q (F0 m pc ar (.int z :: rest)) := by
  refine va_newaK hx hb (hts _ hA) rfl hd rfl h0 rfl hz hcells hslots hP.1 fun H1 cA e1 z1 o1 hAr hNm => ?_
  have hcA : cA = dA k := Option.some.inj (hNm.symm.trans (hra s _ (hK.2.1 k _ hk).2))
  subst hcA
  refine kk H1 (pm_rel_push hP (by rw [z1, hP.1]) (fun q hq => o1 q (by rw [← hP.1]; exact hq)) (Or.inr ⟨by show 100 ≤ 100 + k; omega, ?_⟩)) ⟨Nat.le_trans hS0.1 (by rw [z1, hP.1]; omega), fun q h1 h2 => (o1 q (by rw [← hP.1]; exact Nat.lt_of_lt_of_le h1 hS0.1)).trans (hS0.2.1 q h1 h2), hS0.2.2⟩
  show H1[b + P.length]? = some (arrV (dA (100 + k - 100)) _ _)
  rw [e1, hv, Nat.add_sub_cancel_left, pm_rep (sa := sa) (b := b) rfl]
theorem pm_anew {x k : Nat} {z : Int32} (hx : p.tables.exec = Jvm.exec) (hb : c.code = pm_code mid) (hown : s.vm.findClass (pm_own mid) = some m.cls) (hts : ∀ w ∈ pm_T, w.before args s = true) (hK : pm_K dC dI dA s) (hP : pm_rel dC dI dA sa b P H) (hS0 : va_S (fun q => b ≤ q) H0 H locs)
    (hk : pm_an (pm_oc mid) x = some k) (h0 : ¬ z < 0) (hz : z.toNatClampNeg * 4 ≤ 536870912) (hcells : cells + 1 ≤ R.cells) (hslots : slots + z.toNatClampNeg ≤ R.slots) (hd : decode (pm_code mid) pc = .ok (.anewarray x, 3))
    (kk : ∀ H1 : Heap, pm_rel dC dI dA sa b (P ++ [(100 + k, List.replicate z.toNatClampNeg .null)]) H1 → va_S (fun q => b ≤ q) H0 H1 locs → W p l e R s m args below meth c H1 locs (cells + 1) (slots + z.toNatClampNeg) Q (F0 m (pc + 3) ar (.ref (b + P.length) :: rest))) : W p l e R s m args below meth c H locs cells slots Q (F0 m pc ar (.int z :: rest)) := by
  obtain ⟨C, hat, hlink, hov⟩ := pm_an_ok hk
  refine W.anew hx hb hown (hts _ hlink) (va_AO.use (hK.2.2.2 C hov)) rfl hd rfl h0 hz hcells hslots fun cA kA comp f1 f2 f3 f4 => ?_
  obtain ⟨kA', comp', -, -, -, k4⟩ := (hK.2.1 k _ hat).2
  have hcA : cA = dA k := Option.some.inj (f1.symm.trans k4)
  subst hcA
  generalize hH1 : H.push ({ cls := dA k, slots := Array.replicate z.toNatClampNeg .null, vm := .none } : Cell) = H1
  have z1 : H1.size = H.size + 1 := by rw [← hH1, Array.size_push]
  have e1 : H1[H.size]? = some (arrV (dA k) z.toNatClampNeg (fun _ => .null)) := by rw [← hH1, Array.getElem?_push_size, ← arrV_new]
  have o1 : ∀ q : Nat, q < H.size → H1[q]? = H[q]? := fun q hq => by rw [← hH1, Array.getElem?_push, if_neg (Nat.ne_of_lt hq)]
  rw [hP.1] at e1 ⊢
  refine kk H1 (pm_rel_push hP z1 o1 (Or.inr ⟨by show 100 ≤ 100 + k; omega, ?_⟩)) ⟨Nat.le_trans hS0.1 (by rw [z1]; omega), fun q h1 h2 => (o1 q (Nat.lt_of_lt_of_le h1 hS0.1)).trans (hS0.2.1 q h1 h2), hS0.2.2⟩
  show H1[b + P.length]? = some (arrV (dA (100 + k - 100)) _ _)
  rw [e1, Nat.add_sub_cancel_left, pm_rep (sa := sa) (b := b) rfl]
theorem pm_f3_ok {X : pm_X} {i : Instr} {n : Nat} {st st' : List Value} {P' : pm_H} (hx : p.tables.exec = Jvm.exec) (hb : c.code = pm_code mid) (hown : s.vm.findClass (pm_own mid) = some m.cls) (hts : ∀ w ∈ pm_T, w.before args s = true) (hK : pm_K dC dI dA s) (hini : pm_ini mid = true → meth.name = "<init>")
    (hX : ∀ L f, X = some (L, f) → va_X sa L f s H0 ∧ sa < H0.size ∧ sa < b) (hP : pm_rel dC dI dA sa b P H) (hS0 : va_S (fun q => b ≤ q) H0 H locs) (hd : decode (pm_code mid) pc = .ok (i, n)) (h : pm_f3 X mid i n st P = some (st', P'))
    (hRc : cells + (P'.length - P.length) ≤ R.cells) (hRs : slots + (pm_sl P' - pm_sl P) ≤ R.slots)
    (kk : ∀ (H1 : Heap) (locs1 : List Loc) (cells1 slots1 : Nat), cells1 = cells + (P'.length - P.length) → slots1 = slots + (pm_sl P' - pm_sl P) → pm_rel dC dI dA sa b P' H1 → va_S (fun q => b ≤ q) H0 H1 locs1 → W p l e R s m args below meth c H1 locs1 cells1 slots1 Q (F0 m (pc + n) ar (st'.map (pm_tv sa b)))) : W p l e R s m args below meth c H locs cells slots Q (F0 m pc ar (st.map (pm_tv sa b))) := by
  unfold pm_f3 at h
  split at h
  · next x k st0 =>
    split at h
    · next t j hfl =>
      split at h
      · next ht =>
        obtain ⟨v, h1, h2⟩ := Option.map_eq_some_iff.mp h
        cases h2
        exact pm_getf hx hb hown hts hK hP hfl ht h1 hd (kk H locs cells slots (by simp) (by simp) hP hS0)
      · cases h
    · cases h
  · next x v k st0 =>
    split at h
    · next t j hfl =>
      split at h
      · next ht =>
        obtain ⟨Q1, h1, h2⟩ := Option.map_eq_some_iff.mp h
        cases h2
        obtain ⟨vs, w1, w2, w3⟩ := pm_wr_spec h1
        have e1 : P'.length = P.length := by rw [w3, List.length_set]
        have e2 : pm_sl P' = pm_sl P := by rw [w3, pm_sl_set w1]
        exact pm_putf hx hb hown hts hK hP hS0 hini hfl ht h1 hd fun H1 locs1 g1 g2 => kk H1 locs1 cells slots (by rw [e1]; simp) (by rw [e2]; simp) g1 g2
      · cases h
    · cases h
  · next z st0 =>
    split at h
    · next L f =>
      split at h
      · cases h
      · next hz =>
        cases h
        obtain ⟨g1, g2, g3⟩ := hX L f rfl
        exact va_sld hx hb g1 g2 (by show ¬ b ≤ sa; omega) hS0 hz hd (kk H locs cells slots (by simp) (by simp) hP hS0)
    · cases h
  · next z k st0 =>
    split at h
    · cases h
    · next hz =>
      obtain ⟨v, h1, h2⟩ := Option.map_eq_some_iff.mp h
      cases h2
      obtain ⟨vs, w1, w2⟩ := pm_rd_spec h1
      have hlt := (List.getElem?_eq_some_iff.mp w2).1
      exact W.iald (v := pm_tv sa b v) hx hb (pm_arr hP w1 (Nat.le_refl _)) ((hK.2.1 0 .int rfl).1 _ _) (fun q => by cases q) (by rw [arrV_size]; exact pm_clamp hz hlt) (by rw [arrV_read _ _ hlt, pm_V_get w2]) rfl rfl hd (kk H locs cells slots (by simp) (by simp) hP hS0)
  · next v z k st0 =>
    split at h
    · cases h
    · next hz =>
      obtain ⟨Q1, h1, h2⟩ := Option.map_eq_some_iff.mp h
      cases h2
      obtain ⟨vs, w1, w2, w3⟩ := pm_wr_spec h1
      have e1 : P'.length = P.length := by rw [w3, List.length_set]
      have e2 : pm_sl P' = pm_sl P := by rw [w3, pm_sl_set w1]
      refine W.iast hx hb (pm_arr hP w1 (Nat.le_refl _)) ((hK.2.1 0 .int rfl).1 _ _) (fun q => by cases q) (by rw [arrV_size]; exact pm_clamp hz w2) rfl rfl hd fun H1 g1 g2 g3 => ?_
      exact kk H1 _ cells slots (by rw [e1]; simp) (by rw [e2]; simp) (by rw [w3]; exact pm_arr_set hP w1 (Nat.le_refl _) w2 g1 g2 g3) (hS0.put g2 g3 (Nat.le_add_right _ _))
  · next z k st0 =>
    split at h
    · cases h
    · next hz =>
      obtain ⟨v, h1, h2⟩ := Option.map_eq_some_iff.mp h
      cases h2
      obtain ⟨vs, w1, w2⟩ := pm_rd_spec h1
      have hlt := (List.getElem?_eq_some_iff.mp w2).1
      exact W.zald (v := pm_tv sa b v) hx hb (pm_arr hP w1 (by decide)) ((hK.2.1 1 .boolean rfl).1 _ _) (fun q => by cases q) (by rw [arrV_size]; exact pm_clamp hz hlt) (by rw [arrV_read _ _ hlt, pm_V_get w2]) rfl rfl hd (kk H locs cells slots (by simp) (by simp) hP hS0)
  · next v z k st0 =>
    split at h
    · cases h
    · next hz =>
      obtain ⟨Q1, h1, h2⟩ := Option.map_eq_some_iff.mp h
      cases h2
      obtain ⟨vs, w1, w2, w3⟩ := pm_wr_spec h1
      have e1 : P'.length = P.length := by rw [w3, List.length_set]
      have e2 : pm_sl P' = pm_sl P := by rw [w3, pm_sl_set w1]
      have hnb : narrow .boolean (.int v) = .int v := Classical.byContradiction fun q => hz (Or.inr q)
      refine W.zast hx hb (pm_arr hP w1 (by decide)) ((hK.2.1 1 .boolean rfl).1 _ _) (fun q => by cases q) (by rw [arrV_size]; exact pm_clamp (fun q => hz (Or.inl q)) w2) rfl rfl hd fun H1 g1 g2 g3 => ?_
      rw [hnb] at g1
      exact kk H1 _ cells slots (by rw [e1]; simp) (by rw [e2]; simp) (by rw [w3]; exact pm_arr_set hP w1 (by decide) w2 g1 g2 g3) (hS0.put g2 g3 (Nat.le_add_right _ _))
  · next z k st0 =>
    split at h
    · next t htg =>
      split at h
      · cases h
      · next hz =>
        split at h
        · next u hae =>
          obtain ⟨r, hr1, hr2, hr3⟩ := pm_ae_ok hae
          obtain ⟨v, h1, h2⟩ := Option.map_eq_some_iff.mp h
          cases h2
          obtain ⟨vs, w1, w2⟩ := pm_rd_spec h1
          have hlt := (List.getElem?_eq_some_iff.mp w2).1
          exact W.aald (v := pm_tv sa b v) (ty := .object r.1) hx hb (pm_arr hP w1 (by omega)) ((hK.2.1 _ _ hr2).1 _ _) rfl (fun q => by cases q) (by rw [arrV_size]; exact pm_clamp (fun q => hz (Or.inl q)) hlt) (by rw [arrV_read _ _ hlt, pm_V_get w2]) rfl rfl hd (kk H locs cells slots (by simp) (by simp) hP hS0)
        · cases h
    · cases h
  · next v z k st0 =>
    split at h
    · next t u htg hug =>
      split at h
      · cases h
      · next hz =>
        split at h
        · next hat =>
          obtain ⟨r0, hr1, hr2, hr3⟩ := pm_ae_ok hat
          obtain ⟨Q1, h1, h2⟩ := Option.map_eq_some_iff.mp h
          cases h2
          obtain ⟨vs, w1, w2, w3⟩ := pm_wr_spec h1
          have e1 : P'.length = P.length := by rw [w3, List.length_set]
          have e2 : pm_sl P' = pm_sl P := by rw [w3, pm_sl_set w1]
          obtain ⟨⟨u', us⟩, hu1, hu2⟩ := Option.map_eq_some_iff.mp hug
          cases hu2
          rcases hP.2 v _ hu1 with ⟨-, r, g1, g2, cellV, q1, q2, q3, q4⟩ | ⟨g0, -⟩
          · cases hr1.symm.trans g1
            have hcls := (hK.1.1 u' r0 g1).2
            obtain ⟨kA, comp, k1, k2, k3, -⟩ := (hK.2.1 _ _ hr2).2
            have hcomp : comp = dC u' := Option.some.inj (k3.symm.trans hcls.1)
            subst hcomp
            obtain ⟨kC, hkC, -⟩ := hcls.2
            refine W.aast hx hb (pm_arr hP w1 (by omega)) (fun q h => by cases h) (fun h => by cases h) k1 k2 rfl hkC ⟨fun q => hz (Or.inl q), by rw [arrV_size]; exact w2⟩ q1 (fun q h => by rw [q3] at h; cases h) (by rw [q2]; exact hkC) (by rw [q2]; exact va_assign hcls) rfl rfl hd fun H1 f1 f2 f3 => ?_
            exact kk H1 _ cells slots (by rw [e1]; simp) (by rw [e2]; simp) (by rw [w3]; exact pm_arr_set hP w1 (by omega) w2 f1 f2 f3) (hS0.put f2 f3 (Nat.le_add_right _ _))
          · exact absurd g0 (by show ¬ 100 ≤ u'; omega)
        · cases h
    · cases h
  · next st0 =>
    split at h
    · next L f =>
      cases h
      obtain ⟨g1, g2, g3⟩ := hX L f rfl
      exact va_slen hx hb g1 g2 (by show ¬ b ≤ sa; omega) hS0 hd (kk H locs cells slots (by simp) (by simp) hP hS0)
    · cases h
  · next k st0 =>
    split at h
    · next q hq =>
      split at h
      · cases h
      · next hz =>
        split at h
        · next ty hty =>
          cases h
          exact W.alen hx hb (pm_arr hP hq (by omega)) ((hK.2.1 _ ty hty).1 _ _) (by rw [arrV_size]) rfl rfl hd (kk H locs cells slots (by simp) (by simp) hP hS0)
        · cases h
    · cases h
  · next x st0 =>
    obtain ⟨t, h1, h2⟩ := Option.map_eq_some_iff.mp h
    cases h2
    have e1 : (P ++ [(t, (List.range (pm_N t)).map fun j => defaultValue (pm_ft t j))]).length - P.length = 1 := by simp
    have e2 : pm_sl (P ++ [(t, (List.range (pm_N t)).map fun j => defaultValue (pm_ft t j))]) - pm_sl P = pm_N t := by rw [pm_sl_app]; simp
    rw [e1] at hRc kk; rw [e2] at hRs kk
    exact pm_new hx hb hown hts hK hP hS0 h1 hRc hRs hd fun H1 g1 g2 => kk H1 locs _ _ rfl rfl g1 g2
  · next a z st0 =>
    split at h
    · cases h
    · next hz =>
      have hz1 : ¬ z < 0 := fun q => hz (Or.inl q)
      have hz2 : z.toNatClampNeg ≤ 1000 := by omega
      split at h
      · cases h
        have e1 : (P ++ [(100, List.replicate z.toNatClampNeg (Value.int 0))]).length - P.length = 1 := by simp
        have e2 : pm_sl (P ++ [(100, List.replicate z.toNatClampNeg (Value.int 0))]) - pm_sl P = z.toNatClampNeg := by rw [pm_sl_app]; simp
        rw [e1] at hRc kk; rw [e2] at hRs kk
        exact pm_newa (a := .int) (k := 0) hx hb hts hK hP hS0 rfl pm_T_ints rfl (fun _ _ h => h) hz1 (by show _ * 4 ≤ _; omega) hRc hRs hd fun H1 g1 g2 => kk H1 locs _ _ rfl rfl g1 g2
      · cases h
        have e1 : (P ++ [(101, List.replicate z.toNatClampNeg (Value.int 0))]).length - P.length = 1 := by simp
        have e2 : pm_sl (P ++ [(101, List.replicate z.toNatClampNeg (Value.int 0))]) - pm_sl P = z.toNatClampNeg := by rw [pm_sl_app]; simp
        rw [e1] at hRc kk; rw [e2] at hRs kk
        exact pm_newa (a := .boolean) (k := 1) hx hb hts hK hP hS0 rfl pm_T_booleans rfl (fun _ _ h => h) hz1 (by show _ * 1 ≤ _; omega) hRc hRs hd fun H1 g1 g2 => kk H1 locs _ _ rfl rfl g1 g2
      · cases h
  · next x z st0 =>
    split at h
    · cases h
    · next hz =>
      have hz1 : ¬ z < 0 := fun q => hz (Or.inl q)
      have hz2 : z.toNatClampNeg ≤ 1000 := by omega
      obtain ⟨k, h1, h2⟩ := Option.map_eq_some_iff.mp h
      cases h2
      have e1 : (P ++ [(100 + k, List.replicate z.toNatClampNeg Value.null)]).length - P.length = 1 := by simp
      have e2 : pm_sl (P ++ [(100 + k, List.replicate z.toNatClampNeg Value.null)]) - pm_sl P = z.toNatClampNeg := by rw [pm_sl_app]; simp
      rw [e1] at hRc kk; rw [e2] at hRs kk
      exact pm_anew hx hb hown hts hK hP hS0 h1 hz1 (by omega) hRc hRs hd fun H1 g1 g2 => kk H1 locs _ _ rfl rfl g1 g2
  · cases h
end PM3
