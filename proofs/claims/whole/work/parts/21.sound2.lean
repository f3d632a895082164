def pm_at1 (dC : Nat → ClassId) (dI : Nat → Nat → Nat) (dA : Nat → ClassId) (sa b k : Nat) (q : Nat × List Value) (H : Heap) : Prop :=
  (q.1 < 100 ∧ ∃ r : vw_C, pm_cl[q.1]? = some r ∧ q.2.length = r.2.2 ∧ t_OB (b + k) (dC q.1) r.2.2 (dI q.1) H (vp_V (q.2.map (pm_tv sa b)))) ∨
  (100 ≤ q.1 ∧ H[b + k]? = some (arrV (dA (q.1 - 100)) q.2.length (vp_V (q.2.map (pm_tv sa b)))))
def pm_rel (dC : Nat → ClassId) (dI : Nat → Nat → Nat) (dA : Nat → ClassId) (sa b : Nat) (P : pm_H) (H : Heap) : Prop := H.size = b + P.length ∧ ∀ (k : Nat) (q : Nat × List Value), P[k]? = some q → pm_at1 dC dI dA sa b k q H
def pm_K (dC : Nat → ClassId) (dI : Nat → Nat → Nat) (dA : Nat → ClassId) (U : State) : Prop :=
  va_K (dC, dI) pm_cl [] U ∧ (∀ (k : Nat) (ty : FieldType), pm_at k = some ty → ArrOfT U (dA k) ty ∧ va_RA U (dA k) ty) ∧
  (∀ w ∈ pm_nest, va_Nw w U) ∧ ∀ C ∈ pm_over, va_AO C U
theorem pm_at1.kept {dC : Nat → ClassId} {dI : Nat → Nat → Nat} {dA : Nat → ClassId} {sa b k : Nat} {q : Nat × List Value} {H H1 : Heap} (h : pm_at1 dC dI dA sa b k q H) (hq : H1[b + k]? = H[b + k]?) : pm_at1 dC dI dA sa b k q H1 := by
  rcases h with ⟨h0, r, h1, h2, h3⟩ | ⟨h0, h1⟩
  · exact Or.inl ⟨h0, r, h1, h2, h3.kept hq⟩
  · exact Or.inr ⟨h0, by rw [hq]; exact h1⟩
theorem pm_rd_spec {P : pm_H} {k t j : Nat} {v : Value} (h : pm_rd P k t j = some v) : ∃ vs, P[k]? = some (t, vs) ∧ vs[j]? = some v := by
  unfold pm_rd at h
  split at h
  · next q hq =>
    split at h
    · next ht =>
      obtain ⟨t', vs⟩ := q
      cases ht
      exact ⟨vs, hq, h⟩
    · cases h
  · cases h
theorem pm_wr_spec {P P' : pm_H} {k t j : Nat} {v : Value} (h : pm_wr P k t j v = some P') : ∃ vs, P[k]? = some (t, vs) ∧ j < vs.length ∧ P' = P.set k (t, vs.set j v) := by
  unfold pm_wr at h
  split at h
  · next q hq =>
    split at h
    · next ht =>
      obtain ⟨t', vs⟩ := q
      obtain ⟨rfl, hj⟩ := ht
      cases h
      exact ⟨vs, hq, hj, rfl⟩
    · cases h
  · cases h
theorem pm_rel_set {dC : Nat → ClassId} {dI : Nat → Nat → Nat} {dA : Nat → ClassId} {sa b k : Nat} {P : pm_H} {q0 q : Nat × List Value} {H H1 : Heap} (h : pm_rel dC dI dA sa b P H) (hk : P[k]? = some q0) (z : H1.size = H.size) (oq : ∀ x : Nat, x ≠ b + k → H1[x]? = H[x]?) (hq : pm_at1 dC dI dA sa b k q H1) : pm_rel dC dI dA sa b (P.set k q) H1 := by
  have hl := (List.getElem?_eq_some_iff.mp hk).1
  refine ⟨by rw [z, h.1, List.length_set], fun j y hj => ?_⟩
  by_cases hjk : j = k
  · subst hjk
    rw [List.getElem?_set_self hl] at hj
    cases hj
    exact hq
  · rw [List.getElem?_set_ne (Ne.symm hjk)] at hj
    exact (h.2 j y hj).kept (oq (b + j) (by omega))
theorem pm_rel_push {dC : Nat → ClassId} {dI : Nat → Nat → Nat} {dA : Nat → ClassId} {sa b : Nat} {P : pm_H} {q : Nat × List Value} {H H1 : Heap} (h : pm_rel dC dI dA sa b P H) (z : H1.size = H.size + 1) (oq : ∀ x : Nat, x < H.size → H1[x]? = H[x]?) (hq : pm_at1 dC dI dA sa b P.length q H1) : pm_rel dC dI dA sa b (P ++ [q]) H1 := by
  refine ⟨by rw [z, h.1]; simp; omega, fun j y hj => ?_⟩
  by_cases hl : j < P.length
  · rw [List.getElem?_append_left hl] at hj
    exact (h.2 j y hj).kept (oq (b + j) (by have := h.1; omega))
  · rw [List.getElem?_append_right (by omega)] at hj
    have hz : j - P.length < 1 := (List.getElem?_eq_some_iff.mp hj).1
    have hj2 : j = P.length := by omega
    subst hj2
    rw [Nat.sub_self] at hj
    cases hj
    exact hq
theorem pm_V_set {sa b j : Nat} {vs : List Value} {v : Value} (hj : j < vs.length) (i : Nat) : updV (vp_V (vs.map (pm_tv sa b))) j (pm_tv sa b v) i = vp_V ((vs.set j v).map (pm_tv sa b)) i := by
  rw [List.map_set]
  exact vp_updV_set (by rw [List.length_map]; exact hj) _ i
theorem pm_V_get {sa b j : Nat} {vs : List Value} {v : Value} (hj : vs[j]? = some v) : vp_V (vs.map (pm_tv sa b)) j = pm_tv sa b v := by
  simp [vp_V, List.getElem?_map, hj]
theorem pm_nar {sa b : Nat} {ty : FieldType} {v : Value} (h : narrow ty v = v) : narrow ty (pm_tv sa b v) = pm_tv sa b v := by
  cases v with
  | ref k => cases ty <;> rfl
  | _ => exact h
theorem pm_fit {sa b : Nat} {ty : FieldType} {v : Value} (h : fits ty v = true) : fits ty (pm_tv sa b v) = true := by
  cases v with
  | ref k => cases ty <;> first | rfl | exact h
  | _ => exact h
section PM2
variable {p : Program} {l : Launch} {e : Env} {R : Room} {s : State} {m : MethodId} {args : Array Value} {below : List Frame} {meth : Method} {c : Code} {H : Heap} {locs : List Loc} {cells slots : Nat} {Q : State → Prop}
variable {dC : Nat → ClassId} {dI : Nat → Nat → Nat} {dA : Nat → ClassId} {sa b mid pc : Nat} {P : pm_H} {ar : Array Slot} {rest : List Value} {H0 : Heap}
theorem pm_getf {x k t j : Nat} {v : Value} (hx : p.tables.exec = Jvm.exec) (hb : c.code = pm_code mid) (hown : s.vm.findClass (pm_own mid) = some m.cls) (hts : ∀ w ∈ pm_T, w.before args s = true) (hK : pm_K dC dI dA s) (hP : pm_rel dC dI dA sa b P H)
    (hfl : pm_fl (pm_oc mid) x = some (t, j)) (ht : t < 100) (hrd : pm_rd P k t j = some v) (hd : decode (pm_code mid) pc = .ok (.getfield x, 3))
    (kk : W p l e R s m args below meth c H locs cells slots Q (F0 m (pc + 3) ar (pm_tv sa b v :: rest))) : W p l e R s m args below meth c H locs cells slots Q (F0 m pc ar (.ref (b + k) :: rest)) := by
  obtain ⟨r0, hc, hj, hlink, hin⟩ := pm_fl_ok hfl
  obtain ⟨vs, h1, h2⟩ := pm_rd_spec hrd
  rcases hP.2 k _ h1 with ⟨-, r, g1, g2, cell, q1, q2, q3, q4⟩ | ⟨g0, -⟩
  · cases hc.symm.trans g1
    have hw : va_P (dC, dI) pm_cl [(b + k, .inr (t, vs.map (pm_tv sa b)))] H := fun i q hq => by
      have hz : i < 1 := (List.getElem?_eq_some_iff.mp hq).1
      rw [show i = 0 by omega] at hq
      cases hq
      exact ⟨r0, hc, cell, q1, q2, q3, q4⟩
    exact va_get (C := r0.1) (T := r0.2.1) (N := r0.2.2) (ref := (r0.2.1 j).1) hx hb hts hin hown hK.1 hw 0 rfl hc j hj (hts _ hlink) (fun _ h => h) (by rw [List.getElem?_map, h2]; rfl) hd kk
  · exact absurd g0 (by show ¬ 100 ≤ t; omega)
theorem pm_putf {x k t j : Nat} {v : Value} {P' : pm_H} (hx : p.tables.exec = Jvm.exec) (hb : c.code = pm_code mid) (hown : s.vm.findClass (pm_own mid) = some m.cls) (hts : ∀ w ∈ pm_T, w.before args s = true) (hK : pm_K dC dI dA s) (hP : pm_rel dC dI dA sa b P H) (hS0 : va_S (fun q => b ≤ q) H0 H locs) (hini : pm_ini mid = true → meth.name = "<init>")
    (hfl : pm_fl (pm_oc mid) x = some (t, j)) (hc0 : t < 100 ∧ narrow (pm_ft t j) v = v ∧ fits (pm_ft t j) v = true ∧ (pm_fin t j = false ∨ (pm_ini mid = true ∧ pm_oc mid = t))) (hwr : pm_wr P k t j v = some P') (hd : decode (pm_code mid) pc = .ok (.putfield x, 3))
    (kk : ∀ (H1 : Heap) (locs1 : List Loc), pm_rel dC dI dA sa b P' H1 → va_S (fun q => b ≤ q) H0 H1 locs1 → W p l e R s m args below meth c H1 locs1 cells slots Q (F0 m (pc + 3) ar rest)) : W p l e R s m args below meth c H locs cells slots Q (F0 m pc ar (pm_tv sa b v :: .ref (b + k) :: rest)) := by
  obtain ⟨ht, hn, hf, hfin⟩ := hc0
  obtain ⟨r0, hc, hj, hlink, hin⟩ := pm_fl_ok hfl
  obtain ⟨vs, h1, h2, rfl⟩ := pm_wr_spec hwr
  obtain ⟨hF1, hF2⟩ := pm_fin_ok hc hj
  obtain ⟨htyk, hnm⟩ := pm_ft_ok hc
  have hty := htyk j hj
  have hn' := pm_nar (sa := sa) (b := b) hn
  have hf' := pm_fit (sa := sa) (b := b) hf
  rcases hP.2 k _ h1 with ⟨-, r, g1, g2, cell, q1, q2, q3, q4⟩ | ⟨g0, -⟩
  · cases hc.symm.trans g1
    have hKt := hK.1.1 t _ hc
    obtain ⟨hS, hfc, kC, hkC, hkind⟩ := hKt
    have hap := va_apart (own := pm_own mid) hts hin (pm_ft t) htyk hnm hK.1 hc
    obtain ⟨cf, kf, fi, f, hi, hsl⟩ := hS j hj
    have hst := (u_facts hfc hkC (u_lays hts hin hj) hi).1
    have hlay := hts _ (hin _ (u_in_lay hj))
    have fin : ∀ H' : Heap, H'[b + k]? = some (cell.setSlot f.slot (pm_tv sa b v)) → H'.size = H.size → (∀ q, q ≠ b + k → H'[q]? = H[q]?) → W p l e R s m args below meth c H' (locs ++ [⟨b + k, f.slot⟩]) cells slots Q (F0 m (pc + 3) ar rest) := by
      intro H' e1 e2 e3
      refine kk H' _ (pm_rel_set hP h1 e2 e3 (Or.inl ⟨ht, r0, hc, by rw [List.length_set]; exact g2, ?_⟩)) (hS0.put e2 e3 (Nat.le_add_right _ _))
      rw [hsl] at e1
      exact t_OB.to (V := updV (vp_V (vs.map (pm_tv sa b))) j (pm_tv sa b v)) ⟨_, e1, q2, q3, t_set q4 hap hj _⟩ (fun i _ => pm_V_set h2 i)
    by_cases hfl0 : (r0.2.1 j).2.2.2 = true
    · rcases hfin with hq | ⟨hi0, hdecl⟩
      · rw [hF1, hfl0] at hq; cases hq
      · unfold u_lay at hlay
        rw [if_pos hfl0] at hlay
        have hcf : m.cls = cf := by
          obtain ⟨_, _, c', _, _, _, -, -, hf', -, -, -, hown2, -⟩ := Cond.laysFinal_spec hlay
          have e1 : c' = cf := by have := hi.symm.trans hf'; simp at this; exact this.1.symm
          rw [hF2, ← hdecl] at hown2
          rw [← e1]; exact Option.some.inj (hown.symm.trans hown2)
        have h6 := u_fits hfc hkC hkind (Or.inr hlay) hi hty hn' hf'
        exact W.putFinK hx hb hown (hts _ hlink) hi hst hcf (hini hi0) (by rw [q2]; exact h6) q1 q3 (by rw [hsl]; exact k2_hasslot (q4 j hj)) rfl rfl hd fin
    · unfold u_lay at hlay
      rw [if_neg hfl0] at hlay
      have h6 := u_store hfc hkC hkind hlay hi hty hn' hf'
      exact W.putK hx hb (f := f) ⟨hown, hts _ hlink, ⟨_, _, _, hi⟩, hst⟩ (by rw [q2]; exact h6) q1 q3 (by rw [hsl]; exact k2_hasslot (q4 j hj)) rfl rfl hd fin
  · exact absurd g0 (by show ¬ 100 ≤ t; omega)
theorem pm_arr {k t : Nat} {vs : List Value} (hP : pm_rel dC dI dA sa b P H) (h : P[k]? = some (t, vs)) (ht : 100 ≤ t) : H[b + k]? = some (arrV (dA (t - 100)) vs.length (vp_V (vs.map (pm_tv sa b)))) := by
  rcases hP.2 k _ h with ⟨g0, -⟩ | ⟨-, g⟩
  · exact absurd g0 (by show ¬ t < 100; omega)
  · exact g
theorem pm_arr_set {k t j : Nat} {vs : List Value} {v : Value} {H1 : Heap} (hP : pm_rel dC dI dA sa b P H) (h : P[k]? = some (t, vs)) (ht : 100 ≤ t) (hj : j < vs.length)
    (e1 : H1[b + k]? = some ((arrV (dA (t - 100)) vs.length (vp_V (vs.map (pm_tv sa b)))).setSlot j (pm_tv sa b v))) (z : H1.size = H.size) (oq : ∀ q : Nat, q ≠ b + k → H1[q]? = H[q]?) : pm_rel dC dI dA sa b (P.set k (t, vs.set j v)) H1 := by
  refine pm_rel_set hP h z oq (Or.inr ⟨ht, ?_⟩)
  show H1[b + k]? = some (arrV (dA (t - 100)) (vs.set j v).length _)
  rw [e1, arrV_store, List.length_set, show updV (vp_V (vs.map (pm_tv sa b))) j (pm_tv sa b v) = vp_V ((vs.set j v).map (pm_tv sa b)) from funext fun i => pm_V_set hj i]
end PM2
