section PM5
variable {p : Program} {l : Launch} {e : Env} {R : Room} {s : State} {m : MethodId} {args : Array Value} {below : List Frame} {meth : Method} {c : Code} {Q : State → Prop}
variable {dC : Nat → ClassId} {dI : Nat → Nat → Nat} {dA : Nat → ClassId} {sa b mid d : Nat}
theorem pm_Ex_ok {X : pm_X} {n0 s0 : Nat} {r : pm_R} (IH : ∀ y as P r, pm_Call d y as P r → pm_Met l d y as P r) (hx : p.tables.exec = Jvm.exec) (hb : c.code = pm_code mid) (hml : c.maxLocals = pm_maxL mid) (hown : s.vm.findClass (pm_own mid) = some m.cls) (hts : ∀ w ∈ pm_T, w.before args s = true) (hK : pm_K dC dI dA s) (hini : pm_ini mid = true → meth.name = "<init>")
    (hX : ∀ L f, X = some (L, f) → va_X sa L f s s.heap ∧ sa < s.heap.size ∧ sa < b) (hR : d + 1 ≤ R.frames ∧ (d + 1) * 33 ≤ R.locals) (hRc : r.2.length - n0 ≤ R.cells) (hRs : pm_sl r.2 - s0 ≤ R.slots)
    (hq : ∀ (H : Heap) (locs : List Loc) (ar : Array Slot) (pc n : Nat) (i : Instr) (ls : pm_L) (st : List Value), pm_rel dC dI dA sa b r.2 H → va_S (fun q => b ≤ q) s.heap H locs → decode (pm_code mid) pc = .ok (i, n) → pm_f4 mid i n pc ls st r.2 = some (.inr (.inr r.1)) → W p l e R s m args below meth c H locs (r.2.length - n0) (pm_sl r.2 - s0) Q (F0 m pc ar (st.map (pm_tv sa b)))) :
    ∀ (n pc : Nat) (ls : pm_L) (st : List Value) (P : pm_H), pm_Ex X (pm_Call d) mid n pc ls st P r → n0 ≤ P.length → s0 ≤ pm_sl P → ∀ (H : Heap) (locs : List Loc) (ar : Array Slot), pm_lok sa b ar (pm_maxL mid) ls → pm_rel dC dI dA sa b P H → va_S (fun q => b ≤ q) s.heap H locs →
      W p l e R s m args below meth c H locs (P.length - n0) (pm_sl P - s0) Q (F0 m pc ar (st.map (pm_tv sa b))) := by
  intro n
  induction n with
  | zero => intro pc ls st P h; cases h
  | succ n ih =>
    intro pc ls st P h hn0 hs0 H locs ar hl hP hS
    simp only [pm_Ex] at h
    unfold pm_step pm_ins at h
    cases hdec : decode (pm_code mid) pc with
    | error _ => rw [hdec] at h; cases h
    | ok q =>
      obtain ⟨i, k⟩ := q
      simp only [hdec] at h
      cases h1 : pm_f1 mid i k ls st with
      | some q1 =>
        obtain ⟨l1, st1⟩ := q1
        simp only [h1] at h
        exact pm_f1_ok hx hb hown hts hdec hl h1 fun ar' hl' => ih _ _ _ _ h hn0 hs0 H locs ar' hl' hP hS
      | none =>
        simp only [h1] at h
        cases h2 : pm_f2 i k pc st with
        | some q2 =>
          obtain ⟨t2, st2⟩ := q2
          simp only [h2] at h
          exact pm_f2_ok hx hb hdec h2 (ih _ _ _ _ h hn0 hs0 H locs ar hl hP hS)
        | none =>
          simp only [h2] at h
          cases h3 : pm_f3 X mid i k st P with
          | some q3 =>
            obtain ⟨st3, P3⟩ := q3
            simp only [h3] at h
            have g1 := pm_f3_le h3
            have g2 := pm_Ex_le (pm_Call_le d) mid _ _ _ _ _ _ h
            refine pm_f3_ok hx hb hown hts hK hini hX hP hS hdec h3 (by have := g1.1; have := g2.1; omega) (by have := g1.2; have := g2.2; omega) fun H1 locs1 c1 s1 e1 e2 hP1 hS1 => ?_
            have e3 : c1 = P3.length - n0 := by rw [e1]; have := g1.1; omega
            have e4 : s1 = pm_sl P3 - s0 := by rw [e2]; have := g1.2; omega
            rw [e3, e4]
            exact ih _ _ _ _ h (Nat.le_trans hn0 g1.1) (Nat.le_trans hs0 g1.2) H1 locs1 ar hl hP1 hS1
          | none =>
            simp only [h3] at h
            cases h4 : pm_f4 mid i k pc ls st P with
            | none => simp only [h4] at h
            | some q4 =>
              simp only [h4] at h
              match q4, h4, h with
              | .inl (pc', l4, st4, P4), h4, h =>
                obtain ⟨x, a0, q0, rfl, rfl, rfl, rfl, rfl, rfl, hsum, hlk⟩ := pm_f4_inl h4
                obtain ⟨w1, w2, w3⟩ := pm_cal_ok4 hlk
                exact W.objInit hx hb hown (hts _ w1) (hts _ w2) (hts _ w3) rfl (hl.2.1.trans hml.symm) rfl hdec (by have := hR.1; omega) (Nat.le_trans (Nat.add_le_add_right (pm_sum (m := m) (pc := pc) hsum) 12) (by have := hR.2; omega)) (ih _ _ _ _ h hn0 hs0 H locs ar hl hP hS)
              | .inr (.inl (y, as, pc', st4)), h4, h =>
                obtain ⟨v, P4, hc, h⟩ := h
                have g1 := pm_Call_le d _ _ _ _ hc
                have g2 := pm_Ex_le (pm_Call_le d) mid _ _ _ _ _ _ h
                have g3 : P.length ≤ P4.length ∧ pm_sl P ≤ pm_sl P4 := g1
                have g4 : P4.length ≤ r.2.length ∧ pm_sl P4 ≤ pm_sl r.2 := g2
                refine pm_call_ok (r := (v, P4)) hx hb hml hown hts hK hl hP hS hdec h4 (IH _ _ _ _ hc) g1 hR (by show _ + (P4.length - P.length) ≤ _; omega) (by show _ + (pm_sl P4 - pm_sl P) ≤ _; omega) fun H1 locs1 hP1 hS1 => ?_
                have e3 : P.length - n0 + (P4.length - P.length) = P4.length - n0 := by omega
                have e4 : pm_sl P - s0 + (pm_sl P4 - pm_sl P) = pm_sl P4 - s0 := by omega
                show W p l e R s m args below meth c H1 locs1 (P.length - n0 + (P4.length - P.length)) (pm_sl P - s0 + (pm_sl P4 - pm_sl P)) Q _
                rw [e3, e4]
                exact ih _ _ _ _ h (by omega) (by omega) H1 locs1 ar hl hP1 hS1
              | .inr (.inr v), h4, h =>
                subst h
                exact hq H locs ar pc k i ls st hP hS hdec h4
end PM5
theorem pm_en_get (as : List Value) : ∀ (n : Nat), (lg_sl as).length ≤ n → (pm_en n as).length = n := by
  intro n h
  have e : ∀ as : List Value, (as.flatMap fun v => if v.category = 2 then [some v, none] else [some v]).length = (lg_sl as).length := by
    intro as
    induction as with
    | nil => rfl
    | cons v t ih =>
      simp only [lg_sl, List.flatMap_cons, List.length_append] at ih ⊢
      rw [ih]
      by_cases hv : v.category = 2 <;> simp [hv]
  unfold pm_en
  rw [List.length_append, List.length_replicate, e]
  omega
theorem pm_en_at (sa b : Nat) (as : List Value) : ∀ (i : Nat) (v : Value) (k : Nat), (as.flatMap fun v => if v.category = 2 then [some v, none] else [some v])[i]? = some (some v) → (i + k, pm_tv sa b v) ∈ lv_args k (as.map (pm_tv sa b)) := by
  induction as with
  | nil => intro i v k h; simp at h
  | cons w t ih =>
    intro i v k h
    simp only [List.flatMap_cons] at h
    simp only [List.map_cons, lv_args, pm_tv_cat]
    by_cases hw : w.category = 2
    · simp only [hw, if_true] at h ⊢
      match i, h with
      | 0, h => simp at h; subst h; simp
      | 1, h => simp at h
      | j + 2, h =>
        have h' : (t.flatMap fun v => if v.category = 2 then [some v, none] else [some v])[j]? = some (some v) := by simpa using h
        have := ih j v (k + 2) h'
        rw [show j + 2 + k = j + (k + 2) by omega]
        exact List.mem_cons_of_mem _ this
    · simp only [hw, if_false] at h ⊢
      match i, h with
      | 0, h => simp at h; subst h; simp
      | j + 1, h =>
        have h' : (t.flatMap fun v => if v.category = 2 then [some v, none] else [some v])[j]? = some (some v) := by simpa using h
        have := ih j v (k + 1) h'
        rw [show j + 1 + k = j + (k + 1) by omega]
        exact List.mem_cons_of_mem _ this
theorem pm_sl_tv (sa b : Nat) (as : List Value) : (lg_sl (as.map (pm_tv sa b))).length = (lg_sl as).length := by
  induction as with
  | nil => rfl
  | cons v t ih =>
    simp only [lg_sl, List.map_cons, List.flatMap_cons, List.length_append, pm_tv_cat] at ih ⊢
    rw [ih]
    by_cases hv : v.category = 2 <;> simp [hv]
theorem pm_entry (sa b : Nat) (as : List Value) {n : Nat} (h : (lg_sl as).length ≤ n) : pm_lok sa b ((lg_sl (as.map (pm_tv sa b)) ++ List.replicate (n - (lg_sl (as.map (pm_tv sa b))).length) Slot.unset).toArray) n (pm_en n as) := by
  have hv := lv_entry (as.map (pm_tv sa b)) (n := n) (by rw [pm_sl_tv]; exact h)
  refine ⟨pm_en_get as n h, hv.1, hv.2.1, fun i v hi => ?_⟩
  unfold pm_en at hi
  have h1 : (as.flatMap fun v => if v.category = 2 then [some v, none] else [some v])[i]? = some (some v) := by
    by_cases hlt : i < (as.flatMap fun v => if v.category = 2 then [some v, none] else [some v]).length
    · rwa [List.getElem?_append_left hlt] at hi
    · rw [List.getElem?_append_right (by omega), List.getElem?_replicate] at hi
      split at hi <;> cases hi
  exact hv.2.2 (i, pm_tv sa b v) (pm_en_at sa b as i v 0 h1)
theorem pm_ret_ok {p : Program} {l : Launch} {e : Env} {R : Room} {s : State} {m : MethodId} {args : Array Value} {below : List Frame} {meth : Method} {c : Code} {H : Heap} {locs : List Loc} {cells slots : Nat} {dC : Nat → ClassId} {dI : Nat → Nat → Nat} {dA : Nat → ClassId} {sa b mid pc n : Nat} {r : pm_R} {i : Instr} {ls : pm_L} {st : List Value} {ar : Array Slot}
    (hx : p.tables.exec = Jvm.exec) (hb : c.code = pm_code mid) (hret : meth.sig.returnType = pm_ret mid) (hlk : meth.locks = false) (hsz : b ≤ s.heap.size) (hP : pm_rel dC dI dA sa b r.2 H) (hS : va_S (fun q => b ≤ q) s.heap H locs) (hd : decode (pm_code mid) pc = .ok (i, n)) (h : pm_f4 mid i n pc ls st r.2 = some (.inr (.inr r.1))) :
    W p l e R s m args below meth c H locs cells slots (MQ below (pm_Qc dC dI dA sa b r) args s cells slots (fun q => b ≤ q)) (F0 m pc ar (st.map (pm_tv sa b))) := by
  have hq : ∀ t : State, t.heap = H → s.WarmedH t.vm → pm_Qc dC dI dA sa b r args s (.returned (r.1.map (pm_tv sa b))) t := fun t ht _ => ⟨rfl, by rw [ht]; exact hP, fun q hq => by rw [ht]; exact hS.2.1 q (by omega) (by show ¬ b ≤ q; omega)⟩
  unfold pm_f4 at h
  split at h
  · (repeat' (split at h)) <;> cases h
  · (repeat' (split at h)) <;> cases h
  · (repeat' (split at h)) <;> cases h
  · next v =>
    split at h
    · next ty hty =>
      split at h
      · next hn =>
        have hr : r.1 = some (.int v) := (Sum.inr.inj (Sum.inr.inj (Option.some.inj h))).symm
        rw [hr] at hq
        exact W.zret hx hb (by rw [hret]; exact hty) hn hq hS.2.2 hd hlk
      · cases h
    · cases h
  · next v =>
    split at h
    · next hty =>
      have hr : r.1 = some (.long v) := (Sum.inr.inj (Sum.inr.inj (Option.some.inj h))).symm
      rw [hr] at hq
      exact W.lret hx hb (by rw [hret]; exact hty) hq hS.2.2 hd hlk
    · cases h
  · next v =>
    split at h
    · next o hty =>
      have hr : r.1 = some (.ref v) := (Sum.inr.inj (Sum.inr.inj (Option.some.inj h))).symm
      rw [hr] at hq
      exact W.aret hx hb (by rw [hret]; exact hty) (Or.inl ⟨_, rfl⟩) (Or.inr ⟨_, rfl⟩) hq hS.2.2 hd hlk
    · next o hty =>
      have hr : r.1 = some (.ref v) := (Sum.inr.inj (Sum.inr.inj (Option.some.inj h))).symm
      rw [hr] at hq
      exact W.aret hx hb (by rw [hret]; exact hty) (Or.inr ⟨_, rfl⟩) (Or.inr ⟨_, rfl⟩) hq hS.2.2 hd hlk
    · cases h
  · split at h
    · next hty =>
      have hr : r.1 = none := (Sum.inr.inj (Sum.inr.inj (Option.some.inj h))).symm
      rw [hr] at hq
      exact W.vret hx hb (by rw [hret]; exact hty) hq hS.2.2 hd hlk
    · cases h
  · cases h
theorem pm_sound (l : Launch) : ∀ (d y : Nat) (as : List Value) (P : pm_H) (r : pm_R), pm_Call d y as P r → pm_Met l d y as P r := by
  intro d
  induction d with
  | zero => intro y as P r h; cases h
  | succ d ih =>
    intro y as P r h dC dI dA sa b
    obtain ⟨hlen, n, h⟩ := h
    refine Met.ofW (cc := pm_code y) (maxL := pm_maxL y) (ret := pm_ret y) (ws' := pm_T) (pm_plain y) rfl ?_
    intro p e s m args below meth c s₁ B hml hpc
    obtain ⟨rfl, hP, hK⟩ := hpc
    have hts : ∀ w ∈ pm_T, w.before (as.map (pm_tv sa b)).toArray s = true := fun w hw => atoms_spec (ws := pm_ws y) B.pre w (List.mem_cons_of_mem _ hw)
    have hown : s.vm.findClass (pm_own y) = some m.cls := pm_y_cls y ▸ findClass_of_methodNamed B.named
    rw [lg_entry_eq]
    have hw := pm_Ex_ok (X := none) (n0 := P.length) (s0 := pm_sl P) (R := (headSpec (pm_ws y) (pm_rm (d + 1) P r.2)).room) (Q := MQ below (pm_Qc dC dI dA sa b r) (as.map (pm_tv sa b)).toArray s (r.2.length - P.length) (pm_sl r.2 - pm_sl P) (fun q => b ≤ q)) (below := below) (e := e) (meth := meth) ih B.exec B.bytes hml hown hts hK (fun hi => by rw [(name_of_methodNamed B.named B.method).1]; exact pm_ini_ok hi) (fun L f hX => by cases hX) ⟨Nat.le_refl _, Nat.le_refl _⟩ (Nat.le_refl _) (Nat.le_refl _)
      (fun H locs ar pc k i ls st hP1 hS1 hd h4 => pm_ret_ok B.exec B.bytes B.returns B.notSynchronized (by rw [hP.1]; omega) hP1 hS1 hd h4) n 0 _ [] P h (Nat.le_refl _) (Nat.le_refl _) s.heap [] _ (pm_entry sa b as hlen) hP va_S.rf
    rw [Nat.sub_self, Nat.sub_self] at hw
    exact hw
