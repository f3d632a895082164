abbrev gS : Type := Nat → Nat → Nat → Int32
abbrev pm_S : Type := Nat ⊕ (Nat × Nat × Nat)
def cD (a : Nat) : Nat := 4 + 19 * a
def cE (a i : Nat) : Nat := 8 + 19 * a + i
def cH (a h : Nat) : Nat := 14 + 19 * a + h
def cQ (a k : Nat) : Nat := 19 + 19 * a + k
def cP (p : Nat) : Nat := 99 + 2 * p
def cV (v : Nat) : Nat := 139 + 4 * v
def cM (j : Nat) : Nat := 152 + j
def sh_dom (a : Nat) : List (Nat × List pm_S) := [(1, [.inr (0, a, 0), .inl (cD a + 2), .inl (cD a + 3), .inl (cD a + 4)]), (105, (List.range 6).map fun i => .inl (cE a i + 1)), (106, (List.range 5).map fun i => .inl (cH a i + 1)), (107, (List.range 4).map fun i => .inl (cQ a i + 1))] ++
  (List.range 6).map (fun i => (4, [.inr (3, a, i), .inr (4, a, i), .inr (5, a, i), .inr (6, a, i)])) ++ (List.range 5).map (fun i => (5, [.inr (7, a, i), .inr (8, a, i), .inr (9, a, i)])) ++ (List.range 4).map (fun i => (6, [.inr (10, a, i), .inr (11, a, i), .inr (12, a, i), .inr (13, a, i)]))
def sh_page (p : Nat) : List (Nat × List pm_S) := [(2, [.inr (1, p, 0), .inl (cP p + 2)]), (100, (List.range 8).map fun w => .inr (2, p, w))]
def sh_dev (v : Nat) : List (Nat × List pm_S) := [(3, ((List.range 11).map fun j => .inr (14 + j, v, 0)) ++ [.inl (cV v + 2), .inl (cV v + 3), .inl (cV v + 4)]), (100, (List.range 3).map fun i => .inr (25, v, i)), (100, (List.range 3).map fun i => .inr (26, v, i)), (100, (List.range 8).map fun i => .inr (27, v, i))]
def sh_X : List (Nat × List pm_S) := [(0, [.inl 2, .inl 3, .inl 4]), (102, (List.range 5).map fun a => .inl (cD a + 1)), (103, (List.range 20).map fun p => .inl (cP p + 1)), (104, (List.range 3).map fun v => .inl (cV v + 1))] ++ (List.range 5).flatMap sh_dom ++ (List.range 20).flatMap sh_page ++ (List.range 3).flatMap sh_dev
def sh_Ms : List (Nat × Nat) := [(100, 5), (100, 20), (100, 160), (100, 30), (100, 30), (100, 30), (100, 25), (101, 25), (100, 20), (100, 20), (101, 20), (100, 3), (100, 3), (100, 3), (100, 3), (100, 3), (100, 3), (100, 3), (100, 3), (100, 3), (100, 3), (100, 9), (100, 9), (100, 24)]
def sh_M : List (Nat × List pm_S) := (7, (List.range 24).map fun j => .inl (cM j + 1)) :: (List.range 24).map (fun j => match sh_Ms[j]? with
  | some q => (q.1, (List.range q.2).map fun i => .inr (50 + j, i, 0))
  | none => (100, []))
def sh_T : List (Nat × List pm_S) := sh_X ++ sh_M
def sh_loc (kd a b : Nat) : Nat × Nat :=
  if kd = 0 then (cD a, 0) else if kd = 1 then (cP a, 0) else if kd = 2 then (cP a + 1, b) else if kd < 7 then (cE a b, kd - 3) else if kd < 10 then (cH a b, kd - 7) else if kd < 14 then (cQ a b, kd - 10) else if kd < 25 then (cV a, kd - 14) else if kd = 25 then (cV a + 1, b) else if kd = 26 then (cV a + 2, b) else if kd = 27 then (cV a + 3, b) else (cM (kd - 50), a)
def pm_val (X M : gS) (s : pm_S) : Value := match s with
  | .inl r => .ref r
  | .inr (kd, a, b) => .int (if kd < 50 then X kd a b else M kd a b)
def pm_cells (X M : gS) (l : List (Nat × List pm_S)) : pm_H := l.map fun q => (q.1, q.2.map (pm_val X M))
def gE (X M : gS) : pm_H := pm_cells X M sh_T
def gup (X : gS) (kd a b : Nat) (v : Int32) : gS := fun kd' a' b' => if kd' = kd ∧ a' = a ∧ b' = b then v else X kd' a' b'
def pm_sh (k t j : Nat) : Option pm_S := match sh_T[k]? with
  | some q => if q.1 = t then q.2[j]? else none
  | none => none
theorem sh_at : (sh_T.zipIdx.all fun q => q.1.2.zipIdx.all fun z => match z.1 with
  | .inl _ => true
  | .inr (kd, a, b) => decide (sh_loc kd a b = (q.2, z.2))) = true := by decide +kernel
theorem sh_inv {k j kd a b : Nat} {q : Nat × List pm_S} (h1 : sh_T[k]? = some q) (h2 : q.2[j]? = some (.inr (kd, a, b))) : sh_loc kd a b = (k, j) := by
  have h := List.all_eq_true.mp sh_at (q, k) (List.mem_zipIdx_iff_getElem?.mpr h1)
  have h' := List.all_eq_true.mp h (.inr (kd, a, b), j) (List.mem_zipIdx_iff_getElem?.mpr h2)
  simpa using h'
theorem E_at (X M : gS) (k : Nat) : (gE X M)[k]? = (sh_T[k]?).map fun q => (q.1, q.2.map (pm_val X M)) := by
  unfold gE pm_cells
  rw [List.getElem?_map]
theorem pm_sh_spec {k t j : Nat} {s : pm_S} (h : pm_sh k t j = some s) : ∃ l, sh_T[k]? = some (t, l) ∧ l[j]? = some s := by
  unfold pm_sh at h
  split at h
  · next q hq =>
    split at h
    · next ht =>
      obtain ⟨t', l⟩ := q
      cases ht
      exact ⟨l, hq, h⟩
    · cases h
  · cases h
theorem E_rd {X M : gS} {k t j : Nat} {s : pm_S} (h : pm_sh k t j = some s) : pm_rd (gE X M) k t j = some (pm_val X M s) := by
  obtain ⟨l, h1, h2⟩ := pm_sh_spec h
  unfold pm_rd
  rw [E_at, h1]
  simp [h2]
theorem E_tg {X M : gS} {k t j : Nat} {s : pm_S} (h : pm_sh k t j = some s) : pm_tg (gE X M) k = some t := by
  obtain ⟨l, h1, h2⟩ := pm_sh_spec h
  unfold pm_tg
  rw [E_at, h1]
  rfl
theorem rdR {X M : gS} {k t j r : Nat} (h : pm_sh k t j = some (.inl r)) : pm_rd (gE X M) k t j = some (.ref r) := E_rd h
theorem rdX {X M : gS} {k t j kd a b : Nat} (h : pm_sh k t j = some (.inr (kd, a, b))) (hk : kd < 50) : pm_rd (gE X M) k t j = some (.int (X kd a b)) := by
  rw [E_rd h]
  simp [pm_val, hk]
theorem rdM {X M : gS} {k t j kd a b : Nat} (h : pm_sh k t j = some (.inr (kd, a, b))) (hk : ¬ kd < 50) : pm_rd (gE X M) k t j = some (.int (M kd a b)) := by
  rw [E_rd h]
  simp [pm_val, hk]
theorem E_wr {X M X' M' : gS} {k t j kd a b : Nat} {v : Int32} (h : pm_sh k t j = some (.inr (kd, a, b))) (hv : pm_val X' M' (.inr (kd, a, b)) = .int v) (ho : ∀ s : pm_S, s ≠ .inr (kd, a, b) → pm_val X' M' s = pm_val X M s) : pm_wr (gE X M) k t j (.int v) = some (gE X' M') := by
  obtain ⟨l, h1, h2⟩ := pm_sh_spec h
  have hj := (List.getElem?_eq_some_iff.mp h2).1
  have hk := (List.getElem?_eq_some_iff.mp h1).1
  have hE : (gE X M)[k]? = some (t, l.map (pm_val X M)) := by rw [E_at, h1]; rfl
  unfold pm_wr
  rw [hE]
  simp only [List.length_map, hj, and_self, if_true]
  congr 1
  apply List.ext_getElem?
  intro k'
  by_cases hkk : k' = k
  · subst hkk
    rw [List.getElem?_set_self (by rw [gE, pm_cells, List.length_map]; exact hk), E_at, h1]
    simp only [Option.map_some]
    congr 2
    apply List.ext_getElem?
    intro j'
    by_cases hjj : j' = j
    · subst hjj
      rw [List.getElem?_set_self (by rw [List.length_map]; exact hj), List.getElem?_map, h2]
      simp [hv]
    · rw [List.getElem?_set_ne (Ne.symm hjj), List.getElem?_map, List.getElem?_map]
      cases h3 : l[j']? with
      | none => rfl
      | some s =>
        simp only [Option.map_some]
        rw [ho s fun he => ?_]
        subst he
        have e1 := sh_inv h1 h2
        have e2 := sh_inv h1 h3
        rw [e1] at e2
        exact hjj (Prod.mk.inj e2).2.symm
  · rw [List.getElem?_set_ne (Ne.symm hkk), E_at, E_at]
    cases h3 : sh_T[k']? with
    | none => rfl
    | some q =>
      simp only [Option.map_some]
      congr 2
      apply List.map_congr_left
      intro s hs
      rw [ho s fun he => ?_]
      subst he
      obtain ⟨j', hj'⟩ := List.getElem?_of_mem hs
      have e1 := sh_inv h1 h2
      have e2 := sh_inv h3 hj'
      rw [e1] at e2
      exact hkk (Prod.mk.inj e2).1.symm
theorem wrX {X M : gS} {k t j kd a b : Nat} {v : Int32} (h : pm_sh k t j = some (.inr (kd, a, b))) (hk : kd < 50) : pm_wr (gE X M) k t j (.int v) = some (gE (gup X kd a b v) M) := by
  refine E_wr h (by simp [pm_val, gup, hk]) fun s hs => ?_
  match s with
  | .inl r => rfl
  | .inr (kd', a', b') =>
    have hne : ¬ (kd' = kd ∧ a' = a ∧ b' = b) := fun q => hs (by rw [q.1, q.2.1, q.2.2])
    simp [pm_val, gup, hne]
theorem wrM {X M : gS} {k t j kd a b : Nat} {v : Int32} (h : pm_sh k t j = some (.inr (kd, a, b))) (hk : ¬ kd < 50) : pm_wr (gE X M) k t j (.int v) = some (gE X (gup M kd a b v)) := by
  refine E_wr h (by simp [pm_val, gup, hk]) fun s hs => ?_
  match s with
  | .inl r => rfl
  | .inr (kd', a', b') =>
    have hne : ¬ (kd' = kd ∧ a' = a ∧ b' = b) := fun q => hs (by rw [q.1, q.2.1, q.2.2])
    simp [pm_val, gup, hne]
theorem all2 {m n : Nat} {p : Nat → Nat → Bool} (h : ((List.range m).all fun a => (List.range n).all fun i => p a i) = true) : ∀ a, a < m → ∀ i, i < n → p a i = true := fun a ha i hi => List.all_eq_true.mp (List.all_eq_true.mp h a (List.mem_range.mpr ha)) i (List.mem_range.mpr hi)
theorem sh_G_domains : pm_sh 0 0 0 = some (.inl 2) := by decide +kernel
theorem sh_G_pages : pm_sh 0 0 1 = some (.inl 3) := by decide +kernel
theorem sh_G_devices : pm_sh 0 0 2 = some (.inl 4) := by decide +kernel
theorem sh_DA : ∀ a, a < 5 → pm_sh 1 102 a = some (.inl (cD a + 1)) := by decide +kernel
theorem sh_PA : ∀ p, p < 20 → pm_sh 2 103 p = some (.inl (cP p + 1)) := by decide +kernel
theorem sh_VA : ∀ v, v < 3 → pm_sh 3 104 v = some (.inl (cV v + 1)) := by decide +kernel
theorem sh_D_state : ∀ a, a < 5 → pm_sh (cD a) 1 0 = some (.inr (0, a, 0)) := by decide +kernel
theorem sh_D_entries : ∀ a, a < 5 → pm_sh (cD a) 1 1 = some (.inl (cD a + 2)) := by decide +kernel
theorem sh_D_handles : ∀ a, a < 5 → pm_sh (cD a) 1 2 = some (.inl (cD a + 3)) := by decide +kernel
theorem sh_D_ports : ∀ a, a < 5 → pm_sh (cD a) 1 3 = some (.inl (cD a + 4)) := by decide +kernel
theorem sh_EA : ∀ a, a < 5 → ∀ i, i < 6 → pm_sh (cD a + 1) 105 i = some (.inl (cE a i + 1)) := fun a ha i hb => of_decide_eq_true (all2 (m := 5) (n := 6) (p := fun a i => decide (pm_sh (cD a + 1) 105 i = some (.inl (cE a i + 1)))) (by decide +kernel) a ha i hb)
theorem sh_HA : ∀ a, a < 5 → ∀ i, i < 5 → pm_sh (cD a + 2) 106 i = some (.inl (cH a i + 1)) := fun a ha i hb => of_decide_eq_true (all2 (m := 5) (n := 5) (p := fun a i => decide (pm_sh (cD a + 2) 106 i = some (.inl (cH a i + 1)))) (by decide +kernel) a ha i hb)
theorem sh_QA : ∀ a, a < 5 → ∀ i, i < 4 → pm_sh (cD a + 3) 107 i = some (.inl (cQ a i + 1)) := fun a ha i hb => of_decide_eq_true (all2 (m := 5) (n := 4) (p := fun a i => decide (pm_sh (cD a + 3) 107 i = some (.inl (cQ a i + 1)))) (by decide +kernel) a ha i hb)
theorem sh_E_target : ∀ a, a < 5 → ∀ i, i < 6 → pm_sh (cE a i) 4 0 = some (.inr (3, a, i)) := fun a ha i hb => of_decide_eq_true (all2 (m := 5) (n := 6) (p := fun a i => decide (pm_sh (cE a i) 4 0 = some (.inr (3, a, i)))) (by decide +kernel) a ha i hb)
theorem sh_E_kind : ∀ a, a < 5 → ∀ i, i < 6 → pm_sh (cE a i) 4 1 = some (.inr (4, a, i)) := fun a ha i hb => of_decide_eq_true (all2 (m := 5) (n := 6) (p := fun a i => decide (pm_sh (cE a i) 4 1 = some (.inr (4, a, i)))) (by decide +kernel) a ha i hb)
theorem sh_E_page : ∀ a, a < 5 → ∀ i, i < 6 → pm_sh (cE a i) 4 2 = some (.inr (5, a, i)) := fun a ha i hb => of_decide_eq_true (all2 (m := 5) (n := 6) (p := fun a i => decide (pm_sh (cE a i) 4 2 = some (.inr (5, a, i)))) (by decide +kernel) a ha i hb)
theorem sh_E_mappings : ∀ a, a < 5 → ∀ i, i < 6 → pm_sh (cE a i) 4 3 = some (.inr (6, a, i)) := fun a ha i hb => of_decide_eq_true (all2 (m := 5) (n := 6) (p := fun a i => decide (pm_sh (cE a i) 4 3 = some (.inr (6, a, i)))) (by decide +kernel) a ha i hb)
theorem sh_H_from : ∀ a, a < 5 → ∀ i, i < 5 → pm_sh (cH a i) 5 0 = some (.inr (7, a, i)) := fun a ha i hb => of_decide_eq_true (all2 (m := 5) (n := 5) (p := fun a i => decide (pm_sh (cH a i) 5 0 = some (.inr (7, a, i)))) (by decide +kernel) a ha i hb)
theorem sh_H_ref : ∀ a, a < 5 → ∀ i, i < 5 → pm_sh (cH a i) 5 1 = some (.inr (8, a, i)) := fun a ha i hb => of_decide_eq_true (all2 (m := 5) (n := 5) (p := fun a i => decide (pm_sh (cH a i) 5 1 = some (.inr (8, a, i)))) (by decide +kernel) a ha i hb)
theorem sh_H_writing : ∀ a, a < 5 → ∀ i, i < 5 → pm_sh (cH a i) 5 2 = some (.inr (9, a, i)) := fun a ha i hb => of_decide_eq_true (all2 (m := 5) (n := 5) (p := fun a i => decide (pm_sh (cH a i) 5 2 = some (.inr (9, a, i)))) (by decide +kernel) a ha i hb)
theorem sh_Q_state : ∀ a, a < 5 → ∀ i, i < 4 → pm_sh (cQ a i) 6 0 = some (.inr (10, a, i)) := fun a ha i hb => of_decide_eq_true (all2 (m := 5) (n := 4) (p := fun a i => decide (pm_sh (cQ a i) 6 0 = some (.inr (10, a, i)))) (by decide +kernel) a ha i hb)
theorem sh_Q_other : ∀ a, a < 5 → ∀ i, i < 4 → pm_sh (cQ a i) 6 1 = some (.inr (11, a, i)) := fun a ha i hb => of_decide_eq_true (all2 (m := 5) (n := 4) (p := fun a i => decide (pm_sh (cQ a i) 6 1 = some (.inr (11, a, i)))) (by decide +kernel) a ha i hb)
theorem sh_Q_otherPort : ∀ a, a < 5 → ∀ i, i < 4 → pm_sh (cQ a i) 6 2 = some (.inr (12, a, i)) := fun a ha i hb => of_decide_eq_true (all2 (m := 5) (n := 4) (p := fun a i => decide (pm_sh (cQ a i) 6 2 = some (.inr (12, a, i)))) (by decide +kernel) a ha i hb)
theorem sh_Q_pending : ∀ a, a < 5 → ∀ i, i < 4 → pm_sh (cQ a i) 6 3 = some (.inr (13, a, i)) := fun a ha i hb => of_decide_eq_true (all2 (m := 5) (n := 4) (p := fun a i => decide (pm_sh (cQ a i) 6 3 = some (.inr (13, a, i)))) (by decide +kernel) a ha i hb)
theorem sh_P_owner : ∀ p, p < 20 → pm_sh (cP p) 2 0 = some (.inr (1, p, 0)) := by decide +kernel
theorem sh_P_words : ∀ p, p < 20 → pm_sh (cP p) 2 1 = some (.inl (cP p + 2)) := by decide +kernel
theorem sh_PW : ∀ p, p < 20 → ∀ w, w < 8 → pm_sh (cP p + 1) 100 w = some (.inr (2, p, w)) := fun p ha w hb => of_decide_eq_true (all2 (m := 20) (n := 8) (p := fun p w => decide (pm_sh (cP p + 1) 100 w = some (.inr (2, p, w)))) (by decide +kernel) p ha w hb)
theorem sh_V_present : ∀ v, v < 3 → pm_sh (cV v) 3 0 = some (.inr (14, v, 0)) := by decide +kernel
theorem sh_V_front : ∀ v, v < 3 → pm_sh (cV v) 3 1 = some (.inr (15, v, 0)) := by decide +kernel
theorem sh_V_back : ∀ v, v < 3 → pm_sh (cV v) 3 2 = some (.inr (16, v, 0)) := by decide +kernel
theorem sh_V_ringPage : ∀ v, v < 3 → pm_sh (cV v) 3 3 = some (.inr (17, v, 0)) := by decide +kernel
theorem sh_V_ringEntry : ∀ v, v < 3 → pm_sh (cV v) 3 4 = some (.inr (18, v, 0)) := by decide +kernel
theorem sh_V_ringHandle : ∀ v, v < 3 → pm_sh (cV v) 3 5 = some (.inr (19, v, 0)) := by decide +kernel
theorem sh_V_frontPort : ∀ v, v < 3 → pm_sh (cV v) 3 6 = some (.inr (20, v, 0)) := by decide +kernel
theorem sh_V_backPort : ∀ v, v < 3 → pm_sh (cV v) 3 7 = some (.inr (21, v, 0)) := by decide +kernel
theorem sh_V_posted : ∀ v, v < 3 → pm_sh (cV v) 3 8 = some (.inr (22, v, 0)) := by decide +kernel
theorem sh_V_reaped : ∀ v, v < 3 → pm_sh (cV v) 3 9 = some (.inr (23, v, 0)) := by decide +kernel
theorem sh_V_taken : ∀ v, v < 3 → pm_sh (cV v) 3 10 = some (.inr (24, v, 0)) := by decide +kernel
theorem sh_V_notedPages : ∀ v, v < 3 → pm_sh (cV v) 3 11 = some (.inl (cV v + 2)) := by decide +kernel
theorem sh_NP : ∀ v, v < 3 → ∀ s, s < 3 → pm_sh (cV v + 1) 100 s = some (.inr (25, v, s)) := fun v ha s hb => of_decide_eq_true (all2 (m := 3) (n := 3) (p := fun v s => decide (pm_sh (cV v + 1) 100 s = some (.inr (25, v, s)))) (by decide +kernel) v ha s hb)
theorem sh_V_notedEntries : ∀ v, v < 3 → pm_sh (cV v) 3 12 = some (.inl (cV v + 3)) := by decide +kernel
theorem sh_NE : ∀ v, v < 3 → ∀ s, s < 3 → pm_sh (cV v + 2) 100 s = some (.inr (26, v, s)) := fun v ha s hb => of_decide_eq_true (all2 (m := 3) (n := 3) (p := fun v s => decide (pm_sh (cV v + 2) 100 s = some (.inr (26, v, s)))) (by decide +kernel) v ha s hb)
theorem sh_V_disk : ∀ v, v < 3 → pm_sh (cV v) 3 13 = some (.inl (cV v + 4)) := by decide +kernel
theorem sh_DK : ∀ v, v < 3 → ∀ s, s < 8 → pm_sh (cV v + 3) 100 s = some (.inr (27, v, s)) := fun v ha s hb => of_decide_eq_true (all2 (m := 3) (n := 8) (p := fun v s => decide (pm_sh (cV v + 3) 100 s = some (.inr (27, v, s)))) (by decide +kernel) v ha s hb)
theorem sh_R_state : pm_sh 151 7 0 = some (.inl (cM 0 + 1)) := by decide +kernel
theorem sh_M_state : ∀ i, i < 5 → pm_sh (cM 0) 100 i = some (.inr (50, i, 0)) := by decide +kernel
theorem sh_R_owner : pm_sh 151 7 1 = some (.inl (cM 1 + 1)) := by decide +kernel
theorem sh_M_owner : ∀ i, i < 20 → pm_sh (cM 1) 100 i = some (.inr (51, i, 0)) := by decide +kernel
theorem sh_R_words : pm_sh 151 7 2 = some (.inl (cM 2 + 1)) := by decide +kernel
theorem sh_M_words : ∀ i, i < 160 → pm_sh (cM 2) 100 i = some (.inr (52, i, 0)) := by decide +kernel
theorem sh_R_target : pm_sh 151 7 3 = some (.inl (cM 3 + 1)) := by decide +kernel
theorem sh_M_target : ∀ i, i < 30 → pm_sh (cM 3) 100 i = some (.inr (53, i, 0)) := by decide +kernel
theorem sh_R_kinds : pm_sh 151 7 4 = some (.inl (cM 4 + 1)) := by decide +kernel
theorem sh_M_kinds : ∀ i, i < 30 → pm_sh (cM 4) 100 i = some (.inr (54, i, 0)) := by decide +kernel
theorem sh_R_entryPage : pm_sh 151 7 5 = some (.inl (cM 5 + 1)) := by decide +kernel
theorem sh_M_entryPage : ∀ i, i < 30 → pm_sh (cM 5) 100 i = some (.inr (55, i, 0)) := by decide +kernel
theorem sh_R_mapped : pm_sh 151 7 6 = some (.inl (cM 6 + 1)) := by decide +kernel
theorem sh_M_mapped : ∀ i, i < 25 → pm_sh (cM 6) 100 i = some (.inr (56, i, 0)) := by decide +kernel
theorem sh_R_writes : pm_sh 151 7 7 = some (.inl (cM 7 + 1)) := by decide +kernel
theorem sh_M_writes : ∀ i, i < 25 → pm_sh (cM 7) 101 i = some (.inr (57, i, 0)) := by decide +kernel
theorem sh_R_port : pm_sh 151 7 8 = some (.inl (cM 8 + 1)) := by decide +kernel
theorem sh_M_port : ∀ i, i < 20 → pm_sh (cM 8) 100 i = some (.inr (58, i, 0)) := by decide +kernel
theorem sh_R_far : pm_sh 151 7 9 = some (.inl (cM 9 + 1)) := by decide +kernel
theorem sh_M_far : ∀ i, i < 20 → pm_sh (cM 9) 100 i = some (.inr (59, i, 0)) := by decide +kernel
theorem sh_R_pending : pm_sh 151 7 10 = some (.inl (cM 10 + 1)) := by decide +kernel
theorem sh_M_pending : ∀ i, i < 20 → pm_sh (cM 10) 101 i = some (.inr (60, i, 0)) := by decide +kernel
theorem sh_R_front : pm_sh 151 7 11 = some (.inl (cM 11 + 1)) := by decide +kernel
theorem sh_M_front : ∀ i, i < 3 → pm_sh (cM 11) 100 i = some (.inr (61, i, 0)) := by decide +kernel
theorem sh_R_back : pm_sh 151 7 12 = some (.inl (cM 12 + 1)) := by decide +kernel
theorem sh_M_back : ∀ i, i < 3 → pm_sh (cM 12) 100 i = some (.inr (62, i, 0)) := by decide +kernel
theorem sh_R_ring : pm_sh 151 7 13 = some (.inl (cM 13 + 1)) := by decide +kernel
theorem sh_M_ring : ∀ i, i < 3 → pm_sh (cM 13) 100 i = some (.inr (63, i, 0)) := by decide +kernel
theorem sh_R_ringEntry : pm_sh 151 7 14 = some (.inl (cM 14 + 1)) := by decide +kernel
theorem sh_M_ringEntry : ∀ i, i < 3 → pm_sh (cM 14) 100 i = some (.inr (64, i, 0)) := by decide +kernel
theorem sh_R_ringHandle : pm_sh 151 7 15 = some (.inl (cM 15 + 1)) := by decide +kernel
theorem sh_M_ringHandle : ∀ i, i < 3 → pm_sh (cM 15) 100 i = some (.inr (65, i, 0)) := by decide +kernel
theorem sh_R_frontPort : pm_sh 151 7 16 = some (.inl (cM 16 + 1)) := by decide +kernel
theorem sh_M_frontPort : ∀ i, i < 3 → pm_sh (cM 16) 100 i = some (.inr (66, i, 0)) := by decide +kernel
theorem sh_R_backPort : pm_sh 151 7 17 = some (.inl (cM 17 + 1)) := by decide +kernel
theorem sh_M_backPort : ∀ i, i < 3 → pm_sh (cM 17) 100 i = some (.inr (67, i, 0)) := by decide +kernel
theorem sh_R_posted : pm_sh 151 7 18 = some (.inl (cM 18 + 1)) := by decide +kernel
theorem sh_M_posted : ∀ i, i < 3 → pm_sh (cM 18) 100 i = some (.inr (68, i, 0)) := by decide +kernel
theorem sh_R_reaped : pm_sh 151 7 19 = some (.inl (cM 19 + 1)) := by decide +kernel
theorem sh_M_reaped : ∀ i, i < 3 → pm_sh (cM 19) 100 i = some (.inr (69, i, 0)) := by decide +kernel
theorem sh_R_taken : pm_sh 151 7 20 = some (.inl (cM 20 + 1)) := by decide +kernel
theorem sh_M_taken : ∀ i, i < 3 → pm_sh (cM 20) 100 i = some (.inr (70, i, 0)) := by decide +kernel
theorem sh_R_notePage : pm_sh 151 7 21 = some (.inl (cM 21 + 1)) := by decide +kernel
theorem sh_M_notePage : ∀ i, i < 9 → pm_sh (cM 21) 100 i = some (.inr (71, i, 0)) := by decide +kernel
theorem sh_R_noteEntry : pm_sh 151 7 22 = some (.inl (cM 22 + 1)) := by decide +kernel
theorem sh_M_noteEntry : ∀ i, i < 9 → pm_sh (cM 22) 100 i = some (.inr (72, i, 0)) := by decide +kernel
theorem sh_R_disk : pm_sh 151 7 23 = some (.inl (cM 23 + 1)) := by decide +kernel
theorem sh_M_disk : ∀ i, i < 24 → pm_sh (cM 23) 100 i = some (.inr (73, i, 0)) := by decide +kernel
