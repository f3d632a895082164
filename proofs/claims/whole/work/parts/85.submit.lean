theorem nJ_sub {a b : Nat} (h : b ≤ a) : nI a - nI b = nI (a - b) := by
  have e : nI (a - b) + nI b = nI a := by rw [nJ_add]; congr 1; omega
  rw [← e, Int32.add_sub_cancel]
theorem grant_1 {M : gS} {x t p k : Int32} : (mGrant M x t p k).1 = -1 ∨ (mGrant M x t p k).1 = -2 ∨ (mGrant M x t p k).1 = -3 ∨ (mGrant M x t p k).1 = -7 ∨ ∃ e, e < 6 ∧ (mGrant M x t p k).1 = nI e := by
  unfold mGrant
  split
  · split
    · exact Or.inr (Or.inl rfl)
    · split
      · exact Or.inr (Or.inr (Or.inl rfl))
      · split
        · exact Or.inr (Or.inr (Or.inr (Or.inl rfl)))
        · next hc =>
          obtain ⟨e, he, ee⟩ := ir_mFe hc
          exact Or.inr (Or.inr (Or.inr (Or.inr ⟨e, he, ee⟩)))
  · exact Or.inl rfl
theorem shl4 {g : Int32} (h : g = -1 ∨ g = -2 ∨ g = -3 ∨ g = -7 ∨ ∃ e, e < 6 ∧ g = nI e) : g <<< ((4 : Int32) &&& 31) = 16 * g := by
  rcases h with rfl | rfl | rfl | rfl | ⟨e, he, rfl⟩
  · decide
  · decide
  · decide
  · decide
  · have : ∀ e, e < 6 → nI e <<< ((4 : Int32) &&& 31) = 16 * nI e := by decide +kernel
    exact this e he
theorem xStore_own {X : gS} {f j : Nat} {x : Int32} (hl : xLive X (nI f) = true) (hj : j < 20) (ho : X 1 j 0 = nI f) : (xStore X (nI f) (nI j) 0 x).2 = gup X 2 j 0 x := by
  have hp : xPag (nI j) = true := l_pag2.mpr (fun q => q.elim (nI_pos (by omega)) (nI_nlt (a := 19) (b := j) (by omega) (by decide)))
  have e : xAcc X (nI f) (nI j) 0 true = 0 := by
    unfold xAcc
    rw [if_pos hl]
    have c1 : (xPag (nI j) && decide ((0 : Int32) ≤ 0) && decide ((0 : Int32) < 8)) = true := by rw [hp]; decide
    have c2 : (xOwns X (nI f) (nI j) || xMof X (tN (nI f)) (nI j) true) = true := by
      unfold xOwns
      rw [hp, tN_nI (by omega), ho]
      simp
    rw [if_pos c1, if_pos c2]
  unfold xStore
  rw [if_pos e, tN_nI (by omega)]
  rfl
theorem alloc_own {X : gS} {f : Nat} (hl : xLive X (nI f) = true) (hg : ¬ xGet X (nI f) = -1) : ∃ j, j < 20 ∧ (xAlloc X (nI f)).1 = nI j ∧ (xAlloc X (nI f)).2 1 j 0 = nI f := by
  obtain ⟨g1, g2⟩ := ir_get hg
  refine ⟨tN (xGet X (nI f)), g2, ?_, ?_⟩
  · unfold xAlloc
    rw [if_pos hl, if_neg hg]
    exact nI_tN g1
  · unfold xAlloc
    rw [if_pos hl, if_neg hg]
    dsimp only
    rw [xWipe_k (by decide), gup_s]
theorem xLive_k {X X' : gS} (h : ∀ a b, X' 0 a b = X 0 a b) (x : Int32) : xLive X' x = xLive X x := by unfold xLive; rw [h]
theorem su_1 {A B : Int32 × gS} {f j : Nat} {x : Int32} {w : Bool} (e : A.1 = B.1) (h : Rc A.2 B.2) (hl : xLive A.2 (nI f) = true) (hj : j < 20) (ej : A.1 = nI j) (ho : A.2 1 j 0 = nI f) : Rc (if w = true then (xStore A.2 (nI f) A.1 0 x).2 else A.2) (mSu1 B w x) := by
  unfold mSu1
  cases w
  · simpa using h
  · rw [if_pos rfl, if_pos rfl, ← e, ej, xStore_own hl hj ho, tN_nI (by omega)]
    exact c_wrd h hj (show 0 < 8 by decide)
theorem xPo_c {G H : gS} {v rp po : Nat} {p r q q' : Int32} (h : Rc G H) (hrp : rp < 20) (hpo : po < 2 ^ 31) (e17 : G 17 v 0 = nI rp) (e22 : G 22 v 0 = nI po) (eq : q = q') : Rc (xPo G v p r q) (gup (gup (gup (gup (gup H 71 (3 * v + po % 3) 0 p) 72 (3 * v + po % 3) 0 r) 52 (8 * rp + 2 + po % 3) 0 q') 68 v 0 (nI (po + 1))) 52 (8 * rp) 0 (nI (po + 1))) := by
  unfold xPo
  have e2 : 2 + nI (po % 3) = nI (2 + po % 3) := nJ_add 2 _
  rw [e17, e22, rem3_nI hpo, e2, tN_nI (by omega), tN_nI (by omega), tN_nI (by omega), nI_add1, eq]
  have h1 : Rc (gup (gup G 25 v (po % 3) p) 26 v (po % 3) r) (gup (gup H 71 (3 * v + po % 3) 0 p) 72 (3 * v + po % 3) 0 r) := Rc_k h (fun kd hk _ _ => (gup_k (by omega)).trans (gup_k (by omega))) (fun kd _ hk _ _ => (gup_k (by omega)).trans (gup_k (by omega)))
  have h2 := c_wrd h1 hrp (show 2 + po % 3 < 8 by omega) (x := q')
  rw [← Nat.add_assoc] at h2
  have h3 : Rc (gup (gup (gup (gup G 25 v (po % 3) p) 26 v (po % 3) r) 2 rp (2 + po % 3) q') 22 v 0 (nI (po + 1))) (gup (gup (gup (gup H 71 (3 * v + po % 3) 0 p) 72 (3 * v + po % 3) 0 r) 52 (8 * rp + 2 + po % 3) 0 q') 68 v 0 (nI (po + 1))) := Rc_k h2 (fun kd hk _ _ => gup_k (by omega)) (fun kd _ hk _ _ => gup_k (by omega))
  exact c_wrd h3 hrp (show 0 < 8 by decide)
