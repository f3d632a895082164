def pw (X : pm_X) (d mid pc : Nat) (ls : pm_L) (st : List Value) (P : pm_H) (r : pm_R) : Prop := ∃ n, pm_Ex X (pm_Call d) mid n pc ls st P r
section PW
variable {X : pm_X} {d mid pc q n : Nat} {i : Instr} {ls : pm_L} {st : List Value} {P : pm_H} {r : pm_R}
theorem pw_in {l : pm_L} {s : List Value} {Q : pm_H} (h : pm_step X mid pc ls st P = some (.inl (q, l, s, Q))) (k : pw X d mid q l s Q r) : pw X d mid pc ls st P r := by
  obtain ⟨n, hn⟩ := k
  exact ⟨n + 1, by simp only [pm_Ex, h]; exact hn⟩
theorem pw_inC {y : Nat} {as s : List Value} {v : Option Value} {Q : pm_H} (h : pm_step X mid pc ls st P = some (.inr (.inl (y, as, q, s)))) (hc : pm_Call d y as P (v, Q)) (k : pw X d mid q ls (v.toList ++ s) Q r) : pw X d mid pc ls st P r := by
  obtain ⟨n, hn⟩ := k
  exact ⟨n + 1, by simp only [pm_Ex, h]; exact ⟨v, Q, hc, hn⟩⟩
theorem pw_inR {v : Option Value} (h : pm_step X mid pc ls st P = some (.inr (.inr v))) (hr : r = (v, P)) : pw X d mid pc ls st P r := ⟨1, by simp only [pm_Ex, h]; exact hr⟩
theorem pw_f1 {l : pm_L} {s : List Value} (hd : pm_ins mid pc = some (i, n)) (h : pm_f1 mid i n ls st = some (l, s)) (hq : pc + n = q) (k : pw X d mid q l s P r) : pw X d mid pc ls st P r := by
  subst hq
  exact pw_in (by simp only [pm_step, hd, h]) k
theorem pw_f2 {s : List Value} (hd : pm_ins mid pc = some (i, n)) (h1 : pm_f1 mid i n ls st = none) (h : pm_f2 i n pc st = some (q, s)) (k : pw X d mid q ls s P r) : pw X d mid pc ls st P r := pw_in (by simp only [pm_step, hd, h1, h]) k
theorem pw_f3 {s : List Value} {Q : pm_H} (hd : pm_ins mid pc = some (i, n)) (h1 : pm_f1 mid i n ls st = none) (h2 : pm_f2 i n pc st = none) (h : pm_f3 X mid i n st P = some (s, Q)) (hq : pc + n = q) (k : pw X d mid q ls s Q r) : pw X d mid pc ls st P r := by
  subst hq
  exact pw_in (by simp only [pm_step, hd, h1, h2, h]) k
theorem pw_f4 {o : pm_O} (hd : pm_ins mid pc = some (i, n)) (h1 : pm_f1 mid i n ls st = none) (h2 : pm_f2 i n pc st = none) (h3 : pm_f3 X mid i n st P = none) (h : pm_f4 mid i n pc ls st P = some o) : pm_step X mid pc ls st P = some o := by simp only [pm_step, hd, h1, h2, h3, h]
theorem pw_start {as : List Value} (h : (lg_sl as).length ≤ pm_maxL mid) {l : pm_L} (hl : pm_en (pm_maxL mid) as = l) (k : pw none d mid 0 l [] P r) : pm_Call (d + 1) mid as P r := by
  subst hl
  exact ⟨h, k⟩
theorem pw_iconst {z : Int} {v : Int32} (hd : pm_ins mid pc = some (.iconst z, 1)) (hv : Int32.ofInt z = v) (hq : pc + 1 = q) (k : pw X d mid q ls (.int v :: st) P r) : pw X d mid pc ls (st) P r := pw_f1 hd (by simp [pm_f1, hv]) hq k
theorem pw_bipush {z : Int} {v : Int32} (hd : pm_ins mid pc = some (.bipush z, 2)) (hv : (Int8.ofInt z).toInt32 = v) (hq : pc + 2 = q) (k : pw X d mid q ls (.int v :: st) P r) : pw X d mid pc ls (st) P r := pw_f1 hd (by simp [pm_f1, hv]) hq k
theorem pw_sipush {z : Int} {v : Int32} (hd : pm_ins mid pc = some (.sipush z, 3)) (hv : (Int16.ofInt z).toInt32 = v) (hq : pc + 3 = q) (k : pw X d mid q ls (.int v :: st) P r) : pw X d mid pc ls (st) P r := pw_f1 hd (by simp [pm_f1, hv]) hq k
theorem pw_lconst {z : Fin 2} {v : Int64} (hd : pm_ins mid pc = some (.lconst z, 1)) (hv : Int64.ofNat (z : Nat) = v) (hq : pc + 1 = q) (k : pw X d mid q ls (.long v :: st) P r) : pw X d mid pc ls (st) P r := pw_f1 hd (by simp [pm_f1, hv]) hq k
theorem pw_ldc2 {z : Nat} {v : Int64} (hd : pm_ins mid pc = some (.ldc2_w z, 3)) (hv : pm_l2 (pm_oc mid) z = some v) (hq : pc + 3 = q) (k : pw X d mid q ls (.long v :: st) P r) : pw X d mid pc ls (st) P r := pw_f1 hd (by simp [pm_f1, hv]) hq k
theorem pw_iload_n {z : Fin 4} {x : Int32} (hd : pm_ins mid pc = some (.iload_n z, 1)) (hv : pm_ldi ls (z : Nat) = some x) (hq : pc + 1 = q) (k : pw X d mid q ls (.int x :: st) P r) : pw X d mid pc ls (st) P r := pw_f1 hd (by simp [pm_f1, hv]) hq k
theorem pw_iload {z : Nat} {x : Int32} (hd : pm_ins mid pc = some (.iload z, 2)) (hv : pm_ldi ls z = some x) (hq : pc + 2 = q) (k : pw X d mid q ls (.int x :: st) P r) : pw X d mid pc ls (st) P r := pw_f1 hd (by simp [pm_f1, hv]) hq k
theorem pw_istore_n {z : Fin 4} {x : Int32} {l : pm_L} (hd : pm_ins mid pc = some (.istore_n z, 1)) (hv : pm_st1 ls (z : Nat) (.int x) = some l) (hq : pc + 1 = q) (k : pw X d mid q l (st) P r) : pw X d mid pc ls (.int x :: st) P r := pw_f1 hd (by simp [pm_f1, hv]) hq k
theorem pw_istore {z : Nat} {x : Int32} {l : pm_L} (hd : pm_ins mid pc = some (.istore z, 2)) (hv : pm_st1 ls z (.int x) = some l) (hq : pc + 2 = q) (k : pw X d mid q l (st) P r) : pw X d mid pc ls (.int x :: st) P r := pw_f1 hd (by simp [pm_f1, hv]) hq k
theorem pw_lload_n {z : Fin 4} {x : Int64} (hd : pm_ins mid pc = some (.lload_n z, 1)) (hv : pm_ldl ls (z : Nat) = some x) (hq : pc + 1 = q) (k : pw X d mid q ls (.long x :: st) P r) : pw X d mid pc ls (st) P r := pw_f1 hd (by simp [pm_f1, hv]) hq k
theorem pw_lload {z : Nat} {x : Int64} (hd : pm_ins mid pc = some (.lload z, 2)) (hv : pm_ldl ls z = some x) (hq : pc + 2 = q) (k : pw X d mid q ls (.long x :: st) P r) : pw X d mid pc ls (st) P r := pw_f1 hd (by simp [pm_f1, hv]) hq k
theorem pw_lstore_n {z : Fin 4} {x : Int64} {l : pm_L} (hd : pm_ins mid pc = some (.lstore_n z, 1)) (hv : pm_st2 ls (z : Nat) (.long x) = some l) (hq : pc + 1 = q) (k : pw X d mid q l (st) P r) : pw X d mid pc ls (.long x :: st) P r := pw_f1 hd (by simp [pm_f1, hv]) hq k
theorem pw_lstore {z : Nat} {x : Int64} {l : pm_L} (hd : pm_ins mid pc = some (.lstore z, 2)) (hv : pm_st2 ls z (.long x) = some l) (hq : pc + 2 = q) (k : pw X d mid q l (st) P r) : pw X d mid pc ls (.long x :: st) P r := pw_f1 hd (by simp [pm_f1, hv]) hq k
theorem pw_aload_n {z : Fin 4} {x : Nat} (hd : pm_ins mid pc = some (.aload_n z, 1)) (hv : pm_lda ls (z : Nat) = some x) (hq : pc + 1 = q) (k : pw X d mid q ls (.ref x :: st) P r) : pw X d mid pc ls (st) P r := pw_f1 hd (by simp [pm_f1, hv]) hq k
theorem pw_aload {z : Nat} {x : Nat} (hd : pm_ins mid pc = some (.aload z, 2)) (hv : pm_lda ls z = some x) (hq : pc + 2 = q) (k : pw X d mid q ls (.ref x :: st) P r) : pw X d mid pc ls (st) P r := pw_f1 hd (by simp [pm_f1, hv]) hq k
theorem pw_astore_n {z : Fin 4} {x : Nat} {l : pm_L} (hd : pm_ins mid pc = some (.astore_n z, 1)) (hv : pm_st1 ls (z : Nat) (.ref x) = some l) (hq : pc + 1 = q) (k : pw X d mid q l (st) P r) : pw X d mid pc ls (.ref x :: st) P r := pw_f1 hd (by simp [pm_f1, hv]) hq k
theorem pw_astore {z : Nat} {x : Nat} {l : pm_L} (hd : pm_ins mid pc = some (.astore z, 2)) (hv : pm_st1 ls z (.ref x) = some l) (hq : pc + 2 = q) (k : pw X d mid q l (st) P r) : pw X d mid pc ls (.ref x :: st) P r := pw_f1 hd (by simp [pm_f1, hv]) hq k
theorem pw_iinc {z : Nat} {w : Int} {x v : Int32} {l : pm_L} (hd : pm_ins mid pc = some (.iinc z w, 3)) (hx : pm_ldi ls z = some x) (hv : x + Int32.ofInt w = v) (hs : pm_st1 ls z (.int v) = some l) (hq : pc + 3 = q) (k : pw X d mid q l (st) P r) : pw X d mid pc ls (st) P r := pw_f1 hd (by simp [pm_f1, hx, hv, hs]) hq k
theorem pw_iadd {x y : Int32} (hd : pm_ins mid pc = some (.iadd, 1)) (hq : pc + 1 = q) (k : pw X d mid q ls (.int (x + y) :: st) P r) : pw X d mid pc ls (.int y :: .int x :: st) P r := pw_f1 hd (by simp [pm_f1]) hq k
theorem pw_isub {x y : Int32} (hd : pm_ins mid pc = some (.isub, 1)) (hq : pc + 1 = q) (k : pw X d mid q ls (.int (x - y) :: st) P r) : pw X d mid pc ls (.int y :: .int x :: st) P r := pw_f1 hd (by simp [pm_f1]) hq k
theorem pw_imul {x y : Int32} (hd : pm_ins mid pc = some (.imul, 1)) (hq : pc + 1 = q) (k : pw X d mid q ls (.int (x * y) :: st) P r) : pw X d mid pc ls (.int y :: .int x :: st) P r := pw_f1 hd (by simp [pm_f1]) hq k
theorem pw_iand {x y : Int32} (hd : pm_ins mid pc = some (.iand, 1)) (hq : pc + 1 = q) (k : pw X d mid q ls (.int (x &&& y) :: st) P r) : pw X d mid pc ls (.int y :: .int x :: st) P r := pw_f1 hd (by simp [pm_f1]) hq k
theorem pw_ishl {x y : Int32} (hd : pm_ins mid pc = some (.ishl, 1)) (hq : pc + 1 = q) (k : pw X d mid q ls (.int (x <<< (y &&& 31)) :: st) P r) : pw X d mid pc ls (.int y :: .int x :: st) P r := pw_f1 hd (by simp [pm_f1]) hq k
theorem pw_ishr {x y : Int32} (hd : pm_ins mid pc = some (.ishr, 1)) (hq : pc + 1 = q) (k : pw X d mid q ls (.int (x >>> (y &&& 31)) :: st) P r) : pw X d mid pc ls (.int y :: .int x :: st) P r := pw_f1 hd (by simp [pm_f1]) hq k
theorem pw_idiv {x y : Int32} (hd : pm_ins mid pc = some (.idiv, 1)) (h0 : ¬ y = 0) (hq : pc + 1 = q) (k : pw X d mid q ls (.int (x / y) :: st) P r) : pw X d mid pc ls (.int y :: .int x :: st) P r := pw_f1 hd (by simp [pm_f1, h0]) hq k
theorem pw_irem {x y : Int32} (hd : pm_ins mid pc = some (.irem, 1)) (h0 : ¬ y = 0) (hq : pc + 1 = q) (k : pw X d mid q ls (.int (x - x / y * y) :: st) P r) : pw X d mid pc ls (.int y :: .int x :: st) P r := pw_f1 hd (by simp [pm_f1, h0]) hq k
theorem pw_ladd {x y : Int64} (hd : pm_ins mid pc = some (.ladd, 1)) (hq : pc + 1 = q) (k : pw X d mid q ls (.long (x + y) :: st) P r) : pw X d mid pc ls (.long y :: .long x :: st) P r := pw_f1 hd (by simp [pm_f1]) hq k
theorem pw_lsub {x y : Int64} (hd : pm_ins mid pc = some (.lsub, 1)) (hq : pc + 1 = q) (k : pw X d mid q ls (.long (x - y) :: st) P r) : pw X d mid pc ls (.long y :: .long x :: st) P r := pw_f1 hd (by simp [pm_f1]) hq k
theorem pw_land {x y : Int64} (hd : pm_ins mid pc = some (.land, 1)) (hq : pc + 1 = q) (k : pw X d mid q ls (.long (x &&& y) :: st) P r) : pw X d mid pc ls (.long y :: .long x :: st) P r := pw_f1 hd (by simp [pm_f1]) hq k
theorem pw_lcmp {x y : Int64} (hd : pm_ins mid pc = some (.lcmp, 1)) (hq : pc + 1 = q) (k : pw X d mid q ls (.int (lg_cmp x y) :: st) P r) : pw X d mid pc ls (.long y :: .long x :: st) P r := pw_f1 hd (by simp [pm_f1]) hq k
theorem pw_i2l {x : Int32} (hd : pm_ins mid pc = some (.i2l, 1)) (hq : pc + 1 = q) (k : pw X d mid q ls (.long x.toInt64 :: st) P r) : pw X d mid pc ls (.int x :: st) P r := pw_f1 hd (by simp [pm_f1]) hq k
theorem pw_dup {v : Value} (hd : pm_ins mid pc = some (.dup, 1)) (h1 : v.category = 1) (hq : pc + 1 = q) (k : pw X d mid q ls (v :: v :: st) P r) : pw X d mid pc ls (v :: st) P r := pw_f1 hd (by simp [pm_f1, h1]) hq k
theorem pw_pop {v : Value} (hd : pm_ins mid pc = some (.pop, 1)) (h1 : v.category = 1) (hq : pc + 1 = q) (k : pw X d mid q ls (st) P r) : pw X d mid pc ls (v :: st) P r := pw_f1 hd (by simp [pm_f1, h1]) hq k
theorem pw_goto {off : Int} (hd : pm_ins mid pc = some (.goto off, 3)) (ht : (pc : Int) + off = (q : Int)) (k : pw X d mid q ls st P r) : pw X d mid pc ls st P r :=
  pw_f2 hd (by simp [pm_f1]) (by simp only [pm_f2, pm_to, ht]; simp) k
theorem pw_if_eq_t {x : Int32} {off : Int} (hd : pm_ins mid pc = some (.ifCond .eq off, 3)) (ht : (pc : Int) + off = (q : Int)) (h : x = 0) (k : pw X d mid q ls st P r) : pw X d mid pc ls (.int x :: st) P r := pw_f2 hd (by simp [pm_f1]) (by simp only [pm_f2, pm_to, ht]; simp [pm_c, h]) k
theorem pw_if_eq_f {x : Int32} {off : Int} {q' : Nat} (hd : pm_ins mid pc = some (.ifCond .eq off, 3)) (ht : (pc : Int) + off = (q : Int)) (hq : pc + 3 = q') (h : ¬ (x = 0)) (k : pw X d mid q' ls st P r) : pw X d mid pc ls (.int x :: st) P r := by
  subst hq
  exact pw_f2 hd (by simp [pm_f1]) (by simp only [pm_f2, pm_to, ht]; simp [pm_c, h]) k
theorem pw_if_eq {x : Int32} {off : Int} {q' : Nat} (hd : pm_ins mid pc = some (.ifCond .eq off, 3)) (ht : (pc : Int) + off = (q : Int)) (hq : pc + 3 = q') (k1 : x = 0 → pw X d mid q ls st P r) (k2 : ¬ (x = 0) → pw X d mid q' ls st P r) : pw X d mid pc ls (.int x :: st) P r := by
  subst hq
  by_cases h : x = 0
  · exact pw_if_eq_t hd ht h (k1 h)
  · exact pw_if_eq_f hd ht rfl h (k2 h)
theorem pw_icmp_eq_t {x y : Int32} {off : Int} (hd : pm_ins mid pc = some (.if_icmp .eq off, 3)) (ht : (pc : Int) + off = (q : Int)) (h : x = y) (k : pw X d mid q ls st P r) : pw X d mid pc ls (.int y :: .int x :: st) P r := pw_f2 hd (by simp [pm_f1]) (by simp only [pm_f2, pm_to, ht]; simp [pm_c, h]) k
theorem pw_icmp_eq_f {x y : Int32} {off : Int} {q' : Nat} (hd : pm_ins mid pc = some (.if_icmp .eq off, 3)) (ht : (pc : Int) + off = (q : Int)) (hq : pc + 3 = q') (h : ¬ (x = y)) (k : pw X d mid q' ls st P r) : pw X d mid pc ls (.int y :: .int x :: st) P r := by
  subst hq
  exact pw_f2 hd (by simp [pm_f1]) (by simp only [pm_f2, pm_to, ht]; simp [pm_c, h]) k
theorem pw_icmp_eq {x y : Int32} {off : Int} {q' : Nat} (hd : pm_ins mid pc = some (.if_icmp .eq off, 3)) (ht : (pc : Int) + off = (q : Int)) (hq : pc + 3 = q') (k1 : x = y → pw X d mid q ls st P r) (k2 : ¬ (x = y) → pw X d mid q' ls st P r) : pw X d mid pc ls (.int y :: .int x :: st) P r := by
  subst hq
  by_cases h : x = y
  · exact pw_icmp_eq_t hd ht h (k1 h)
  · exact pw_icmp_eq_f hd ht rfl h (k2 h)
theorem pw_if_ne_t {x : Int32} {off : Int} (hd : pm_ins mid pc = some (.ifCond .ne off, 3)) (ht : (pc : Int) + off = (q : Int)) (h : ¬ x = 0) (k : pw X d mid q ls st P r) : pw X d mid pc ls (.int x :: st) P r := pw_f2 hd (by simp [pm_f1]) (by simp only [pm_f2, pm_to, ht]; simp [pm_c, h]) k
theorem pw_if_ne_f {x : Int32} {off : Int} {q' : Nat} (hd : pm_ins mid pc = some (.ifCond .ne off, 3)) (ht : (pc : Int) + off = (q : Int)) (hq : pc + 3 = q') (h : ¬ (¬ x = 0)) (k : pw X d mid q' ls st P r) : pw X d mid pc ls (.int x :: st) P r := by
  subst hq
  exact pw_f2 hd (by simp [pm_f1]) (by simp only [pm_f2, pm_to, ht]; simp [pm_c, h]) k
theorem pw_if_ne {x : Int32} {off : Int} {q' : Nat} (hd : pm_ins mid pc = some (.ifCond .ne off, 3)) (ht : (pc : Int) + off = (q : Int)) (hq : pc + 3 = q') (k1 : ¬ x = 0 → pw X d mid q ls st P r) (k2 : ¬ (¬ x = 0) → pw X d mid q' ls st P r) : pw X d mid pc ls (.int x :: st) P r := by
  subst hq
  by_cases h : ¬ x = 0
  · exact pw_if_ne_t hd ht h (k1 h)
  · exact pw_if_ne_f hd ht rfl h (k2 h)
theorem pw_icmp_ne_t {x y : Int32} {off : Int} (hd : pm_ins mid pc = some (.if_icmp .ne off, 3)) (ht : (pc : Int) + off = (q : Int)) (h : ¬ x = y) (k : pw X d mid q ls st P r) : pw X d mid pc ls (.int y :: .int x :: st) P r := pw_f2 hd (by simp [pm_f1]) (by simp only [pm_f2, pm_to, ht]; simp [pm_c, h]) k
theorem pw_icmp_ne_f {x y : Int32} {off : Int} {q' : Nat} (hd : pm_ins mid pc = some (.if_icmp .ne off, 3)) (ht : (pc : Int) + off = (q : Int)) (hq : pc + 3 = q') (h : ¬ (¬ x = y)) (k : pw X d mid q' ls st P r) : pw X d mid pc ls (.int y :: .int x :: st) P r := by
  subst hq
  exact pw_f2 hd (by simp [pm_f1]) (by simp only [pm_f2, pm_to, ht]; simp [pm_c, h]) k
theorem pw_icmp_ne {x y : Int32} {off : Int} {q' : Nat} (hd : pm_ins mid pc = some (.if_icmp .ne off, 3)) (ht : (pc : Int) + off = (q : Int)) (hq : pc + 3 = q') (k1 : ¬ x = y → pw X d mid q ls st P r) (k2 : ¬ (¬ x = y) → pw X d mid q' ls st P r) : pw X d mid pc ls (.int y :: .int x :: st) P r := by
  subst hq
  by_cases h : ¬ x = y
  · exact pw_icmp_ne_t hd ht h (k1 h)
  · exact pw_icmp_ne_f hd ht rfl h (k2 h)
theorem pw_if_lt_t {x : Int32} {off : Int} (hd : pm_ins mid pc = some (.ifCond .lt off, 3)) (ht : (pc : Int) + off = (q : Int)) (h : x < 0) (k : pw X d mid q ls st P r) : pw X d mid pc ls (.int x :: st) P r := pw_f2 hd (by simp [pm_f1]) (by simp only [pm_f2, pm_to, ht]; simp [pm_c, h]) k
theorem pw_if_lt_f {x : Int32} {off : Int} {q' : Nat} (hd : pm_ins mid pc = some (.ifCond .lt off, 3)) (ht : (pc : Int) + off = (q : Int)) (hq : pc + 3 = q') (h : ¬ (x < 0)) (k : pw X d mid q' ls st P r) : pw X d mid pc ls (.int x :: st) P r := by
  subst hq
  exact pw_f2 hd (by simp [pm_f1]) (by simp only [pm_f2, pm_to, ht]; simp [pm_c, h]) k
theorem pw_if_lt {x : Int32} {off : Int} {q' : Nat} (hd : pm_ins mid pc = some (.ifCond .lt off, 3)) (ht : (pc : Int) + off = (q : Int)) (hq : pc + 3 = q') (k1 : x < 0 → pw X d mid q ls st P r) (k2 : ¬ (x < 0) → pw X d mid q' ls st P r) : pw X d mid pc ls (.int x :: st) P r := by
  subst hq
  by_cases h : x < 0
  · exact pw_if_lt_t hd ht h (k1 h)
  · exact pw_if_lt_f hd ht rfl h (k2 h)
theorem pw_icmp_lt_t {x y : Int32} {off : Int} (hd : pm_ins mid pc = some (.if_icmp .lt off, 3)) (ht : (pc : Int) + off = (q : Int)) (h : x < y) (k : pw X d mid q ls st P r) : pw X d mid pc ls (.int y :: .int x :: st) P r := pw_f2 hd (by simp [pm_f1]) (by simp only [pm_f2, pm_to, ht]; simp [pm_c, h]) k
theorem pw_icmp_lt_f {x y : Int32} {off : Int} {q' : Nat} (hd : pm_ins mid pc = some (.if_icmp .lt off, 3)) (ht : (pc : Int) + off = (q : Int)) (hq : pc + 3 = q') (h : ¬ (x < y)) (k : pw X d mid q' ls st P r) : pw X d mid pc ls (.int y :: .int x :: st) P r := by
  subst hq
  exact pw_f2 hd (by simp [pm_f1]) (by simp only [pm_f2, pm_to, ht]; simp [pm_c, h]) k
theorem pw_icmp_lt {x y : Int32} {off : Int} {q' : Nat} (hd : pm_ins mid pc = some (.if_icmp .lt off, 3)) (ht : (pc : Int) + off = (q : Int)) (hq : pc + 3 = q') (k1 : x < y → pw X d mid q ls st P r) (k2 : ¬ (x < y) → pw X d mid q' ls st P r) : pw X d mid pc ls (.int y :: .int x :: st) P r := by
  subst hq
  by_cases h : x < y
  · exact pw_icmp_lt_t hd ht h (k1 h)
  · exact pw_icmp_lt_f hd ht rfl h (k2 h)
theorem pw_if_ge_t {x : Int32} {off : Int} (hd : pm_ins mid pc = some (.ifCond .ge off, 3)) (ht : (pc : Int) + off = (q : Int)) (h : 0 ≤ x) (k : pw X d mid q ls st P r) : pw X d mid pc ls (.int x :: st) P r := pw_f2 hd (by simp [pm_f1]) (by simp only [pm_f2, pm_to, ht]; simp [pm_c, h]) k
theorem pw_if_ge_f {x : Int32} {off : Int} {q' : Nat} (hd : pm_ins mid pc = some (.ifCond .ge off, 3)) (ht : (pc : Int) + off = (q : Int)) (hq : pc + 3 = q') (h : ¬ (0 ≤ x)) (k : pw X d mid q' ls st P r) : pw X d mid pc ls (.int x :: st) P r := by
  subst hq
  exact pw_f2 hd (by simp [pm_f1]) (by simp only [pm_f2, pm_to, ht]; simp [pm_c, h]) k
theorem pw_if_ge {x : Int32} {off : Int} {q' : Nat} (hd : pm_ins mid pc = some (.ifCond .ge off, 3)) (ht : (pc : Int) + off = (q : Int)) (hq : pc + 3 = q') (k1 : 0 ≤ x → pw X d mid q ls st P r) (k2 : ¬ (0 ≤ x) → pw X d mid q' ls st P r) : pw X d mid pc ls (.int x :: st) P r := by
  subst hq
  by_cases h : 0 ≤ x
  · exact pw_if_ge_t hd ht h (k1 h)
  · exact pw_if_ge_f hd ht rfl h (k2 h)
theorem pw_icmp_ge_t {x y : Int32} {off : Int} (hd : pm_ins mid pc = some (.if_icmp .ge off, 3)) (ht : (pc : Int) + off = (q : Int)) (h : y ≤ x) (k : pw X d mid q ls st P r) : pw X d mid pc ls (.int y :: .int x :: st) P r := pw_f2 hd (by simp [pm_f1]) (by simp only [pm_f2, pm_to, ht]; simp [pm_c, h]) k
theorem pw_icmp_ge_f {x y : Int32} {off : Int} {q' : Nat} (hd : pm_ins mid pc = some (.if_icmp .ge off, 3)) (ht : (pc : Int) + off = (q : Int)) (hq : pc + 3 = q') (h : ¬ (y ≤ x)) (k : pw X d mid q' ls st P r) : pw X d mid pc ls (.int y :: .int x :: st) P r := by
  subst hq
  exact pw_f2 hd (by simp [pm_f1]) (by simp only [pm_f2, pm_to, ht]; simp [pm_c, h]) k
theorem pw_icmp_ge {x y : Int32} {off : Int} {q' : Nat} (hd : pm_ins mid pc = some (.if_icmp .ge off, 3)) (ht : (pc : Int) + off = (q : Int)) (hq : pc + 3 = q') (k1 : y ≤ x → pw X d mid q ls st P r) (k2 : ¬ (y ≤ x) → pw X d mid q' ls st P r) : pw X d mid pc ls (.int y :: .int x :: st) P r := by
  subst hq
  by_cases h : y ≤ x
  · exact pw_icmp_ge_t hd ht h (k1 h)
  · exact pw_icmp_ge_f hd ht rfl h (k2 h)
theorem pw_if_gt_t {x : Int32} {off : Int} (hd : pm_ins mid pc = some (.ifCond .gt off, 3)) (ht : (pc : Int) + off = (q : Int)) (h : 0 < x) (k : pw X d mid q ls st P r) : pw X d mid pc ls (.int x :: st) P r := pw_f2 hd (by simp [pm_f1]) (by simp only [pm_f2, pm_to, ht]; simp [pm_c, h]) k
theorem pw_if_gt_f {x : Int32} {off : Int} {q' : Nat} (hd : pm_ins mid pc = some (.ifCond .gt off, 3)) (ht : (pc : Int) + off = (q : Int)) (hq : pc + 3 = q') (h : ¬ (0 < x)) (k : pw X d mid q' ls st P r) : pw X d mid pc ls (.int x :: st) P r := by
  subst hq
  exact pw_f2 hd (by simp [pm_f1]) (by simp only [pm_f2, pm_to, ht]; simp [pm_c, h]) k
theorem pw_if_gt {x : Int32} {off : Int} {q' : Nat} (hd : pm_ins mid pc = some (.ifCond .gt off, 3)) (ht : (pc : Int) + off = (q : Int)) (hq : pc + 3 = q') (k1 : 0 < x → pw X d mid q ls st P r) (k2 : ¬ (0 < x) → pw X d mid q' ls st P r) : pw X d mid pc ls (.int x :: st) P r := by
  subst hq
  by_cases h : 0 < x
  · exact pw_if_gt_t hd ht h (k1 h)
  · exact pw_if_gt_f hd ht rfl h (k2 h)
theorem pw_icmp_gt_t {x y : Int32} {off : Int} (hd : pm_ins mid pc = some (.if_icmp .gt off, 3)) (ht : (pc : Int) + off = (q : Int)) (h : y < x) (k : pw X d mid q ls st P r) : pw X d mid pc ls (.int y :: .int x :: st) P r := pw_f2 hd (by simp [pm_f1]) (by simp only [pm_f2, pm_to, ht]; simp [pm_c, h]) k
theorem pw_icmp_gt_f {x y : Int32} {off : Int} {q' : Nat} (hd : pm_ins mid pc = some (.if_icmp .gt off, 3)) (ht : (pc : Int) + off = (q : Int)) (hq : pc + 3 = q') (h : ¬ (y < x)) (k : pw X d mid q' ls st P r) : pw X d mid pc ls (.int y :: .int x :: st) P r := by
  subst hq
  exact pw_f2 hd (by simp [pm_f1]) (by simp only [pm_f2, pm_to, ht]; simp [pm_c, h]) k
theorem pw_icmp_gt {x y : Int32} {off : Int} {q' : Nat} (hd : pm_ins mid pc = some (.if_icmp .gt off, 3)) (ht : (pc : Int) + off = (q : Int)) (hq : pc + 3 = q') (k1 : y < x → pw X d mid q ls st P r) (k2 : ¬ (y < x) → pw X d mid q' ls st P r) : pw X d mid pc ls (.int y :: .int x :: st) P r := by
  subst hq
  by_cases h : y < x
  · exact pw_icmp_gt_t hd ht h (k1 h)
  · exact pw_icmp_gt_f hd ht rfl h (k2 h)
theorem pw_if_le_t {x : Int32} {off : Int} (hd : pm_ins mid pc = some (.ifCond .le off, 3)) (ht : (pc : Int) + off = (q : Int)) (h : x ≤ 0) (k : pw X d mid q ls st P r) : pw X d mid pc ls (.int x :: st) P r := pw_f2 hd (by simp [pm_f1]) (by simp only [pm_f2, pm_to, ht]; simp [pm_c, h]) k
theorem pw_if_le_f {x : Int32} {off : Int} {q' : Nat} (hd : pm_ins mid pc = some (.ifCond .le off, 3)) (ht : (pc : Int) + off = (q : Int)) (hq : pc + 3 = q') (h : ¬ (x ≤ 0)) (k : pw X d mid q' ls st P r) : pw X d mid pc ls (.int x :: st) P r := by
  subst hq
  exact pw_f2 hd (by simp [pm_f1]) (by simp only [pm_f2, pm_to, ht]; simp [pm_c, h]) k
theorem pw_if_le {x : Int32} {off : Int} {q' : Nat} (hd : pm_ins mid pc = some (.ifCond .le off, 3)) (ht : (pc : Int) + off = (q : Int)) (hq : pc + 3 = q') (k1 : x ≤ 0 → pw X d mid q ls st P r) (k2 : ¬ (x ≤ 0) → pw X d mid q' ls st P r) : pw X d mid pc ls (.int x :: st) P r := by
  subst hq
  by_cases h : x ≤ 0
  · exact pw_if_le_t hd ht h (k1 h)
  · exact pw_if_le_f hd ht rfl h (k2 h)
theorem pw_icmp_le_t {x y : Int32} {off : Int} (hd : pm_ins mid pc = some (.if_icmp .le off, 3)) (ht : (pc : Int) + off = (q : Int)) (h : x ≤ y) (k : pw X d mid q ls st P r) : pw X d mid pc ls (.int y :: .int x :: st) P r := pw_f2 hd (by simp [pm_f1]) (by simp only [pm_f2, pm_to, ht]; simp [pm_c, h]) k
theorem pw_icmp_le_f {x y : Int32} {off : Int} {q' : Nat} (hd : pm_ins mid pc = some (.if_icmp .le off, 3)) (ht : (pc : Int) + off = (q : Int)) (hq : pc + 3 = q') (h : ¬ (x ≤ y)) (k : pw X d mid q' ls st P r) : pw X d mid pc ls (.int y :: .int x :: st) P r := by
  subst hq
  exact pw_f2 hd (by simp [pm_f1]) (by simp only [pm_f2, pm_to, ht]; simp [pm_c, h]) k
theorem pw_icmp_le {x y : Int32} {off : Int} {q' : Nat} (hd : pm_ins mid pc = some (.if_icmp .le off, 3)) (ht : (pc : Int) + off = (q : Int)) (hq : pc + 3 = q') (k1 : x ≤ y → pw X d mid q ls st P r) (k2 : ¬ (x ≤ y) → pw X d mid q' ls st P r) : pw X d mid pc ls (.int y :: .int x :: st) P r := by
  subst hq
  by_cases h : x ≤ y
  · exact pw_icmp_le_t hd ht h (k1 h)
  · exact pw_icmp_le_f hd ht rfl h (k2 h)
theorem lgc_eq (x y : Int64) : (lg_cmp x y = 0) ↔ (x = y) := by
  rcases lg_tri x y with h | h | h
  · have e : lg_cmp x y = -1 := by simp [lg_cmp, lg_lt_not h, lg_lt_ne h]
    rw [e]
    simp only [Int64.lt_iff_toInt_lt, Int64.le_iff_toInt_le, ← Int64.toInt_inj] at h ⊢
    constructor
    · intro q; first | omega | exact absurd q (by decide)
    · intro q; first | decide | omega
  · subst h
    have e : lg_cmp x x = 0 := by simp [lg_cmp]
    rw [e]
    try simp only [Int64.lt_iff_toInt_lt, Int64.le_iff_toInt_le]
    try exact ⟨fun q => by first | omega | exact absurd q (by decide) | rfl | exact absurd rfl q, fun q => by first | decide | omega | exact absurd rfl q⟩
  · have e : lg_cmp x y = 1 := by simp [lg_cmp, h]
    rw [e]
    simp only [Int64.lt_iff_toInt_lt, Int64.le_iff_toInt_le, ← Int64.toInt_inj] at h ⊢
    constructor
    · intro q; first | omega | exact absurd q (by decide)
    · intro q; first | decide | omega
theorem pw_ifc_eq {x y : Int64} {off : Int} {q' : Nat} (hd : pm_ins mid pc = some (.ifCond .eq off, 3)) (ht : (pc : Int) + off = (q : Int)) (hq : pc + 3 = q') (k1 : x = y → pw X d mid q ls st P r) (k2 : ¬ (x = y) → pw X d mid q' ls st P r) : pw X d mid pc ls (.int (lg_cmp x y) :: st) P r :=
  pw_if_eq hd ht hq (fun h => k1 ((lgc_eq x y).mp h)) (fun h => k2 (fun g => h ((lgc_eq x y).mpr g)))
theorem lgc_ne (x y : Int64) : (¬ lg_cmp x y = 0) ↔ (¬ x = y) := by
  rcases lg_tri x y with h | h | h
  · have e : lg_cmp x y = -1 := by simp [lg_cmp, lg_lt_not h, lg_lt_ne h]
    rw [e]
    simp only [Int64.lt_iff_toInt_lt, Int64.le_iff_toInt_le, ← Int64.toInt_inj] at h ⊢
    constructor
    · intro q; first | omega | exact absurd q (by decide)
    · intro q; first | decide | omega
  · subst h
    have e : lg_cmp x x = 0 := by simp [lg_cmp]
    rw [e]
    try simp only [Int64.lt_iff_toInt_lt, Int64.le_iff_toInt_le]
    try exact ⟨fun q => by first | omega | exact absurd q (by decide) | rfl | exact absurd rfl q, fun q => by first | decide | omega | exact absurd rfl q⟩
  · have e : lg_cmp x y = 1 := by simp [lg_cmp, h]
    rw [e]
    simp only [Int64.lt_iff_toInt_lt, Int64.le_iff_toInt_le, ← Int64.toInt_inj] at h ⊢
    constructor
    · intro q; first | omega | exact absurd q (by decide)
    · intro q; first | decide | omega
theorem pw_ifc_ne {x y : Int64} {off : Int} {q' : Nat} (hd : pm_ins mid pc = some (.ifCond .ne off, 3)) (ht : (pc : Int) + off = (q : Int)) (hq : pc + 3 = q') (k1 : ¬ x = y → pw X d mid q ls st P r) (k2 : ¬ (¬ x = y) → pw X d mid q' ls st P r) : pw X d mid pc ls (.int (lg_cmp x y) :: st) P r :=
  pw_if_ne hd ht hq (fun h => k1 ((lgc_ne x y).mp h)) (fun h => k2 (fun g => h ((lgc_ne x y).mpr g)))
theorem lgc_lt (x y : Int64) : (lg_cmp x y < 0) ↔ (x < y) := by
  rcases lg_tri x y with h | h | h
  · have e : lg_cmp x y = -1 := by simp [lg_cmp, lg_lt_not h, lg_lt_ne h]
    rw [e]
    simp only [Int64.lt_iff_toInt_lt, Int64.le_iff_toInt_le, ← Int64.toInt_inj] at h ⊢
    constructor
    · intro q; first | omega | exact absurd q (by decide)
    · intro q; first | decide | omega
  · subst h
    have e : lg_cmp x x = 0 := by simp [lg_cmp]
    rw [e]
    try simp only [Int64.lt_iff_toInt_lt, Int64.le_iff_toInt_le]
    try exact ⟨fun q => by first | omega | exact absurd q (by decide) | rfl | exact absurd rfl q, fun q => by first | decide | omega | exact absurd rfl q⟩
  · have e : lg_cmp x y = 1 := by simp [lg_cmp, h]
    rw [e]
    simp only [Int64.lt_iff_toInt_lt, Int64.le_iff_toInt_le, ← Int64.toInt_inj] at h ⊢
    constructor
    · intro q; first | omega | exact absurd q (by decide)
    · intro q; first | decide | omega
theorem pw_ifc_lt {x y : Int64} {off : Int} {q' : Nat} (hd : pm_ins mid pc = some (.ifCond .lt off, 3)) (ht : (pc : Int) + off = (q : Int)) (hq : pc + 3 = q') (k1 : x < y → pw X d mid q ls st P r) (k2 : ¬ (x < y) → pw X d mid q' ls st P r) : pw X d mid pc ls (.int (lg_cmp x y) :: st) P r :=
  pw_if_lt hd ht hq (fun h => k1 ((lgc_lt x y).mp h)) (fun h => k2 (fun g => h ((lgc_lt x y).mpr g)))
theorem lgc_ge (x y : Int64) : (0 ≤ lg_cmp x y) ↔ (y ≤ x) := by
  rcases lg_tri x y with h | h | h
  · have e : lg_cmp x y = -1 := by simp [lg_cmp, lg_lt_not h, lg_lt_ne h]
    rw [e]
    simp only [Int64.lt_iff_toInt_lt, Int64.le_iff_toInt_le, ← Int64.toInt_inj] at h ⊢
    constructor
    · intro q; first | omega | exact absurd q (by decide)
    · intro q; first | decide | omega
  · subst h
    have e : lg_cmp x x = 0 := by simp [lg_cmp]
    rw [e]
    try simp only [Int64.lt_iff_toInt_lt, Int64.le_iff_toInt_le]
    try exact ⟨fun q => by first | omega | exact absurd q (by decide) | rfl | exact absurd rfl q, fun q => by first | decide | omega | exact absurd rfl q⟩
  · have e : lg_cmp x y = 1 := by simp [lg_cmp, h]
    rw [e]
    simp only [Int64.lt_iff_toInt_lt, Int64.le_iff_toInt_le, ← Int64.toInt_inj] at h ⊢
    constructor
    · intro q; first | omega | exact absurd q (by decide)
    · intro q; first | decide | omega
theorem pw_ifc_ge {x y : Int64} {off : Int} {q' : Nat} (hd : pm_ins mid pc = some (.ifCond .ge off, 3)) (ht : (pc : Int) + off = (q : Int)) (hq : pc + 3 = q') (k1 : y ≤ x → pw X d mid q ls st P r) (k2 : ¬ (y ≤ x) → pw X d mid q' ls st P r) : pw X d mid pc ls (.int (lg_cmp x y) :: st) P r :=
  pw_if_ge hd ht hq (fun h => k1 ((lgc_ge x y).mp h)) (fun h => k2 (fun g => h ((lgc_ge x y).mpr g)))
theorem lgc_gt (x y : Int64) : (0 < lg_cmp x y) ↔ (y < x) := by
  rcases lg_tri x y with h | h | h
  · have e : lg_cmp x y = -1 := by simp [lg_cmp, lg_lt_not h, lg_lt_ne h]
    rw [e]
    simp only [Int64.lt_iff_toInt_lt, Int64.le_iff_toInt_le, ← Int64.toInt_inj] at h ⊢
    constructor
    · intro q; first | omega | exact absurd q (by decide)
    · intro q; first | decide | omega
  · subst h
    have e : lg_cmp x x = 0 := by simp [lg_cmp]
    rw [e]
    try simp only [Int64.lt_iff_toInt_lt, Int64.le_iff_toInt_le]
    try exact ⟨fun q => by first | omega | exact absurd q (by decide) | rfl | exact absurd rfl q, fun q => by first | decide | omega | exact absurd rfl q⟩
  · have e : lg_cmp x y = 1 := by simp [lg_cmp, h]
    rw [e]
    simp only [Int64.lt_iff_toInt_lt, Int64.le_iff_toInt_le, ← Int64.toInt_inj] at h ⊢
    constructor
    · intro q; first | omega | exact absurd q (by decide)
    · intro q; first | decide | omega
theorem pw_ifc_gt {x y : Int64} {off : Int} {q' : Nat} (hd : pm_ins mid pc = some (.ifCond .gt off, 3)) (ht : (pc : Int) + off = (q : Int)) (hq : pc + 3 = q') (k1 : y < x → pw X d mid q ls st P r) (k2 : ¬ (y < x) → pw X d mid q' ls st P r) : pw X d mid pc ls (.int (lg_cmp x y) :: st) P r :=
  pw_if_gt hd ht hq (fun h => k1 ((lgc_gt x y).mp h)) (fun h => k2 (fun g => h ((lgc_gt x y).mpr g)))
theorem lgc_le (x y : Int64) : (lg_cmp x y ≤ 0) ↔ (x ≤ y) := by
  rcases lg_tri x y with h | h | h
  · have e : lg_cmp x y = -1 := by simp [lg_cmp, lg_lt_not h, lg_lt_ne h]
    rw [e]
    simp only [Int64.lt_iff_toInt_lt, Int64.le_iff_toInt_le, ← Int64.toInt_inj] at h ⊢
    constructor
    · intro q; first | omega | exact absurd q (by decide)
    · intro q; first | decide | omega
  · subst h
    have e : lg_cmp x x = 0 := by simp [lg_cmp]
    rw [e]
    try simp only [Int64.lt_iff_toInt_lt, Int64.le_iff_toInt_le]
    try exact ⟨fun q => by first | omega | exact absurd q (by decide) | rfl | exact absurd rfl q, fun q => by first | decide | omega | exact absurd rfl q⟩
  · have e : lg_cmp x y = 1 := by simp [lg_cmp, h]
    rw [e]
    simp only [Int64.lt_iff_toInt_lt, Int64.le_iff_toInt_le, ← Int64.toInt_inj] at h ⊢
    constructor
    · intro q; first | omega | exact absurd q (by decide)
    · intro q; first | decide | omega
theorem pw_ifc_le {x y : Int64} {off : Int} {q' : Nat} (hd : pm_ins mid pc = some (.ifCond .le off, 3)) (ht : (pc : Int) + off = (q : Int)) (hq : pc + 3 = q') (k1 : x ≤ y → pw X d mid q ls st P r) (k2 : ¬ (x ≤ y) → pw X d mid q' ls st P r) : pw X d mid pc ls (.int (lg_cmp x y) :: st) P r :=
  pw_if_le hd ht hq (fun h => k1 ((lgc_le x y).mp h)) (fun h => k2 (fun g => h ((lgc_le x y).mpr g)))
def bI (c : Bool) : Int32 := if c = true then 1 else 0
theorem bI_t : bI true = 1 := rfl
theorem bI_f : bI false = 0 := rfl
theorem bI_ne {c : Bool} (h : c = true) : ¬ bI c = 0 := by subst h; decide
theorem bI_eq {c : Bool} (h : c = false) : bI c = 0 := by subst h; rfl
theorem bI_nar (c : Bool) : narrow .boolean (.int (bI c)) = .int (bI c) := by cases c <;> rfl
theorem pw_ifb_eq {c : Bool} {off : Int} {q' : Nat} (hd : pm_ins mid pc = some (.ifCond .eq off, 3)) (ht : (pc : Int) + off = (q : Int)) (hq : pc + 3 = q') (k1 : c = false → pw X d mid q ls st P r) (k2 : c = true → pw X d mid q' ls st P r) : pw X d mid pc ls (.int (bI c) :: st) P r := by
  cases hc : c
  · exact pw_if_eq_t hd ht (bI_eq rfl) (k1 hc)
  · exact pw_if_eq_f hd ht hq (bI_ne rfl) (k2 hc)
theorem pw_ifb_ne {c : Bool} {off : Int} {q' : Nat} (hd : pm_ins mid pc = some (.ifCond .ne off, 3)) (ht : (pc : Int) + off = (q : Int)) (hq : pc + 3 = q') (k1 : c = true → pw X d mid q ls st P r) (k2 : c = false → pw X d mid q' ls st P r) : pw X d mid pc ls (.int (bI c) :: st) P r := by
  cases hc : c
  · exact pw_if_ne_f hd ht hq (fun h => h (bI_eq rfl)) (k2 hc)
  · exact pw_if_ne_t hd ht (bI_ne rfl) (k1 hc)
theorem pw_top {x y : Int32} (h : x = y) (k : pw X d mid pc ls (.int y :: st) P r) : pw X d mid pc ls (.int x :: st) P r := by subst h; exact k
theorem pw_topl {x y : Int64} (h : x = y) (k : pw X d mid pc ls (.long y :: st) P r) : pw X d mid pc ls (.long x :: st) P r := by subst h; exact k
theorem pw_tableIn {df lo hi off : Int} {offs : Array Int} {x : Int32} (hd : pm_ins mid pc = some (.tableswitch df lo hi offs, n)) (h0 : ¬ (x.toInt < lo ∨ hi < x.toInt)) (ho : offs[(x.toInt - lo).toNat]? = some off) (ht : (pc : Int) + off = (q : Int)) (k : pw X d mid q ls st P r) : pw X d mid pc ls (.int x :: st) P r :=
  pw_f2 hd (by simp [pm_f1]) (by simp only [pm_f2, pm_to, h0, ho, ht]; simp) k
theorem pw_tableOut {df lo hi : Int} {offs : Array Int} {x : Int32} (hd : pm_ins mid pc = some (.tableswitch df lo hi offs, n)) (h0 : x.toInt < lo ∨ hi < x.toInt) (ht : (pc : Int) + df = (q : Int)) (k : pw X d mid q ls st P r) : pw X d mid pc ls (.int x :: st) P r :=
  pw_f2 hd (by simp [pm_f1]) (by simp only [pm_f2, pm_to, h0, ht]; simp) k
theorem pw_getf {x t j a : Nat} {v : Value} (hd : pm_ins mid pc = some (.getfield x, 3)) (hf : pm_fl (pm_oc mid) x = some (t, j)) (ht : t < 100) (hr : pm_rd P a t j = some v) (hq : pc + 3 = q) (k : pw X d mid q ls (v :: st) P r) : pw X d mid pc ls (.ref (a + 1) :: st) P r :=
  pw_f3 hd (by simp [pm_f1]) (by simp [pm_f2]) (by simp [pm_f3, hf, ht, hr]) hq k
theorem pw_putf {x t j a : Nat} {v : Value} {Q : pm_H} (hd : pm_ins mid pc = some (.putfield x, 3)) (hf : pm_fl (pm_oc mid) x = some (t, j)) (ht : t < 100) (hn : narrow (pm_ft t j) v = v) (hs : fits (pm_ft t j) v = true) (hfi : pm_fin t j = false ∨ (pm_ini mid = true ∧ pm_oc mid = t)) (hw : pm_wr P a t j v = some Q) (hq : pc + 3 = q) (k : pw X d mid q ls st Q r) : pw X d mid pc ls (v :: .ref (a + 1) :: st) P r :=
  pw_f3 hd (by simp [pm_f1]) (by simp [pm_f2]) (by simp only [pm_f3, hf]; rw [if_pos ⟨ht, hn, hs, hfi⟩, hw]; rfl) hq k
theorem pw_salod {L : Nat} {f : Nat → Int32} {z : Int32} {d mid pc q : Nat} (hd : pm_ins mid pc = some (.iaload, 1)) (h0 : ¬ (z < 0 ∨ L ≤ z.toNatClampNeg)) (hq : pc + 1 = q) (k : pw (some (L, f)) d mid q ls (.int (f z.toNatClampNeg) :: st) P r) : pw (some (L, f)) d mid pc ls (.int z :: .ref 0 :: st) P r :=
  pw_f3 hd (by simp [pm_f1]) (by simp [pm_f2]) (by simp [pm_f3, h0]) hq k
theorem pw_salen {L : Nat} {f : Nat → Int32} {d mid pc q : Nat} (hd : pm_ins mid pc = some (.arraylength, 1)) (hq : pc + 1 = q) (k : pw (some (L, f)) d mid q ls (.int (Int32.ofNat L) :: st) P r) : pw (some (L, f)) d mid pc ls (.ref 0 :: st) P r :=
  pw_f3 hd (by simp [pm_f1]) (by simp [pm_f2]) (by simp [pm_f3]) hq k
theorem pw_iald {a : Nat} {z : Int32} {w : Nat} {v : Value} (hd : pm_ins mid pc = some (.iaload, 1)) (h0 : ¬ z < 0) (hz : z.toNatClampNeg = w) (hr : pm_rd P a 100 w = some v) (hq : pc + 1 = q) (k : pw X d mid q ls (v :: st) P r) : pw X d mid pc ls (.int z :: .ref (a + 1) :: st) P r :=
  pw_f3 hd (by simp [pm_f1]) (by simp [pm_f2]) (by simp [pm_f3, h0, hz, hr]) hq k
theorem pw_iast {a : Nat} {z v : Int32} {w : Nat} {Q : pm_H} (hd : pm_ins mid pc = some (.iastore, 1)) (h0 : ¬ z < 0) (hz : z.toNatClampNeg = w) (hw : pm_wr P a 100 w (.int v) = some Q) (hq : pc + 1 = q) (k : pw X d mid q ls st Q r) : pw X d mid pc ls (.int v :: .int z :: .ref (a + 1) :: st) P r :=
  pw_f3 hd (by simp [pm_f1]) (by simp [pm_f2]) (by simp [pm_f3, h0, hz, hw]) hq k
theorem pw_zald {a : Nat} {z : Int32} {w : Nat} {v : Value} (hd : pm_ins mid pc = some (.baload, 1)) (h0 : ¬ z < 0) (hz : z.toNatClampNeg = w) (hr : pm_rd P a 101 w = some v) (hq : pc + 1 = q) (k : pw X d mid q ls (v :: st) P r) : pw X d mid pc ls (.int z :: .ref (a + 1) :: st) P r :=
  pw_f3 hd (by simp [pm_f1]) (by simp [pm_f2]) (by simp [pm_f3, h0, hz, hr]) hq k
theorem pw_zast {a : Nat} {z v : Int32} {w : Nat} {Q : pm_H} (hd : pm_ins mid pc = some (.bastore, 1)) (h0 : ¬ z < 0) (hz : z.toNatClampNeg = w) (hn : narrow .boolean (.int v) = .int v) (hw : pm_wr P a 101 w (.int v) = some Q) (hq : pc + 1 = q) (k : pw X d mid q ls st Q r) : pw X d mid pc ls (.int v :: .int z :: .ref (a + 1) :: st) P r :=
  pw_f3 hd (by simp [pm_f1]) (by simp [pm_f2]) (by simp only [pm_f3]; rw [if_neg (fun h => h.elim h0 (fun h => h hn)), hz, hw]; rfl) hq k
theorem pw_aald {a t u : Nat} {z : Int32} {w : Nat} {v : Value} (hd : pm_ins mid pc = some (.aaload, 1)) (h0 : ¬ z < 0) (hz : z.toNatClampNeg = w) (ht : ¬ t < 102) (hu : pm_ae (t - 100) = some u) (hr : pm_rd P a t w = some v) (hq : pc + 1 = q) (k : pw X d mid q ls (v :: st) P r) : pw X d mid pc ls (.int z :: .ref (a + 1) :: st) P r :=
  pw_f3 hd (by simp [pm_f1]) (by simp [pm_f2]) (by
    obtain ⟨vs, w1, w2⟩ := pm_rd_spec hr
    have htg : pm_tg P a = some t := by simp [pm_tg, w1]
    simp [pm_f3, htg, h0, ht, hu, hz, hr]) hq k
theorem pw_ireturn {v : Int32} {ty : FieldType} (hd : pm_ins mid pc = some (.ireturn, 1)) (ht : pm_ret mid = some ty) (hn : narrow ty (.int v) = .int v) (hr : r = (some (.int v), P)) : pw X d mid pc ls [.int v] P r :=
  pw_inR (pw_f4 hd (by simp [pm_f1]) (by simp [pm_f2]) (by simp [pm_f3]) (by simp only [pm_f4, ht]; rw [if_pos hn])) hr
theorem pw_lreturn {v : Int64} (hd : pm_ins mid pc = some (.lreturn, 1)) (ht : pm_ret mid = some .long) (hr : r = (some (.long v), P)) : pw X d mid pc ls [.long v] P r :=
  pw_inR (pw_f4 hd (by simp [pm_f1]) (by simp [pm_f2]) (by simp [pm_f3]) (by simp only [pm_f4]; rw [if_pos ht])) hr
theorem pw_areturn {v : Nat} {o : String} (hd : pm_ins mid pc = some (.areturn, 1)) (ht : pm_ret mid = some (.object o)) (hr : r = (some (.ref v), P)) : pw X d mid pc ls [.ref v] P r :=
  pw_inR (pw_f4 hd (by simp [pm_f1]) (by simp [pm_f2]) (by simp [pm_f3]) (by simp only [pm_f4, ht])) hr
theorem pw_return (hd : pm_ins mid pc = some (.return_, 1)) (ht : pm_ret mid = none) (hr : r = (none, P)) : pw X d mid pc ls [] P r :=
  pw_inR (pw_f4 hd (by simp [pm_f1]) (by simp [pm_f2]) (by simp [pm_f3]) (by simp only [pm_f4]; rw [if_pos ht])) hr
theorem pw_virt {x y n a : Nat} {as st0 : List Value} {v : Option Value} {Q : pm_H} (hd : pm_ins mid pc = some (.invokevirtual x, 3)) (hc : pm_cal (pm_oc mid) x = some (0, y, n)) (hs : (st0.take n).reverse = .ref (a + 1) :: as ∧ (st0.take n).length = n ∧ st0.drop n = st) (hsum : (st.map fun v => v.category).sum ≤ 8) (htg : pm_tg P a = some (pm_oc y)) (hq : pc + 3 = q)
    (hcall : pm_Call d y (.ref (a + 1) :: as) P (v, Q)) (k : pw X d mid q ls (v.toList ++ st) Q r) : pw X d mid pc ls st0 P r := by
  obtain ⟨h1, h2, rfl⟩ := hs
  subst hq
  exact pw_inC (pw_f4 hd (by simp [pm_f1]) (by simp [pm_f2]) (by simp [pm_f3]) (by simp only [pm_f4, hc, h1]; rw [if_pos ⟨h2, hsum, htg⟩])) hcall k
theorem pw_stat {x y n : Nat} {as st0 : List Value} {v : Option Value} {Q : pm_H} (hd : pm_ins mid pc = some (.invokestatic x, 3)) (hc : pm_cal (pm_oc mid) x = some (1, y, n)) (hs : (st0.take n).reverse = as ∧ (st0.take n).length = n ∧ st0.drop n = st) (hsum : (st.map fun v => v.category).sum ≤ 8) (hq : pc + 3 = q)
    (hcall : pm_Call d y as P (v, Q)) (k : pw X d mid q ls (v.toList ++ st) Q r) : pw X d mid pc ls st0 P r := by
  obtain ⟨h1, h2, rfl⟩ := hs
  subst hq
  exact pw_inC (pw_f4 hd (by simp [pm_f1]) (by simp [pm_f2]) (by simp [pm_f3]) (by simp only [pm_f4, hc, h1]; rw [if_pos ⟨h2, hsum⟩])) hcall k
theorem pw_new {x t : Nat} (hd : pm_ins mid pc = some (.new x, 3)) (ht : pm_nw (pm_oc mid) x = some t) (hq : pc + 3 = q) (k : pw X d mid q ls (.ref (P.length + 1) :: st) (P ++ [(t, (List.range (pm_N t)).map fun j => defaultValue (pm_ft t j))]) r) : pw X d mid pc ls st P r :=
  pw_f3 hd (by simp [pm_f1]) (by simp [pm_f2]) (by simp [pm_f3, ht]) hq k
theorem pw_spec {x y n a : Nat} {as st0 : List Value} {v : Option Value} {Q : pm_H} (hd : pm_ins mid pc = some (.invokespecial x, 3)) (hc : pm_cal (pm_oc mid) x = some (2, y, n)) (hs : (st0.take n).reverse = .ref (a + 1) :: as ∧ (st0.take n).length = n ∧ st0.drop n = st) (hsum : (st.map fun v => v.category).sum ≤ 8) (hq : pc + 3 = q)
    (hcall : pm_Call d y (.ref (a + 1) :: as) P (v, Q)) (k : pw X d mid q ls (v.toList ++ st) Q r) : pw X d mid pc ls st0 P r := by
  obtain ⟨h1, h2, rfl⟩ := hs
  subst hq
  exact pw_inC (pw_f4 hd (by simp [pm_f1]) (by simp [pm_f2]) (by simp [pm_f3]) (by simp only [pm_f4, hc, h1]; rw [if_pos (Or.inl trivial), if_pos ⟨h2, hsum⟩])) hcall k
theorem pw_virtV {x y n a : Nat} {as st0 : List Value} {w : Value} {Q : pm_H} (hd : pm_ins mid pc = some (.invokevirtual x, 3)) (hc : pm_cal (pm_oc mid) x = some (0, y, n)) (hs : (st0.take n).reverse = .ref (a + 1) :: as ∧ (st0.take n).length = n ∧ st0.drop n = st) (hsum : (st.map fun v => v.category).sum ≤ 8) (htg : pm_tg P a = some (pm_oc y)) (hq : pc + 3 = q)
    (hcall : pm_Call d y (.ref (a + 1) :: as) P (some w, Q)) (k : pw X d mid q ls (w :: st) Q r) : pw X d mid pc ls st0 P r := pw_virt hd hc hs hsum htg hq hcall k
theorem pw_virt0 {x y n a : Nat} {as st0 : List Value} {Q : pm_H} (hd : pm_ins mid pc = some (.invokevirtual x, 3)) (hc : pm_cal (pm_oc mid) x = some (0, y, n)) (hs : (st0.take n).reverse = .ref (a + 1) :: as ∧ (st0.take n).length = n ∧ st0.drop n = st) (hsum : (st.map fun v => v.category).sum ≤ 8) (htg : pm_tg P a = some (pm_oc y)) (hq : pc + 3 = q)
    (hcall : pm_Call d y (.ref (a + 1) :: as) P (none, Q)) (k : pw X d mid q ls st Q r) : pw X d mid pc ls st0 P r := pw_virt hd hc hs hsum htg hq hcall k
theorem pw_statV {x y n : Nat} {as st0 : List Value} {w : Value} {Q : pm_H} (hd : pm_ins mid pc = some (.invokestatic x, 3)) (hc : pm_cal (pm_oc mid) x = some (1, y, n)) (hs : (st0.take n).reverse = as ∧ (st0.take n).length = n ∧ st0.drop n = st) (hsum : (st.map fun v => v.category).sum ≤ 8) (hq : pc + 3 = q)
    (hcall : pm_Call d y as P (some w, Q)) (k : pw X d mid q ls (w :: st) Q r) : pw X d mid pc ls st0 P r := pw_stat hd hc hs hsum hq hcall k
end PW
theorem nJ_add (a b : Nat) : nI a + nI b = nI (a + b) := (Int32.ofNat_add a b).symm
theorem nJ_mul (a b : Nat) : nI a * nI b = nI (a * b) := (Int32.ofNat_mul a b).symm
theorem nI_inc (a : Nat) : nI a + Int32.ofInt 1 = nI (a + 1) := (nI_succ a).symm
theorem sum8 {n : Nat} (h : Nat.ble n 8 = true) : n ≤ 8 := Nat.le_of_ble_eq_true h
theorem ic_m1 : Int32.ofInt (-1) = -1 := by decide +kernel
theorem ic_0 : Int32.ofInt (0) = 0 := by decide +kernel
theorem ic_1 : Int32.ofInt (1) = 1 := by decide +kernel
theorem ic_2 : Int32.ofInt (2) = 2 := by decide +kernel
theorem ic_3 : Int32.ofInt (3) = 3 := by decide +kernel
theorem ic_4 : Int32.ofInt (4) = 4 := by decide +kernel
theorem ic_5 : Int32.ofInt (5) = 5 := by decide +kernel
theorem bc_6 : (Int8.ofInt (6)).toInt32 = 6 := by decide +kernel
theorem bc_7 : (Int8.ofInt (7)).toInt32 = 7 := by decide +kernel
theorem bc_8 : (Int8.ofInt (8)).toInt32 = 8 := by decide +kernel
theorem bc_16 : (Int8.ofInt (16)).toInt32 = 16 := by decide +kernel
theorem bc_19 : (Int8.ofInt (19)).toInt32 = 19 := by decide +kernel
theorem bc_20 : (Int8.ofInt (20)).toInt32 = 20 := by decide +kernel
theorem bc_24 : (Int8.ofInt (24)).toInt32 = 24 := by decide +kernel
theorem bc_25 : (Int8.ofInt (25)).toInt32 = 25 := by decide +kernel
theorem bc_30 : (Int8.ofInt (30)).toInt32 = 30 := by decide +kernel
theorem bc_31 : (Int8.ofInt (31)).toInt32 = 31 := by decide +kernel
theorem bc_32 : (Int8.ofInt (32)).toInt32 = 32 := by decide +kernel
theorem sc_160 : (Int16.ofInt 160).toInt32 = 160 := by decide +kernel
theorem bc_m2 : (Int8.ofInt (-2)).toInt32 = -2 := by decide +kernel
theorem bc_m3 : (Int8.ofInt (-3)).toInt32 = -3 := by decide +kernel
theorem bc_m4 : (Int8.ofInt (-4)).toInt32 = -4 := by decide +kernel
theorem bc_m5 : (Int8.ofInt (-5)).toInt32 = -5 := by decide +kernel
theorem bc_m6 : (Int8.ofInt (-6)).toInt32 = -6 := by decide +kernel
theorem bc_m7 : (Int8.ofInt (-7)).toInt32 = -7 := by decide +kernel
theorem bc_m8 : (Int8.ofInt (-8)).toInt32 = -8 := by decide +kernel
theorem bc_m9 : (Int8.ofInt (-9)).toInt32 = -9 := by decide +kernel
theorem bc_m10 : (Int8.ofInt (-10)).toInt32 = -10 := by decide +kernel
theorem bc_m11 : (Int8.ofInt (-11)).toInt32 = -11 := by decide +kernel
theorem bc_m12 : (Int8.ofInt (-12)).toInt32 = -12 := by decide +kernel
theorem bc_m13 : (Int8.ofInt (-13)).toInt32 = -13 := by decide +kernel
theorem lc_0 : Int64.ofNat ((0 : Fin 2) : Nat) = 0 := by decide +kernel
theorem lc_1 : Int64.ofNat ((1 : Fin 2) : Nat) = 1 := by decide +kernel
