abbrev pm_H : Type := List (Nat × List Value)
abbrev pm_L : Type := List (Option Value)
abbrev pm_R : Type := Option Value × pm_H
abbrev pm_X : Type := Option (Nat × (Nat → Int32))
abbrev pm_O : Type := (Nat × pm_L × List Value × pm_H) ⊕ ((Nat × List Value × Nat × List Value) ⊕ Option Value)
def pm_ins (mid pc : Nat) : Option (Instr × Nat) := match decode (pm_code mid) pc with
  | .ok q => some q
  | _ => none
def pm_ldi (ls : pm_L) (i : Nat) : Option Int32 := match ls[i]? with
  | some (some (.int x)) => some x
  | _ => none
def pm_ldl (ls : pm_L) (i : Nat) : Option Int64 := match ls[i]? with
  | some (some (.long x)) => some x
  | _ => none
def pm_lda (ls : pm_L) (i : Nat) : Option Nat := match ls[i]? with
  | some (some (.ref x)) => some x
  | _ => none
def pm_kill (ls : pm_L) (i : Nat) : pm_L := match i with
  | 0 => ls
  | j + 1 => match ls[j]? with
    | some (some w) => if w.category = 2 then ls.set j none else ls
    | _ => ls
def pm_st1 (ls : pm_L) (i : Nat) (v : Value) : Option pm_L := if i < ls.length then some ((pm_kill ls i).set i (some v)) else none
def pm_st2 (ls : pm_L) (i : Nat) (v : Value) : Option pm_L := if i + 1 < ls.length then some (((pm_kill ls i).set i (some v)).set (i + 1) none) else none
def pm_f1 (mid : Nat) (i : Instr) (n : Nat) (ls : pm_L) (st : List Value) : Option (pm_L × List Value) := match i, n, st with
  | .iconst k, 1, st => some (ls, .int (Int32.ofInt k) :: st)
  | .bipush k, 2, st => some (ls, .int (Int8.ofInt k).toInt32 :: st)
  | .sipush k, 3, st => some (ls, .int (Int16.ofInt k).toInt32 :: st)
  | .lconst k, 1, st => some (ls, .long (Int64.ofNat (k : Nat)) :: st)
  | .ldc2_w k, 3, st => (pm_l2 (pm_oc mid) k).map fun v => (ls, .long v :: st)
  | .iload_n k, 1, st => (pm_ldi ls (k : Nat)).map fun x => (ls, .int x :: st)
  | .iload k, 2, st => (pm_ldi ls k).map fun x => (ls, .int x :: st)
  | .lload_n k, 1, st => (pm_ldl ls (k : Nat)).map fun x => (ls, .long x :: st)
  | .lload k, 2, st => (pm_ldl ls k).map fun x => (ls, .long x :: st)
  | .aload_n k, 1, st => (pm_lda ls (k : Nat)).map fun x => (ls, .ref x :: st)
  | .aload k, 2, st => (pm_lda ls k).map fun x => (ls, .ref x :: st)
  | .istore_n k, 1, .int x :: st => (pm_st1 ls (k : Nat) (.int x)).map fun l => (l, st)
  | .istore k, 2, .int x :: st => (pm_st1 ls k (.int x)).map fun l => (l, st)
  | .lstore_n k, 1, .long x :: st => (pm_st2 ls (k : Nat) (.long x)).map fun l => (l, st)
  | .lstore k, 2, .long x :: st => (pm_st2 ls k (.long x)).map fun l => (l, st)
  | .astore_n k, 1, .ref x :: st => (pm_st1 ls (k : Nat) (.ref x)).map fun l => (l, st)
  | .astore k, 2, .ref x :: st => (pm_st1 ls k (.ref x)).map fun l => (l, st)
  | .iinc k z, 3, st => match pm_ldi ls k with
    | some x => (pm_st1 ls k (.int (x + Int32.ofInt z))).map fun l => (l, st)
    | none => none
  | .iadd, 1, .int y :: .int x :: st => some (ls, .int (x + y) :: st)
  | .isub, 1, .int y :: .int x :: st => some (ls, .int (x - y) :: st)
  | .imul, 1, .int y :: .int x :: st => some (ls, .int (x * y) :: st)
  | .iand, 1, .int y :: .int x :: st => some (ls, .int (x &&& y) :: st)
  | .ior, 1, .int y :: .int x :: st => some (ls, .int (x ||| y) :: st)
  | .ixor, 1, .int y :: .int x :: st => some (ls, .int (x ^^^ y) :: st)
  | .idiv, 1, .int y :: .int x :: st => if y = 0 then none else some (ls, .int (x / y) :: st)
  | .irem, 1, .int y :: .int x :: st => if y = 0 then none else some (ls, .int (x - x / y * y) :: st)
  | .ineg, 1, .int x :: st => some (ls, .int (-x) :: st)
  | .ishl, 1, .int y :: .int x :: st => some (ls, .int (x <<< (y &&& 31)) :: st)
  | .ishr, 1, .int y :: .int x :: st => some (ls, .int (x >>> (y &&& 31)) :: st)
  | .ladd, 1, .long y :: .long x :: st => some (ls, .long (x + y) :: st)
  | .lsub, 1, .long y :: .long x :: st => some (ls, .long (x - y) :: st)
  | .land, 1, .long y :: .long x :: st => some (ls, .long (x &&& y) :: st)
  | .i2l, 1, .int x :: st => some (ls, .long x.toInt64 :: st)
  | .l2i, 1, .long x :: st => some (ls, .int x.toInt32 :: st)
  | .lcmp, 1, .long y :: .long x :: st => some (ls, .int (lg_cmp x y) :: st)
  | .dup, 1, v :: st => if v.category = 1 then some (ls, v :: v :: st) else none
  | .pop, 1, v :: st => if v.category = 1 then some (ls, st) else none
  | .pop2, 1, v :: st => if v.category = 2 then some (ls, st) else none
  | .dup_x1, 1, v :: w :: st => if v.category = 1 ∧ w.category = 1 then some (ls, v :: w :: v :: st) else none
  | .dup_x2, 1, v :: w :: z :: st => if v.category = 1 ∧ w.category = 1 ∧ z.category = 1 then some (ls, v :: w :: z :: v :: st) else none
  | .dup2, 1, v :: w :: st => if v.category = 1 ∧ w.category = 1 then some (ls, v :: w :: v :: w :: st) else none
  | _, _, _ => none
def pm_c (c : ClassFile.Cond) (x y : Int32) : Bool := match c with
  | .eq => decide (x = y)
  | .ne => decide (¬ x = y)
  | .lt => decide (x < y)
  | .ge => decide (y ≤ x)
  | .gt => decide (y < x)
  | .le => decide (x ≤ y)
def pm_to (pc : Nat) (off : Int) (st : List Value) : Option (Nat × List Value) := if 0 ≤ (pc : Int) + off then some (((pc : Int) + off).toNat, st) else none
def pm_f2 (i : Instr) (n pc : Nat) (st : List Value) : Option (Nat × List Value) := match i, n, st with
  | .goto off, 3, st => pm_to pc off st
  | .ifCond c off, 3, .int x :: st => (pm_to pc off st).map fun q => if pm_c c x 0 = true then q else (pc + 3, st)
  | .if_icmp c off, 3, .int y :: .int x :: st => (pm_to pc off st).map fun q => if pm_c c x y = true then q else (pc + 3, st)
  | .tableswitch d lo hi offs, _, .int x :: st => if x.toInt < lo ∨ hi < x.toInt then pm_to pc d st else (match offs[(x.toInt - lo).toNat]? with
    | some off => pm_to pc off st
    | none => none)
  | .lookupswitch d ps, _, .int x :: st => if (ps.toList.zip (ps.toList.drop 1)).all (fun (a, next) => a.1 < next.1) = true then pm_to pc (Op.lookupswitch.offset ps.toList d x.toInt) st else none
  | _, _, _ => none
def pm_N (t : Nat) : Nat := match pm_cl[t]? with
  | some r => r.2.2
  | none => 0
def pm_F (t j : Nat) : String × String × String × Bool := match pm_cl[t]? with
  | some r => r.2.1 j
  | none => ("", "", "", false)
def pm_nm (t : Nat) : String := match pm_cl[t]? with
  | some r => r.1
  | none => ""
def pm_rd (P : pm_H) (k t j : Nat) : Option Value := match P[k]? with
  | some q => if q.1 = t then q.2[j]? else none
  | none => none
def pm_wr (P : pm_H) (k t j : Nat) (v : Value) : Option pm_H := match P[k]? with
  | some q => if q.1 = t ∧ j < q.2.length then some (P.set k (t, q.2.set j v)) else none
  | none => none
def pm_tg (P : pm_H) (k : Nat) : Option Nat := (P[k]?).map fun q => q.1
def pm_f3 (X : pm_X) (mid : Nat) (i : Instr) (n : Nat) (st : List Value) (P : pm_H) : Option (List Value × pm_H) := match i, n, st with
  | .getfield x, 3, .ref (k + 1) :: st => match pm_fl (pm_oc mid) x with
    | some (t, j) => if t < 100 then (pm_rd P k t j).map fun v => (v :: st, P) else none
    | none => none
  | .putfield x, 3, v :: .ref (k + 1) :: st => match pm_fl (pm_oc mid) x with
    | some (t, j) => if t < 100 ∧ narrow (pm_ft t j) v = v ∧ fits (pm_ft t j) v = true ∧ (pm_fin t j = false ∨ (pm_ini mid = true ∧ pm_oc mid = t)) then (pm_wr P k t j v).map fun Q => (st, Q) else none
    | none => none
  | .iaload, 1, .int z :: .ref 0 :: st => match X with
    | some (L, f) => if z < 0 ∨ L ≤ z.toNatClampNeg then none else some (.int (f z.toNatClampNeg) :: st, P)
    | none => none
  | .iaload, 1, .int z :: .ref (k + 1) :: st => if z < 0 then none else (pm_rd P k 100 z.toNatClampNeg).map fun v => (v :: st, P)
  | .iastore, 1, .int v :: .int z :: .ref (k + 1) :: st => if z < 0 then none else (pm_wr P k 100 z.toNatClampNeg (.int v)).map fun Q => (st, Q)
  | .baload, 1, .int z :: .ref (k + 1) :: st => if z < 0 then none else (pm_rd P k 101 z.toNatClampNeg).map fun v => (v :: st, P)
  | .bastore, 1, .int v :: .int z :: .ref (k + 1) :: st => if z < 0 ∨ ¬ narrow .boolean (.int v) = .int v then none else (pm_wr P k 101 z.toNatClampNeg (.int v)).map fun Q => (st, Q)
  | .aaload, 1, .int z :: .ref (k + 1) :: st => match pm_tg P k with
    | some t => if z < 0 ∨ t < 102 then none else (match pm_ae (t - 100) with
      | some _ => (pm_rd P k t z.toNatClampNeg).map fun v => (v :: st, P)
      | none => none)
    | none => none
  | .aastore, 1, .ref (v + 1) :: .int z :: .ref (k + 1) :: st => match pm_tg P k, pm_tg P v with
    | some t, some u => if z < 0 ∨ t < 102 ∨ 100 ≤ u then none else (if pm_ae (t - 100) = some u then (pm_wr P k t z.toNatClampNeg (.ref (v + 1))).map fun Q => (st, Q) else none)
    | _, _ => none
  | .arraylength, 1, .ref 0 :: st => match X with
    | some (L, _) => some (.int (Int32.ofNat L) :: st, P)
    | none => none
  | .arraylength, 1, .ref (k + 1) :: st => match P[k]? with
    | some q => if q.1 < 100 then none else (match pm_at (q.1 - 100) with
      | some _ => some (.int (Int32.ofNat q.2.length) :: st, P)
      | none => none)
    | none => none
  | .new x, 3, st => (pm_nw (pm_oc mid) x).map fun t => (.ref (P.length + 1) :: st, P ++ [(t, (List.range (pm_N t)).map fun j => defaultValue (pm_ft t j))])
  | .newarray a, 2, .int z :: st => if z < 0 ∨ 1000 < z.toNatClampNeg then none else (match a with
    | .int => some (.ref (P.length + 1) :: st, P ++ [(100, List.replicate z.toNatClampNeg (.int 0))])
    | .boolean => some (.ref (P.length + 1) :: st, P ++ [(101, List.replicate z.toNatClampNeg (.int 0))])
    | _ => none)
  | .anewarray x, 3, .int z :: st => if z < 0 ∨ 1000 < z.toNatClampNeg then none else (pm_an (pm_oc mid) x).map fun k => (.ref (P.length + 1) :: st, P ++ [(100 + k, List.replicate z.toNatClampNeg .null)])
  | _, _, _ => none
def pm_f4 (mid : Nat) (i : Instr) (n pc : Nat) (ls : pm_L) (st : List Value) (P : pm_H) : Option pm_O := match i, n, st with
  | .invokevirtual x, 3, st => match pm_cal (pm_oc mid) x with
    | some (0, y, a) => match (st.take a).reverse with
      | .ref (k + 1) :: _ => if (st.take a).length = a ∧ ((st.drop a).map fun v => v.category).sum ≤ 8 ∧ pm_tg P k = some (pm_oc y) then some (.inr (.inl (y, (st.take a).reverse, pc + 3, st.drop a))) else none
      | _ => none
    | _ => none
  | .invokestatic x, 3, st => match pm_cal (pm_oc mid) x with
    | some (1, y, a) => if (st.take a).length = a ∧ ((st.drop a).map fun v => v.category).sum ≤ 8 then some (.inr (.inl (y, (st.take a).reverse, pc + 3, st.drop a))) else none
    | _ => none
  | .invokespecial x, 3, st => match pm_cal (pm_oc mid) x with
    | some (4, _, _) => match st with
      | .ref _ :: st => if (st.map fun v => v.category).sum ≤ 8 then some (.inl (pc + 3, ls, st, P)) else none
      | _ => none
    | some (kd, y, a) => if kd = 2 ∨ kd = 3 then (match (st.take a).reverse with
      | .ref (k + 1) :: _ => if (st.take a).length = a ∧ ((st.drop a).map fun v => v.category).sum ≤ 8 then some (.inr (.inl (y, (st.take a).reverse, pc + 3, st.drop a))) else none
      | _ => none) else none
    | _ => none
  | .ireturn, 1, [.int v] => match pm_ret mid with
    | some ty => if narrow ty (.int v) = .int v then some (.inr (.inr (some (.int v)))) else none
    | none => none
  | .lreturn, 1, [.long v] => if pm_ret mid = some .long then some (.inr (.inr (some (.long v)))) else none
  | .areturn, 1, [.ref v] => match pm_ret mid with
    | some (.object _) => some (.inr (.inr (some (.ref v))))
    | some (.array _) => some (.inr (.inr (some (.ref v))))
    | _ => none
  | .return_, 1, [] => if pm_ret mid = none then some (.inr (.inr none)) else none
  | _, _, _ => none
def pm_step (X : pm_X) (mid pc : Nat) (ls : pm_L) (st : List Value) (P : pm_H) : Option pm_O := match pm_ins mid pc with
  | none => none
  | some (i, n) => match pm_f1 mid i n ls st with
    | some (l, s) => some (.inl (pc + n, l, s, P))
    | none => match pm_f2 i n pc st with
      | some (t, s) => some (.inl (t, ls, s, P))
      | none => match pm_f3 X mid i n st P with
        | some (s, Q) => some (.inl (pc + n, ls, s, Q))
        | none => pm_f4 mid i n pc ls st P
def pm_Ex (X : pm_X) (C : Nat → List Value → pm_H → pm_R → Prop) (mid : Nat) : Nat → Nat → pm_L → List Value → pm_H → pm_R → Prop
  | 0, _, _, _, _, _ => False
  | n + 1, pc, ls, st, P, r => match pm_step X mid pc ls st P with
    | some (.inl (pc', l, s, Q)) => pm_Ex X C mid n pc' l s Q r
    | some (.inr (.inl (y, as, pc', s))) => ∃ (v : Option Value) (Q : pm_H), C y as P (v, Q) ∧ pm_Ex X C mid n pc' ls (v.toList ++ s) Q r
    | some (.inr (.inr v)) => r = (v, P)
    | none => False
def pm_en (n : Nat) (as : List Value) : pm_L := (as.flatMap fun v => if v.category = 2 then [some v, none] else [some v]) ++ List.replicate (n - (as.flatMap fun v => if v.category = 2 then [some v, none] else [some v]).length) none
def pm_Call : Nat → Nat → List Value → pm_H → pm_R → Prop
  | 0, _, _, _, _ => False
  | d + 1, mid, as, P, r => (lg_sl as).length ≤ pm_maxL mid ∧ ∃ n, pm_Ex none (pm_Call d) mid n 0 (pm_en (pm_maxL mid) as) [] P r
def pm_ex (C : Nat → List Value → pm_H → Option pm_R) (mid : Nat) : Nat → Nat → pm_L → List Value → pm_H → Option pm_R
  | 0, _, _, _, _ => none
  | n + 1, pc, ls, st, P => match pm_step none mid pc ls st P with
    | some (.inl (pc', l, s, Q)) => pm_ex C mid n pc' l s Q
    | some (.inr (.inl (y, as, pc', s))) => match C y as P with
      | some (v, Q) => pm_ex C mid n pc' ls (v.toList ++ s) Q
      | none => none
    | some (.inr (.inr v)) => some (v, P)
    | none => none
def pm_run (f : Nat) : Nat → Nat → List Value → pm_H → Option pm_R
  | 0, _, _, _ => none
  | d + 1, mid, as, P => if (lg_sl as).length ≤ pm_maxL mid then pm_ex (pm_run f d) mid f 0 (pm_en (pm_maxL mid) as) [] P else none
theorem pm_ex_Ex {c : Nat → List Value → pm_H → Option pm_R} {C : Nat → List Value → pm_H → pm_R → Prop} (hc : ∀ y as P r, c y as P = some r → C y as P r) (mid : Nat) : ∀ n pc ls st P r, pm_ex c mid n pc ls st P = some r → pm_Ex none C mid n pc ls st P r := by
  intro n
  induction n with
  | zero => intro pc ls st P r h; cases h
  | succ n ih =>
    intro pc ls st P r h
    simp only [pm_ex] at h
    simp only [pm_Ex]
    cases hs : pm_step none mid pc ls st P with
    | none => rw [hs] at h; cases h
    | some o =>
      rw [hs] at h
      match o, h with
      | .inl (pc', l, s, Q), h => exact ih _ _ _ _ _ h
      | .inr (.inl (y, as, pc', s)), h =>
        cases hcall : c y as P with
        | none => simp only [hcall] at h; cases h
        | some q =>
          obtain ⟨v, Q⟩ := q
          simp only [hcall] at h
          exact ⟨v, Q, hc _ _ _ _ hcall, ih _ _ _ _ _ h⟩
      | .inr (.inr v), h => exact (Option.some.inj h).symm
theorem pm_run_Call (f : Nat) : ∀ d mid as P r, pm_run f d mid as P = some r → pm_Call d mid as P r := by
  intro d
  induction d with
  | zero => intro mid as P r h; cases h
  | succ d ih =>
    intro mid as P r h
    simp only [pm_run] at h
    split at h
    · next hl => exact ⟨hl, f, pm_ex_Ex (fun y as P r h => ih y as P r h) mid _ _ _ _ _ _ h⟩
    · cases h
