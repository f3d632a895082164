theorem pm_hasc_ok : ∀ {y : Nat}, pm_hasc y = true → Cond.code (pm_y y) (pm_code y) (pm_maxL y) (pm_ret y) ∈ pm_T
  | 0, _ => pm_in_mem pm_codA0
  | 1, _ => pm_in_mem pm_codA1
  | 2, _ => pm_in_mem pm_codA2
  | 3, _ => pm_in_mem pm_codA3
  | 4, _ => pm_in_mem pm_codA4
  | 5, _ => pm_in_mem pm_codA5
  | 6, _ => pm_in_mem pm_codA6
  | 7, _ => pm_in_mem pm_codA7
  | 8, _ => pm_in_mem pm_codA8
  | 9, _ => pm_in_mem pm_codA9
  | 10, _ => pm_in_mem pm_codA10
  | 11, _ => pm_in_mem pm_codA11
  | 12, _ => pm_in_mem pm_codA12
  | 13, _ => pm_in_mem pm_codA13
  | 14, _ => pm_in_mem pm_codA14
  | 15, _ => pm_in_mem pm_codA15
  | 16, _ => pm_in_mem pm_codA16
  | 17, _ => pm_in_mem pm_codA17
  | 18, _ => pm_in_mem pm_codA18
  | 19, _ => pm_in_mem pm_codA19
  | 20, _ => pm_in_mem pm_codA20
  | 21, _ => pm_in_mem pm_codA21
  | 22, _ => pm_in_mem pm_codA22
  | 23, _ => pm_in_mem pm_codA23
  | 24, _ => pm_in_mem pm_codA24
  | 25, _ => pm_in_mem pm_codA25
  | 26, _ => pm_in_mem pm_codA26
  | 27, _ => pm_in_mem pm_codA27
  | 28, _ => pm_in_mem pm_codA28
  | 29, _ => pm_in_mem pm_codA29
  | 30, _ => pm_in_mem pm_codA30
  | 31, _ => pm_in_mem pm_codA31
  | 32, _ => pm_in_mem pm_codA32
  | 33, _ => pm_in_mem pm_codA33
  | 34, _ => pm_in_mem pm_codA34
  | 35, _ => pm_in_mem pm_codA35
  | 36, _ => pm_in_mem pm_codA36
  | 37, _ => pm_in_mem pm_codA37
  | 38, _ => pm_in_mem pm_codA38
  | 39, _ => pm_in_mem pm_codA39
  | 40, _ => pm_in_mem pm_codA40
  | 41, _ => pm_in_mem pm_codA41
  | 42, _ => pm_in_mem pm_codA42
  | 43, _ => pm_in_mem pm_codA43
  | 44, _ => pm_in_mem pm_codA44
  | 45, _ => pm_in_mem pm_codA45
  | 46, _ => pm_in_mem pm_codA46
  | 47, _ => pm_in_mem pm_codA47
  | 48, _ => pm_in_mem pm_codA48
  | 49, _ => pm_in_mem pm_codA49
  | 50, _ => pm_in_mem pm_codA50
  | 51, _ => pm_in_mem pm_codA51
  | 52, _ => pm_in_mem pm_codA52
  | 53, _ => pm_in_mem pm_codA53
  | 54, _ => pm_in_mem pm_codA54
  | 55, _ => pm_in_mem pm_codA55
  | 56, _ => pm_in_mem pm_codA56
  | 57, _ => pm_in_mem pm_codA57
  | 58, _ => pm_in_mem pm_codA58
  | 59, _ => pm_in_mem pm_codA59
  | 60, _ => pm_in_mem pm_codA60
  | 61, _ => pm_in_mem pm_codA61
  | 62, _ => pm_in_mem pm_codA62
  | 63, _ => pm_in_mem pm_codA63
  | 64, _ => pm_in_mem pm_codA64
  | 65, _ => pm_in_mem pm_codA65
  | 66, _ => pm_in_mem pm_codA66
  | 67, _ => pm_in_mem pm_codA67
  | 68, _ => pm_in_mem pm_codA68
  | 69, _ => pm_in_mem pm_codA69
  | 70, _ => pm_in_mem pm_codA70
  | 71, _ => pm_in_mem pm_codA71
  | 72, _ => pm_in_mem pm_codA72
  | 73, _ => pm_in_mem pm_codA73
  | 74, _ => pm_in_mem pm_codA74
  | 75, _ => pm_in_mem pm_codA75
  | 76, _ => pm_in_mem pm_codA76
  | 77, _ => pm_in_mem pm_codA77
  | 78, _ => pm_in_mem pm_codA78
  | 79, _ => pm_in_mem pm_codA79
  | 80, _ => pm_in_mem pm_codA80
  | 81, _ => pm_in_mem pm_codA81
  | 82, _ => pm_in_mem pm_codA82
  | 83, _ => pm_in_mem pm_codA83
  | 84, _ => pm_in_mem pm_codA84
  | 85, _ => pm_in_mem pm_codA85
  | 86, _ => pm_in_mem pm_codA86
  | 87, _ => pm_in_mem pm_codA87
  | 88, _ => pm_in_mem pm_codA88
  | 89, _ => pm_in_mem pm_codA89
  | 90, _ => pm_in_mem pm_codA90
  | 91, _ => pm_in_mem pm_codA91
  | 92, _ => pm_in_mem pm_codA92
  | 93, _ => pm_in_mem pm_codA93
  | 94, _ => pm_in_mem pm_codA94
  | 95, _ => pm_in_mem pm_codA95
  | 96, _ => pm_in_mem pm_codA96
  | 97, _ => pm_in_mem pm_codA97
  | 98, _ => pm_in_mem pm_codA98
  | 99, _ => pm_in_mem pm_codA99
  | 100, _ => pm_in_mem pm_codA100
  | 101, _ => pm_in_mem pm_codA101
  | 102, _ => pm_in_mem pm_codA102
  | 103, _ => pm_in_mem pm_codA103
  | 104, _ => pm_in_mem pm_codA104
  | 105, _ => pm_in_mem pm_codA105
  | 106, _ => pm_in_mem pm_codA106
  | 107, _ => pm_in_mem pm_codA107
  | 108, _ => pm_in_mem pm_codA108
  | 109, _ => pm_in_mem pm_codA109
  | 110, _ => pm_in_mem pm_codA110
  | 111, _ => pm_in_mem pm_codA111
  | 112, _ => pm_in_mem pm_codA112
  | 113, _ => pm_in_mem pm_codA113
  | 114, _ => pm_in_mem pm_codA114
  | 115, _ => pm_in_mem pm_codA115
  | 116, _ => pm_in_mem pm_codA116
  | n + 117, h => absurd h (by simp [pm_hasc])
theorem pm_cal_chk {o x : Nat} {q : pm_C} (h : (pm_cals.getD o []).lookup x = some q) : pm_calchk o x q = true := by
  obtain ⟨r, h1, h2⟩ := pm_look h
  have hg : pm_cals.getD o [] = r := by rw [List.getD_eq_getElem?_getD, h1]; rfl
  have hlt : o < 9 := (List.getElem?_eq_some_iff.mp h1).1
  have h3 : ((pm_cals.getD o []).all fun z => pm_calchk o z.1 z.2) = true := by
    match o, hlt with
    | 0, _ => exact pm_calA0
    | 1, _ => exact pm_calA1
    | 2, _ => exact pm_calA2
    | 3, _ => exact pm_calA3
    | 4, _ => exact pm_calA4
    | 5, _ => exact pm_calA5
    | 6, _ => exact pm_calA6
    | 7, _ => exact pm_calA7
    | 8, _ => exact pm_calA8
  rw [hg] at h3
  exact List.all_eq_true.mp h3 (x, q) h2
theorem pm_cl_nm : ∀ o, o < 8 → ∃ r0 : vw_C, pm_cl[o]? = some r0 ∧ r0.1 = pm_onm o
  | 0, _ => ⟨_, rfl, rfl⟩
  | 1, _ => ⟨_, rfl, rfl⟩
  | 2, _ => ⟨_, rfl, rfl⟩
  | 3, _ => ⟨_, rfl, rfl⟩
  | 4, _ => ⟨_, rfl, rfl⟩
  | 5, _ => ⟨_, rfl, rfl⟩
  | 6, _ => ⟨_, rfl, rfl⟩
  | 7, _ => ⟨_, rfl, rfl⟩
  | n + 8, h => absurd h (by omega)
theorem pm_cal_ok0 {o x y a : Nat} (h : pm_cal o x = some (0, y, a)) : Cond.code (pm_y y) (pm_code y) (pm_maxL y) (pm_ret y) ∈ pm_T ∧ Cond.initialized (pm_y y).cls ∈ pm_T ∧ ((pm_y y).cls ≠ "java/lang/invoke/MethodHandle" ∧ (pm_y y).cls ≠ "java/lang/invoke/VarHandle" ∧ (parseMethodDescriptor (pm_y y).desc).map (fun d => d.parameters.length) = some (a - 1)) ∧ Cond.methodLink (pm_onm o) x (pm_y y) ∈ pm_T ∧ Cond.instanceMethod (pm_y y) ∈ pm_T ∧ Cond.selects (pm_y y).cls (pm_y y) (pm_y y) ∈ pm_T ∧ pm_oc y < 100 ∧ ∃ r0 : vw_C, pm_cl[pm_oc y]? = some r0 ∧ r0.1 = (pm_y y).cls := by
  obtain ⟨⟨k', y', a', n1, n2, n3, n4⟩, h1, h2⟩ := Option.map_eq_some_iff.mp h
  cases h2
  have h3 := pm_cal_chk h1
  simp only [pm_calchk, pm_d3, Bool.and_eq_true, decide_eq_true_eq, if_neg (show ¬ (0 : Nat) = 4 by decide), if_neg (show ¬ (0 : Nat) = 1 by decide), if_true] at h3
  obtain ⟨⟨c1, c2⟩, ⟨⟨⟨d1, d2⟩, d3⟩, c3⟩, ⟨c4, c5⟩, c6⟩ := h3
  refine ⟨pm_hasc_ok c1, pm_in_mem c2, ⟨d1, d2, d3⟩, pm_in_mem c4, pm_in_mem c3, pm_in_mem c5, Nat.lt_of_lt_of_le c6 (by decide), ?_⟩
  rw [pm_y_cls]
  exact pm_cl_nm _ c6
theorem pm_cal_ok1 {o x y a : Nat} (h : pm_cal o x = some (1, y, a)) : Cond.code (pm_y y) (pm_code y) (pm_maxL y) (pm_ret y) ∈ pm_T ∧ Cond.initialized (pm_y y).cls ∈ pm_T ∧ ((pm_y y).cls ≠ "java/lang/invoke/MethodHandle" ∧ (pm_y y).cls ≠ "java/lang/invoke/VarHandle" ∧ (parseMethodDescriptor (pm_y y).desc).map (fun d => d.parameters.length) = some a) ∧ Cond.methodLink (pm_onm o) x (pm_y y) ∈ pm_T ∧ Cond.static (pm_y y) ∈ pm_T := by
  obtain ⟨⟨k', y', a', n1, n2, n3, n4⟩, h1, h2⟩ := Option.map_eq_some_iff.mp h
  cases h2
  have h3 := pm_cal_chk h1
  simp only [pm_calchk, pm_d3, Bool.and_eq_true, decide_eq_true_eq, if_neg (show ¬ (1 : Nat) = 4 by decide), if_true] at h3
  obtain ⟨⟨c1, c2⟩, ⟨⟨⟨d1, d2⟩, d3⟩, c3⟩, c4⟩ := h3
  exact ⟨pm_hasc_ok c1, pm_in_mem c2, ⟨d1, d2, d3⟩, pm_in_mem c3, pm_in_mem c4⟩
theorem pm_cal_ok2 {o x y a : Nat} (h : pm_cal o x = some (2, y, a)) : (Cond.code (pm_y y) (pm_code y) (pm_maxL y) (pm_ret y) ∈ pm_T ∧ pm_ret y = none) ∧ Cond.initialized (pm_y y).cls ∈ pm_T ∧ ((pm_y y).cls ≠ "java/lang/invoke/MethodHandle" ∧ (pm_y y).cls ≠ "java/lang/invoke/VarHandle" ∧ (parseMethodDescriptor (pm_y y).desc).map (fun d => d.parameters.length) = some (a - 1)) ∧ Cond.methodLink (pm_onm o) x (pm_y y) ∈ pm_T ∧ Cond.instanceMethod (pm_y y) ∈ pm_T ∧ (pm_y y).name = "<init>" := by
  obtain ⟨⟨k', y', a', n1, n2, n3, n4⟩, h1, h2⟩ := Option.map_eq_some_iff.mp h
  cases h2
  have h3 := pm_cal_chk h1
  simp only [pm_calchk, pm_d3, Bool.and_eq_true, decide_eq_true_eq, if_neg (show ¬ (2 : Nat) = 4 by decide), if_neg (show ¬ (2 : Nat) = 1 by decide), if_neg (show ¬ (2 : Nat) = 0 by decide), if_true] at h3
  obtain ⟨⟨c1, c2⟩, ⟨⟨⟨d1, d2⟩, d3⟩, c3⟩, ⟨c4, c5⟩, c6⟩ := h3
  exact ⟨⟨pm_hasc_ok c1, c5⟩, pm_in_mem c2, ⟨d1, d2, d3⟩, pm_in_mem c6, pm_in_mem c3, c4⟩
theorem pm_cal_ok3 {o x y a : Nat} (h : pm_cal o x = some (3, y, a)) : (Cond.code (pm_y y) (pm_code y) (pm_maxL y) (pm_ret y) ∈ pm_T ∧ pm_ret y = none) ∧ Cond.initialized (pm_y y).cls ∈ pm_T ∧ ((pm_y y).cls ≠ "java/lang/invoke/MethodHandle" ∧ (pm_y y).cls ≠ "java/lang/invoke/VarHandle" ∧ (parseMethodDescriptor (pm_y y).desc).map (fun d => d.parameters.length) = some (a - 1)) ∧ ∃ host, Cond.methodLinkNest (pm_onm o) x (pm_y y) host ∈ pm_nest ∧ Cond.instanceMethod (pm_y y) ∈ pm_T ∧ (pm_y y).name = "<init>" := by
  obtain ⟨⟨k', y', a', n1, n2, n3, n4⟩, h1, h2⟩ := Option.map_eq_some_iff.mp h
  cases h2
  have h3 := pm_cal_chk h1
  simp only [pm_calchk, pm_d3, Bool.and_eq_true, decide_eq_true_eq, if_neg (show ¬ (3 : Nat) = 4 by decide), if_neg (show ¬ (3 : Nat) = 1 by decide), if_neg (show ¬ (3 : Nat) = 0 by decide), if_neg (show ¬ (3 : Nat) = 2 by decide), if_true] at h3
  obtain ⟨⟨c1, c2⟩, ⟨⟨⟨d1, d2⟩, d3⟩, c3⟩, ⟨c4, c5⟩, -, c6⟩ := h3
  obtain ⟨⟨z1, z2, z3, z4⟩, hz, hz2⟩ := List.any_eq_true.mp c6
  simp only [decide_eq_true_eq] at hz2
  obtain ⟨rfl, rfl, rfl⟩ := hz2
  exact ⟨⟨pm_hasc_ok c1, c5⟩, pm_in_mem c2, ⟨d1, d2, d3⟩, z4, List.mem_map.mpr ⟨_, hz, rfl⟩, pm_in_mem c3, c4⟩
theorem pm_obj1 : Cond.instanceMethod Lib.objectInit ∈ pm_T := pm_in_mem (n := 57) (by decide +kernel)
theorem pm_obj2 : Cond.code Lib.objectInit ⟨#[0xb1]⟩ 1 none ∈ pm_T := pm_in_mem (n := 58) (by decide +kernel)
theorem pm_cal_ok4 {o x : Nat} {q : Nat × Nat} (h : pm_cal o x = some (4, q)) : Cond.methodLink (pm_onm o) x Lib.objectInit ∈ pm_T ∧ Cond.instanceMethod Lib.objectInit ∈ pm_T ∧ Cond.code Lib.objectInit ⟨#[0xb1]⟩ 1 none ∈ pm_T := by
  obtain ⟨⟨k', y', a', n1, n2, n3, n4⟩, h1, h2⟩ := Option.map_eq_some_iff.mp h
  cases h2
  have h3 := pm_cal_chk h1
  simp only [pm_calchk, if_true] at h3
  exact ⟨pm_in_mem h3, pm_obj1, pm_obj2⟩
theorem pm_nest_form (w : Cond) (h : w ∈ pm_nest) : ∃ a i y hh, w = Cond.methodLinkNest a i y hh := by
  obtain ⟨q, -, rfl⟩ := List.mem_map.mp h
  exact ⟨_, _, _, _, rfl⟩
theorem pm_nest_tab (w : Cond) (h : w ∈ pm_nest) : w.onTables = true := by
  obtain ⟨a, i, y, hh, rfl⟩ := pm_nest_form w h
  rfl
