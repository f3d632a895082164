theorem pm_chunk {α : Type} {p : α → Bool} {l : List α} (n : Nat) (h1 : (l.take n).all p = true) (h2 : (l.drop n).all p = true) : l.all p = true := by
  rw [← List.take_append_drop n l, List.all_append, h1, h2]
  rfl
theorem pm_calA0_0 : (((pm_cals.getD 0 []).drop 0).take 10).all (fun z => pm_calchk 0 z.1 z.2) = true := by decide +kernel
theorem pm_calA0_1 : (((pm_cals.getD 0 []).drop 10).take 10).all (fun z => pm_calchk 0 z.1 z.2) = true := by decide +kernel
theorem pm_calA0_2 : (((pm_cals.getD 0 []).drop 20).take 10).all (fun z => pm_calchk 0 z.1 z.2) = true := by decide +kernel
theorem pm_calA0_3 : (((pm_cals.getD 0 []).drop 30).take 10).all (fun z => pm_calchk 0 z.1 z.2) = true := by decide +kernel
theorem pm_calA0_4 : (((pm_cals.getD 0 []).drop 40).take 10).all (fun z => pm_calchk 0 z.1 z.2) = true := by decide +kernel
theorem pm_calA0_5 : (((pm_cals.getD 0 []).drop 50).take 10).all (fun z => pm_calchk 0 z.1 z.2) = true := by decide +kernel
theorem pm_calA0_6 : (((pm_cals.getD 0 []).drop 60).take 10).all (fun z => pm_calchk 0 z.1 z.2) = true := by decide +kernel
theorem pm_calA0 : ((pm_cals.getD 0 []).all fun z => pm_calchk 0 z.1 z.2) = true := by
  refine pm_chunk 10 pm_calA0_0 ?_
  refine pm_chunk 10 pm_calA0_1 ?_
  rw [List.drop_drop]
  refine pm_chunk 10 pm_calA0_2 ?_
  rw [List.drop_drop]
  refine pm_chunk 10 pm_calA0_3 ?_
  rw [List.drop_drop]
  refine pm_chunk 10 pm_calA0_4 ?_
  rw [List.drop_drop]
  refine pm_chunk 10 pm_calA0_5 ?_
  rw [List.drop_drop]
  have h := pm_calA0_6
  rw [List.take_of_length_le (by decide)] at h
  exact h
theorem pm_calA1 : ((pm_cals.getD 1 []).all fun z => pm_calchk 1 z.1 z.2) = true := by decide +kernel
theorem pm_calA2 : ((pm_cals.getD 2 []).all fun z => pm_calchk 2 z.1 z.2) = true := by decide +kernel
theorem pm_calA3 : ((pm_cals.getD 3 []).all fun z => pm_calchk 3 z.1 z.2) = true := by decide +kernel
theorem pm_calA4 : ((pm_cals.getD 4 []).all fun z => pm_calchk 4 z.1 z.2) = true := by decide +kernel
theorem pm_calA5 : ((pm_cals.getD 5 []).all fun z => pm_calchk 5 z.1 z.2) = true := by decide +kernel
theorem pm_calA6 : ((pm_cals.getD 6 []).all fun z => pm_calchk 6 z.1 z.2) = true := by decide +kernel
theorem pm_calA7_0 : (((pm_cals.getD 7 []).drop 0).take 10).all (fun z => pm_calchk 7 z.1 z.2) = true := by decide +kernel
theorem pm_calA7_1 : (((pm_cals.getD 7 []).drop 10).take 10).all (fun z => pm_calchk 7 z.1 z.2) = true := by decide +kernel
theorem pm_calA7_2 : (((pm_cals.getD 7 []).drop 20).take 10).all (fun z => pm_calchk 7 z.1 z.2) = true := by decide +kernel
theorem pm_calA7 : ((pm_cals.getD 7 []).all fun z => pm_calchk 7 z.1 z.2) = true := by
  refine pm_chunk 10 pm_calA7_0 ?_
  refine pm_chunk 10 pm_calA7_1 ?_
  rw [List.drop_drop]
  have h := pm_calA7_2
  rw [List.take_of_length_le (by decide)] at h
  exact h
theorem pm_calA8_0 : (((pm_cals.getD 8 []).drop 0).take 10).all (fun z => pm_calchk 8 z.1 z.2) = true := by decide +kernel
theorem pm_calA8_1 : (((pm_cals.getD 8 []).drop 10).take 10).all (fun z => pm_calchk 8 z.1 z.2) = true := by decide +kernel
theorem pm_calA8_2 : (((pm_cals.getD 8 []).drop 20).take 10).all (fun z => pm_calchk 8 z.1 z.2) = true := by decide +kernel
theorem pm_calA8_3 : (((pm_cals.getD 8 []).drop 30).take 10).all (fun z => pm_calchk 8 z.1 z.2) = true := by decide +kernel
theorem pm_calA8_4 : (((pm_cals.getD 8 []).drop 40).take 10).all (fun z => pm_calchk 8 z.1 z.2) = true := by decide +kernel
theorem pm_calA8 : ((pm_cals.getD 8 []).all fun z => pm_calchk 8 z.1 z.2) = true := by
  refine pm_chunk 10 pm_calA8_0 ?_
  refine pm_chunk 10 pm_calA8_1 ?_
  rw [List.drop_drop]
  refine pm_chunk 10 pm_calA8_2 ?_
  rw [List.drop_drop]
  refine pm_chunk 10 pm_calA8_3 ?_
  rw [List.drop_drop]
  have h := pm_calA8_4
  rw [List.take_of_length_le (by decide)] at h
  exact h
