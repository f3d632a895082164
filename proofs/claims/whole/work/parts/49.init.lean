def gX0 : gS := fun kd _ _ => if kd = 1 ∨ kd = 3 ∨ kd = 5 ∨ kd = 7 ∨ kd = 8 ∨ kd = 11 ∨ kd = 12 ∨ (15 ≤ kd ∧ kd ≤ 21) then -1 else 0
def gM0 : gS := fun _ _ _ => 0
def gP0 : pm_H := [(0, [.null, .null, .null])]
def gP1 : pm_H := pm_cells gX0 gM0 sh_X
def gP2 : pm_H := gP1 ++ [(7, List.replicate 24 .null)]
theorem run_X : pm_run 2000 8 0 [.ref 1] gP0 = some (none, gP1) := by decide +kernel
theorem run_M : pm_run 2000 8 80 [.ref 152] gP2 = some (none, gE gX0 gM0) := by decide +kernel
theorem gP1_len : gP1.length = 151 := by decide +kernel
theorem gE_len (X M : gS) : (gE X M).length = 176 := by
  unfold gE pm_cells
  rw [List.length_map]
  decide +kernel
theorem cells_sl (X M : gS) (l : List (Nat × List pm_S)) : pm_sl (pm_cells X M l) = (l.map fun q => q.2.length).sum := by
  unfold pm_cells pm_sl
  rw [List.map_map]
  have e : ((fun q : Nat × List Value => q.2.length) ∘ fun q : Nat × List pm_S => (q.1, q.2.map (pm_val X M))) = fun q => q.2.length := by
    funext q
    simp
  rw [e]
theorem gE_sl (X M : gS) : pm_sl (gE X M) = (sh_T.map fun q => q.2.length).sum := cells_sl X M sh_T
theorem sh_sl : (sh_T.map fun q => q.2.length).sum ≤ 7130403 := by decide +kernel
