/-! SAFETY of methods: printed by wip/safe (vc.py, decl.py) -/
def DCM (S : sS) : Prop := ∀ a : Nat, (a : Int) < Xi S 904 23 → Xi S 924 a = 0 → Xi S 922 a ≠ -1
theorem DCM_FR {l : List rec} {S T : sS} (h : FR l S T) (e : (kdis l [(922, 923), (924, 925)] && mD l [23]) = true) (hC : DCM S) : DCM T := by
  rw [Bool.and_eq_true] at e
  have k := h.smk e.1
  unfold DCM
  rw [mD_x h e.2 23 (by decide)]
  simp only [k.x 922 rfl, k.x 924 rfl]
  exact hC
def md_mo_adjective : List rec := [(904, 905, 64, 65), (904, 905, 113, 114)]
