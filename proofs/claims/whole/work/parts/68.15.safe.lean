/-! SAFETY: commands; writes as frames -/
theorem FR_e {S U : sS} {k j : Nat} {v : Int32} (e : U = uI S k j v) : FR [(k, k + 1, j, j + 1)] S U := by
  rw [e]
  exact FR.wI FR.rf (mdf_i (List.mem_cons_self) (inR_i (Nat.le_refl k) (by omega) (Nat.le_refl j) (by omega)))
theorem FR_J {S U : sS} {k j : Nat} {v : Int64} (e : U = uJ S k j v) : FR [(k, k + 1, j, j + 1)] S U := by
  rw [e]
  exact FR.wJ FR.rf (mdf_i (List.mem_cons_self) (inR_i (Nat.le_refl k) (by omega) (Nat.le_refl j) (by omega)))
def CMD (S : sS) : Prop := ∀ i : Nat, (i : Int) < Xi S 882 3 → (Xi S 885 i = -1 → Xi S 19 (Xi S 883 i).toNat = -1) ∧ (Xi S 19 (Xi S 883 i).toNat = -2 → Xi S 886 i = -2)
theorem CMD_FR {l : List rec} {S S1 : sS} (h : FR l S S1) (e : (kdis l [(19, 20), (883, 884), (885, 887)] && !(mdf l 882 3)) = true) (hC : CMD S) : CMD S1 := by
  simp only [Bool.and_eq_true, Bool.not_eq_true'] at e
  have k := h.smk e.1
  intro i hi
  rw [h.x 882 3 e.2] at hi
  rw [k.x 883 rfl, k.x 885 rfl, k.x 886 rfl, k.x 19 rfl]
  exact hC i hi
section SAFE
variable {lay : Nat → Nat × Nat} {d pc : Nat} {q : mT} {L : List (Nat × Value)} {st : List Value} {S : sS} {Q : pst}
def iushrF (x y : Int) : Int := ((Int32.ofInt x).toUInt32 >>> ((Int32.ofInt y).toUInt32 &&& Int32.toUInt32 31)).toInt32.toInt
theorem iushrF_rg {x y : Int} : -2147483648 ≤ iushrF x y ∧ iushrF x y ≤ 2147483647 := ⟨rg_toI.1, Int.le_of_lt_add_one rg_toI.2⟩
theorem l_iushrF {x y : Int} (hc : lk q.2.2.2.2.2 pc = some .iushr) (h : Rl lay d q (pc + 1) L (iv (iushrF x y) :: st) S Q) : Rl lay d q pc L (iv y :: iv x :: st) S Q :=
  Rl_s hc rfl (fun lv ha => ⟨lv, by
    show some (pc + 1, lv, Value.int (((Int32.ofInt x).toUInt32 >>> ((Int32.ofInt y).toUInt32 &&& Int32.toUInt32 31)).toInt32) :: st, S) = _
    unfold iv iushrF; rw [ofI_toI], ha⟩) h
end SAFE
