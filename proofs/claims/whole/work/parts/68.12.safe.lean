/-! SAFETY: turns -/
theorem TX_w {S U : sS} {k j : Nat} {v : Int32} (e : U = uI S k j v) (hk : inK kX k = false) (hX : TX S) : TX U := by
  have ne : ∀ a b, inK kX a = true → Xi U a b = Xi S a b := fun a b h => by
    rw [e]; exact Xi_ne (fun q => by rw [q.1, hk] at h; cases h)
  have t20 : U.2.2 20 1 = S.2.2 20 1 := by rw [e]; rfl
  intro r p hr hp hq
  rw [ne _ _ (inK_i (a := 66) (b := 106) (by decide) (by omega) (by omega))] at hq
  rw [ne 5 _ rfl, ne 9 _ rfl, ne _ _ (inK_i (a := 107) (b := 147) (by decide) (by omega) (by omega)), ne _ _ (inK_i (a := 148) (b := 188) (by decide) (by omega) (by omega))]
  exact ⟨(hX r p hr hp hq).1, fun q => TXT_eq t20 ((hX r p hr hp hq).2 q)⟩
