/-! SAFETY: told sentences: values -/
theorem WI_va {S T U : sS} {z ty : Int} (hH : HI S) (h : FR md_vo_tellNew S T) (hL : LEX T) (hc : Xi T 5 4 = Xi S 5 4 + 1) (ho : ∀ j, j ≠ 4 → Xi T 5 j = Xi S 5 j) (e : U = uI T 8 z.toNat (Int32.ofInt ty)) (hva : ∀ t, vals U t = vals S t + (if ty = t then 1 else 0)) (hb : vals S ty + 1 ≤ 8) (hW : WI S) : WI U := by
  have f := FR_e e
  have f2 : FR ((8, 9, z.toNat, z.toNat + 1) :: md_vo_tellNew) S U := fun k j hm => by
    unfold mdf at hm
    rw [List.any_cons, Bool.or_eq_false_iff] at hm
    obtain ⟨a1, a2, a3⟩ := h k j hm.2
    obtain ⟨b1, b2, b3⟩ := f k j (by unfold mdf; rw [List.any_cons, Bool.or_eq_false_iff]; exact ⟨hm.1, rfl⟩)
    exact ⟨b1.trans a1, b2.trans a2, b3.trans a3⟩
  have x5 : ∀ j, Xi U 5 j = Xi T 5 j := fun j => (f.cx 5 rfl j).1
  refine WI_g hH f2 rfl rfl rfl rfl rfl (LEX_FR f rfl rfl hL) (fun j => ?_) (by rw [x5]; exact ho 3 (by decide)) (fun t => ?_) hW
  · rw [x5]
    by_cases q : j = 4
    · rw [q, hc]; omega
    · rw [ho j q]; exact Int.le_refl _
  · rw [hva t]
    have w := hW.2.2.2.2.2.2.2 t
    by_cases q : ty = t
    · rw [if_pos q, ← q]; exact hb
    · rw [if_neg q]; omega

