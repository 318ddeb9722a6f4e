/-! SAFETY: told sentences: actions -/
theorem WI_ac {S T U : sS} {z : Int} {v : Int32} (hH : HI S) (h : FR md_vo_tellNew S T) (hL : LEX T) (hc : Xi T 5 8 = Xi S 5 8 + 1) (ho : ∀ j, j ≠ 8 → Xi T 5 j = Xi S 5 j) (e : U = uI T 19 z.toNat v) (hz : z = Xi S 5 8) (hW : WI S) : WI U := by
  obtain ⟨w1, w2, w3, w4, w5, w6, w7, w8⟩ := hW
  have h8 : 0 ≤ Xi S 5 8 ∧ Xi S 5 8 ≤ 12 := hH.c _ _
  have f := FR_e e
  have k := h.smk (ks := [(8, 9), (11, 14), (19, 20), (66, 106), (107, 147), (148, 188), (248, 272), (274, 876), (883, 884), (885, 887), (902, 904)]) rfl
  have x5 : ∀ j, Xi U 5 j = Xi T 5 j := fun j => (f.cx 5 rfl j).1
  have x19 : ∀ j : Nat, (j : Int) < Xi S 5 8 → Xi U 19 j = Xi S 19 j := fun j hj => by
    rw [e, Xi_ne (by omega)]; exact k.x 19 rfl j
  have xx : ∀ a j, inK [(8, 9), (11, 14), (66, 106), (107, 147), (148, 188), (248, 272), (274, 876), (883, 884), (885, 887), (902, 904)] a = true → Xi U a j = Xi S a j := fun a j ha => by
    rw [e, Xi_ne (fun q => by rw [q.1] at ha; cases ha)]
    refine k.x a ?_ j
    obtain ⟨y, hy, h1⟩ := List.any_eq_true.mp ha
    exact List.any_eq_true.mpr ⟨y, by
      simp only [List.mem_cons, List.not_mem_nil, or_false] at hy ⊢
      rcases hy with hy | hy | hy | hy | hy | hy | hy | hy | hy | hy <;> simp [hy], h1⟩
  have x246 : ∀ j, Xi U 246 j = Xi S 246 j := fun j => by rw [(f.cx 246 rfl j).1]; exact (h.cx 246 rfl j).1
  have x882 : Xi U 882 3 = Xi S 882 3 := by rw [(f.cx 882 rfl 3).1]; exact (h.cx 882 rfl 3).1
  have t20 : U.2.2 20 1 = S.2.2 20 1 := by rw [e]; exact (h 20 1 rfl).2.2
  have h24 : 0 ≤ Xi S 246 2 ∧ Xi S 246 2 ≤ 24 := hH.c _ _
  have r8 : 0 ≤ Xi S 246 8 ∧ Xi S 246 8 ≤ 1666 := hH.c _ _
  have g : sG S U := by
    refine ⟨fun a j ha => ?_, t20, ⟨by rw [x246]; exact Int.le_refl _, by rw [x246]; exact r8.2, fun j _ => ⟨xx 274 j rfl, xx 275 j rfl⟩⟩, by rw [x5, ho 3 (by decide)]; exact Int.le_refl _, by rw [x5, hc]; omega, x19, by rw [x246]; exact Int.le_refl _, fun c hc1 _ j => xx (276 + c) j (inK_i (a := 274) (b := 876) (by decide) (by omega) (by omega))⟩
    have a1 := k a j (by
      obtain ⟨q, hq, h1⟩ := List.any_eq_true.mp ha
      rw [List.mem_singleton] at hq
      subst hq
      rw [Bool.and_eq_true] at h1
      exact inK_i (a := 902) (b := 904) (by decide) (Nat.le_of_ble_eq_true h1.1) (Nat.le_of_ble_eq_true h1.2))
    have hne : a ≠ 19 := fun q => by rw [q] at ha; cases ha
    have a2 : U.1 a j = T.1 a j ∧ U.2.1 a j = T.2.1 a j ∧ U.2.2 a j = T.2.2 a j := by
      refine f a j ?_
      unfold mdf inR
      simp only [List.any_cons, List.any_nil, Bool.or_false]
      rcases Nat.lt_or_gt_of_ne hne with q | q
      · rw [show Nat.ble 19 a = false from Bool.eq_false_iff.mpr (fun w => by have := Nat.le_of_ble_eq_true w; omega)]; rfl
      · rw [show Nat.blt a (19 + 1) = false from Bool.eq_false_iff.mpr (fun w => by have := Nat.le_of_ble_eq_true w; omega)]; simp
    exact ⟨a2.1.trans a1.1, a2.2.1.trans a1.2.1, a2.2.2.trans a1.2.2⟩
  refine ⟨LEX_FR f rfl rfl hL, fun r p hr hp hk => ?_, DEF_sG hH g (fun a _ => ⟨xx 11 a rfl, xx 12 a rfl, xx 13 a rfl⟩) (fun a h1 h2 => by rw [x5, ho 3 (by decide)] at h2; omega) w3, RUL_sG hH g (fun i hi j => xx (248 + i) j (inK_i (a := 248) (b := 272) (by decide) (by omega) (by omega))) (x246 2) w4, fun i hi => ?_, ?_, ?_, fun t => ?_⟩
  · rw [xx (66 + r) p (inK_i (a := 66) (b := 106) (by decide) (by omega) (by omega))] at hk
    rw [xx (107 + r) p (inK_i (a := 107) (b := 147) (by decide) (by omega) (by omega)), xx (148 + r) p (inK_i (a := 148) (b := 188) (by decide) (by omega) (by omega))]
    exact TXT_eq t20 (w2 r p hr hp hk)
  · rw [x882] at hi
    obtain ⟨a, b⟩ := w5 i hi
    have ra : 0 ≤ Xi S 883 i ∧ Xi S 883 i ≤ 11 := hH.c _ _
    rw [xx 883 i rfl, xx 885 i rfl, xx 886 i rfl, x19 _ (by omega), x5, hc]
    exact ⟨by omega, b⟩
  · obtain ⟨a, b0, b1, b2, b3, b4⟩ := w6
    unfold AK
    rw [x5, hc, x19 0 (by omega), x19 1 (by omega), x19 2 (by omega), x19 3 (by omega), x19 4 (by omega)]
    exact ⟨by omega, b0, b1, b2, b3, b4⟩
  · unfold CC at *
    rw [x246, x246, x5, ho 3 (by decide)]
    exact w7
  · rw [vals_fr (fun j => xx 8 j rfl) (by rw [x5]; exact ho 4 (by decide))]
    exact w8 t

