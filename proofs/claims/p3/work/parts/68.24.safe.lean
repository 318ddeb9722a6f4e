/-! SAFETY: told sentences: ways, properties, contraries, actions, kinds -/
theorem tw_c {S T : sS} {r z : Int} {l : List rec} (h : FR l S T) (e : (kdis l kA && !(mdf l 1 3)) = true) (e2 : (kdis l [(877, 878)] && !(mdf l 876 7)) = true) (e5 : kdis l [(5, 6)] = true) (hn : z = 1 → mnV S r (ruF S r (Xi S 876 7)) = -1 → Xi T 891 9 = Xi S 891 9 + 1 ∧ Xi T 892 (Xi S 891 9).toNat = r ∧ Xi S 5 2 + Xi T 891 9 ≤ 24) (ho : z = 1 → mnV S r (ruF S r (Xi S 876 7)) ≠ -1 → mnV S r (ruF S r (Xi S 876 7)) / 256 = 2 ∧ Xi T 891 9 = Xi S 891 9) (h0 : 0 ≤ Xi S 891 9) (hz : z = 1) (hf : fob T r = -1) : Xi T 5 2 < 24 := by
  rw [fob_FR h e e2] at hf
  rw [(h.smk e5).x 5 rfl]
  by_cases q : mnV S r (ruF S r (Xi S 876 7)) = -1
  · have t := hn hz q
    omega
  · have t := (ho hz q).1
    unfold fob fnd at hf
    rw [if_pos t] at hf
    omega
theorem WI_on {S T : sS} {r : Int} (hH : HI S) (h : FR md_re_objectOrNew S T) (hL : LEX T) (hc : fob S r = -1 → Xi T 5 2 = Xi S 5 2 + 1) (hn : fob S r ≠ -1 → Xi T 5 2 = Xi S 5 2) (ho : ∀ j, j ≠ 2 → Xi T 5 j = Xi S 5 j) (hW : WI S) : WI T :=
  WI_g hH h rfl rfl rfl rfl rfl hL (fun j => by
    by_cases e : j = 2
    · rw [e]
      by_cases q : fob S r = -1
      · rw [hc q]; omega
      · rw [hn q]; exact Int.le_refl _
    · rw [ho j e]; exact Int.le_refl _) (ho 3 (by decide)) (VAL_fr h rfl (ho 4 (by decide)) hW.2.2.2.2.2.2.2) hW
theorem WI_can {l : List rec} {S T : sS} {n : Int} (hH : HI S) (h : FR l S T) (e3 : (kdis l kX && !(mdf l 20 1)) = true) (e4 : (kdis l kG && (!(mdf l 20 1) && (!(mdf l 246 8) && !(mdf l 246 5)))) = true) (e5 : kdis l [(12, 14)] = true) (e6 : (kdis l [(248, 272)] && !(mdf l 246 2)) = true) (e7 : (kdis l [(883, 884), (885, 887), (19, 20)] && !(mdf l 882 3)) = true) (e8 : kdis l [(8, 9)] = true) (hL : LEX T) (ho : ∀ j, j ≠ 3 → Xi T 5 j = Xi S 5 j) (h3 : Xi T 5 3 = Xi S 5 3 + 2) (hn : n = Xi S 5 3) (h11 : ∀ a : Nat, a ≠ n.toNat → a ≠ (n + 1).toNat → Xi T 11 a = Xi S 11 a) (hn1 : Xi T 11 n.toNat ≠ -1) (hn2 : Xi T 11 (n + 1).toNat ≠ -1) (hW : WI S) : WI T := by
  obtain ⟨w1, w2, w3, w4, w5, w6, w7, w8⟩ := hW
  have h5 : ∀ j, Xi S 5 j ≤ Xi T 5 j := fun j => by
    by_cases e : j = 3
    · rw [e, h3]; omega
    · rw [ho j e]; exact Int.le_refl _
  have g := FR_sG hH h e4 (h5 3) (h5 8)
  have k5 := h.smk e5
  simp only [Bool.and_eq_true, Bool.not_eq_true'] at e6 e7 e4
  have k6 := h.smk e6.1
  have k7 := h.smk e7.1
  have h24 : 0 ≤ Xi S 246 2 ∧ Xi S 246 2 ≤ 24 := hH.c _ _
  have h53 : 0 ≤ Xi S 5 3 ∧ Xi S 5 3 ≤ 24 := hH.c _ _
  refine ⟨hL, TX_FR h e3 w2, DEF_sG hH g (fun a ha => ⟨h11 a (by omega) (by omega), k5.x 12 rfl a, k5.x 13 rfl a⟩) (fun a h1 h2 => ?_) w3, RUL_sG hH g (fun i hi j => k6.x _ (inK_i (a := 248) (b := 272) (by decide) (by omega) (by omega)) j) (h.x 246 2 e6.2) w4, ?_, ?_, ?_, VAL_fr h e8 (ho 4 (by decide)) w8⟩
  · have e : a = n.toNat ∨ a = (n + 1).toNat := by omega
    rcases e with e | e <;> (rw [e]; assumption)
  · intro i hi
    rw [h.x 882 3 e7.2] at hi
    rw [k7.x 883 rfl, k7.x 885 rfl, k7.x 886 rfl, k7.x 19 rfl, ho 8 (by decide)]
    exact w5 i hi
  · obtain ⟨a, b⟩ := w6
    refine ⟨by rw [ho 8 (by decide)]; exact a, ?_⟩
    simp only [k7.x 19 rfl]
    exact b
  · unfold CC at *
    rw [h.x 246 5 e4.2.2.2, h.x 246 2 e6.2, h3]
    omega

