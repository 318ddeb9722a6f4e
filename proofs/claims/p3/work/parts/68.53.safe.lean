/-! SAFETY of methods: printed by wip/safe (vc.py, decl.py) -/
def md_rr_ruleHead : List rec := [(246, 247, 5, 6), (248, 272, 0, 100000), (276, 876, 0, 1), (276, 876, 1, 2), (276, 876, 2, 3), (276, 876, 3, 4), (276, 876, 4, 5), (276, 876, 5, 6), (276, 876, 6, 7), (876, 877, 8, 9), (876, 877, 9, 10), (895, 896, 3, 4), (895, 896, 4, 5), (895, 896, 5, 6), (895, 896, 6, 7), (895, 896, 7, 8), (895, 896, 8, 9), (895, 896, 9, 10), (895, 896, 12, 13), (895, 896, 13, 14), (895, 896, 14, 15), (896, 897, 0, 100000), (897, 898, 0, 100000), (898, 899, 0, 100000), (899, 900, 4, 5), (899, 900, 5, 6)]
abbrev Q_rr_ruleHead (S : sS) (sort : Int) : pst := fun r S1 => HI S1 ∧ FR md_rr_ruleHead S S1 ∧ (∃ z : Int, r = some (iv z) ∧ (0 ≤ z ∧ z ≤ 1) ∧ (z = 1 → sG S S1) ∧ (z = 1 → KRU S S1 (Xi S 246 2).toNat) ∧ (z = 1 → S1.2.2 899 4 = some (248 + (Xi S 246 2).toNat)) ∧ (z = 1 → Xi S 246 2 < 24) ∧ (z = 1 → RB S1 (Xi S 246 2).toNat (Xi S 246 5) 0 0) ∧ (z = 1 → Xi S1 (248 + (Xi S 246 2).toNat) 5 = 0 ∧ Xi S1 (248 + (Xi S 246 2).toNat) 6 = 0) ∧ (z = 0 → Xi S1 876 8 ≠ 0))
set_option maxRecDepth 100000 in
theorem t_rr_ruleHead {S : sS} (hH : HI S) (sort : Int) (hsort : 3 ≤ sort ∧ sort ≤ 6) (hL : LEX S) (hn : Xi S 246 2 < 24 → Xi S 246 5 + 5 ≤ 600) (d : Nat) : Mt lay0 (d + 6) m_rr_ruleHead [.ref 899, iv sort] S (Q_rr_ruleHead S sort) := by
  refine Mt_R rfl rfl ?_
  have hF : FR md_rr_ruleHead S S := FR.rf
  have w1 : 0 ≤ Xi S 246 2 ∧ Xi S 246 2 ≤ 24 := hH.c _ _
  have w2 : 0 ≤ Xi S 246 5 ∧ Xi S 246 5 ≤ 200000 := hH.c _ _
  have w3 : 0 ≤ Xi S 5 8 ∧ Xi S 5 8 ≤ 12 := hH.c _ _
  have w4 : -1 ≤ Xi S 895 4 ∧ Xi S 895 4 ≤ 15 := hH.c _ _
  have w5 : -1 ≤ Xi S 899 5 ∧ Xi S 899 5 ≤ 5131 := hH.c _ _
  have C67 : ∀  (T1 : sS) (_ : HI T1) (_ : FR md_rr_ruleHead S T1), (sG S T1) → (KRU S T1 (Xi S 246 2).toNat) → (T1.2.2 899 4 = some (248 + (Xi S 246 2).toNat)) → (Xi S 246 2 < 24) → (Xi T1 (248 + (Xi S 246 2).toNat) 1 = -1 ∧ Xi T1 (248 + (Xi S 246 2).toNat) 2 = -1 ∧ Xi T1 (248 + (Xi S 246 2).toNat) 3 = -1 ∧ Xi T1 (248 + (Xi S 246 2).toNat) 4 = 0 ∧ Xi T1 (248 + (Xi S 246 2).toNat) 5 = 0 ∧ Xi T1 (248 + (Xi S 246 2).toNat) 6 = 0 ∧ Xi T1 (248 + (Xi S 246 2).toNat) 7 = Xi S 246 5) → (Xi T1 246 5 = Xi S 246 5) → (Xi T1 895 4 = -1) → (0 ≤ Xi T1 5 8) → (1 ≤ Xi T1 899 5 ∧ Xi T1 899 5 ≤ 2) → Rl lay0 (d + 5) m_rr_ruleHead 67 [(0, .ref 899), (1, iv sort)] [] T1 (Q_rr_ruleHead S sort) := by
    intro T1 hHT1 hFT1 hg67 hq67 hru67 hl67 hx67 w6 w7 hz67 w8
    have w9 : Xi T1 246 2 = Xi S 246 2 := hFT1.x _ _ rfl
    have w10 : Xi T1 5 8 = Xi S 5 8 := hFT1.x _ _ rfl
    have w11 : Xi T1 876 7 = Xi S 876 7 := hFT1.x _ _ rfl
    have w12 : 0 ≤ Xi T1 246 5 ∧ Xi T1 246 5 ≤ 200000 := hHT1.c _ _
    have w13 : 0 ≤ Xi T1 5 8 ∧ Xi T1 5 8 ≤ 12 := hHT1.c _ _
    have w14 : -1 ≤ Xi T1 895 4 ∧ Xi T1 895 4 ≤ 15 := hHT1.c _ _
    have w15 : -1 ≤ Xi T1 899 5 ∧ Xi T1 899 5 ≤ 5131 := hHT1.c _ _
    have C151 : ∀  (T2 : sS) (_ : HI T2) (_ : FR md_rr_ruleHead S T2), (sG S T2) → (KRU S T2 (Xi S 246 2).toNat) → (T2.2.2 899 4 = some (248 + (Xi S 246 2).toNat)) → (Xi S 246 2 < 24) → (0 ≤ Xi T2 (248 + (Xi S 246 2).toNat) 1 ∧ Xi T2 (248 + (Xi S 246 2).toNat) 1 < Xi T2 5 8) → ((Xi T2 (248 + (Xi S 246 2).toNat) 2 ≠ -1 ∨ Xi T2 (248 + (Xi S 246 2).toNat) 3 ≠ -1 ∨ 0 < Xi T2 (248 + (Xi S 246 2).toNat) 4) → 0 ≤ Xi T2 19 (Xi T2 (248 + (Xi S 246 2).toNat) 1).toNat) → (∀ i : Nat, (i : Int) < Xi T2 (248 + (Xi S 246 2).toNat) 4 → TSok T2 True ((Xi S 246 5).toNat + i)) → (Xi T2 246 5 = Xi S 246 5 + Xi T2 (248 + (Xi S 246 2).toNat) 4) → (Xi T2 (248 + (Xi S 246 2).toNat) 7 = Xi S 246 5 ∧ Xi T2 (248 + (Xi S 246 2).toNat) 5 = 0 ∧ Xi T2 (248 + (Xi S 246 2).toNat) 6 = 0) → Rl lay0 (d + 5) m_rr_ruleHead 151 [(0, .ref 899)] [] T2 (Q_rr_ruleHead S sort) := by
      intro T2 hHT2 hFT2 hg151 hq151 hru151 hl151 ha151 hm151 ht151 w16 w17
      have w18 : Xi T2 246 2 = Xi S 246 2 := hFT2.x _ _ rfl
      have w19 : Xi T2 5 8 = Xi S 5 8 := hFT2.x _ _ rfl
      have w20 : Xi T2 876 7 = Xi S 876 7 := hFT2.x _ _ rfl
      have w21 : 0 ≤ Xi T2 246 5 ∧ Xi T2 246 5 ≤ 200000 := hHT2.c _ _
      have w22 : 0 ≤ Xi T2 5 8 ∧ Xi T2 5 8 ≤ 12 := hHT2.c _ _
      refine l_aload_n rfl rfl ?_
      have w23 : 0 ≤ Xi T2 246 2 ∧ Xi T2 246 2 ≤ 24 := hHT2.c _ _
      have w24 : 0 ≤ Xi T2 246 5 ∧ Xi T2 246 5 ≤ 200000 := hHT2.c _ _
      have w25 : 0 ≤ Xi T2 5 8 ∧ Xi T2 5 8 ≤ 12 := hHT2.c _ _
      have w26 : -1 ≤ Xi T2 895 4 ∧ Xi T2 895 4 ≤ 15 := hHT2.c _ _
      refine l_callV rfl rfl rfl (t_rr_nameNoun hHT2 (Xi S 246 2).toNat hru151 (by omega) (ha151) (fun q => hm151 (Or.inl q)) (fun q => hm151 (Or.inr (Or.inl q))) _) ?_
      rintro _ T3 ⟨hHT3, w29, rfl, w27⟩
      have hFT3 : FR md_rr_ruleHead S T3 := FR.tr hFT2 w29 rfl
      show Rl _ _ _ _ _ [] _ _
      have rT3_1 : Xi T3 (248 + (Xi S 246 2).toNat) 1 = Xi T2 (248 + (Xi S 246 2).toNat) 1 := FR_ru w29 rfl (by omega)
      have rT3_2 : Xi T3 (248 + (Xi S 246 2).toNat) 2 = Xi T2 (248 + (Xi S 246 2).toNat) 2 := FR_ru w29 rfl (by omega)
      have rT3_3 : Xi T3 (248 + (Xi S 246 2).toNat) 3 = Xi T2 (248 + (Xi S 246 2).toNat) 3 := FR_ru w29 rfl (by omega)
      have rT3_4 : Xi T3 (248 + (Xi S 246 2).toNat) 4 = Xi T2 (248 + (Xi S 246 2).toNat) 4 := FR_ru w29 rfl (by omega)
      have rT3_5 : Xi T3 (248 + (Xi S 246 2).toNat) 5 = Xi T2 (248 + (Xi S 246 2).toNat) 5 := FR_ru w29 rfl (by omega)
      have rT3_6 : Xi T3 (248 + (Xi S 246 2).toNat) 6 = Xi T2 (248 + (Xi S 246 2).toNat) 6 := FR_ru w29 rfl (by omega)
      have rT3_7 : Xi T3 (248 + (Xi S 246 2).toNat) 7 = Xi T2 (248 + (Xi S 246 2).toNat) 7 := FR_ru w29 rfl (by omega)
      have s152 : 0 ≤ Xi T3 895 4 → Xi T2 19 (Xi T2 (248 + (Xi S 246 2).toNat) 1).toNat ≠ -1 := by assumption
      have e152 : ∀ j, Xi T3 19 j = Xi T2 19 j := fun j => ((by assumption : FR md_rr_nameNoun T2 T3).cx 19 rfl j).1
      have r152 : 0 ≤ Xi T3 (248 + (Xi S 246 2).toNat) 4 ∧ Xi T3 (248 + (Xi S 246 2).toNat) 4 ≤ 5 := ruc4 hHT3 (by omega)
      have t152 : ∀ i : Nat, (i : Int) < Xi T3 (248 + (Xi S 246 2).toNat) 4 → TSok T3 True ((Xi S 246 5).toNat + i) := fun i hi => TSok_f hHT2 (by assumption : FR md_rr_nameNoun T2 T3) rfl rfl rfl (by omega) (ht151 i (by omega))
      have f152 : Xi T3 5 8 = Xi T2 5 8 := (by assumption : FR md_rr_nameNoun T2 T3).x 5 8 rfl
      have h152 : Xi T3 246 5 = Xi T2 246 5 := (by assumption : FR md_rr_nameNoun T2 T3).x 246 5 rfl
      have b152 : RB T3 (Xi S 246 2).toNat (Xi S 246 5) 0 0 := rb_0 (by omega) (by omega) (by omega) (by omega) (fun q => ⟨by omega, by rw [show Xi T3 (248 + (Xi S 246 2).toNat) 1 = Xi T2 (248 + (Xi S 246 2).toNat) 1 by omega, e152]; have := hm151 (Or.inr (Or.inl (by omega))); omega⟩) (fun q => ⟨by omega, by rw [show Xi T3 (248 + (Xi S 246 2).toNat) 1 = Xi T2 (248 + (Xi S 246 2).toNat) 1 by omega, e152]; exact s152 q⟩) t152 (fun q => ⟨by omega, by rw [show Xi T3 (248 + (Xi S 246 2).toNat) 1 = Xi T2 (248 + (Xi S 246 2).toNat) 1 by omega, e152]; have := hm151 (Or.inr (Or.inr (by omega))); omega⟩)
      refine l_iconst rfl ?_
      refine l_ireturn rfl rfl ?_
      have w30 : Xi T3 246 2 = Xi T2 246 2 := (show Xi T3 246 2 = Xi T2 246 2 from w29.x _ _ rfl)
      have w31 : 0 ≤ Xi T2 246 2 ∧ Xi T2 246 2 ≤ 24 := hHT2.c _ _
      have w32 : Xi T3 246 5 = Xi T2 246 5 := (show Xi T3 246 5 = Xi T2 246 5 from w29.x _ _ rfl)
      have w33 : 0 ≤ Xi T2 246 5 ∧ Xi T2 246 5 ≤ 200000 := hHT2.c _ _
      have w34 : Xi T3 876 8 = Xi T2 876 8 := (show Xi T3 876 8 = Xi T2 876 8 from w29.x _ _ rfl)
      have w35 : 0 ≤ Xi T2 876 8 ∧ Xi T2 876 8 ≤ 9 := hHT2.c _ _
      have w36 : -1 ≤ Xi T3 895 4 ∧ Xi T3 895 4 ≤ 15 := hHT3.c _ _
      exact ⟨hHT3, hFT3, _, rfl, ⟨by omega, by omega⟩, (fun q => by first | (exfalso; omega) | exact hg67 | exact sG.tr hg151 (FR_sG hHT2 (by assumption : FR md_rr_nameNoun T2 T3) rfl (by rw [((by assumption : FR md_rr_nameNoun T2 T3).x 5 3 rfl)]; exact Int.le_refl _) (by rw [f152]; exact Int.le_refl _))), (fun q => by first | (exfalso; omega) | exact (kru_f w29 rfl hq151)), (fun q => by first | (exfalso; omega) | exact ((w29 899 4 rfl).2.2.trans hru151)), (by omega), (fun q => by first | (exfalso; omega) | exact b152 | exact rb_0 (by omega) (by omega) (by omega) (by omega) (fun q => by omega) (fun q => by omega) (fun i hi => by omega) (fun q => by omega)), (by omega), (fun q => by first | omega | (exfalso; omega))⟩
    refine l_iload_n rfl rfl ?_
    refine l_bipush rfl rfl ?_
    refine l_icmp_eq rfl rfl (by unfold rg; omega) (by unfold rg; omega) (fun w37 => ?_) (fun w38 => ?_)
    · refine l_iconst rfl ?_
      refine l_ireturn rfl rfl ?_
      have w39 : 0 ≤ Xi T1 246 2 ∧ Xi T1 246 2 ≤ 24 := hHT1.c _ _
      have w40 : 0 ≤ Xi T1 246 5 ∧ Xi T1 246 5 ≤ 200000 := hHT1.c _ _
      have w41 : 0 ≤ Xi T1 876 8 ∧ Xi T1 876 8 ≤ 9 := hHT1.c _ _
      have w42 : -1 ≤ Xi T1 895 4 ∧ Xi T1 895 4 ≤ 15 := hHT1.c _ _
      exact ⟨hHT1, hFT1, _, rfl, ⟨by omega, by omega⟩, (fun q => by first | (exfalso; omega) | exact hg67 | exact sG.tr hg151 (FR_sG hHT1 (by assumption : FR md_rr_nameNoun T1 T1) rfl (by rw [((by assumption : FR md_rr_nameNoun T1 T1).x 5 3 rfl)]; exact Int.le_refl _) (by rw [f152]; exact Int.le_refl _))), (fun q => by first | (exfalso; omega) | exact hq67), (fun q => by first | (exfalso; omega) | exact hru67), (by omega), (fun q => by first | (exfalso; omega) | exact b152 | exact rb_0 (by omega) (by omega) (by omega) (by omega) (fun q => by omega) (fun q => by omega) (fun i hi => by omega) (fun q => by omega)), (by omega), (fun q => by first | omega | (exfalso; omega))⟩
    · refine l_aload_n rfl rfl ?_
      refine l_gfi rfl rfl rfl rfl rfl ?_
      refine l_istore_n rfl rfl rfl ?_
      refine l_aload_n rfl rfl ?_
      refine l_gfr rfl rfl rfl rfl rfl (hHT1.r 899 0 876 rfl) ?_
      refine l_iload_n rfl rfl ?_
      have w43 : 0 ≤ Xi T1 246 2 ∧ Xi T1 246 2 ≤ 24 := hHT1.c _ _
      have w44 : 0 ≤ Xi T1 246 5 ∧ Xi T1 246 5 ≤ 200000 := hHT1.c _ _
      have w45 : 0 ≤ Xi T1 876 7 ∧ Xi T1 876 7 ≤ 5125 := hHT1.c _ _
      have w46 : -1 ≤ Xi T1 895 4 ∧ Xi T1 895 4 ≤ 15 := hHT1.c _ _
      refine l_callV rfl rfl rfl (t_to_runEnd hHT1 (Xi T1 899 5) ⟨by omega, by omega⟩ _) ?_
      rintro _ _ ⟨rfl, z54, rfl, w54, w47, w48, w49, w50, w51, w52, w53⟩
      clear w49 w50 w51 w52
      show Rl _ _ _ _ _ [iv z54] _ _
      refine l_istore_n rfl rfl rfl ?_
      refine l_aload_n rfl rfl ?_
      refine l_gfr rfl rfl rfl rfl rfl (hHT1.r 899 0 876 rfl) ?_
      refine l_iload_n rfl rfl ?_
      have w55 : 0 ≤ Xi T1 246 2 ∧ Xi T1 246 2 ≤ 24 := hHT1.c _ _
      have w56 : 0 ≤ Xi T1 246 5 ∧ Xi T1 246 5 ≤ 200000 := hHT1.c _ _
      have w57 : 0 ≤ Xi T1 876 7 ∧ Xi T1 876 7 ≤ 5125 := hHT1.c _ _
      have w58 : -1 ≤ Xi T1 895 4 ∧ Xi T1 895 4 ≤ 15 := hHT1.c _ _
      refine l_callV rfl rfl rfl (t_to_typeAt hHT1 z54 ⟨by omega, by omega⟩ _) ?_
      rintro _ _ ⟨rfl, z62, rfl, w62, w59, w60, w61⟩
      clear w60 w61
      show Rl _ _ _ _ _ [iv z62] _ _
      have w63 : 0 ≤ Xi T1 246 2 ∧ Xi T1 246 2 ≤ 24 := hHT1.c _ _
      have w64 : 0 ≤ Xi T1 246 5 ∧ Xi T1 246 5 ≤ 200000 := hHT1.c _ _
      have w65 : -1 ≤ Xi T1 895 4 ∧ Xi T1 895 4 ≤ 15 := hHT1.c _ _
      refine l_callS rfl rfl (by decide) rfl (t_rs_isArt hHT1 z62 ⟨by omega, by omega⟩ _) ?_
      rintro _ _ ⟨rfl, z67, rfl, w67, w66⟩
      show Rl _ _ _ _ _ [iv z67] _ _
      refine l_istore rfl rfl rfl ?_
      refine l_aload_n rfl rfl ?_
      refine l_iload rfl rfl ?_
      refine l_if_eq rfl rfl (by unfold rg; omega) (fun w68 => ?_) (fun w69 => ?_)
      · refine l_iload_n rfl rfl ?_
        refine l_pfi rfl rfl rfl rfl ?_
        obtain ⟨U4, eU4⟩ : ∃ T : sS, T = uI T1 899 5 (Int32.ofInt z54) := ⟨_, rfl⟩
        rw [← eU4]
        have hHU4 : HI U4 := by rw [eU4]; exact HI_w hHT1 (show -1 ≤ z54 by omega) (show z54 ≤ 5131 by omega)
        have hFU4 : FR md_rr_ruleHead S U4 := by rw [eU4]; exact FR.wI hFT1 (mdf_i (r := (899, 900, 5, 6)) (List.mem_of_getElem? (i := 25) rfl) (inR_i (by omega) (by omega) (by omega) (by omega)))
        have w70 : Xi U4 899 5 = z54 := by rw [eU4]; exact Xi_same (by unfold rg; omega)
        have rU4_1 : Xi U4 (248 + (Xi S 246 2).toNat) 1 = Xi T1 (248 + (Xi S 246 2).toNat) 1 := by rw [eU4, Xi_ne (by omega)]
        have rU4_2 : Xi U4 (248 + (Xi S 246 2).toNat) 2 = Xi T1 (248 + (Xi S 246 2).toNat) 2 := by rw [eU4, Xi_ne (by omega)]
        have rU4_3 : Xi U4 (248 + (Xi S 246 2).toNat) 3 = Xi T1 (248 + (Xi S 246 2).toNat) 3 := by rw [eU4, Xi_ne (by omega)]
        have rU4_4 : Xi U4 (248 + (Xi S 246 2).toNat) 4 = Xi T1 (248 + (Xi S 246 2).toNat) 4 := by rw [eU4, Xi_ne (by omega)]
        have rU4_5 : Xi U4 (248 + (Xi S 246 2).toNat) 5 = Xi T1 (248 + (Xi S 246 2).toNat) 5 := by rw [eU4, Xi_ne (by omega)]
        have rU4_6 : Xi U4 (248 + (Xi S 246 2).toNat) 6 = Xi T1 (248 + (Xi S 246 2).toNat) 6 := by rw [eU4, Xi_ne (by omega)]
        have rU4_7 : Xi U4 (248 + (Xi S 246 2).toNat) 7 = Xi T1 (248 + (Xi S 246 2).toNat) 7 := by rw [eU4, Xi_ne (by omega)]
        have g120 : sG T1 U4 := FR_sG hHT1 (FR_e eU4) rfl (by rw [((FR_e eU4).x 5 3 rfl)]; exact Int.le_refl _) (by rw [((FR_e eU4).x 5 8 rfl)]; exact Int.le_refl _)
        refine l_iload rfl rfl ?_
        refine l_if_eq rfl rfl (by unfold rg; omega) (fun w71 => ?_) (fun w72 => ?_)
        · refine l_aload_n rfl rfl ?_
          refine l_iload_n rfl rfl ?_
          refine l_iload_n rfl rfl ?_
          have w73 : Xi U4 246 2 = Xi T1 246 2 := (show Xi U4 246 2 = Xi T1 246 2 from by rw [eU4]; exact Xi_ne (by omega))
          have w74 : 0 ≤ Xi T1 246 2 ∧ Xi T1 246 2 ≤ 24 := hHT1.c _ _
          have w75 : Xi U4 246 5 = Xi T1 246 5 := (show Xi U4 246 5 = Xi T1 246 5 from by rw [eU4]; exact Xi_ne (by omega))
          have w76 : 0 ≤ Xi T1 246 5 ∧ Xi T1 246 5 ≤ 200000 := hHT1.c _ _
          have w77 : Xi U4 895 4 = Xi T1 895 4 := (show Xi U4 895 4 = Xi T1 895 4 from by rw [eU4]; exact Xi_ne (by omega))
          have w78 : -1 ≤ Xi T1 895 4 ∧ Xi T1 895 4 ≤ 15 := hHT1.c _ _
          refine l_callV rfl rfl rfl (t_rr_actingAlone hHU4 (Xi S 246 2).toNat (Xi T1 899 5) z54 ⟨by omega, by omega⟩ ⟨by omega, by omega⟩ ((show U4.2.2 899 4 = T1.2.2 899 4 from by rw [eU4]; rfl).trans hru67) (by omega) (by first | assumption | exact (LEX_FR hFU4 rfl rfl (by assumption : LEX S))) _) ?_
          rintro _ T5 ⟨hHT5, w85, z84, rfl, w84, w79, w80, w81, w82, w83⟩
          have hFT5 : FR md_rr_ruleHead S T5 := FR.tr hFU4 w85 rfl
          show Rl _ _ _ _ _ [iv z84] _ _
          have a131 : z84 = 1 → 0 ≤ Xi T5 (248 + (Xi S 246 2).toNat) 1 ∧ Xi T5 (248 + (Xi S 246 2).toNat) 1 < Xi T5 5 8 := by assumption
          have h131 : Xi T5 246 5 = Xi U4 246 5 := (by assumption : FR md_rr_actingAlone U4 T5).x 246 5 rfl
          have n131 : z84 = 1 → Xi T5 (248 + (Xi S 246 2).toNat) 2 ≠ -1 → 0 ≤ Xi T5 19 (Xi T5 (248 + (Xi S 246 2).toNat) 1).toNat := by assumption
          have m131 : z84 = 1 → (Xi T5 (248 + (Xi S 246 2).toNat) 2 ≠ -1 ∨ Xi T5 (248 + (Xi S 246 2).toNat) 3 ≠ -1 ∨ 0 < Xi T5 (248 + (Xi S 246 2).toNat) 4) → 0 ≤ Xi T5 19 (Xi T5 (248 + (Xi S 246 2).toNat) 1).toNat := fun q e => n131 q (by omega)
          have t131 : z84 = 1 → ∀ i : Nat, (i : Int) < Xi T5 (248 + (Xi S 246 2).toNat) 4 → TSok T5 True ((Xi S 246 5).toNat + i) := fun q i hi => by omega
          have g131 : z84 = 1 → sG U4 T5 := fun _ => FR_sG hHU4 (by assumption : FR md_rr_actingAlone U4 T5) rfl (by rw [((by assumption : FR md_rr_actingAlone U4 T5).x 5 3 rfl)]; exact Int.le_refl _) (by rw [((by assumption : FR md_rr_actingAlone U4 T5).x 5 8 rfl)]; exact Int.le_refl _)
          have c131 : z84 = 1 → Xi T5 246 5 = Xi S 246 5 + Xi T5 (248 + (Xi S 246 2).toNat) 4 := by omega
          have d131 : z84 = 1 → Xi T5 (248 + (Xi S 246 2).toNat) 7 = Xi S 246 5 ∧ Xi T5 (248 + (Xi S 246 2).toNat) 5 = 0 ∧ Xi T5 (248 + (Xi S 246 2).toNat) 6 = 0 := by omega
          have q131 : KRU U4 T5 (Xi S 246 2).toNat := by assumption
          refine l_if_ne rfl rfl (by unfold rg; omega) (fun w86 => ?_) (fun w87 => ?_)
          · have w88 : Xi T5 246 2 = Xi T1 246 2 := (show Xi T5 246 2 = Xi U4 246 2 from w85.x _ _ rfl).trans ((show Xi U4 246 2 = Xi T1 246 2 from by rw [eU4]; exact Xi_ne (by omega)))
            have w89 : 0 ≤ Xi T1 246 2 ∧ Xi T1 246 2 ≤ 24 := hHT1.c _ _
            have w90 : Xi T5 246 5 = Xi T1 246 5 := (show Xi T5 246 5 = Xi U4 246 5 from w85.x _ _ rfl).trans ((show Xi U4 246 5 = Xi T1 246 5 from by rw [eU4]; exact Xi_ne (by omega)))
            have w91 : 0 ≤ Xi T1 246 5 ∧ Xi T1 246 5 ≤ 200000 := hHT1.c _ _
            have w92 : Xi T5 5 8 = Xi T1 5 8 := (show Xi T5 5 8 = Xi U4 5 8 from w85.x _ _ rfl).trans ((show Xi U4 5 8 = Xi T1 5 8 from by rw [eU4]; exact Xi_ne (by omega)))
            have w93 : 0 ≤ Xi T1 5 8 ∧ Xi T1 5 8 ≤ 12 := hHT1.c _ _
            have w94 : Xi T5 895 4 = Xi T1 895 4 := (show Xi T5 895 4 = Xi U4 895 4 from w85.x _ _ rfl).trans ((show Xi U4 895 4 = Xi T1 895 4 from by rw [eU4]; exact Xi_ne (by omega)))
            have w95 : -1 ≤ Xi T1 895 4 ∧ Xi T1 895 4 ≤ 15 := hHT1.c _ _
            exact Rl_weak (C151 T5 hHT5 hFT5  (sG.tr hg67 (sG.tr g120 (g131 (by omega)))) ((kru_tr (kru_o eU4 (by omega) hq67) (by assumption : KRU U4 T5 _))) (((w85 899 4 rfl).2.2.trans ((show U4.2.2 899 4 = T1.2.2 899 4 from by rw [eU4]; rfl).trans hru67))) (by first | assumption | omega) (a131 (by omega)) (m131 (by omega)) (t131 (by omega)) (by omega) (by omega)) (And.intro rfl (True.intro))
          · refine l_iconst rfl ?_
            refine l_ireturn rfl rfl ?_
            have w96 : Xi T5 246 2 = Xi T1 246 2 := (show Xi T5 246 2 = Xi U4 246 2 from w85.x _ _ rfl).trans ((show Xi U4 246 2 = Xi T1 246 2 from by rw [eU4]; exact Xi_ne (by omega)))
            have w97 : 0 ≤ Xi T1 246 2 ∧ Xi T1 246 2 ≤ 24 := hHT1.c _ _
            have w98 : Xi T5 246 5 = Xi T1 246 5 := (show Xi T5 246 5 = Xi U4 246 5 from w85.x _ _ rfl).trans ((show Xi U4 246 5 = Xi T1 246 5 from by rw [eU4]; exact Xi_ne (by omega)))
            have w99 : 0 ≤ Xi T1 246 5 ∧ Xi T1 246 5 ≤ 200000 := hHT1.c _ _
            have w100 : 0 ≤ Xi T5 876 8 ∧ Xi T5 876 8 ≤ 9 := hHT5.c _ _
            have w101 : Xi T5 895 4 = Xi T1 895 4 := (show Xi T5 895 4 = Xi U4 895 4 from w85.x _ _ rfl).trans ((show Xi U4 895 4 = Xi T1 895 4 from by rw [eU4]; exact Xi_ne (by omega)))
            have w102 : -1 ≤ Xi T1 895 4 ∧ Xi T1 895 4 ≤ 15 := hHT1.c _ _
            exact ⟨hHT5, hFT5, _, rfl, ⟨by omega, by omega⟩, (fun q => by first | (exfalso; omega) | exact hg67 | exact sG.tr hg151 (FR_sG hHU4 (by assumption : FR md_rr_nameNoun U4 T5) rfl (by rw [((by assumption : FR md_rr_nameNoun U4 T5).x 5 3 rfl)]; exact Int.le_refl _) (by rw [f152]; exact Int.le_refl _))), (fun q => by first | (exfalso; omega) | exact (kru_tr (kru_o eU4 (by omega) hq67) (by assumption : KRU U4 T5 _))), (fun q => by first | (exfalso; omega) | exact ((w85 899 4 rfl).2.2.trans ((show U4.2.2 899 4 = T1.2.2 899 4 from by rw [eU4]; rfl).trans hru67))), (by omega), (fun q => by first | (exfalso; omega) | exact b152 | exact rb_0 (by omega) (by omega) (by omega) (by omega) (fun q => by omega) (fun q => by omega) (fun i hi => by omega) (fun q => by omega)), (by omega), (fun q => by first | omega | (exfalso; omega))⟩
        · refine l_aload_n rfl rfl ?_
          refine l_iload_n rfl rfl ?_
          refine l_iload_n rfl rfl ?_
          have w103 : Xi U4 246 2 = Xi T1 246 2 := (show Xi U4 246 2 = Xi T1 246 2 from by rw [eU4]; exact Xi_ne (by omega))
          have w104 : 0 ≤ Xi T1 246 2 ∧ Xi T1 246 2 ≤ 24 := hHT1.c _ _
          have w105 : Xi U4 246 5 = Xi T1 246 5 := (show Xi U4 246 5 = Xi T1 246 5 from by rw [eU4]; exact Xi_ne (by omega))
          have w106 : 0 ≤ Xi T1 246 5 ∧ Xi T1 246 5 ≤ 200000 := hHT1.c _ _
          have w107 : Xi U4 895 4 = Xi T1 895 4 := (show Xi U4 895 4 = Xi T1 895 4 from by rw [eU4]; exact Xi_ne (by omega))
          have w108 : -1 ≤ Xi T1 895 4 ∧ Xi T1 895 4 ≤ 15 := hHT1.c _ _
          have w109 : -1 ≤ Xi U4 899 5 ∧ Xi U4 899 5 ≤ 5131 := hHU4.c _ _
          refine l_callV rfl rfl rfl (t_rr_actingOn hHU4 (Xi S 246 2).toNat (Xi T1 899 5) z54 ⟨by omega, by omega⟩ ⟨by omega, by omega⟩ ((show U4.2.2 899 4 = T1.2.2 899 4 from by rw [eU4]; rfl).trans hru67) (by omega) (by first | assumption | exact (LEX_FR hFU4 rfl rfl (by assumption : LEX S))) (by first | assumption | omega) (by first | assumption | omega) (by first | assumption | omega) _) ?_
          rintro _ T6 ⟨hHT6, w119, z118, rfl, w118, w110, w111, w112, w113, w114, w115, w116, w117⟩
          have hFT6 : FR md_rr_ruleHead S T6 := FR.tr hFU4 w119 rfl
          show Rl _ _ _ _ _ [iv z118] _ _
          have a131 : z118 = 1 → 0 ≤ Xi T6 (248 + (Xi S 246 2).toNat) 1 ∧ Xi T6 (248 + (Xi S 246 2).toNat) 1 < Xi T6 5 8 := by assumption
          have n131 : z118 = 1 → 0 ≤ Xi T6 19 (Xi T6 (248 + (Xi S 246 2).toNat) 1).toNat := by assumption
          have m131 : z118 = 1 → (Xi T6 (248 + (Xi S 246 2).toNat) 2 ≠ -1 ∨ Xi T6 (248 + (Xi S 246 2).toNat) 3 ≠ -1 ∨ 0 < Xi T6 (248 + (Xi S 246 2).toNat) 4) → 0 ≤ Xi T6 19 (Xi T6 (248 + (Xi S 246 2).toNat) 1).toNat := fun q _ => n131 q
          have t131 : z118 = 1 → ∀ i : Nat, (i : Int) < Xi T6 (248 + (Xi S 246 2).toNat) 4 → TSok T6 True ((Xi S 246 5).toNat + i) := fun q i hi => by rw [show (Xi S 246 5).toNat = (Xi U4 246 5).toNat by omega]; exact (by assumption : z118 = 1 → ∀ i : Nat, (i : Int) < Xi T6 (248 + (Xi S 246 2).toNat) 4 → TSok T6 True ((Xi U4 246 5).toNat + i)) q i hi
          have g131 : z118 = 1 → sG U4 T6 := by assumption
          have c131 : z118 = 1 → Xi T6 246 5 = Xi S 246 5 + Xi T6 (248 + (Xi S 246 2).toNat) 4 := by omega
          have d131 : z118 = 1 → Xi T6 (248 + (Xi S 246 2).toNat) 7 = Xi S 246 5 ∧ Xi T6 (248 + (Xi S 246 2).toNat) 5 = 0 ∧ Xi T6 (248 + (Xi S 246 2).toNat) 6 = 0 := by omega
          have q131 : KRU U4 T6 (Xi S 246 2).toNat := by assumption
          refine l_if_eq rfl rfl (by unfold rg; omega) (fun w120 => ?_) (fun w121 => ?_)
          · refine l_iconst rfl ?_
            refine l_ireturn rfl rfl ?_
            have w122 : Xi T6 246 2 = Xi T1 246 2 := (show Xi T6 246 2 = Xi U4 246 2 from w119.x _ _ rfl).trans ((show Xi U4 246 2 = Xi T1 246 2 from by rw [eU4]; exact Xi_ne (by omega)))
            have w123 : 0 ≤ Xi T1 246 2 ∧ Xi T1 246 2 ≤ 24 := hHT1.c _ _
            have w124 : 0 ≤ Xi T6 246 5 ∧ Xi T6 246 5 ≤ 200000 := hHT6.c _ _
            have w125 : 0 ≤ Xi T6 876 8 ∧ Xi T6 876 8 ≤ 9 := hHT6.c _ _
            have w126 : Xi T6 895 4 = Xi T1 895 4 := (show Xi T6 895 4 = Xi U4 895 4 from w119.x _ _ rfl).trans ((show Xi U4 895 4 = Xi T1 895 4 from by rw [eU4]; exact Xi_ne (by omega)))
            have w127 : -1 ≤ Xi T1 895 4 ∧ Xi T1 895 4 ≤ 15 := hHT1.c _ _
            exact ⟨hHT6, hFT6, _, rfl, ⟨by omega, by omega⟩, (fun q => by first | (exfalso; omega) | exact hg67 | exact sG.tr hg151 (FR_sG hHU4 (by assumption : FR md_rr_nameNoun U4 T6) rfl (by rw [((by assumption : FR md_rr_nameNoun U4 T6).x 5 3 rfl)]; exact Int.le_refl _) (by rw [f152]; exact Int.le_refl _))), (fun q => by first | (exfalso; omega) | exact (kru_tr (kru_o eU4 (by omega) hq67) (by assumption : KRU U4 T6 _))), (fun q => by first | (exfalso; omega) | exact ((w119 899 4 rfl).2.2.trans ((show U4.2.2 899 4 = T1.2.2 899 4 from by rw [eU4]; rfl).trans hru67))), (by omega), (fun q => by first | (exfalso; omega) | exact b152 | exact rb_0 (by omega) (by omega) (by omega) (by omega) (fun q => by omega) (fun q => by omega) (fun i hi => by omega) (fun q => by omega)), (by omega), (fun q => by first | omega | (exfalso; omega))⟩
          · refine l_goto rfl rfl ?_
            have w128 : Xi T6 246 2 = Xi T1 246 2 := (show Xi T6 246 2 = Xi U4 246 2 from w119.x _ _ rfl).trans ((show Xi U4 246 2 = Xi T1 246 2 from by rw [eU4]; exact Xi_ne (by omega)))
            have w129 : 0 ≤ Xi T1 246 2 ∧ Xi T1 246 2 ≤ 24 := hHT1.c _ _
            have w130 : 0 ≤ Xi T6 246 5 ∧ Xi T6 246 5 ≤ 200000 := hHT6.c _ _
            have w131 : Xi T6 5 8 = Xi T1 5 8 := (show Xi T6 5 8 = Xi U4 5 8 from w119.x _ _ rfl).trans ((show Xi U4 5 8 = Xi T1 5 8 from by rw [eU4]; exact Xi_ne (by omega)))
            have w132 : 0 ≤ Xi T1 5 8 ∧ Xi T1 5 8 ≤ 12 := hHT1.c _ _
            have w133 : Xi T6 895 4 = Xi T1 895 4 := (show Xi T6 895 4 = Xi U4 895 4 from w119.x _ _ rfl).trans ((show Xi U4 895 4 = Xi T1 895 4 from by rw [eU4]; exact Xi_ne (by omega)))
            have w134 : -1 ≤ Xi T1 895 4 ∧ Xi T1 895 4 ≤ 15 := hHT1.c _ _
            exact Rl_weak (C151 T6 hHT6 hFT6  (sG.tr hg67 (sG.tr g120 (g131 (by omega)))) ((kru_tr (kru_o eU4 (by omega) hq67) (by assumption : KRU U4 T6 _))) (((w119 899 4 rfl).2.2.trans ((show U4.2.2 899 4 = T1.2.2 899 4 from by rw [eU4]; rfl).trans hru67))) (by first | assumption | omega) (a131 (by omega)) (m131 (by omega)) (t131 (by omega)) (by omega) (by omega)) (And.intro rfl (True.intro))
      · refine l_aload_n rfl rfl ?_
        refine l_gfr rfl rfl rfl rfl rfl (hHT1.r 899 0 876 rfl) ?_
        refine l_iload_n rfl rfl ?_
        refine l_iconst rfl ?_
        refine l_iadd rfl ?_
        have w135 : 0 ≤ Xi T1 246 2 ∧ Xi T1 246 2 ≤ 24 := hHT1.c _ _
        have w136 : 0 ≤ Xi T1 246 5 ∧ Xi T1 246 5 ≤ 200000 := hHT1.c _ _
        have w137 : 0 ≤ Xi T1 876 7 ∧ Xi T1 876 7 ≤ 5125 := hHT1.c _ _
        have w138 : -1 ≤ Xi T1 895 4 ∧ Xi T1 895 4 ≤ 15 := hHT1.c _ _
        refine l_callV rfl rfl rfl (t_to_runEnd hHT1 (z54 + 1) ⟨by omega, by omega⟩ _) ?_
        rintro _ _ ⟨rfl, z146, rfl, w146, w139, w140, w141, w142, w143, w144, w145⟩
        clear w141 w142 w143 w144
        show Rl _ _ _ _ _ [iv z146, .ref 899] _ _
        refine l_goto rfl rfl ?_
        refine l_pfi rfl rfl rfl rfl ?_
        obtain ⟨U7, eU7⟩ : ∃ T : sS, T = uI T1 899 5 (Int32.ofInt z146) := ⟨_, rfl⟩
        rw [← eU7]
        have hHU7 : HI U7 := by rw [eU7]; exact HI_w hHT1 (show -1 ≤ z146 by omega) (show z146 ≤ 5131 by omega)
        have hFU7 : FR md_rr_ruleHead S U7 := by rw [eU7]; exact FR.wI hFT1 (mdf_i (r := (899, 900, 5, 6)) (List.mem_of_getElem? (i := 25) rfl) (inR_i (by omega) (by omega) (by omega) (by omega)))
        have w147 : Xi U7 899 5 = z146 := by rw [eU7]; exact Xi_same (by unfold rg; omega)
        have rU7_1 : Xi U7 (248 + (Xi S 246 2).toNat) 1 = Xi T1 (248 + (Xi S 246 2).toNat) 1 := by rw [eU7, Xi_ne (by omega)]
        have rU7_2 : Xi U7 (248 + (Xi S 246 2).toNat) 2 = Xi T1 (248 + (Xi S 246 2).toNat) 2 := by rw [eU7, Xi_ne (by omega)]
        have rU7_3 : Xi U7 (248 + (Xi S 246 2).toNat) 3 = Xi T1 (248 + (Xi S 246 2).toNat) 3 := by rw [eU7, Xi_ne (by omega)]
        have rU7_4 : Xi U7 (248 + (Xi S 246 2).toNat) 4 = Xi T1 (248 + (Xi S 246 2).toNat) 4 := by rw [eU7, Xi_ne (by omega)]
        have rU7_5 : Xi U7 (248 + (Xi S 246 2).toNat) 5 = Xi T1 (248 + (Xi S 246 2).toNat) 5 := by rw [eU7, Xi_ne (by omega)]
        have rU7_6 : Xi U7 (248 + (Xi S 246 2).toNat) 6 = Xi T1 (248 + (Xi S 246 2).toNat) 6 := by rw [eU7, Xi_ne (by omega)]
        have rU7_7 : Xi U7 (248 + (Xi S 246 2).toNat) 7 = Xi T1 (248 + (Xi S 246 2).toNat) 7 := by rw [eU7, Xi_ne (by omega)]
        have g120 : sG T1 U7 := FR_sG hHT1 (FR_e eU7) rfl (by rw [((FR_e eU7).x 5 3 rfl)]; exact Int.le_refl _) (by rw [((FR_e eU7).x 5 8 rfl)]; exact Int.le_refl _)
        refine l_iload rfl rfl ?_
        refine l_if_eq rfl rfl (by unfold rg; omega) (fun w148 => ?_) (fun w149 => ?_)
        · refine l_aload_n rfl rfl ?_
          refine l_iload_n rfl rfl ?_
          refine l_iload_n rfl rfl ?_
          have w150 : Xi U7 246 2 = Xi T1 246 2 := (show Xi U7 246 2 = Xi T1 246 2 from by rw [eU7]; exact Xi_ne (by omega))
          have w151 : 0 ≤ Xi T1 246 2 ∧ Xi T1 246 2 ≤ 24 := hHT1.c _ _
          have w152 : Xi U7 246 5 = Xi T1 246 5 := (show Xi U7 246 5 = Xi T1 246 5 from by rw [eU7]; exact Xi_ne (by omega))
          have w153 : 0 ≤ Xi T1 246 5 ∧ Xi T1 246 5 ≤ 200000 := hHT1.c _ _
          have w154 : Xi U7 895 4 = Xi T1 895 4 := (show Xi U7 895 4 = Xi T1 895 4 from by rw [eU7]; exact Xi_ne (by omega))
          have w155 : -1 ≤ Xi T1 895 4 ∧ Xi T1 895 4 ≤ 15 := hHT1.c _ _
          refine l_callV rfl rfl rfl (t_rr_actingAlone hHU7 (Xi S 246 2).toNat (Xi T1 899 5) z54 ⟨by omega, by omega⟩ ⟨by omega, by omega⟩ ((show U7.2.2 899 4 = T1.2.2 899 4 from by rw [eU7]; rfl).trans hru67) (by omega) (by first | assumption | exact (LEX_FR hFU7 rfl rfl (by assumption : LEX S))) _) ?_
          rintro _ T8 ⟨hHT8, w162, z161, rfl, w161, w156, w157, w158, w159, w160⟩
          have hFT8 : FR md_rr_ruleHead S T8 := FR.tr hFU7 w162 rfl
          show Rl _ _ _ _ _ [iv z161] _ _
          have a131 : z161 = 1 → 0 ≤ Xi T8 (248 + (Xi S 246 2).toNat) 1 ∧ Xi T8 (248 + (Xi S 246 2).toNat) 1 < Xi T8 5 8 := by assumption
          have h131 : Xi T8 246 5 = Xi U7 246 5 := (by assumption : FR md_rr_actingAlone U7 T8).x 246 5 rfl
          have n131 : z161 = 1 → Xi T8 (248 + (Xi S 246 2).toNat) 2 ≠ -1 → 0 ≤ Xi T8 19 (Xi T8 (248 + (Xi S 246 2).toNat) 1).toNat := by assumption
          have m131 : z161 = 1 → (Xi T8 (248 + (Xi S 246 2).toNat) 2 ≠ -1 ∨ Xi T8 (248 + (Xi S 246 2).toNat) 3 ≠ -1 ∨ 0 < Xi T8 (248 + (Xi S 246 2).toNat) 4) → 0 ≤ Xi T8 19 (Xi T8 (248 + (Xi S 246 2).toNat) 1).toNat := fun q e => n131 q (by omega)
          have t131 : z161 = 1 → ∀ i : Nat, (i : Int) < Xi T8 (248 + (Xi S 246 2).toNat) 4 → TSok T8 True ((Xi S 246 5).toNat + i) := fun q i hi => by omega
          have g131 : z161 = 1 → sG U7 T8 := fun _ => FR_sG hHU7 (by assumption : FR md_rr_actingAlone U7 T8) rfl (by rw [((by assumption : FR md_rr_actingAlone U7 T8).x 5 3 rfl)]; exact Int.le_refl _) (by rw [((by assumption : FR md_rr_actingAlone U7 T8).x 5 8 rfl)]; exact Int.le_refl _)
          have c131 : z161 = 1 → Xi T8 246 5 = Xi S 246 5 + Xi T8 (248 + (Xi S 246 2).toNat) 4 := by omega
          have d131 : z161 = 1 → Xi T8 (248 + (Xi S 246 2).toNat) 7 = Xi S 246 5 ∧ Xi T8 (248 + (Xi S 246 2).toNat) 5 = 0 ∧ Xi T8 (248 + (Xi S 246 2).toNat) 6 = 0 := by omega
          have q131 : KRU U7 T8 (Xi S 246 2).toNat := by assumption
          refine l_if_ne rfl rfl (by unfold rg; omega) (fun w163 => ?_) (fun w164 => ?_)
          · have w165 : Xi T8 246 2 = Xi T1 246 2 := (show Xi T8 246 2 = Xi U7 246 2 from w162.x _ _ rfl).trans ((show Xi U7 246 2 = Xi T1 246 2 from by rw [eU7]; exact Xi_ne (by omega)))
            have w166 : 0 ≤ Xi T1 246 2 ∧ Xi T1 246 2 ≤ 24 := hHT1.c _ _
            have w167 : Xi T8 246 5 = Xi T1 246 5 := (show Xi T8 246 5 = Xi U7 246 5 from w162.x _ _ rfl).trans ((show Xi U7 246 5 = Xi T1 246 5 from by rw [eU7]; exact Xi_ne (by omega)))
            have w168 : 0 ≤ Xi T1 246 5 ∧ Xi T1 246 5 ≤ 200000 := hHT1.c _ _
            have w169 : Xi T8 5 8 = Xi T1 5 8 := (show Xi T8 5 8 = Xi U7 5 8 from w162.x _ _ rfl).trans ((show Xi U7 5 8 = Xi T1 5 8 from by rw [eU7]; exact Xi_ne (by omega)))
            have w170 : 0 ≤ Xi T1 5 8 ∧ Xi T1 5 8 ≤ 12 := hHT1.c _ _
            have w171 : Xi T8 895 4 = Xi T1 895 4 := (show Xi T8 895 4 = Xi U7 895 4 from w162.x _ _ rfl).trans ((show Xi U7 895 4 = Xi T1 895 4 from by rw [eU7]; exact Xi_ne (by omega)))
            have w172 : -1 ≤ Xi T1 895 4 ∧ Xi T1 895 4 ≤ 15 := hHT1.c _ _
            exact Rl_weak (C151 T8 hHT8 hFT8  (sG.tr hg67 (sG.tr g120 (g131 (by omega)))) ((kru_tr (kru_o eU7 (by omega) hq67) (by assumption : KRU U7 T8 _))) (((w162 899 4 rfl).2.2.trans ((show U7.2.2 899 4 = T1.2.2 899 4 from by rw [eU7]; rfl).trans hru67))) (by first | assumption | omega) (a131 (by omega)) (m131 (by omega)) (t131 (by omega)) (by omega) (by omega)) (And.intro rfl (True.intro))
          · refine l_iconst rfl ?_
            refine l_ireturn rfl rfl ?_
            have w173 : Xi T8 246 2 = Xi T1 246 2 := (show Xi T8 246 2 = Xi U7 246 2 from w162.x _ _ rfl).trans ((show Xi U7 246 2 = Xi T1 246 2 from by rw [eU7]; exact Xi_ne (by omega)))
            have w174 : 0 ≤ Xi T1 246 2 ∧ Xi T1 246 2 ≤ 24 := hHT1.c _ _
            have w175 : Xi T8 246 5 = Xi T1 246 5 := (show Xi T8 246 5 = Xi U7 246 5 from w162.x _ _ rfl).trans ((show Xi U7 246 5 = Xi T1 246 5 from by rw [eU7]; exact Xi_ne (by omega)))
            have w176 : 0 ≤ Xi T1 246 5 ∧ Xi T1 246 5 ≤ 200000 := hHT1.c _ _
            have w177 : 0 ≤ Xi T8 876 8 ∧ Xi T8 876 8 ≤ 9 := hHT8.c _ _
            have w178 : Xi T8 895 4 = Xi T1 895 4 := (show Xi T8 895 4 = Xi U7 895 4 from w162.x _ _ rfl).trans ((show Xi U7 895 4 = Xi T1 895 4 from by rw [eU7]; exact Xi_ne (by omega)))
            have w179 : -1 ≤ Xi T1 895 4 ∧ Xi T1 895 4 ≤ 15 := hHT1.c _ _
            exact ⟨hHT8, hFT8, _, rfl, ⟨by omega, by omega⟩, (fun q => by first | (exfalso; omega) | exact hg67 | exact sG.tr hg151 (FR_sG hHU7 (by assumption : FR md_rr_nameNoun U7 T8) rfl (by rw [((by assumption : FR md_rr_nameNoun U7 T8).x 5 3 rfl)]; exact Int.le_refl _) (by rw [f152]; exact Int.le_refl _))), (fun q => by first | (exfalso; omega) | exact (kru_tr (kru_o eU7 (by omega) hq67) (by assumption : KRU U7 T8 _))), (fun q => by first | (exfalso; omega) | exact ((w162 899 4 rfl).2.2.trans ((show U7.2.2 899 4 = T1.2.2 899 4 from by rw [eU7]; rfl).trans hru67))), (by omega), (fun q => by first | (exfalso; omega) | exact b152 | exact rb_0 (by omega) (by omega) (by omega) (by omega) (fun q => by omega) (fun q => by omega) (fun i hi => by omega) (fun q => by omega)), (by omega), (fun q => by first | omega | (exfalso; omega))⟩
        · refine l_aload_n rfl rfl ?_
          refine l_iload_n rfl rfl ?_
          refine l_iload_n rfl rfl ?_
          have w180 : Xi U7 246 2 = Xi T1 246 2 := (show Xi U7 246 2 = Xi T1 246 2 from by rw [eU7]; exact Xi_ne (by omega))
          have w181 : 0 ≤ Xi T1 246 2 ∧ Xi T1 246 2 ≤ 24 := hHT1.c _ _
          have w182 : Xi U7 246 5 = Xi T1 246 5 := (show Xi U7 246 5 = Xi T1 246 5 from by rw [eU7]; exact Xi_ne (by omega))
          have w183 : 0 ≤ Xi T1 246 5 ∧ Xi T1 246 5 ≤ 200000 := hHT1.c _ _
          have w184 : Xi U7 895 4 = Xi T1 895 4 := (show Xi U7 895 4 = Xi T1 895 4 from by rw [eU7]; exact Xi_ne (by omega))
          have w185 : -1 ≤ Xi T1 895 4 ∧ Xi T1 895 4 ≤ 15 := hHT1.c _ _
          have w186 : -1 ≤ Xi U7 899 5 ∧ Xi U7 899 5 ≤ 5131 := hHU7.c _ _
          refine l_callV rfl rfl rfl (t_rr_actingOn hHU7 (Xi S 246 2).toNat (Xi T1 899 5) z54 ⟨by omega, by omega⟩ ⟨by omega, by omega⟩ ((show U7.2.2 899 4 = T1.2.2 899 4 from by rw [eU7]; rfl).trans hru67) (by omega) (by first | assumption | exact (LEX_FR hFU7 rfl rfl (by assumption : LEX S))) (by first | assumption | omega) (by first | assumption | omega) (by first | assumption | omega) _) ?_
          rintro _ T9 ⟨hHT9, w196, z195, rfl, w195, w187, w188, w189, w190, w191, w192, w193, w194⟩
          have hFT9 : FR md_rr_ruleHead S T9 := FR.tr hFU7 w196 rfl
          show Rl _ _ _ _ _ [iv z195] _ _
          have a131 : z195 = 1 → 0 ≤ Xi T9 (248 + (Xi S 246 2).toNat) 1 ∧ Xi T9 (248 + (Xi S 246 2).toNat) 1 < Xi T9 5 8 := by assumption
          have n131 : z195 = 1 → 0 ≤ Xi T9 19 (Xi T9 (248 + (Xi S 246 2).toNat) 1).toNat := by assumption
          have m131 : z195 = 1 → (Xi T9 (248 + (Xi S 246 2).toNat) 2 ≠ -1 ∨ Xi T9 (248 + (Xi S 246 2).toNat) 3 ≠ -1 ∨ 0 < Xi T9 (248 + (Xi S 246 2).toNat) 4) → 0 ≤ Xi T9 19 (Xi T9 (248 + (Xi S 246 2).toNat) 1).toNat := fun q _ => n131 q
          have t131 : z195 = 1 → ∀ i : Nat, (i : Int) < Xi T9 (248 + (Xi S 246 2).toNat) 4 → TSok T9 True ((Xi S 246 5).toNat + i) := fun q i hi => by rw [show (Xi S 246 5).toNat = (Xi U7 246 5).toNat by omega]; exact (by assumption : z195 = 1 → ∀ i : Nat, (i : Int) < Xi T9 (248 + (Xi S 246 2).toNat) 4 → TSok T9 True ((Xi U7 246 5).toNat + i)) q i hi
          have g131 : z195 = 1 → sG U7 T9 := by assumption
          have c131 : z195 = 1 → Xi T9 246 5 = Xi S 246 5 + Xi T9 (248 + (Xi S 246 2).toNat) 4 := by omega
          have d131 : z195 = 1 → Xi T9 (248 + (Xi S 246 2).toNat) 7 = Xi S 246 5 ∧ Xi T9 (248 + (Xi S 246 2).toNat) 5 = 0 ∧ Xi T9 (248 + (Xi S 246 2).toNat) 6 = 0 := by omega
          have q131 : KRU U7 T9 (Xi S 246 2).toNat := by assumption
          refine l_if_eq rfl rfl (by unfold rg; omega) (fun w197 => ?_) (fun w198 => ?_)
          · refine l_iconst rfl ?_
            refine l_ireturn rfl rfl ?_
            have w199 : Xi T9 246 2 = Xi T1 246 2 := (show Xi T9 246 2 = Xi U7 246 2 from w196.x _ _ rfl).trans ((show Xi U7 246 2 = Xi T1 246 2 from by rw [eU7]; exact Xi_ne (by omega)))
            have w200 : 0 ≤ Xi T1 246 2 ∧ Xi T1 246 2 ≤ 24 := hHT1.c _ _
            have w201 : 0 ≤ Xi T9 246 5 ∧ Xi T9 246 5 ≤ 200000 := hHT9.c _ _
            have w202 : 0 ≤ Xi T9 876 8 ∧ Xi T9 876 8 ≤ 9 := hHT9.c _ _
            have w203 : Xi T9 895 4 = Xi T1 895 4 := (show Xi T9 895 4 = Xi U7 895 4 from w196.x _ _ rfl).trans ((show Xi U7 895 4 = Xi T1 895 4 from by rw [eU7]; exact Xi_ne (by omega)))
            have w204 : -1 ≤ Xi T1 895 4 ∧ Xi T1 895 4 ≤ 15 := hHT1.c _ _
            exact ⟨hHT9, hFT9, _, rfl, ⟨by omega, by omega⟩, (fun q => by first | (exfalso; omega) | exact hg67 | exact sG.tr hg151 (FR_sG hHU7 (by assumption : FR md_rr_nameNoun U7 T9) rfl (by rw [((by assumption : FR md_rr_nameNoun U7 T9).x 5 3 rfl)]; exact Int.le_refl _) (by rw [f152]; exact Int.le_refl _))), (fun q => by first | (exfalso; omega) | exact (kru_tr (kru_o eU7 (by omega) hq67) (by assumption : KRU U7 T9 _))), (fun q => by first | (exfalso; omega) | exact ((w196 899 4 rfl).2.2.trans ((show U7.2.2 899 4 = T1.2.2 899 4 from by rw [eU7]; rfl).trans hru67))), (by omega), (fun q => by first | (exfalso; omega) | exact b152 | exact rb_0 (by omega) (by omega) (by omega) (by omega) (fun q => by omega) (fun q => by omega) (fun i hi => by omega) (fun q => by omega)), (by omega), (fun q => by first | omega | (exfalso; omega))⟩
          · refine l_goto rfl rfl ?_
            have w205 : Xi T9 246 2 = Xi T1 246 2 := (show Xi T9 246 2 = Xi U7 246 2 from w196.x _ _ rfl).trans ((show Xi U7 246 2 = Xi T1 246 2 from by rw [eU7]; exact Xi_ne (by omega)))
            have w206 : 0 ≤ Xi T1 246 2 ∧ Xi T1 246 2 ≤ 24 := hHT1.c _ _
            have w207 : 0 ≤ Xi T9 246 5 ∧ Xi T9 246 5 ≤ 200000 := hHT9.c _ _
            have w208 : Xi T9 5 8 = Xi T1 5 8 := (show Xi T9 5 8 = Xi U7 5 8 from w196.x _ _ rfl).trans ((show Xi U7 5 8 = Xi T1 5 8 from by rw [eU7]; exact Xi_ne (by omega)))
            have w209 : 0 ≤ Xi T1 5 8 ∧ Xi T1 5 8 ≤ 12 := hHT1.c _ _
            have w210 : Xi T9 895 4 = Xi T1 895 4 := (show Xi T9 895 4 = Xi U7 895 4 from w196.x _ _ rfl).trans ((show Xi U7 895 4 = Xi T1 895 4 from by rw [eU7]; exact Xi_ne (by omega)))
            have w211 : -1 ≤ Xi T1 895 4 ∧ Xi T1 895 4 ≤ 15 := hHT1.c _ _
            exact Rl_weak (C151 T9 hHT9 hFT9  (sG.tr hg67 (sG.tr g120 (g131 (by omega)))) ((kru_tr (kru_o eU7 (by omega) hq67) (by assumption : KRU U7 T9 _))) (((w196 899 4 rfl).2.2.trans ((show U7.2.2 899 4 = T1.2.2 899 4 from by rw [eU7]; rfl).trans hru67))) (by first | assumption | omega) (a131 (by omega)) (m131 (by omega)) (t131 (by omega)) (by omega) (by omega)) (And.intro rfl (True.intro))
  refine l_aload_n rfl rfl ?_
  refine l_gfr rfl rfl rfl rfl rfl (hH.r 899 3 246 rfl) ?_
  refine l_gfi rfl rfl rfl rfl rfl ?_
  refine l_bipush rfl rfl ?_
  refine l_icmp_lt rfl rfl (by unfold rg; omega) (by unfold rg; omega) (fun w212 => ?_) (fun w213 => ?_)
  · refine l_aload_n rfl rfl ?_
    refine l_aload_n rfl rfl ?_
    refine l_gfr rfl rfl rfl rfl rfl (hH.r 899 3 246 rfl) ?_
    refine l_iload_n rfl rfl ?_
    have w214 : 0 ≤ Xi S 246 2 ∧ Xi S 246 2 ≤ 24 := hH.c _ _
    have w215 : 0 ≤ Xi S 246 5 ∧ Xi S 246 5 ≤ 200000 := hH.c _ _
    have w216 : -1 ≤ Xi S 895 4 ∧ Xi S 895 4 ≤ 15 := hH.c _ _
    refine l_callS rfl rfl (by decide) rfl (t_rr_sortOfRule hH sort ⟨by omega, by omega⟩ _) ?_
    rintro _ _ ⟨rfl, z217, rfl, w217⟩
    show Rl _ _ _ _ _ [iv z217, .ref 246, .ref 899] _ _
    have w218 : 0 ≤ Xi S 246 2 ∧ Xi S 246 2 ≤ 24 := hH.c _ _
    have w219 : 0 ≤ Xi S 246 5 ∧ Xi S 246 5 ≤ 200000 := hH.c _ _
    have w220 : -1 ≤ Xi S 895 4 ∧ Xi S 895 4 ≤ 15 := hH.c _ _
    refine l_callV rfl rfl rfl (t_bo_startRule__2 hH z217 ⟨by omega, by omega⟩ (by first | assumption | omega) _) ?_
    rintro _ T10 ⟨hHT10, w225, z224, rfl, w224, w221, w222, w223⟩
    have hFT10 : FR md_rr_ruleHead S T10 := FR.tr hF w225 rfl
    show Rl _ _ _ _ _ [.ref (248 + z224), .ref 899] _ _
    refine l_pfr rfl rfl rfl rfl ?_
    obtain ⟨U11, eU11⟩ : ∃ T : sS, T = uR T10 899 4 (some (248 + z224)) := ⟨_, rfl⟩
    rw [← eU11]
    have hHU11 : HI U11 := by rw [eU11]; exact HI_R hHT10 rfl rfl (fun q => absurd q.1 (by decide)) (fun q => absurd q.1 (by decide)) (fun q => absurd q.1 (by decide)) (fun q => absurd q.1 (by decide)) (fun _ => ⟨_, rfl, by first | assumption | (right; assumption) | omega⟩)
    have hFU11 : FR md_rr_ruleHead S U11 := by rw [eU11]; exact FR.wR hFT10 (mdf_i (r := (899, 900, 4, 5)) (List.mem_of_getElem? (i := 24) rfl) (inR_i (by omega) (by omega) (by omega) (by omega)))
    have rU11_1 : Xi U11 (248 + z224) 1 = Xi T10 (248 + z224) 1 := by rw [eU11]; rfl
    have rU11_2 : Xi U11 (248 + z224) 2 = Xi T10 (248 + z224) 2 := by rw [eU11]; rfl
    have rU11_3 : Xi U11 (248 + z224) 3 = Xi T10 (248 + z224) 3 := by rw [eU11]; rfl
    have rU11_4 : Xi U11 (248 + z224) 4 = Xi T10 (248 + z224) 4 := by rw [eU11]; rfl
    have rU11_5 : Xi U11 (248 + z224) 5 = Xi T10 (248 + z224) 5 := by rw [eU11]; rfl
    have rU11_6 : Xi U11 (248 + z224) 6 = Xi T10 (248 + z224) 6 := by rw [eU11]; rfl
    have rU11_7 : Xi U11 (248 + z224) 7 = Xi T10 (248 + z224) 7 := by rw [eU11]; rfl
    refine l_aload_n rfl rfl ?_
    refine l_gfr rfl rfl rfl rfl rfl (hHU11.r 899 2 895 rfl) ?_
    refine l_bipush rfl rfl ?_
    refine l_iconst rfl ?_
    have w226 : Xi U11 246 2 = Xi S 246 2 := (show Xi U11 246 2 = Xi T10 246 2 from by rw [eU11]; rfl).trans ((show Xi T10 246 2 = Xi S 246 2 from w225.x _ _ rfl))
    have w227 : 0 ≤ Xi S 246 2 ∧ Xi S 246 2 ≤ 24 := hH.c _ _
    have w228 : Xi U11 246 5 = Xi S 246 5 := (show Xi U11 246 5 = Xi T10 246 5 from by rw [eU11]; rfl).trans ((show Xi T10 246 5 = Xi S 246 5 from w225.x _ _ rfl))
    have w229 : 0 ≤ Xi S 246 5 ∧ Xi S 246 5 ≤ 200000 := hH.c _ _
    have w230 : Xi U11 895 4 = Xi S 895 4 := (show Xi U11 895 4 = Xi T10 895 4 from by rw [eU11]; rfl).trans ((show Xi T10 895 4 = Xi S 895 4 from w225.x _ _ rfl))
    have w231 : -1 ≤ Xi S 895 4 ∧ Xi S 895 4 ≤ 15 := hH.c _ _
    refine l_callV rfl rfl rfl (t_me_startSelf hHU11 53 (-1) ⟨by omega, by omega⟩ ⟨by omega, by omega⟩ _) ?_
    rintro _ T12 ⟨hHT12, w234, rfl, w232⟩
    have hFT12 : FR md_rr_ruleHead S T12 := FR.tr hFU11 w234 rfl
    show Rl _ _ _ _ _ [] _ _
    have rT12_1 : Xi T12 (248 + z224) 1 = Xi U11 (248 + z224) 1 := FR_ru w234 rfl (by omega)
    have rT12_2 : Xi T12 (248 + z224) 2 = Xi U11 (248 + z224) 2 := FR_ru w234 rfl (by omega)
    have rT12_3 : Xi T12 (248 + z224) 3 = Xi U11 (248 + z224) 3 := FR_ru w234 rfl (by omega)
    have rT12_4 : Xi T12 (248 + z224) 4 = Xi U11 (248 + z224) 4 := FR_ru w234 rfl (by omega)
    have rT12_5 : Xi T12 (248 + z224) 5 = Xi U11 (248 + z224) 5 := FR_ru w234 rfl (by omega)
    have rT12_6 : Xi T12 (248 + z224) 6 = Xi U11 (248 + z224) 6 := FR_ru w234 rfl (by omega)
    have rT12_7 : Xi T12 (248 + z224) 7 = Xi U11 (248 + z224) 7 := FR_ru w234 rfl (by omega)
    refine l_aload_n rfl rfl ?_
    refine l_iload_n rfl rfl ?_
    refine l_iconst rfl ?_
    refine l_icmp_eq rfl rfl (by unfold rg; omega) (by unfold rg; omega) (fun w235 => ?_) (fun w236 => ?_)
    · refine l_iconst rfl ?_
      refine l_goto rfl rfl ?_
      refine l_pfi rfl rfl rfl rfl ?_
      obtain ⟨U13, eU13⟩ : ∃ T : sS, T = uI T12 899 5 (Int32.ofInt 1) := ⟨_, rfl⟩
      rw [← eU13]
      have hHU13 : HI U13 := by rw [eU13]; exact HI_w hHT12 (show -1 ≤ 1 by omega) (show 1 ≤ 5131 by omega)
      have hFU13 : FR md_rr_ruleHead S U13 := by rw [eU13]; exact FR.wI hFT12 (mdf_i (r := (899, 900, 5, 6)) (List.mem_of_getElem? (i := 25) rfl) (inR_i (by omega) (by omega) (by omega) (by omega)))
      have w237 : Xi U13 899 5 = 1 := by rw [eU13]; exact Xi_same (by unfold rg; omega)
      have rU13_1 : Xi U13 (248 + z224) 1 = Xi T12 (248 + z224) 1 := by rw [eU13, Xi_ne (by omega)]
      have rU13_2 : Xi U13 (248 + z224) 2 = Xi T12 (248 + z224) 2 := by rw [eU13, Xi_ne (by omega)]
      have rU13_3 : Xi U13 (248 + z224) 3 = Xi T12 (248 + z224) 3 := by rw [eU13, Xi_ne (by omega)]
      have rU13_4 : Xi U13 (248 + z224) 4 = Xi T12 (248 + z224) 4 := by rw [eU13, Xi_ne (by omega)]
      have rU13_5 : Xi U13 (248 + z224) 5 = Xi T12 (248 + z224) 5 := by rw [eU13, Xi_ne (by omega)]
      have rU13_6 : Xi U13 (248 + z224) 6 = Xi T12 (248 + z224) 6 := by rw [eU13, Xi_ne (by omega)]
      have rU13_7 : Xi U13 (248 + z224) 7 = Xi T12 (248 + z224) 7 := by rw [eU13, Xi_ne (by omega)]
      have w238 : Xi U13 246 2 = Xi S 246 2 := (show Xi U13 246 2 = Xi T12 246 2 from by rw [eU13]; exact Xi_ne (by omega)).trans ( (show Xi T12 246 2 = Xi U11 246 2 from w234.x _ _ rfl).trans ( (show Xi U11 246 2 = Xi T10 246 2 from by rw [eU11]; rfl).trans ((show Xi T10 246 2 = Xi S 246 2 from w225.x _ _ rfl))))
      have w239 : 0 ≤ Xi S 246 2 ∧ Xi S 246 2 ≤ 24 := hH.c _ _
      have w240 : Xi U13 246 5 = Xi S 246 5 := (show Xi U13 246 5 = Xi T12 246 5 from by rw [eU13]; exact Xi_ne (by omega)).trans ( (show Xi T12 246 5 = Xi U11 246 5 from w234.x _ _ rfl).trans ( (show Xi U11 246 5 = Xi T10 246 5 from by rw [eU11]; rfl).trans ((show Xi T10 246 5 = Xi S 246 5 from w225.x _ _ rfl))))
      have w241 : 0 ≤ Xi S 246 5 ∧ Xi S 246 5 ≤ 200000 := hH.c _ _
      have w242 : Xi U13 5 8 = Xi S 5 8 := (show Xi U13 5 8 = Xi T12 5 8 from by rw [eU13]; exact Xi_ne (by omega)).trans ( (show Xi T12 5 8 = Xi U11 5 8 from w234.x _ _ rfl).trans ( (show Xi U11 5 8 = Xi T10 5 8 from by rw [eU11]; rfl).trans ((show Xi T10 5 8 = Xi S 5 8 from w225.x _ _ rfl))))
      have w243 : 0 ≤ Xi S 5 8 ∧ Xi S 5 8 ≤ 12 := hH.c _ _
      have w244 : Xi U13 895 4 = Xi T12 895 4 := (show Xi U13 895 4 = Xi T12 895 4 from by rw [eU13]; exact Xi_ne (by omega))
      have w245 : -1 ≤ Xi T12 895 4 ∧ Xi T12 895 4 ≤ 15 := hHT12.c _ _
      have w246 : -1 ≤ Xi U13 899 5 ∧ Xi U13 899 5 ≤ 5131 := hHU13.c _ _
      exact Rl_weak (C67 U13 hHU13 hFU13  (sG_n (n := 600) hH ((show FR md_rr_ruleHead S U13 from by rw [eU13]; exact FR.wI (FR.tr (FR.tr (FR.tr FR.rf w225 rfl) (FR_R eU11) rfl) w234 rfl) (mdf_i (r := (899, 900, 5, 6)) (List.mem_of_getElem? (i := 25) rfl) (inR_i (by omega) (by omega) (by omega) (by omega)))) : FR md_rr_ruleHead S U13) rfl (kcl_o eU13 (by omega) (kcl_f w234 rfl (kcl_f (FR_R eU11) rfl (kcl_f w225 rfl KCL.rf)))) (by omega) (by omega)) (by rw [show (Xi S 246 2).toNat = z224 by omega]; exact (kru_o eU13 (by omega) (kru_f w234 rfl (kru_f (FR_R eU11) rfl (kru_tr KRU.rf (by assumption : KRU S T10 _)))))) (by rw [show (Xi S 246 2).toNat = z224 by omega]; exact ((show U13.2.2 899 4 = T12.2.2 899 4 from by rw [eU13]; rfl).trans ((w234 899 4 rfl).2.2.trans (show U11.2.2 899 4 = some (248 + z224) from by rw [eU11]; exact uR_s)))) (by first | assumption | omega) (by rw [show (Xi S 246 2).toNat = z224 by omega]; omega) (by omega) (by omega) ((hHU13.c 5 8).1) (by omega)) (And.intro rfl (And.intro rfl (True.intro)))
    · refine l_iload_n rfl rfl ?_
      refine l_iconst rfl ?_
      refine l_icmp_ne rfl rfl (by unfold rg; omega) (by unfold rg; omega) (fun w247 => ?_) (fun w248 => ?_)
      · refine l_iconst rfl ?_
        refine l_pfi rfl rfl rfl rfl ?_
        obtain ⟨U14, eU14⟩ : ∃ T : sS, T = uI T12 899 5 (Int32.ofInt 2) := ⟨_, rfl⟩
        rw [← eU14]
        have hHU14 : HI U14 := by rw [eU14]; exact HI_w hHT12 (show -1 ≤ 2 by omega) (show 2 ≤ 5131 by omega)
        have hFU14 : FR md_rr_ruleHead S U14 := by rw [eU14]; exact FR.wI hFT12 (mdf_i (r := (899, 900, 5, 6)) (List.mem_of_getElem? (i := 25) rfl) (inR_i (by omega) (by omega) (by omega) (by omega)))
        have w249 : Xi U14 899 5 = 2 := by rw [eU14]; exact Xi_same (by unfold rg; omega)
        have rU14_1 : Xi U14 (248 + z224) 1 = Xi T12 (248 + z224) 1 := by rw [eU14, Xi_ne (by omega)]
        have rU14_2 : Xi U14 (248 + z224) 2 = Xi T12 (248 + z224) 2 := by rw [eU14, Xi_ne (by omega)]
        have rU14_3 : Xi U14 (248 + z224) 3 = Xi T12 (248 + z224) 3 := by rw [eU14, Xi_ne (by omega)]
        have rU14_4 : Xi U14 (248 + z224) 4 = Xi T12 (248 + z224) 4 := by rw [eU14, Xi_ne (by omega)]
        have rU14_5 : Xi U14 (248 + z224) 5 = Xi T12 (248 + z224) 5 := by rw [eU14, Xi_ne (by omega)]
        have rU14_6 : Xi U14 (248 + z224) 6 = Xi T12 (248 + z224) 6 := by rw [eU14, Xi_ne (by omega)]
        have rU14_7 : Xi U14 (248 + z224) 7 = Xi T12 (248 + z224) 7 := by rw [eU14, Xi_ne (by omega)]
        have w250 : Xi U14 246 2 = Xi S 246 2 := (show Xi U14 246 2 = Xi T12 246 2 from by rw [eU14]; exact Xi_ne (by omega)).trans ( (show Xi T12 246 2 = Xi U11 246 2 from w234.x _ _ rfl).trans ( (show Xi U11 246 2 = Xi T10 246 2 from by rw [eU11]; rfl).trans ((show Xi T10 246 2 = Xi S 246 2 from w225.x _ _ rfl))))
        have w251 : 0 ≤ Xi S 246 2 ∧ Xi S 246 2 ≤ 24 := hH.c _ _
        have w252 : Xi U14 246 5 = Xi S 246 5 := (show Xi U14 246 5 = Xi T12 246 5 from by rw [eU14]; exact Xi_ne (by omega)).trans ( (show Xi T12 246 5 = Xi U11 246 5 from w234.x _ _ rfl).trans ( (show Xi U11 246 5 = Xi T10 246 5 from by rw [eU11]; rfl).trans ((show Xi T10 246 5 = Xi S 246 5 from w225.x _ _ rfl))))
        have w253 : 0 ≤ Xi S 246 5 ∧ Xi S 246 5 ≤ 200000 := hH.c _ _
        have w254 : Xi U14 5 8 = Xi S 5 8 := (show Xi U14 5 8 = Xi T12 5 8 from by rw [eU14]; exact Xi_ne (by omega)).trans ( (show Xi T12 5 8 = Xi U11 5 8 from w234.x _ _ rfl).trans ( (show Xi U11 5 8 = Xi T10 5 8 from by rw [eU11]; rfl).trans ((show Xi T10 5 8 = Xi S 5 8 from w225.x _ _ rfl))))
        have w255 : 0 ≤ Xi S 5 8 ∧ Xi S 5 8 ≤ 12 := hH.c _ _
        have w256 : Xi U14 895 4 = Xi T12 895 4 := (show Xi U14 895 4 = Xi T12 895 4 from by rw [eU14]; exact Xi_ne (by omega))
        have w257 : -1 ≤ Xi T12 895 4 ∧ Xi T12 895 4 ≤ 15 := hHT12.c _ _
        have w258 : -1 ≤ Xi U14 899 5 ∧ Xi U14 899 5 ≤ 5131 := hHU14.c _ _
        exact Rl_weak (C67 U14 hHU14 hFU14  (sG_n (n := 600) hH ((show FR md_rr_ruleHead S U14 from by rw [eU14]; exact FR.wI (FR.tr (FR.tr (FR.tr FR.rf w225 rfl) (FR_R eU11) rfl) w234 rfl) (mdf_i (r := (899, 900, 5, 6)) (List.mem_of_getElem? (i := 25) rfl) (inR_i (by omega) (by omega) (by omega) (by omega)))) : FR md_rr_ruleHead S U14) rfl (kcl_o eU14 (by omega) (kcl_f w234 rfl (kcl_f (FR_R eU11) rfl (kcl_f w225 rfl KCL.rf)))) (by omega) (by omega)) (by rw [show (Xi S 246 2).toNat = z224 by omega]; exact (kru_o eU14 (by omega) (kru_f w234 rfl (kru_f (FR_R eU11) rfl (kru_tr KRU.rf (by assumption : KRU S T10 _)))))) (by rw [show (Xi S 246 2).toNat = z224 by omega]; exact ((show U14.2.2 899 4 = T12.2.2 899 4 from by rw [eU14]; rfl).trans ((w234 899 4 rfl).2.2.trans (show U11.2.2 899 4 = some (248 + z224) from by rw [eU11]; exact uR_s)))) (by first | assumption | omega) (by rw [show (Xi S 246 2).toNat = z224 by omega]; omega) (by omega) (by omega) ((hHU14.c 5 8).1) (by omega)) (And.intro rfl (And.intro rfl (True.intro)))
      · refine l_iconst rfl ?_
        refine l_goto rfl rfl ?_
        refine l_pfi rfl rfl rfl rfl ?_
        obtain ⟨U15, eU15⟩ : ∃ T : sS, T = uI T12 899 5 (Int32.ofInt 1) := ⟨_, rfl⟩
        rw [← eU15]
        have hHU15 : HI U15 := by rw [eU15]; exact HI_w hHT12 (show -1 ≤ 1 by omega) (show 1 ≤ 5131 by omega)
        have hFU15 : FR md_rr_ruleHead S U15 := by rw [eU15]; exact FR.wI hFT12 (mdf_i (r := (899, 900, 5, 6)) (List.mem_of_getElem? (i := 25) rfl) (inR_i (by omega) (by omega) (by omega) (by omega)))
        have w259 : Xi U15 899 5 = 1 := by rw [eU15]; exact Xi_same (by unfold rg; omega)
        have rU15_1 : Xi U15 (248 + z224) 1 = Xi T12 (248 + z224) 1 := by rw [eU15, Xi_ne (by omega)]
        have rU15_2 : Xi U15 (248 + z224) 2 = Xi T12 (248 + z224) 2 := by rw [eU15, Xi_ne (by omega)]
        have rU15_3 : Xi U15 (248 + z224) 3 = Xi T12 (248 + z224) 3 := by rw [eU15, Xi_ne (by omega)]
        have rU15_4 : Xi U15 (248 + z224) 4 = Xi T12 (248 + z224) 4 := by rw [eU15, Xi_ne (by omega)]
        have rU15_5 : Xi U15 (248 + z224) 5 = Xi T12 (248 + z224) 5 := by rw [eU15, Xi_ne (by omega)]
        have rU15_6 : Xi U15 (248 + z224) 6 = Xi T12 (248 + z224) 6 := by rw [eU15, Xi_ne (by omega)]
        have rU15_7 : Xi U15 (248 + z224) 7 = Xi T12 (248 + z224) 7 := by rw [eU15, Xi_ne (by omega)]
        have w260 : Xi U15 246 2 = Xi S 246 2 := (show Xi U15 246 2 = Xi T12 246 2 from by rw [eU15]; exact Xi_ne (by omega)).trans ( (show Xi T12 246 2 = Xi U11 246 2 from w234.x _ _ rfl).trans ( (show Xi U11 246 2 = Xi T10 246 2 from by rw [eU11]; rfl).trans ((show Xi T10 246 2 = Xi S 246 2 from w225.x _ _ rfl))))
        have w261 : 0 ≤ Xi S 246 2 ∧ Xi S 246 2 ≤ 24 := hH.c _ _
        have w262 : Xi U15 246 5 = Xi S 246 5 := (show Xi U15 246 5 = Xi T12 246 5 from by rw [eU15]; exact Xi_ne (by omega)).trans ( (show Xi T12 246 5 = Xi U11 246 5 from w234.x _ _ rfl).trans ( (show Xi U11 246 5 = Xi T10 246 5 from by rw [eU11]; rfl).trans ((show Xi T10 246 5 = Xi S 246 5 from w225.x _ _ rfl))))
        have w263 : 0 ≤ Xi S 246 5 ∧ Xi S 246 5 ≤ 200000 := hH.c _ _
        have w264 : Xi U15 5 8 = Xi S 5 8 := (show Xi U15 5 8 = Xi T12 5 8 from by rw [eU15]; exact Xi_ne (by omega)).trans ( (show Xi T12 5 8 = Xi U11 5 8 from w234.x _ _ rfl).trans ( (show Xi U11 5 8 = Xi T10 5 8 from by rw [eU11]; rfl).trans ((show Xi T10 5 8 = Xi S 5 8 from w225.x _ _ rfl))))
        have w265 : 0 ≤ Xi S 5 8 ∧ Xi S 5 8 ≤ 12 := hH.c _ _
        have w266 : Xi U15 895 4 = Xi T12 895 4 := (show Xi U15 895 4 = Xi T12 895 4 from by rw [eU15]; exact Xi_ne (by omega))
        have w267 : -1 ≤ Xi T12 895 4 ∧ Xi T12 895 4 ≤ 15 := hHT12.c _ _
        have w268 : -1 ≤ Xi U15 899 5 ∧ Xi U15 899 5 ≤ 5131 := hHU15.c _ _
        exact Rl_weak (C67 U15 hHU15 hFU15  (sG_n (n := 600) hH ((show FR md_rr_ruleHead S U15 from by rw [eU15]; exact FR.wI (FR.tr (FR.tr (FR.tr FR.rf w225 rfl) (FR_R eU11) rfl) w234 rfl) (mdf_i (r := (899, 900, 5, 6)) (List.mem_of_getElem? (i := 25) rfl) (inR_i (by omega) (by omega) (by omega) (by omega)))) : FR md_rr_ruleHead S U15) rfl (kcl_o eU15 (by omega) (kcl_f w234 rfl (kcl_f (FR_R eU11) rfl (kcl_f w225 rfl KCL.rf)))) (by omega) (by omega)) (by rw [show (Xi S 246 2).toNat = z224 by omega]; exact (kru_o eU15 (by omega) (kru_f w234 rfl (kru_f (FR_R eU11) rfl (kru_tr KRU.rf (by assumption : KRU S T10 _)))))) (by rw [show (Xi S 246 2).toNat = z224 by omega]; exact ((show U15.2.2 899 4 = T12.2.2 899 4 from by rw [eU15]; rfl).trans ((w234 899 4 rfl).2.2.trans (show U11.2.2 899 4 = some (248 + z224) from by rw [eU11]; exact uR_s)))) (by first | assumption | omega) (by rw [show (Xi S 246 2).toNat = z224 by omega]; omega) (by omega) (by omega) ((hHU15.c 5 8).1) (by omega)) (And.intro rfl (And.intro rfl (True.intro)))
  · refine l_aload_n rfl rfl ?_
    refine l_gfr rfl rfl rfl rfl rfl (hH.r 899 0 876 rfl) ?_
    refine l_bipush rfl rfl ?_
    refine l_iconst rfl ?_
    have w269 : 0 ≤ Xi S 246 2 ∧ Xi S 246 2 ≤ 24 := hH.c _ _
    have w270 : 0 ≤ Xi S 246 5 ∧ Xi S 246 5 ≤ 200000 := hH.c _ _
    have w271 : -1 ≤ Xi S 895 4 ∧ Xi S 895 4 ≤ 15 := hH.c _ _
    refine l_callV rfl rfl rfl (t_to_wrong hH 9 0 ⟨by omega, by omega⟩ ⟨by omega, by omega⟩ _) ?_
    rintro _ T16 ⟨hHT16, w275, z274, rfl, w274, w272, w273⟩
    have hFT16 : FR md_rr_ruleHead S T16 := FR.tr hF w275 rfl
    show Rl _ _ _ _ _ [iv z274] _ _
    refine l_ireturn rfl (retI_z (by omega)) ?_
    have w276 : Xi T16 246 2 = Xi S 246 2 := (show Xi T16 246 2 = Xi S 246 2 from w275.x _ _ rfl)
    have w277 : 0 ≤ Xi S 246 2 ∧ Xi S 246 2 ≤ 24 := hH.c _ _
    have w278 : Xi T16 246 5 = Xi S 246 5 := (show Xi T16 246 5 = Xi S 246 5 from w275.x _ _ rfl)
    have w279 : 0 ≤ Xi S 246 5 ∧ Xi S 246 5 ≤ 200000 := hH.c _ _
    have w280 : 0 ≤ Xi T16 876 8 ∧ Xi T16 876 8 ≤ 9 := hHT16.c _ _
    have w281 : Xi T16 895 4 = Xi S 895 4 := (show Xi T16 895 4 = Xi S 895 4 from w275.x _ _ rfl)
    have w282 : -1 ≤ Xi S 895 4 ∧ Xi S 895 4 ≤ 15 := hH.c _ _
    exact ⟨hHT16, hFT16, _, rfl, ⟨by omega, by omega⟩, (fun q => by first | (exfalso; omega) | exact hg67 | exact sG.tr hg151 (FR_sG hH (by assumption : FR md_rr_nameNoun S T16) rfl (by rw [((by assumption : FR md_rr_nameNoun S T16).x 5 3 rfl)]; exact Int.le_refl _) (by rw [f152]; exact Int.le_refl _))), (fun q => by first | (exfalso; omega) | exact (kru_f w275 rfl KRU.rf)), (fun q => by first | (exfalso; omega) | exact (noru)), (by omega), (fun q => by first | (exfalso; omega) | exact b152 | exact rb_0 (by omega) (by omega) (by omega) (by omega) (fun q => by omega) (fun q => by omega) (fun i hi => by omega) (fun q => by omega)), (by omega), (fun q => by first | omega | (exfalso; omega))⟩

