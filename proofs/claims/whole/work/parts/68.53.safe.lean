/-! SAFETY of methods: printed by wip/safe (vc.py, decl.py) -/
def md_rr_ruleHead : List rec := [(246, 247, 5, 6), (248, 272, 0, 100000), (276, 876, 0, 1), (276, 876, 1, 2), (276, 876, 2, 3), (276, 876, 3, 4), (276, 876, 4, 5), (276, 876, 5, 6), (276, 876, 6, 7), (876, 877, 8, 9), (876, 877, 9, 10), (895, 896, 3, 4), (895, 896, 4, 5), (895, 896, 5, 6), (895, 896, 6, 7), (895, 896, 7, 8), (895, 896, 8, 9), (895, 896, 9, 10), (895, 896, 12, 13), (895, 896, 13, 14), (895, 896, 14, 15), (896, 897, 0, 100000), (897, 898, 0, 100000), (898, 899, 0, 100000), (899, 900, 4, 5), (899, 900, 5, 6)]
abbrev Q_rr_ruleHead (S : sS) (sort : Int) : pst := fun r S1 => HI S1 ∧ FR md_rr_ruleHead S S1 ∧ (∃ z : Int, r = some (iv z) ∧ (0 ≤ z ∧ z ≤ 1) ∧ (z = 1 → sG S S1) ∧ (z = 1 → KRU S S1 (Xi S 246 2).toNat) ∧ (z = 1 → S1.2.2 899 4 = some (248 + (Xi S 246 2).toNat)) ∧ (z = 1 → Xi S 246 2 < 24) ∧ (z = 1 → RB S1 (Xi S 246 2).toNat (Xi S 246 5) 0 0) ∧ (z = 1 → Xi S1 (248 + (Xi S 246 2).toNat) 5 = 0 ∧ Xi S1 (248 + (Xi S 246 2).toNat) 6 = 0) ∧ (z = 0 → Xi S1 876 8 ≠ 0))
set_option maxRecDepth 100000 in
theorem c151_rr_ruleHead {S : sS} (hH : HI S) (sort : Int) (hsort : 3 ≤ sort ∧ sort ≤ 6) (hL : LEX S) (hn : Xi S 246 2 < 24 → Xi S 246 5 + 5 ≤ 600) (d : Nat) : ∀  (T1 : sS) (_ : HI T1) (_ : FR md_rr_ruleHead S T1), (sG S T1) → (KRU S T1 (Xi S 246 2).toNat) → (T1.2.2 899 4 = some (248 + (Xi S 246 2).toNat)) → (Xi S 246 2 < 24) → (0 ≤ Xi T1 (248 + (Xi S 246 2).toNat) 1 ∧ Xi T1 (248 + (Xi S 246 2).toNat) 1 < Xi T1 5 8) → ((Xi T1 (248 + (Xi S 246 2).toNat) 2 ≠ -1 ∨ Xi T1 (248 + (Xi S 246 2).toNat) 3 ≠ -1 ∨ 0 < Xi T1 (248 + (Xi S 246 2).toNat) 4) → 0 ≤ Xi T1 19 (Xi T1 (248 + (Xi S 246 2).toNat) 1).toNat) → (∀ i : Nat, (i : Int) < Xi T1 (248 + (Xi S 246 2).toNat) 4 → TSok T1 True ((Xi S 246 5).toNat + i)) → (Xi T1 246 5 = Xi S 246 5 + Xi T1 (248 + (Xi S 246 2).toNat) 4) → (Xi T1 (248 + (Xi S 246 2).toNat) 7 = Xi S 246 5 ∧ Xi T1 (248 + (Xi S 246 2).toNat) 5 = 0 ∧ Xi T1 (248 + (Xi S 246 2).toNat) 6 = 0) → Rl lay0 (d + 5) m_rr_ruleHead 151 [(0, .ref 899)] [] T1 (Q_rr_ruleHead S sort) := by
  have hF : FR md_rr_ruleHead S S := FR.rf
  have w1 : 0 ≤ Xi S 246 2 ∧ Xi S 246 2 ≤ 24 := hH.c _ _
  have w2 : 0 ≤ Xi S 246 5 ∧ Xi S 246 5 ≤ 200000 := hH.c _ _
  have w3 : 0 ≤ Xi S 5 8 ∧ Xi S 5 8 ≤ 12 := hH.c _ _
  have w4 : -1 ≤ Xi S 895 4 ∧ Xi S 895 4 ≤ 15 := hH.c _ _
  have w5 : -1 ≤ Xi S 899 5 ∧ Xi S 899 5 ≤ 5131 := hH.c _ _
  intro T1 hHT1 hFT1 hg151 hq151 hru151 hl151 ha151 hm151 ht151 w6 w7
  have w8 : Xi T1 246 2 = Xi S 246 2 := hFT1.x _ _ rfl
  have w9 : Xi T1 5 8 = Xi S 5 8 := hFT1.x _ _ rfl
  have w10 : Xi T1 876 7 = Xi S 876 7 := hFT1.x _ _ rfl
  have w11 : 0 ≤ Xi T1 246 5 ∧ Xi T1 246 5 ≤ 200000 := hHT1.c _ _
  have w12 : 0 ≤ Xi T1 5 8 ∧ Xi T1 5 8 ≤ 12 := hHT1.c _ _
  refine l_aload_n rfl rfl ?_
  have w13 : 0 ≤ Xi T1 246 2 ∧ Xi T1 246 2 ≤ 24 := hHT1.c _ _
  have w16 : -1 ≤ Xi T1 895 4 ∧ Xi T1 895 4 ≤ 15 := hHT1.c _ _
  refine l_callV rfl rfl rfl (t_rr_nameNoun hHT1 (Xi S 246 2).toNat hru151 (by omega) (ha151) (fun q => hm151 (Or.inl q)) (fun q => hm151 (Or.inr (Or.inl q))) _) ?_
  rintro _ T2 ⟨hHT2, w19, rfl, w17⟩
  have hFT2 : FR md_rr_ruleHead S T2 := FR.tr hFT1 w19 rfl
  show Rl _ _ _ _ _ [] _ _
  have rT2_1 : Xi T2 (248 + (Xi S 246 2).toNat) 1 = Xi T1 (248 + (Xi S 246 2).toNat) 1 := FR_ru w19 rfl (by omega)
  have rT2_2 : Xi T2 (248 + (Xi S 246 2).toNat) 2 = Xi T1 (248 + (Xi S 246 2).toNat) 2 := FR_ru w19 rfl (by omega)
  have rT2_3 : Xi T2 (248 + (Xi S 246 2).toNat) 3 = Xi T1 (248 + (Xi S 246 2).toNat) 3 := FR_ru w19 rfl (by omega)
  have rT2_4 : Xi T2 (248 + (Xi S 246 2).toNat) 4 = Xi T1 (248 + (Xi S 246 2).toNat) 4 := FR_ru w19 rfl (by omega)
  have rT2_5 : Xi T2 (248 + (Xi S 246 2).toNat) 5 = Xi T1 (248 + (Xi S 246 2).toNat) 5 := FR_ru w19 rfl (by omega)
  have rT2_6 : Xi T2 (248 + (Xi S 246 2).toNat) 6 = Xi T1 (248 + (Xi S 246 2).toNat) 6 := FR_ru w19 rfl (by omega)
  have rT2_7 : Xi T2 (248 + (Xi S 246 2).toNat) 7 = Xi T1 (248 + (Xi S 246 2).toNat) 7 := FR_ru w19 rfl (by omega)
  have s152 : 0 ≤ Xi T2 895 4 → Xi T1 19 (Xi T1 (248 + (Xi S 246 2).toNat) 1).toNat ≠ -1 := by assumption
  have e152 : ∀ j, Xi T2 19 j = Xi T1 19 j := fun j => ((by assumption : FR md_rr_nameNoun T1 T2).cx 19 rfl j).1
  have r152 : 0 ≤ Xi T2 (248 + (Xi S 246 2).toNat) 4 ∧ Xi T2 (248 + (Xi S 246 2).toNat) 4 ≤ 5 := ruc4 hHT2 (by omega)
  have t152 : ∀ i : Nat, (i : Int) < Xi T2 (248 + (Xi S 246 2).toNat) 4 → TSok T2 True ((Xi S 246 5).toNat + i) := fun i hi => TSok_f hHT1 (by assumption : FR md_rr_nameNoun T1 T2) rfl rfl rfl (by omega) (ht151 i (by omega))
  have f152 : Xi T2 5 8 = Xi T1 5 8 := (by assumption : FR md_rr_nameNoun T1 T2).x 5 8 rfl
  have h152 : Xi T2 246 5 = Xi T1 246 5 := (by assumption : FR md_rr_nameNoun T1 T2).x 246 5 rfl
  have b152 : RB T2 (Xi S 246 2).toNat (Xi S 246 5) 0 0 := rb_0 (by omega) (by omega) (by omega) (by omega) (fun q => ⟨by omega, by rw [show Xi T2 (248 + (Xi S 246 2).toNat) 1 = Xi T1 (248 + (Xi S 246 2).toNat) 1 by omega, e152]; have := hm151 (Or.inr (Or.inl (by omega))); omega⟩) (fun q => ⟨by omega, by rw [show Xi T2 (248 + (Xi S 246 2).toNat) 1 = Xi T1 (248 + (Xi S 246 2).toNat) 1 by omega, e152]; exact s152 q⟩) t152 (fun q => ⟨by omega, by rw [show Xi T2 (248 + (Xi S 246 2).toNat) 1 = Xi T1 (248 + (Xi S 246 2).toNat) 1 by omega, e152]; have := hm151 (Or.inr (Or.inr (by omega))); omega⟩)
  refine l_iconst rfl ?_
  refine l_ireturn rfl rfl ?_
  have w20 : Xi T2 246 2 = Xi T1 246 2 := (show Xi T2 246 2 = Xi T1 246 2 from w19.x _ _ rfl)
  have w22 : Xi T2 246 5 = Xi T1 246 5 := (show Xi T2 246 5 = Xi T1 246 5 from w19.x _ _ rfl)
  have w24 : Xi T2 876 8 = Xi T1 876 8 := (show Xi T2 876 8 = Xi T1 876 8 from w19.x _ _ rfl)
  have w25 : 0 ≤ Xi T1 876 8 ∧ Xi T1 876 8 ≤ 9 := hHT1.c _ _
  have w26 : -1 ≤ Xi T2 895 4 ∧ Xi T2 895 4 ≤ 15 := hHT2.c _ _
  exact ⟨hHT2, hFT2, _, rfl, ⟨by omega, by omega⟩, (fun q => by first | (exfalso; omega) | exact hg67 | exact sG.tr hg151 (FR_sG hHT1 (by assumption : FR md_rr_nameNoun T1 T2) rfl (by rw [((by assumption : FR md_rr_nameNoun T1 T2).x 5 3 rfl)]; exact Int.le_refl _) (by rw [f152]; exact Int.le_refl _))), (fun q => by first | (exfalso; omega) | exact (kru_f w19 rfl hq151)), (fun q => by first | (exfalso; omega) | exact ((w19 899 4 rfl).2.2.trans hru151)), (by omega), (fun q => by first | (exfalso; omega) | exact b152 | exact rb_0 (by omega) (by omega) (by omega) (by omega) (fun q => by omega) (fun q => by omega) (fun i hi => by omega) (fun q => by omega)), (by omega), (fun q => by first | omega | (exfalso; omega))⟩
set_option maxRecDepth 100000 in
theorem c67_rr_ruleHead {S : sS} (hH : HI S) (sort : Int) (hsort : 3 ≤ sort ∧ sort ≤ 6) (hL : LEX S) (hn : Xi S 246 2 < 24 → Xi S 246 5 + 5 ≤ 600) (d : Nat) : ∀  (T3 : sS) (_ : HI T3) (_ : FR md_rr_ruleHead S T3), (sG S T3) → (KRU S T3 (Xi S 246 2).toNat) → (T3.2.2 899 4 = some (248 + (Xi S 246 2).toNat)) → (Xi S 246 2 < 24) → (Xi T3 (248 + (Xi S 246 2).toNat) 1 = -1 ∧ Xi T3 (248 + (Xi S 246 2).toNat) 2 = -1 ∧ Xi T3 (248 + (Xi S 246 2).toNat) 3 = -1 ∧ Xi T3 (248 + (Xi S 246 2).toNat) 4 = 0 ∧ Xi T3 (248 + (Xi S 246 2).toNat) 5 = 0 ∧ Xi T3 (248 + (Xi S 246 2).toNat) 6 = 0 ∧ Xi T3 (248 + (Xi S 246 2).toNat) 7 = Xi S 246 5) → (Xi T3 246 5 = Xi S 246 5) → (Xi T3 895 4 = -1) → (0 ≤ Xi T3 5 8) → (1 ≤ Xi T3 899 5 ∧ Xi T3 899 5 ≤ 2) → Rl lay0 (d + 5) m_rr_ruleHead 67 [(0, .ref 899), (1, iv sort)] [] T3 (Q_rr_ruleHead S sort) := by
  have C151 := c151_rr_ruleHead hH sort hsort hL hn d 
  have hF : FR md_rr_ruleHead S S := FR.rf
  have w1 : 0 ≤ Xi S 246 2 ∧ Xi S 246 2 ≤ 24 := hH.c _ _
  have w2 : 0 ≤ Xi S 246 5 ∧ Xi S 246 5 ≤ 200000 := hH.c _ _
  have w3 : 0 ≤ Xi S 5 8 ∧ Xi S 5 8 ≤ 12 := hH.c _ _
  have w4 : -1 ≤ Xi S 895 4 ∧ Xi S 895 4 ≤ 15 := hH.c _ _
  have w5 : -1 ≤ Xi S 899 5 ∧ Xi S 899 5 ≤ 5131 := hH.c _ _
  intro T3 hHT3 hFT3 hg67 hq67 hru67 hl67 hx67 w27 w28 hz67 w29
  have w30 : Xi T3 246 2 = Xi S 246 2 := hFT3.x _ _ rfl
  have w31 : Xi T3 5 8 = Xi S 5 8 := hFT3.x _ _ rfl
  have w32 : Xi T3 876 7 = Xi S 876 7 := hFT3.x _ _ rfl
  have w33 : 0 ≤ Xi T3 246 5 ∧ Xi T3 246 5 ≤ 200000 := hHT3.c _ _
  have w34 : 0 ≤ Xi T3 5 8 ∧ Xi T3 5 8 ≤ 12 := hHT3.c _ _
  have w35 : -1 ≤ Xi T3 895 4 ∧ Xi T3 895 4 ≤ 15 := hHT3.c _ _
  have w36 : -1 ≤ Xi T3 899 5 ∧ Xi T3 899 5 ≤ 5131 := hHT3.c _ _
  refine l_iload_n rfl rfl ?_
  refine l_bipush rfl rfl ?_
  refine l_icmp_eq rfl rfl (by unfold rg; omega) (by unfold rg; omega) (fun w37 => ?_) (fun w38 => ?_)
  · refine l_iconst rfl ?_
    refine l_ireturn rfl rfl ?_
    have w39 : 0 ≤ Xi T3 246 2 ∧ Xi T3 246 2 ≤ 24 := hHT3.c _ _
    have w41 : 0 ≤ Xi T3 876 8 ∧ Xi T3 876 8 ≤ 9 := hHT3.c _ _
    exact ⟨hHT3, hFT3, _, rfl, ⟨by omega, by omega⟩, (fun q => by first | (exfalso; omega) | exact hg67 | exact sG.tr hg151 (FR_sG hHT3 (by assumption : FR md_rr_nameNoun T3 T3) rfl (by rw [((by assumption : FR md_rr_nameNoun T3 T3).x 5 3 rfl)]; exact Int.le_refl _) (by rw [f152]; exact Int.le_refl _))), (fun q => by first | (exfalso; omega) | exact hq67), (fun q => by first | (exfalso; omega) | exact hru67), (by omega), (fun q => by first | (exfalso; omega) | exact b152 | exact rb_0 (by omega) (by omega) (by omega) (by omega) (fun q => by omega) (fun q => by omega) (fun i hi => by omega) (fun q => by omega)), (by omega), (fun q => by first | omega | (exfalso; omega))⟩
  · refine l_aload_n rfl rfl ?_
    refine l_gfi rfl rfl rfl rfl rfl ?_
    refine l_istore_n rfl rfl rfl ?_
    refine l_aload_n rfl rfl ?_
    refine l_gfr rfl rfl rfl rfl rfl (hHT3.r 899 0 876 rfl) ?_
    refine l_iload_n rfl rfl ?_
    have w43 : 0 ≤ Xi T3 246 2 ∧ Xi T3 246 2 ≤ 24 := hHT3.c _ _
    have w45 : 0 ≤ Xi T3 876 7 ∧ Xi T3 876 7 ≤ 5125 := hHT3.c _ _
    refine l_callV rfl rfl rfl (t_to_runEnd hHT3 (Xi T3 899 5) ⟨by omega, by omega⟩ _) ?_
    rintro _ _ ⟨rfl, z54, rfl, w54, w47, w48, w49, w50, w51, w52, w53⟩
    clear w49 w50 w51 w52
    show Rl _ _ _ _ _ [iv z54] _ _
    refine l_istore_n rfl rfl rfl ?_
    refine l_aload_n rfl rfl ?_
    refine l_gfr rfl rfl rfl rfl rfl (hHT3.r 899 0 876 rfl) ?_
    refine l_iload_n rfl rfl ?_
    refine l_callV rfl rfl rfl (t_to_typeAt hHT3 z54 ⟨by omega, by omega⟩ _) ?_
    rintro _ _ ⟨rfl, z62, rfl, w62, w59, w60, w61⟩
    clear w60 w61
    show Rl _ _ _ _ _ [iv z62] _ _
    refine l_callS rfl rfl (by decide) rfl (t_rs_isArt hHT3 z62 ⟨by omega, by omega⟩ _) ?_
    rintro _ _ ⟨rfl, z67, rfl, w67, w66⟩
    show Rl _ _ _ _ _ [iv z67] _ _
    refine l_istore rfl rfl rfl ?_
    refine l_aload_n rfl rfl ?_
    refine l_iload rfl rfl ?_
    refine l_if_eq rfl rfl (by unfold rg; omega) (fun w68 => ?_) (fun w69 => ?_)
    · refine l_iload_n rfl rfl ?_
      refine l_pfi rfl rfl rfl rfl ?_
      obtain ⟨U4, eU4⟩ : ∃ T : sS, T = uI T3 899 5 (Int32.ofInt z54) := ⟨_, rfl⟩
      rw [← eU4]
      have hHU4 : HI U4 := by rw [eU4]; exact HI_w hHT3 (show -1 ≤ z54 by omega) (show z54 ≤ 5131 by omega)
      have hFU4 : FR md_rr_ruleHead S U4 := by rw [eU4]; exact FR.wI hFT3 (mdf_i (r := (899, 900, 5, 6)) (List.mem_of_getElem? (i := 25) rfl) (inR_i (by omega) (by omega) (by omega) (by omega)))
      have w70 : Xi U4 899 5 = z54 := by rw [eU4]; exact Xi_same (by unfold rg; omega)
      have rU4_1 : Xi U4 (248 + (Xi S 246 2).toNat) 1 = Xi T3 (248 + (Xi S 246 2).toNat) 1 := by rw [eU4, Xi_ne (by omega)]
      have rU4_2 : Xi U4 (248 + (Xi S 246 2).toNat) 2 = Xi T3 (248 + (Xi S 246 2).toNat) 2 := by rw [eU4, Xi_ne (by omega)]
      have rU4_3 : Xi U4 (248 + (Xi S 246 2).toNat) 3 = Xi T3 (248 + (Xi S 246 2).toNat) 3 := by rw [eU4, Xi_ne (by omega)]
      have rU4_4 : Xi U4 (248 + (Xi S 246 2).toNat) 4 = Xi T3 (248 + (Xi S 246 2).toNat) 4 := by rw [eU4, Xi_ne (by omega)]
      have rU4_5 : Xi U4 (248 + (Xi S 246 2).toNat) 5 = Xi T3 (248 + (Xi S 246 2).toNat) 5 := by rw [eU4, Xi_ne (by omega)]
      have rU4_6 : Xi U4 (248 + (Xi S 246 2).toNat) 6 = Xi T3 (248 + (Xi S 246 2).toNat) 6 := by rw [eU4, Xi_ne (by omega)]
      have rU4_7 : Xi U4 (248 + (Xi S 246 2).toNat) 7 = Xi T3 (248 + (Xi S 246 2).toNat) 7 := by rw [eU4, Xi_ne (by omega)]
      have g120 : sG T3 U4 := FR_sG hHT3 (FR_e eU4) rfl (by rw [((FR_e eU4).x 5 3 rfl)]; exact Int.le_refl _) (by rw [((FR_e eU4).x 5 8 rfl)]; exact Int.le_refl _)
      refine l_iload rfl rfl ?_
      refine l_if_eq rfl rfl (by unfold rg; omega) (fun w71 => ?_) (fun w72 => ?_)
      · refine l_aload_n rfl rfl ?_
        refine l_iload_n rfl rfl ?_
        refine l_iload_n rfl rfl ?_
        have w73 : Xi U4 246 2 = Xi T3 246 2 := (show Xi U4 246 2 = Xi T3 246 2 from by rw [eU4]; exact Xi_ne (by omega))
        have w75 : Xi U4 246 5 = Xi T3 246 5 := (show Xi U4 246 5 = Xi T3 246 5 from by rw [eU4]; exact Xi_ne (by omega))
        have w77 : Xi U4 895 4 = Xi T3 895 4 := (show Xi U4 895 4 = Xi T3 895 4 from by rw [eU4]; exact Xi_ne (by omega))
        refine l_callV rfl rfl rfl (t_rr_actingAlone hHU4 (Xi S 246 2).toNat (Xi T3 899 5) z54 ⟨by omega, by omega⟩ ⟨by omega, by omega⟩ ((show U4.2.2 899 4 = T3.2.2 899 4 from by rw [eU4]; rfl).trans hru67) (by omega) (by first | assumption | exact (LEX_FR hFU4 rfl rfl (by assumption : LEX S))) _) ?_
        rintro _ T5 ⟨hHT5, w85, z84, rfl, w84, w79, w80, w81, w82, w83⟩
        have hFT5 : FR md_rr_ruleHead S T5 := FR.tr hFU4 w85 rfl
        show Rl _ _ _ _ _ [iv z84] _ _
        have a131 : z84 = 1 → 0 ≤ Xi T5 (248 + (Xi S 246 2).toNat) 1 ∧ Xi T5 (248 + (Xi S 246 2).toNat) 1 < Xi T5 5 8 := by assumption
        have h131 : Xi T5 246 5 = Xi U4 246 5 := (by assumption : FR md_rr_actingAlone U4 T5).x 246 5 rfl
        have n131 : z84 = 1 → Xi T5 (248 + (Xi S 246 2).toNat) 2 ≠ -1 → 0 ≤ Xi T5 19 (Xi T5 (248 + (Xi S 246 2).toNat) 1).toNat := by assumption
        have m131 : z84 = 1 → (Xi T5 (248 + (Xi S 246 2).toNat) 2 ≠ -1 ∨ Xi T5 (248 + (Xi S 246 2).toNat) 3 ≠ -1 ∨ 0 < Xi T5 (248 + (Xi S 246 2).toNat) 4) → 0 ≤ Xi T5 19 (Xi T5 (248 + (Xi S 246 2).toNat) 1).toNat := fun q e => n131 q (by omega)
        have t131 : z84 = 1 → ∀ i : Nat, (i : Int) < Xi T5 (248 + (Xi S 246 2).toNat) 4 → TSok T5 True ((Xi S 246 5).toNat + i) := fun q i hi => by omega
        have g131 : z84 = 1 → sG U4 T5 := fun _ => FR_sG hHU4 (by assumption : FR md_rr_actingAlone U4 T5) rfl (by rw [((by assumption : FR md_rr_actingAlone U4 T5).x 5 3 rfl)]; exact Int.le_refl _) (by rw [((by assumption : FR md_rr_actingAlone U4 T5).x 5 8 rfl)]; exact Int.le_refl _)
        have c131 : z84 = 1 → Xi T5 246 5 = Xi S 246 5 + Xi T5 (248 + (Xi S 246 2).toNat) 4 := by omega
        have d131 : z84 = 1 → Xi T5 (248 + (Xi S 246 2).toNat) 7 = Xi S 246 5 ∧ Xi T5 (248 + (Xi S 246 2).toNat) 5 = 0 ∧ Xi T5 (248 + (Xi S 246 2).toNat) 6 = 0 := by omega
        have q131 : KRU U4 T5 (Xi S 246 2).toNat := by assumption
        refine l_if_ne rfl rfl (by unfold rg; omega) (fun w86 => ?_) (fun w87 => ?_)
        · have w88 : Xi T5 246 2 = Xi T3 246 2 := (show Xi T5 246 2 = Xi U4 246 2 from w85.x _ _ rfl).trans ((show Xi U4 246 2 = Xi T3 246 2 from by rw [eU4]; exact Xi_ne (by omega)))
          have w90 : Xi T5 246 5 = Xi T3 246 5 := (show Xi T5 246 5 = Xi U4 246 5 from w85.x _ _ rfl).trans ((show Xi U4 246 5 = Xi T3 246 5 from by rw [eU4]; exact Xi_ne (by omega)))
          have w92 : Xi T5 5 8 = Xi T3 5 8 := (show Xi T5 5 8 = Xi U4 5 8 from w85.x _ _ rfl).trans ((show Xi U4 5 8 = Xi T3 5 8 from by rw [eU4]; exact Xi_ne (by omega)))
          have w94 : Xi T5 895 4 = Xi T3 895 4 := (show Xi T5 895 4 = Xi U4 895 4 from w85.x _ _ rfl).trans ((show Xi U4 895 4 = Xi T3 895 4 from by rw [eU4]; exact Xi_ne (by omega)))
          exact Rl_weak (C151 T5 hHT5 hFT5  (sG.tr hg67 (sG.tr g120 (g131 (by omega)))) ((kru_tr (kru_o eU4 (by omega) hq67) (by assumption : KRU U4 T5 _))) (((w85 899 4 rfl).2.2.trans ((show U4.2.2 899 4 = T3.2.2 899 4 from by rw [eU4]; rfl).trans hru67))) (by first | assumption | omega) (a131 (by omega)) (m131 (by omega)) (t131 (by omega)) (by omega) (by omega)) (And.intro rfl (True.intro))
        · refine l_iconst rfl ?_
          refine l_ireturn rfl rfl ?_
          have w96 : Xi T5 246 2 = Xi T3 246 2 := (show Xi T5 246 2 = Xi U4 246 2 from w85.x _ _ rfl).trans ((show Xi U4 246 2 = Xi T3 246 2 from by rw [eU4]; exact Xi_ne (by omega)))
          have w98 : Xi T5 246 5 = Xi T3 246 5 := (show Xi T5 246 5 = Xi U4 246 5 from w85.x _ _ rfl).trans ((show Xi U4 246 5 = Xi T3 246 5 from by rw [eU4]; exact Xi_ne (by omega)))
          have w100 : 0 ≤ Xi T5 876 8 ∧ Xi T5 876 8 ≤ 9 := hHT5.c _ _
          have w101 : Xi T5 895 4 = Xi T3 895 4 := (show Xi T5 895 4 = Xi U4 895 4 from w85.x _ _ rfl).trans ((show Xi U4 895 4 = Xi T3 895 4 from by rw [eU4]; exact Xi_ne (by omega)))
          exact ⟨hHT5, hFT5, _, rfl, ⟨by omega, by omega⟩, (fun q => by first | (exfalso; omega) | exact hg67 | exact sG.tr hg151 (FR_sG hHU4 (by assumption : FR md_rr_nameNoun U4 T5) rfl (by rw [((by assumption : FR md_rr_nameNoun U4 T5).x 5 3 rfl)]; exact Int.le_refl _) (by rw [f152]; exact Int.le_refl _))), (fun q => by first | (exfalso; omega) | exact (kru_tr (kru_o eU4 (by omega) hq67) (by assumption : KRU U4 T5 _))), (fun q => by first | (exfalso; omega) | exact ((w85 899 4 rfl).2.2.trans ((show U4.2.2 899 4 = T3.2.2 899 4 from by rw [eU4]; rfl).trans hru67))), (by omega), (fun q => by first | (exfalso; omega) | exact b152 | exact rb_0 (by omega) (by omega) (by omega) (by omega) (fun q => by omega) (fun q => by omega) (fun i hi => by omega) (fun q => by omega)), (by omega), (fun q => by first | omega | (exfalso; omega))⟩
      · refine l_aload_n rfl rfl ?_
        refine l_iload_n rfl rfl ?_
        refine l_iload_n rfl rfl ?_
        have w103 : Xi U4 246 2 = Xi T3 246 2 := (show Xi U4 246 2 = Xi T3 246 2 from by rw [eU4]; exact Xi_ne (by omega))
        have w105 : Xi U4 246 5 = Xi T3 246 5 := (show Xi U4 246 5 = Xi T3 246 5 from by rw [eU4]; exact Xi_ne (by omega))
        have w107 : Xi U4 895 4 = Xi T3 895 4 := (show Xi U4 895 4 = Xi T3 895 4 from by rw [eU4]; exact Xi_ne (by omega))
        have w109 : -1 ≤ Xi U4 899 5 ∧ Xi U4 899 5 ≤ 5131 := hHU4.c _ _
        refine l_callV rfl rfl rfl (t_rr_actingOn hHU4 (Xi S 246 2).toNat (Xi T3 899 5) z54 ⟨by omega, by omega⟩ ⟨by omega, by omega⟩ ((show U4.2.2 899 4 = T3.2.2 899 4 from by rw [eU4]; rfl).trans hru67) (by omega) (by first | assumption | exact (LEX_FR hFU4 rfl rfl (by assumption : LEX S))) (by first | assumption | omega) (by first | assumption | omega) (by first | assumption | omega) _) ?_
        rintro _ T6 ⟨hHT6, w119, z118, rfl, w118, w110, w111, w112, w113, w114, w115, w116, w117⟩
        have hFT6 : FR md_rr_ruleHead S T6 := FR.tr hFU4 w119 rfl
        show Rl _ _ _ _ _ [iv z118] _ _
        have a131 : z118 = 1 → 0 ≤ Xi T6 (248 + (Xi S 246 2).toNat) 1 ∧ Xi T6 (248 + (Xi S 246 2).toNat) 1 < Xi T6 5 8 := by assumption
        have n131 : z118 = 1 → 0 ≤ Xi T6 19 (Xi T6 (248 + (Xi S 246 2).toNat) 1).toNat := by assumption
        have m131 : z118 = 1 → (Xi T6 (248 + (Xi S 246 2).toNat) 2 ≠ -1 ∨ Xi T6 (248 + (Xi S 246 2).toNat) 3 ≠ -1 ∨ 0 < Xi T6 (248 + (Xi S 246 2).toNat) 4) → 0 ≤ Xi T6 19 (Xi T6 (248 + (Xi S 246 2).toNat) 1).toNat := fun q _ => n131 q
        have t131 : z118 = 1 → ∀ i : Nat, (i : Int) < Xi T6 (248 + (Xi S 246 2).toNat) 4 → TSok T6 True ((Xi S 246 5).toNat + i) := fun q i hi => by rw [show (Xi S 246 5).toNat = (Xi U4 246 5).toNat by omega]; exact (by assumption : z118 = 1 → ∀ i : Nat, (i : Int) < Xi T6 (248 + (Xi S 246 2).toNat) 4 → TSok T6 True ((Xi U4 246 5).toNat + i)) q i hi
        have g131 : z118 = 1 → sG U4 T6 := by assumption
        have c131 : z118 = 1 → Xi T6 246 5 = Xi S 246 5 + Xi T6 (248 + (Xi S 246 2).toNat) 4 := by omega
        have d131 : z118 = 1 → Xi T6 (248 + (Xi S 246 2).toNat) 7 = Xi S 246 5 ∧ Xi T6 (248 + (Xi S 246 2).toNat) 5 = 0 ∧ Xi T6 (248 + (Xi S 246 2).toNat) 6 = 0 := by omega
        have q131 : KRU U4 T6 (Xi S 246 2).toNat := by assumption
        refine l_if_eq rfl rfl (by unfold rg; omega) (fun w120 => ?_) (fun w121 => ?_)
        · refine l_iconst rfl ?_
          refine l_ireturn rfl rfl ?_
          have w122 : Xi T6 246 2 = Xi T3 246 2 := (show Xi T6 246 2 = Xi U4 246 2 from w119.x _ _ rfl).trans ((show Xi U4 246 2 = Xi T3 246 2 from by rw [eU4]; exact Xi_ne (by omega)))
          have w124 : 0 ≤ Xi T6 246 5 ∧ Xi T6 246 5 ≤ 200000 := hHT6.c _ _
          have w125 : 0 ≤ Xi T6 876 8 ∧ Xi T6 876 8 ≤ 9 := hHT6.c _ _
          have w126 : Xi T6 895 4 = Xi T3 895 4 := (show Xi T6 895 4 = Xi U4 895 4 from w119.x _ _ rfl).trans ((show Xi U4 895 4 = Xi T3 895 4 from by rw [eU4]; exact Xi_ne (by omega)))
          exact ⟨hHT6, hFT6, _, rfl, ⟨by omega, by omega⟩, (fun q => by first | (exfalso; omega) | exact hg67 | exact sG.tr hg151 (FR_sG hHU4 (by assumption : FR md_rr_nameNoun U4 T6) rfl (by rw [((by assumption : FR md_rr_nameNoun U4 T6).x 5 3 rfl)]; exact Int.le_refl _) (by rw [f152]; exact Int.le_refl _))), (fun q => by first | (exfalso; omega) | exact (kru_tr (kru_o eU4 (by omega) hq67) (by assumption : KRU U4 T6 _))), (fun q => by first | (exfalso; omega) | exact ((w119 899 4 rfl).2.2.trans ((show U4.2.2 899 4 = T3.2.2 899 4 from by rw [eU4]; rfl).trans hru67))), (by omega), (fun q => by first | (exfalso; omega) | exact b152 | exact rb_0 (by omega) (by omega) (by omega) (by omega) (fun q => by omega) (fun q => by omega) (fun i hi => by omega) (fun q => by omega)), (by omega), (fun q => by first | omega | (exfalso; omega))⟩
        · refine l_goto rfl rfl ?_
          have w128 : Xi T6 246 2 = Xi T3 246 2 := (show Xi T6 246 2 = Xi U4 246 2 from w119.x _ _ rfl).trans ((show Xi U4 246 2 = Xi T3 246 2 from by rw [eU4]; exact Xi_ne (by omega)))
          have w130 : 0 ≤ Xi T6 246 5 ∧ Xi T6 246 5 ≤ 200000 := hHT6.c _ _
          have w131 : Xi T6 5 8 = Xi T3 5 8 := (show Xi T6 5 8 = Xi U4 5 8 from w119.x _ _ rfl).trans ((show Xi U4 5 8 = Xi T3 5 8 from by rw [eU4]; exact Xi_ne (by omega)))
          have w133 : Xi T6 895 4 = Xi T3 895 4 := (show Xi T6 895 4 = Xi U4 895 4 from w119.x _ _ rfl).trans ((show Xi U4 895 4 = Xi T3 895 4 from by rw [eU4]; exact Xi_ne (by omega)))
          exact Rl_weak (C151 T6 hHT6 hFT6  (sG.tr hg67 (sG.tr g120 (g131 (by omega)))) ((kru_tr (kru_o eU4 (by omega) hq67) (by assumption : KRU U4 T6 _))) (((w119 899 4 rfl).2.2.trans ((show U4.2.2 899 4 = T3.2.2 899 4 from by rw [eU4]; rfl).trans hru67))) (by first | assumption | omega) (a131 (by omega)) (m131 (by omega)) (t131 (by omega)) (by omega) (by omega)) (And.intro rfl (True.intro))
    · refine l_aload_n rfl rfl ?_
      refine l_gfr rfl rfl rfl rfl rfl (hHT3.r 899 0 876 rfl) ?_
      refine l_iload_n rfl rfl ?_
      refine l_iconst rfl ?_
      refine l_iadd rfl ?_
      refine l_callV rfl rfl rfl (t_to_runEnd hHT3 (z54 + 1) ⟨by omega, by omega⟩ _) ?_
      rintro _ _ ⟨rfl, z146, rfl, w146, w139, w140, w141, w142, w143, w144, w145⟩
      clear w141 w142 w143 w144
      show Rl _ _ _ _ _ [iv z146, .ref 899] _ _
      refine l_goto rfl rfl ?_
      refine l_pfi rfl rfl rfl rfl ?_
      obtain ⟨U7, eU7⟩ : ∃ T : sS, T = uI T3 899 5 (Int32.ofInt z146) := ⟨_, rfl⟩
      rw [← eU7]
      have hHU7 : HI U7 := by rw [eU7]; exact HI_w hHT3 (show -1 ≤ z146 by omega) (show z146 ≤ 5131 by omega)
      have hFU7 : FR md_rr_ruleHead S U7 := by rw [eU7]; exact FR.wI hFT3 (mdf_i (r := (899, 900, 5, 6)) (List.mem_of_getElem? (i := 25) rfl) (inR_i (by omega) (by omega) (by omega) (by omega)))
      have w147 : Xi U7 899 5 = z146 := by rw [eU7]; exact Xi_same (by unfold rg; omega)
      have rU7_1 : Xi U7 (248 + (Xi S 246 2).toNat) 1 = Xi T3 (248 + (Xi S 246 2).toNat) 1 := by rw [eU7, Xi_ne (by omega)]
      have rU7_2 : Xi U7 (248 + (Xi S 246 2).toNat) 2 = Xi T3 (248 + (Xi S 246 2).toNat) 2 := by rw [eU7, Xi_ne (by omega)]
      have rU7_3 : Xi U7 (248 + (Xi S 246 2).toNat) 3 = Xi T3 (248 + (Xi S 246 2).toNat) 3 := by rw [eU7, Xi_ne (by omega)]
      have rU7_4 : Xi U7 (248 + (Xi S 246 2).toNat) 4 = Xi T3 (248 + (Xi S 246 2).toNat) 4 := by rw [eU7, Xi_ne (by omega)]
      have rU7_5 : Xi U7 (248 + (Xi S 246 2).toNat) 5 = Xi T3 (248 + (Xi S 246 2).toNat) 5 := by rw [eU7, Xi_ne (by omega)]
      have rU7_6 : Xi U7 (248 + (Xi S 246 2).toNat) 6 = Xi T3 (248 + (Xi S 246 2).toNat) 6 := by rw [eU7, Xi_ne (by omega)]
      have rU7_7 : Xi U7 (248 + (Xi S 246 2).toNat) 7 = Xi T3 (248 + (Xi S 246 2).toNat) 7 := by rw [eU7, Xi_ne (by omega)]
      have g120 : sG T3 U7 := FR_sG hHT3 (FR_e eU7) rfl (by rw [((FR_e eU7).x 5 3 rfl)]; exact Int.le_refl _) (by rw [((FR_e eU7).x 5 8 rfl)]; exact Int.le_refl _)
      refine l_iload rfl rfl ?_
      refine l_if_eq rfl rfl (by unfold rg; omega) (fun w148 => ?_) (fun w149 => ?_)
      · refine l_aload_n rfl rfl ?_
        refine l_iload_n rfl rfl ?_
        refine l_iload_n rfl rfl ?_
        have w150 : Xi U7 246 2 = Xi T3 246 2 := (show Xi U7 246 2 = Xi T3 246 2 from by rw [eU7]; exact Xi_ne (by omega))
        have w152 : Xi U7 246 5 = Xi T3 246 5 := (show Xi U7 246 5 = Xi T3 246 5 from by rw [eU7]; exact Xi_ne (by omega))
        have w154 : Xi U7 895 4 = Xi T3 895 4 := (show Xi U7 895 4 = Xi T3 895 4 from by rw [eU7]; exact Xi_ne (by omega))
        refine l_callV rfl rfl rfl (t_rr_actingAlone hHU7 (Xi S 246 2).toNat (Xi T3 899 5) z54 ⟨by omega, by omega⟩ ⟨by omega, by omega⟩ ((show U7.2.2 899 4 = T3.2.2 899 4 from by rw [eU7]; rfl).trans hru67) (by omega) (by first | assumption | exact (LEX_FR hFU7 rfl rfl (by assumption : LEX S))) _) ?_
        rintro _ T8 ⟨hHT8, w162, z161, rfl, w161, w156, w157, w158, w159, w160⟩
        have hFT8 : FR md_rr_ruleHead S T8 := FR.tr hFU7 w162 rfl
        show Rl _ _ _ _ _ [iv z161] _ _
        have a131 : z161 = 1 → 0 ≤ Xi T8 (248 + (Xi S 246 2).toNat) 1 ∧ Xi T8 (248 + (Xi S 246 2).toNat) 1 < Xi T8 5 8 := by assumption
        have h131 : Xi T8 246 5 = Xi U7 246 5 := (by assumption : FR md_rr_actingAlone U7 T8).x 246 5 rfl
        have n131 : z161 = 1 → Xi T8 (248 + (Xi S 246 2).toNat) 2 ≠ -1 → 0 ≤ Xi T8 19 (Xi T8 (248 + (Xi S 246 2).toNat) 1).toNat := by assumption
        have m131 : z161 = 1 → (Xi T8 (248 + (Xi S 246 2).toNat) 2 ≠ -1 ∨ Xi T8 (248 + (Xi S 246 2).toNat) 3 ≠ -1 ∨ 0 < Xi T8 (248 + (Xi S 246 2).toNat) 4) → 0 ≤ Xi T8 19 (Xi T8 (248 + (Xi S 246 2).toNat) 1).toNat := fun q e => n131 q (by omega)
        have t131 : z161 = 1 → ∀ i : Nat, (i : Int) < Xi T8 (248 + (Xi S 246 2).toNat) 4 → TSok T8 True ((Xi S 246 5).toNat + i) := fun q i hi => by omega
        have g131 : z161 = 1 → sG U7 T8 := fun _ => FR_sG hHU7 (by assumption : FR md_rr_actingAlone U7 T8) rfl (by rw [((by assumption : FR md_rr_actingAlone U7 T8).x 5 3 rfl)]; exact Int.le_refl _) (by rw [((by assumption : FR md_rr_actingAlone U7 T8).x 5 8 rfl)]; exact Int.le_refl _)
        have c131 : z161 = 1 → Xi T8 246 5 = Xi S 246 5 + Xi T8 (248 + (Xi S 246 2).toNat) 4 := by omega
        have d131 : z161 = 1 → Xi T8 (248 + (Xi S 246 2).toNat) 7 = Xi S 246 5 ∧ Xi T8 (248 + (Xi S 246 2).toNat) 5 = 0 ∧ Xi T8 (248 + (Xi S 246 2).toNat) 6 = 0 := by omega
        have q131 : KRU U7 T8 (Xi S 246 2).toNat := by assumption
        refine l_if_ne rfl rfl (by unfold rg; omega) (fun w163 => ?_) (fun w164 => ?_)
        · have w165 : Xi T8 246 2 = Xi T3 246 2 := (show Xi T8 246 2 = Xi U7 246 2 from w162.x _ _ rfl).trans ((show Xi U7 246 2 = Xi T3 246 2 from by rw [eU7]; exact Xi_ne (by omega)))
          have w167 : Xi T8 246 5 = Xi T3 246 5 := (show Xi T8 246 5 = Xi U7 246 5 from w162.x _ _ rfl).trans ((show Xi U7 246 5 = Xi T3 246 5 from by rw [eU7]; exact Xi_ne (by omega)))
          have w169 : Xi T8 5 8 = Xi T3 5 8 := (show Xi T8 5 8 = Xi U7 5 8 from w162.x _ _ rfl).trans ((show Xi U7 5 8 = Xi T3 5 8 from by rw [eU7]; exact Xi_ne (by omega)))
          have w171 : Xi T8 895 4 = Xi T3 895 4 := (show Xi T8 895 4 = Xi U7 895 4 from w162.x _ _ rfl).trans ((show Xi U7 895 4 = Xi T3 895 4 from by rw [eU7]; exact Xi_ne (by omega)))
          exact Rl_weak (C151 T8 hHT8 hFT8  (sG.tr hg67 (sG.tr g120 (g131 (by omega)))) ((kru_tr (kru_o eU7 (by omega) hq67) (by assumption : KRU U7 T8 _))) (((w162 899 4 rfl).2.2.trans ((show U7.2.2 899 4 = T3.2.2 899 4 from by rw [eU7]; rfl).trans hru67))) (by first | assumption | omega) (a131 (by omega)) (m131 (by omega)) (t131 (by omega)) (by omega) (by omega)) (And.intro rfl (True.intro))
        · refine l_iconst rfl ?_
          refine l_ireturn rfl rfl ?_
          have w173 : Xi T8 246 2 = Xi T3 246 2 := (show Xi T8 246 2 = Xi U7 246 2 from w162.x _ _ rfl).trans ((show Xi U7 246 2 = Xi T3 246 2 from by rw [eU7]; exact Xi_ne (by omega)))
          have w175 : Xi T8 246 5 = Xi T3 246 5 := (show Xi T8 246 5 = Xi U7 246 5 from w162.x _ _ rfl).trans ((show Xi U7 246 5 = Xi T3 246 5 from by rw [eU7]; exact Xi_ne (by omega)))
          have w177 : 0 ≤ Xi T8 876 8 ∧ Xi T8 876 8 ≤ 9 := hHT8.c _ _
          have w178 : Xi T8 895 4 = Xi T3 895 4 := (show Xi T8 895 4 = Xi U7 895 4 from w162.x _ _ rfl).trans ((show Xi U7 895 4 = Xi T3 895 4 from by rw [eU7]; exact Xi_ne (by omega)))
          exact ⟨hHT8, hFT8, _, rfl, ⟨by omega, by omega⟩, (fun q => by first | (exfalso; omega) | exact hg67 | exact sG.tr hg151 (FR_sG hHU7 (by assumption : FR md_rr_nameNoun U7 T8) rfl (by rw [((by assumption : FR md_rr_nameNoun U7 T8).x 5 3 rfl)]; exact Int.le_refl _) (by rw [f152]; exact Int.le_refl _))), (fun q => by first | (exfalso; omega) | exact (kru_tr (kru_o eU7 (by omega) hq67) (by assumption : KRU U7 T8 _))), (fun q => by first | (exfalso; omega) | exact ((w162 899 4 rfl).2.2.trans ((show U7.2.2 899 4 = T3.2.2 899 4 from by rw [eU7]; rfl).trans hru67))), (by omega), (fun q => by first | (exfalso; omega) | exact b152 | exact rb_0 (by omega) (by omega) (by omega) (by omega) (fun q => by omega) (fun q => by omega) (fun i hi => by omega) (fun q => by omega)), (by omega), (fun q => by first | omega | (exfalso; omega))⟩
      · refine l_aload_n rfl rfl ?_
        refine l_iload_n rfl rfl ?_
        refine l_iload_n rfl rfl ?_
        have w180 : Xi U7 246 2 = Xi T3 246 2 := (show Xi U7 246 2 = Xi T3 246 2 from by rw [eU7]; exact Xi_ne (by omega))
        have w182 : Xi U7 246 5 = Xi T3 246 5 := (show Xi U7 246 5 = Xi T3 246 5 from by rw [eU7]; exact Xi_ne (by omega))
        have w184 : Xi U7 895 4 = Xi T3 895 4 := (show Xi U7 895 4 = Xi T3 895 4 from by rw [eU7]; exact Xi_ne (by omega))
        have w186 : -1 ≤ Xi U7 899 5 ∧ Xi U7 899 5 ≤ 5131 := hHU7.c _ _
        refine l_callV rfl rfl rfl (t_rr_actingOn hHU7 (Xi S 246 2).toNat (Xi T3 899 5) z54 ⟨by omega, by omega⟩ ⟨by omega, by omega⟩ ((show U7.2.2 899 4 = T3.2.2 899 4 from by rw [eU7]; rfl).trans hru67) (by omega) (by first | assumption | exact (LEX_FR hFU7 rfl rfl (by assumption : LEX S))) (by first | assumption | omega) (by first | assumption | omega) (by first | assumption | omega) _) ?_
        rintro _ T9 ⟨hHT9, w196, z195, rfl, w195, w187, w188, w189, w190, w191, w192, w193, w194⟩
        have hFT9 : FR md_rr_ruleHead S T9 := FR.tr hFU7 w196 rfl
        show Rl _ _ _ _ _ [iv z195] _ _
        have a131 : z195 = 1 → 0 ≤ Xi T9 (248 + (Xi S 246 2).toNat) 1 ∧ Xi T9 (248 + (Xi S 246 2).toNat) 1 < Xi T9 5 8 := by assumption
        have n131 : z195 = 1 → 0 ≤ Xi T9 19 (Xi T9 (248 + (Xi S 246 2).toNat) 1).toNat := by assumption
        have m131 : z195 = 1 → (Xi T9 (248 + (Xi S 246 2).toNat) 2 ≠ -1 ∨ Xi T9 (248 + (Xi S 246 2).toNat) 3 ≠ -1 ∨ 0 < Xi T9 (248 + (Xi S 246 2).toNat) 4) → 0 ≤ Xi T9 19 (Xi T9 (248 + (Xi S 246 2).toNat) 1).toNat := fun q _ => n131 q
        have t131 : z195 = 1 → ∀ i : Nat, (i : Int) < Xi T9 (248 + (Xi S 246 2).toNat) 4 → TSok T9 True ((Xi S 246 5).toNat + i) := fun q i hi => by rw [show (Xi S 246 5).toNat = (Xi U7 246 5).toNat by omega]; exact (by assumption : z195 = 1 → ∀ i : Nat, (i : Int) < Xi T9 (248 + (Xi S 246 2).toNat) 4 → TSok T9 True ((Xi U7 246 5).toNat + i)) q i hi
        have g131 : z195 = 1 → sG U7 T9 := by assumption
        have c131 : z195 = 1 → Xi T9 246 5 = Xi S 246 5 + Xi T9 (248 + (Xi S 246 2).toNat) 4 := by omega
        have d131 : z195 = 1 → Xi T9 (248 + (Xi S 246 2).toNat) 7 = Xi S 246 5 ∧ Xi T9 (248 + (Xi S 246 2).toNat) 5 = 0 ∧ Xi T9 (248 + (Xi S 246 2).toNat) 6 = 0 := by omega
        have q131 : KRU U7 T9 (Xi S 246 2).toNat := by assumption
        refine l_if_eq rfl rfl (by unfold rg; omega) (fun w197 => ?_) (fun w198 => ?_)
        · refine l_iconst rfl ?_
          refine l_ireturn rfl rfl ?_
          have w199 : Xi T9 246 2 = Xi T3 246 2 := (show Xi T9 246 2 = Xi U7 246 2 from w196.x _ _ rfl).trans ((show Xi U7 246 2 = Xi T3 246 2 from by rw [eU7]; exact Xi_ne (by omega)))
          have w201 : 0 ≤ Xi T9 246 5 ∧ Xi T9 246 5 ≤ 200000 := hHT9.c _ _
          have w202 : 0 ≤ Xi T9 876 8 ∧ Xi T9 876 8 ≤ 9 := hHT9.c _ _
          have w203 : Xi T9 895 4 = Xi T3 895 4 := (show Xi T9 895 4 = Xi U7 895 4 from w196.x _ _ rfl).trans ((show Xi U7 895 4 = Xi T3 895 4 from by rw [eU7]; exact Xi_ne (by omega)))
          exact ⟨hHT9, hFT9, _, rfl, ⟨by omega, by omega⟩, (fun q => by first | (exfalso; omega) | exact hg67 | exact sG.tr hg151 (FR_sG hHU7 (by assumption : FR md_rr_nameNoun U7 T9) rfl (by rw [((by assumption : FR md_rr_nameNoun U7 T9).x 5 3 rfl)]; exact Int.le_refl _) (by rw [f152]; exact Int.le_refl _))), (fun q => by first | (exfalso; omega) | exact (kru_tr (kru_o eU7 (by omega) hq67) (by assumption : KRU U7 T9 _))), (fun q => by first | (exfalso; omega) | exact ((w196 899 4 rfl).2.2.trans ((show U7.2.2 899 4 = T3.2.2 899 4 from by rw [eU7]; rfl).trans hru67))), (by omega), (fun q => by first | (exfalso; omega) | exact b152 | exact rb_0 (by omega) (by omega) (by omega) (by omega) (fun q => by omega) (fun q => by omega) (fun i hi => by omega) (fun q => by omega)), (by omega), (fun q => by first | omega | (exfalso; omega))⟩
        · refine l_goto rfl rfl ?_
          have w205 : Xi T9 246 2 = Xi T3 246 2 := (show Xi T9 246 2 = Xi U7 246 2 from w196.x _ _ rfl).trans ((show Xi U7 246 2 = Xi T3 246 2 from by rw [eU7]; exact Xi_ne (by omega)))
          have w207 : 0 ≤ Xi T9 246 5 ∧ Xi T9 246 5 ≤ 200000 := hHT9.c _ _
          have w208 : Xi T9 5 8 = Xi T3 5 8 := (show Xi T9 5 8 = Xi U7 5 8 from w196.x _ _ rfl).trans ((show Xi U7 5 8 = Xi T3 5 8 from by rw [eU7]; exact Xi_ne (by omega)))
          have w210 : Xi T9 895 4 = Xi T3 895 4 := (show Xi T9 895 4 = Xi U7 895 4 from w196.x _ _ rfl).trans ((show Xi U7 895 4 = Xi T3 895 4 from by rw [eU7]; exact Xi_ne (by omega)))
          exact Rl_weak (C151 T9 hHT9 hFT9  (sG.tr hg67 (sG.tr g120 (g131 (by omega)))) ((kru_tr (kru_o eU7 (by omega) hq67) (by assumption : KRU U7 T9 _))) (((w196 899 4 rfl).2.2.trans ((show U7.2.2 899 4 = T3.2.2 899 4 from by rw [eU7]; rfl).trans hru67))) (by first | assumption | omega) (a131 (by omega)) (m131 (by omega)) (t131 (by omega)) (by omega) (by omega)) (And.intro rfl (True.intro))
set_option maxRecDepth 100000 in
theorem t_rr_ruleHead {S : sS} (hH : HI S) (sort : Int) (hsort : 3 ≤ sort ∧ sort ≤ 6) (hL : LEX S) (hn : Xi S 246 2 < 24 → Xi S 246 5 + 5 ≤ 600) (d : Nat) : Mt lay0 (d + 6) m_rr_ruleHead [.ref 899, iv sort] S (Q_rr_ruleHead S sort) := by
  refine Mt_R rfl rfl ?_
  have C151 := c151_rr_ruleHead hH sort hsort hL hn d 
  have C67 := c67_rr_ruleHead hH sort hsort hL hn d 
  have hF : FR md_rr_ruleHead S S := FR.rf
  have w1 : 0 ≤ Xi S 246 2 ∧ Xi S 246 2 ≤ 24 := hH.c _ _
  have w2 : 0 ≤ Xi S 246 5 ∧ Xi S 246 5 ≤ 200000 := hH.c _ _
  have w3 : 0 ≤ Xi S 5 8 ∧ Xi S 5 8 ≤ 12 := hH.c _ _
  have w4 : -1 ≤ Xi S 895 4 ∧ Xi S 895 4 ≤ 15 := hH.c _ _
  have w5 : -1 ≤ Xi S 899 5 ∧ Xi S 899 5 ≤ 5131 := hH.c _ _
  refine l_aload_n rfl rfl ?_
  refine l_gfr rfl rfl rfl rfl rfl (hH.r 899 3 246 rfl) ?_
  refine l_gfi rfl rfl rfl rfl rfl ?_
  refine l_bipush rfl rfl ?_
  refine l_icmp_lt rfl rfl (by unfold rg; omega) (by unfold rg; omega) (fun w212 => ?_) (fun w213 => ?_)
  · refine l_aload_n rfl rfl ?_
    refine l_aload_n rfl rfl ?_
    refine l_gfr rfl rfl rfl rfl rfl (hH.r 899 3 246 rfl) ?_
    refine l_iload_n rfl rfl ?_
    refine l_callS rfl rfl (by decide) rfl (t_rr_sortOfRule hH sort ⟨by omega, by omega⟩ _) ?_
    rintro _ _ ⟨rfl, z217, rfl, w217⟩
    show Rl _ _ _ _ _ [iv z217, .ref 246, .ref 899] _ _
    refine l_callV rfl rfl rfl (t_bo_startRule__2 hH z217 ⟨by omega, by omega⟩ (by first | assumption | omega) _) ?_
    rintro _ T10 ⟨hHT10, w225, z224, rfl, w224, w221, w222, w223⟩
    have hFT10 : FR md_rr_ruleHead S T10 := FR.tr hF w225 rfl
    show Rl _ _ _ _ _ [.ref (248 + z224), .ref 899] _ _
    refine l_pfr rfl rfl rfl rfl ?_
    obtain ⟨U11, eU11⟩ : ∃ T : sS, T = uR T10 899 4 (some (248 + z224)) := ⟨_, rfl⟩
    rw [← eU11]
    have hHU11 : HI U11 := by rw [eU11]; exact HI_R hHT10 rfl rfl (fun q => absurd q.1 (by decide)) (fun q => absurd q.1 (by decide)) (fun q => absurd q.1 (by decide)) (fun q => absurd q.1 (by decide)) (fun _ => ⟨_, rfl, by first | assumption | (right; assumption) | omega⟩)
    have hFU11 : FR md_rr_ruleHead S U11 := by rw [eU11]; exact FR.wR hFT10 (mdf_i (r := (899, 900, 4, 5)) (List.mem_of_getElem? (i := 24) rfl) (inR_i (by omega) (by omega) (by omega) (by omega)))
    have rU11_1 : Xi U11 (248 + z224) 1 = Xi T10 (248 + z224) 1 := by rw [eU11]; rfl
    have rU11_2 : Xi U11 (248 + z224) 2 = Xi T10 (248 + z224) 2 := by rw [eU11]; rfl
    have rU11_3 : Xi U11 (248 + z224) 3 = Xi T10 (248 + z224) 3 := by rw [eU11]; rfl
    have rU11_4 : Xi U11 (248 + z224) 4 = Xi T10 (248 + z224) 4 := by rw [eU11]; rfl
    have rU11_5 : Xi U11 (248 + z224) 5 = Xi T10 (248 + z224) 5 := by rw [eU11]; rfl
    have rU11_6 : Xi U11 (248 + z224) 6 = Xi T10 (248 + z224) 6 := by rw [eU11]; rfl
    have rU11_7 : Xi U11 (248 + z224) 7 = Xi T10 (248 + z224) 7 := by rw [eU11]; rfl
    refine l_aload_n rfl rfl ?_
    refine l_gfr rfl rfl rfl rfl rfl (hHU11.r 899 2 895 rfl) ?_
    refine l_bipush rfl rfl ?_
    refine l_iconst rfl ?_
    have w230 : Xi U11 895 4 = Xi S 895 4 := (show Xi U11 895 4 = Xi T10 895 4 from by rw [eU11]; rfl).trans ((show Xi T10 895 4 = Xi S 895 4 from w225.x _ _ rfl))
    refine l_callV rfl rfl rfl (t_me_startSelf hHU11 53 (-1) ⟨by omega, by omega⟩ ⟨by omega, by omega⟩ _) ?_
    rintro _ T12 ⟨hHT12, w234, rfl, w232⟩
    have hFT12 : FR md_rr_ruleHead S T12 := FR.tr hFU11 w234 rfl
    show Rl _ _ _ _ _ [] _ _
    have rT12_1 : Xi T12 (248 + z224) 1 = Xi U11 (248 + z224) 1 := FR_ru w234 rfl (by omega)
    have rT12_2 : Xi T12 (248 + z224) 2 = Xi U11 (248 + z224) 2 := FR_ru w234 rfl (by omega)
    have rT12_3 : Xi T12 (248 + z224) 3 = Xi U11 (248 + z224) 3 := FR_ru w234 rfl (by omega)
    have rT12_4 : Xi T12 (248 + z224) 4 = Xi U11 (248 + z224) 4 := FR_ru w234 rfl (by omega)
    have rT12_5 : Xi T12 (248 + z224) 5 = Xi U11 (248 + z224) 5 := FR_ru w234 rfl (by omega)
    have rT12_6 : Xi T12 (248 + z224) 6 = Xi U11 (248 + z224) 6 := FR_ru w234 rfl (by omega)
    have rT12_7 : Xi T12 (248 + z224) 7 = Xi U11 (248 + z224) 7 := FR_ru w234 rfl (by omega)
    refine l_aload_n rfl rfl ?_
    refine l_iload_n rfl rfl ?_
    refine l_iconst rfl ?_
    refine l_icmp_eq rfl rfl (by unfold rg; omega) (by unfold rg; omega) (fun w235 => ?_) (fun w236 => ?_)
    · refine l_iconst rfl ?_
      refine l_goto rfl rfl ?_
      refine l_pfi rfl rfl rfl rfl ?_
      obtain ⟨U13, eU13⟩ : ∃ T : sS, T = uI T12 899 5 (Int32.ofInt 1) := ⟨_, rfl⟩
      rw [← eU13]
      have hHU13 : HI U13 := by rw [eU13]; exact HI_w hHT12 (show -1 ≤ 1 by omega) (show 1 ≤ 5131 by omega)
      have hFU13 : FR md_rr_ruleHead S U13 := by rw [eU13]; exact FR.wI hFT12 (mdf_i (r := (899, 900, 5, 6)) (List.mem_of_getElem? (i := 25) rfl) (inR_i (by omega) (by omega) (by omega) (by omega)))
      have w237 : Xi U13 899 5 = 1 := by rw [eU13]; exact Xi_same (by unfold rg; omega)
      have rU13_1 : Xi U13 (248 + z224) 1 = Xi T12 (248 + z224) 1 := by rw [eU13, Xi_ne (by omega)]
      have rU13_2 : Xi U13 (248 + z224) 2 = Xi T12 (248 + z224) 2 := by rw [eU13, Xi_ne (by omega)]
      have rU13_3 : Xi U13 (248 + z224) 3 = Xi T12 (248 + z224) 3 := by rw [eU13, Xi_ne (by omega)]
      have rU13_4 : Xi U13 (248 + z224) 4 = Xi T12 (248 + z224) 4 := by rw [eU13, Xi_ne (by omega)]
      have rU13_5 : Xi U13 (248 + z224) 5 = Xi T12 (248 + z224) 5 := by rw [eU13, Xi_ne (by omega)]
      have rU13_6 : Xi U13 (248 + z224) 6 = Xi T12 (248 + z224) 6 := by rw [eU13, Xi_ne (by omega)]
      have rU13_7 : Xi U13 (248 + z224) 7 = Xi T12 (248 + z224) 7 := by rw [eU13, Xi_ne (by omega)]
      have w238 : Xi U13 246 2 = Xi S 246 2 := (show Xi U13 246 2 = Xi T12 246 2 from by rw [eU13]; exact Xi_ne (by omega)).trans ( (show Xi T12 246 2 = Xi U11 246 2 from w234.x _ _ rfl).trans ( (show Xi U11 246 2 = Xi T10 246 2 from by rw [eU11]; rfl).trans ((show Xi T10 246 2 = Xi S 246 2 from w225.x _ _ rfl))))
      have w240 : Xi U13 246 5 = Xi S 246 5 := (show Xi U13 246 5 = Xi T12 246 5 from by rw [eU13]; exact Xi_ne (by omega)).trans ( (show Xi T12 246 5 = Xi U11 246 5 from w234.x _ _ rfl).trans ( (show Xi U11 246 5 = Xi T10 246 5 from by rw [eU11]; rfl).trans ((show Xi T10 246 5 = Xi S 246 5 from w225.x _ _ rfl))))
      have w242 : Xi U13 5 8 = Xi S 5 8 := (show Xi U13 5 8 = Xi T12 5 8 from by rw [eU13]; exact Xi_ne (by omega)).trans ( (show Xi T12 5 8 = Xi U11 5 8 from w234.x _ _ rfl).trans ( (show Xi U11 5 8 = Xi T10 5 8 from by rw [eU11]; rfl).trans ((show Xi T10 5 8 = Xi S 5 8 from w225.x _ _ rfl))))
      have w244 : Xi U13 895 4 = Xi T12 895 4 := (show Xi U13 895 4 = Xi T12 895 4 from by rw [eU13]; exact Xi_ne (by omega))
      have w245 : -1 ≤ Xi T12 895 4 ∧ Xi T12 895 4 ≤ 15 := hHT12.c _ _
      have w246 : -1 ≤ Xi U13 899 5 ∧ Xi U13 899 5 ≤ 5131 := hHU13.c _ _
      exact Rl_weak (C67 U13 hHU13 hFU13  (sG_n (n := 600) hH ((show FR md_rr_ruleHead S U13 from by rw [eU13]; exact FR.wI (FR.tr (FR.tr (FR.tr FR.rf w225 rfl) (FR_R eU11) rfl) w234 rfl) (mdf_i (r := (899, 900, 5, 6)) (List.mem_of_getElem? (i := 25) rfl) (inR_i (by omega) (by omega) (by omega) (by omega)))) : FR md_rr_ruleHead S U13) rfl (kcl_o eU13 (by omega) (kcl_f w234 rfl (kcl_f (FR_R eU11) rfl (kcl_f w225 rfl KCL.rf)))) (by omega) (by omega)) (by rw [show (Xi S 246 2).toNat = z224 by omega]; exact (kru_o eU13 (by omega) (kru_f w234 rfl (kru_f (FR_R eU11) rfl (kru_tr KRU.rf (by assumption : KRU S T10 _)))))) (by rw [show (Xi S 246 2).toNat = z224 by omega]; exact ((show U13.2.2 899 4 = T12.2.2 899 4 from by rw [eU13]; rfl).trans ((w234 899 4 rfl).2.2.trans (show U11.2.2 899 4 = some (248 + z224) from by rw [eU11]; exact uR_s)))) (by first | assumption | omega) (by rw [show (Xi S 246 2).toNat = z224 by omega]; omega) (by omega) (by omega) ((hHU13.c 5 8).1) (by omega)) (And.intro rfl (And.intro rfl (True.intro)))
    · refine l_iload_n rfl rfl ?_
      refine l_iconst rfl ?_
      refine l_icmp_ne rfl rfl (by unfold rg; omega) (by unfold rg; omega) (fun w247 => ?_) (fun w248 => ?_)
      · refine l_iconst rfl ?_
        refine l_pfi rfl rfl rfl rfl ?_
        obtain ⟨U14, eU14⟩ : ∃ T : sS, T = uI T12 899 5 (Int32.ofInt 2) := ⟨_, rfl⟩
        rw [← eU14]
        have hHU14 : HI U14 := by rw [eU14]; exact HI_w hHT12 (show -1 ≤ 2 by omega) (show 2 ≤ 5131 by omega)
        have hFU14 : FR md_rr_ruleHead S U14 := by rw [eU14]; exact FR.wI hFT12 (mdf_i (r := (899, 900, 5, 6)) (List.mem_of_getElem? (i := 25) rfl) (inR_i (by omega) (by omega) (by omega) (by omega)))
        have w249 : Xi U14 899 5 = 2 := by rw [eU14]; exact Xi_same (by unfold rg; omega)
        have rU14_1 : Xi U14 (248 + z224) 1 = Xi T12 (248 + z224) 1 := by rw [eU14, Xi_ne (by omega)]
        have rU14_2 : Xi U14 (248 + z224) 2 = Xi T12 (248 + z224) 2 := by rw [eU14, Xi_ne (by omega)]
        have rU14_3 : Xi U14 (248 + z224) 3 = Xi T12 (248 + z224) 3 := by rw [eU14, Xi_ne (by omega)]
        have rU14_4 : Xi U14 (248 + z224) 4 = Xi T12 (248 + z224) 4 := by rw [eU14, Xi_ne (by omega)]
        have rU14_5 : Xi U14 (248 + z224) 5 = Xi T12 (248 + z224) 5 := by rw [eU14, Xi_ne (by omega)]
        have rU14_6 : Xi U14 (248 + z224) 6 = Xi T12 (248 + z224) 6 := by rw [eU14, Xi_ne (by omega)]
        have rU14_7 : Xi U14 (248 + z224) 7 = Xi T12 (248 + z224) 7 := by rw [eU14, Xi_ne (by omega)]
        have w250 : Xi U14 246 2 = Xi S 246 2 := (show Xi U14 246 2 = Xi T12 246 2 from by rw [eU14]; exact Xi_ne (by omega)).trans ( (show Xi T12 246 2 = Xi U11 246 2 from w234.x _ _ rfl).trans ( (show Xi U11 246 2 = Xi T10 246 2 from by rw [eU11]; rfl).trans ((show Xi T10 246 2 = Xi S 246 2 from w225.x _ _ rfl))))
        have w252 : Xi U14 246 5 = Xi S 246 5 := (show Xi U14 246 5 = Xi T12 246 5 from by rw [eU14]; exact Xi_ne (by omega)).trans ( (show Xi T12 246 5 = Xi U11 246 5 from w234.x _ _ rfl).trans ( (show Xi U11 246 5 = Xi T10 246 5 from by rw [eU11]; rfl).trans ((show Xi T10 246 5 = Xi S 246 5 from w225.x _ _ rfl))))
        have w254 : Xi U14 5 8 = Xi S 5 8 := (show Xi U14 5 8 = Xi T12 5 8 from by rw [eU14]; exact Xi_ne (by omega)).trans ( (show Xi T12 5 8 = Xi U11 5 8 from w234.x _ _ rfl).trans ( (show Xi U11 5 8 = Xi T10 5 8 from by rw [eU11]; rfl).trans ((show Xi T10 5 8 = Xi S 5 8 from w225.x _ _ rfl))))
        have w256 : Xi U14 895 4 = Xi T12 895 4 := (show Xi U14 895 4 = Xi T12 895 4 from by rw [eU14]; exact Xi_ne (by omega))
        have w257 : -1 ≤ Xi T12 895 4 ∧ Xi T12 895 4 ≤ 15 := hHT12.c _ _
        have w258 : -1 ≤ Xi U14 899 5 ∧ Xi U14 899 5 ≤ 5131 := hHU14.c _ _
        exact Rl_weak (C67 U14 hHU14 hFU14  (sG_n (n := 600) hH ((show FR md_rr_ruleHead S U14 from by rw [eU14]; exact FR.wI (FR.tr (FR.tr (FR.tr FR.rf w225 rfl) (FR_R eU11) rfl) w234 rfl) (mdf_i (r := (899, 900, 5, 6)) (List.mem_of_getElem? (i := 25) rfl) (inR_i (by omega) (by omega) (by omega) (by omega)))) : FR md_rr_ruleHead S U14) rfl (kcl_o eU14 (by omega) (kcl_f w234 rfl (kcl_f (FR_R eU11) rfl (kcl_f w225 rfl KCL.rf)))) (by omega) (by omega)) (by rw [show (Xi S 246 2).toNat = z224 by omega]; exact (kru_o eU14 (by omega) (kru_f w234 rfl (kru_f (FR_R eU11) rfl (kru_tr KRU.rf (by assumption : KRU S T10 _)))))) (by rw [show (Xi S 246 2).toNat = z224 by omega]; exact ((show U14.2.2 899 4 = T12.2.2 899 4 from by rw [eU14]; rfl).trans ((w234 899 4 rfl).2.2.trans (show U11.2.2 899 4 = some (248 + z224) from by rw [eU11]; exact uR_s)))) (by first | assumption | omega) (by rw [show (Xi S 246 2).toNat = z224 by omega]; omega) (by omega) (by omega) ((hHU14.c 5 8).1) (by omega)) (And.intro rfl (And.intro rfl (True.intro)))
      · refine l_iconst rfl ?_
        refine l_goto rfl rfl ?_
        refine l_pfi rfl rfl rfl rfl ?_
        obtain ⟨U15, eU15⟩ : ∃ T : sS, T = uI T12 899 5 (Int32.ofInt 1) := ⟨_, rfl⟩
        rw [← eU15]
        have hHU15 : HI U15 := by rw [eU15]; exact HI_w hHT12 (show -1 ≤ 1 by omega) (show 1 ≤ 5131 by omega)
        have hFU15 : FR md_rr_ruleHead S U15 := by rw [eU15]; exact FR.wI hFT12 (mdf_i (r := (899, 900, 5, 6)) (List.mem_of_getElem? (i := 25) rfl) (inR_i (by omega) (by omega) (by omega) (by omega)))
        have w259 : Xi U15 899 5 = 1 := by rw [eU15]; exact Xi_same (by unfold rg; omega)
        have rU15_1 : Xi U15 (248 + z224) 1 = Xi T12 (248 + z224) 1 := by rw [eU15, Xi_ne (by omega)]
        have rU15_2 : Xi U15 (248 + z224) 2 = Xi T12 (248 + z224) 2 := by rw [eU15, Xi_ne (by omega)]
        have rU15_3 : Xi U15 (248 + z224) 3 = Xi T12 (248 + z224) 3 := by rw [eU15, Xi_ne (by omega)]
        have rU15_4 : Xi U15 (248 + z224) 4 = Xi T12 (248 + z224) 4 := by rw [eU15, Xi_ne (by omega)]
        have rU15_5 : Xi U15 (248 + z224) 5 = Xi T12 (248 + z224) 5 := by rw [eU15, Xi_ne (by omega)]
        have rU15_6 : Xi U15 (248 + z224) 6 = Xi T12 (248 + z224) 6 := by rw [eU15, Xi_ne (by omega)]
        have rU15_7 : Xi U15 (248 + z224) 7 = Xi T12 (248 + z224) 7 := by rw [eU15, Xi_ne (by omega)]
        have w260 : Xi U15 246 2 = Xi S 246 2 := (show Xi U15 246 2 = Xi T12 246 2 from by rw [eU15]; exact Xi_ne (by omega)).trans ( (show Xi T12 246 2 = Xi U11 246 2 from w234.x _ _ rfl).trans ( (show Xi U11 246 2 = Xi T10 246 2 from by rw [eU11]; rfl).trans ((show Xi T10 246 2 = Xi S 246 2 from w225.x _ _ rfl))))
        have w262 : Xi U15 246 5 = Xi S 246 5 := (show Xi U15 246 5 = Xi T12 246 5 from by rw [eU15]; exact Xi_ne (by omega)).trans ( (show Xi T12 246 5 = Xi U11 246 5 from w234.x _ _ rfl).trans ( (show Xi U11 246 5 = Xi T10 246 5 from by rw [eU11]; rfl).trans ((show Xi T10 246 5 = Xi S 246 5 from w225.x _ _ rfl))))
        have w264 : Xi U15 5 8 = Xi S 5 8 := (show Xi U15 5 8 = Xi T12 5 8 from by rw [eU15]; exact Xi_ne (by omega)).trans ( (show Xi T12 5 8 = Xi U11 5 8 from w234.x _ _ rfl).trans ( (show Xi U11 5 8 = Xi T10 5 8 from by rw [eU11]; rfl).trans ((show Xi T10 5 8 = Xi S 5 8 from w225.x _ _ rfl))))
        have w266 : Xi U15 895 4 = Xi T12 895 4 := (show Xi U15 895 4 = Xi T12 895 4 from by rw [eU15]; exact Xi_ne (by omega))
        have w267 : -1 ≤ Xi T12 895 4 ∧ Xi T12 895 4 ≤ 15 := hHT12.c _ _
        have w268 : -1 ≤ Xi U15 899 5 ∧ Xi U15 899 5 ≤ 5131 := hHU15.c _ _
        exact Rl_weak (C67 U15 hHU15 hFU15  (sG_n (n := 600) hH ((show FR md_rr_ruleHead S U15 from by rw [eU15]; exact FR.wI (FR.tr (FR.tr (FR.tr FR.rf w225 rfl) (FR_R eU11) rfl) w234 rfl) (mdf_i (r := (899, 900, 5, 6)) (List.mem_of_getElem? (i := 25) rfl) (inR_i (by omega) (by omega) (by omega) (by omega)))) : FR md_rr_ruleHead S U15) rfl (kcl_o eU15 (by omega) (kcl_f w234 rfl (kcl_f (FR_R eU11) rfl (kcl_f w225 rfl KCL.rf)))) (by omega) (by omega)) (by rw [show (Xi S 246 2).toNat = z224 by omega]; exact (kru_o eU15 (by omega) (kru_f w234 rfl (kru_f (FR_R eU11) rfl (kru_tr KRU.rf (by assumption : KRU S T10 _)))))) (by rw [show (Xi S 246 2).toNat = z224 by omega]; exact ((show U15.2.2 899 4 = T12.2.2 899 4 from by rw [eU15]; rfl).trans ((w234 899 4 rfl).2.2.trans (show U11.2.2 899 4 = some (248 + z224) from by rw [eU11]; exact uR_s)))) (by first | assumption | omega) (by rw [show (Xi S 246 2).toNat = z224 by omega]; omega) (by omega) (by omega) ((hHU15.c 5 8).1) (by omega)) (And.intro rfl (And.intro rfl (True.intro)))
  · refine l_aload_n rfl rfl ?_
    refine l_gfr rfl rfl rfl rfl rfl (hH.r 899 0 876 rfl) ?_
    refine l_bipush rfl rfl ?_
    refine l_iconst rfl ?_
    refine l_callV rfl rfl rfl (t_to_wrong hH 9 0 ⟨by omega, by omega⟩ ⟨by omega, by omega⟩ _) ?_
    rintro _ T16 ⟨hHT16, w275, z274, rfl, w274, w272, w273⟩
    have hFT16 : FR md_rr_ruleHead S T16 := FR.tr hF w275 rfl
    show Rl _ _ _ _ _ [iv z274] _ _
    refine l_ireturn rfl (retI_z (by omega)) ?_
    have w276 : Xi T16 246 2 = Xi S 246 2 := (show Xi T16 246 2 = Xi S 246 2 from w275.x _ _ rfl)
    have w278 : Xi T16 246 5 = Xi S 246 5 := (show Xi T16 246 5 = Xi S 246 5 from w275.x _ _ rfl)
    have w280 : 0 ≤ Xi T16 876 8 ∧ Xi T16 876 8 ≤ 9 := hHT16.c _ _
    have w281 : Xi T16 895 4 = Xi S 895 4 := (show Xi T16 895 4 = Xi S 895 4 from w275.x _ _ rfl)
    exact ⟨hHT16, hFT16, _, rfl, ⟨by omega, by omega⟩, (fun q => by first | (exfalso; omega) | exact hg67 | exact sG.tr hg151 (FR_sG hH (by assumption : FR md_rr_nameNoun S T16) rfl (by rw [((by assumption : FR md_rr_nameNoun S T16).x 5 3 rfl)]; exact Int.le_refl _) (by rw [f152]; exact Int.le_refl _))), (fun q => by first | (exfalso; omega) | exact (kru_f w275 rfl KRU.rf)), (fun q => by first | (exfalso; omega) | exact (noru)), (by omega), (fun q => by first | (exfalso; omega) | exact b152 | exact rb_0 (by omega) (by omega) (by omega) (by omega) (fun q => by omega) (fun q => by omega) (fun i hi => by omega) (fun q => by omega)), (by omega), (fun q => by first | omega | (exfalso; omega))⟩
/-! SAFETY of methods: printed by wip/safe (vc.py, decl.py) -/
theorem tok_cl {S U : sS} {c j : Nat} {v : Int32} (e : U = uI S (276 + c) j v) (hc : c < 600) (h : TOK S) : TOK U := fun i hi => by
  rw [e, Xi_ne (by omega)] at hi
  have t := h i hi
  have x7 : Xi U 877 i = Xi S 877 i := by rw [e, Xi_ne (by omega)]
  have x8 : Xi U 878 i = Xi S 878 i := by rw [e, Xi_ne (by omega)]
  have x5 : Xi U 876 5 = Xi S 876 5 := by rw [e, Xi_ne (by omega)]
  have x9 : Xj U 879 i = Xj S 879 i := by rw [e]; rfl
  rw [x7, x8, x5, x9]
  exact t
def md_rr_sayText : List rec := [(246, 247, 8, 9), (274, 275, 0, 100000), (275, 276, 0, 100000), (276, 876, 0, 1), (276, 876, 3, 4), (276, 876, 4, 5), (276, 876, 5, 6), (876, 877, 7, 8), (876, 877, 8, 9), (876, 877, 9, 10), (877, 878, 0, 100000), (878, 879, 0, 100000), (879, 880, 0, 100000), (895, 896, 5, 6), (895, 896, 6, 7), (895, 896, 7, 8)]
abbrev Q_rr_sayText (S : sS) (ts : Nat) (row : Int) (cl : Nat) : pst := fun r S1 => HI S1 ∧ FR md_rr_sayText S S1 ∧ (∃ z : Int, r = some (iv z) ∧ (0 ≤ z ∧ z ≤ 1) ∧ (KCL S S1 cl) ∧ (z = 1 → CLok S1 (0 ≤ Xi S 895 4) cl) ∧ (z = 1 → IGR S S1 (0 ≤ Xi S 895 4)) ∧ (z = 1 → KTK S S1 (Xi S 876 6)) ∧ (z = 1 → TOK S1) ∧ (z = 1 → Xi S 876 6 ≤ Xi S1 876 7) ∧ (z = 0 → Xi S1 876 8 ≠ 0))
set_option maxRecDepth 100000 in
theorem c59_rr_sayText {S : sS} (hH : HI S) (ts : Nat) (row : Int) (cl : Nat) (hrow : 0 ≤ row ∧ row ≤ 5130) (hcl : cl < 600) (hts : S.2.2 876 4 = some ts) (htp : tp ts) (hL : LEX S) (hT : TOK S) (hS : SRX S) (hx : ts = txr S) (hcr : Xi S 876 6 ≤ Xi S 876 7) (ht : row < Xi S 876 6 ∧ Xi S 877 row.toNat = 102) (d : Nat) : ∀ (n59 : Nat) (T1 : sS) (_ : HI T1) (_ : FR md_rr_sayText S T1) (v4 : Int) (v5 : Int) (v6 : Int), (0 ≤ v4 ∧ v4 ≤ 5000) → (-1 ≤ v5 ∧ v5 ≤ 4999) → (1 ≤ v6 ∧ v6 ≤ 5000) → (KCL S T1 cl) → (Xi T1 (276 + cl) 0 = 7 ∧ Xi T1 (276 + cl) 3 = Xi S 246 8 ∧ Xi T1 (276 + cl) 4 = (Xi S 878 row.toNat + 1) ∧ Xi T1 (276 + cl) 5 = v4 - (Xi S 878 row.toNat + 1)) → (v4 = (Xi S 878 row.toNat + 1) + Xj S 879 row.toNat) → ((Xi S 878 row.toNat + 1) ≤ v6 ∧ v6 ≤ v4) → (v5 ≠ -1 → (Xi S 878 row.toNat + 1) ≤ v5 ∧ v5 < v6) → (TOK T1) → (Xi S 876 6 ≤ Xi T1 876 7) → (KTK S T1 (Xi S 876 6)) → (IGR S T1 (0 ≤ Xi S 895 4)) → (NB S T1 ts (Xi S 246 8) (Xi S 878 row.toNat + 1) (v6 - (Xi S 878 row.toNat + 1)) v5) → n59 = (5001 - v6).toNat → Rl lay0 (d + 4) m_rr_sayText 59 [(0, .ref 899), (1, iv row), (4, iv v4), (5, iv v5), (6, iv v6)] [] T1 (Q_rr_sayText S ts row cl) := by
  have hF : FR md_rr_sayText S S := FR.rf
  have w1 : 0 ≤ Xi S 246 8 ∧ Xi S 246 8 ≤ 1666 := hH.c _ _
  have w2 : 0 ≤ Xi S 876 6 ∧ Xi S 876 6 ≤ 5002 := hH.c _ _
  have w3 : 0 ≤ Xi S 876 7 ∧ Xi S 876 7 ≤ 5125 := hH.c _ _
  have w4 : -1 ≤ Xi S 895 4 ∧ Xi S 895 4 ≤ 15 := hH.c _ _
  have htk := hT row.toNat (by omega) ht.2
  have he5 : 0 ≤ Xi S 876 5 ∧ Xi S 876 5 ≤ 5000 := hH.c _ _
  have hp0 : 0 ≤ Xi S 878 row.toNat := (hH.c 878 row.toNat).1
  intro n59
  induction n59 using Nat.strongRecOn with
  | ind n59 ih59 =>
    intro T1 hHT1 hFT1 v4 v5 v6 w5 w6 w7 hc59 w8 w9 w10 w11 hT59 w12 hk59 hi59 hn59 hm59
    have w13 : Xi T1 876 6 = Xi S 876 6 := hFT1.x _ _ rfl
    have w14 : Xi T1 895 4 = Xi S 895 4 := hFT1.x _ _ rfl
    have w15 : 0 ≤ Xi T1 876 7 ∧ Xi T1 876 7 ≤ 5125 := hHT1.c _ _
    refine l_iload rfl rfl ?_
    refine l_iload rfl rfl ?_
    refine l_icmp_ge rfl rfl (by unfold rg; omega) (by unfold rg; omega) (fun w16 => ?_) (fun w17 => ?_)
    · refine l_iload rfl rfl ?_
      refine l_iconst rfl ?_
      refine l_icmp_eq rfl rfl (by unfold rg; omega) (by unfold rg; omega) (fun w18 => ?_) (fun w19 => ?_)
      · refine l_iconst rfl ?_
        refine l_goto rfl rfl ?_
        refine l_ireturn rfl rfl ?_
        have w20 : 0 ≤ Xi T1 246 8 ∧ Xi T1 246 8 ≤ 1666 := hHT1.c _ _
        have w22 : 0 ≤ Xi T1 876 8 ∧ Xi T1 876 8 ≤ 9 := hHT1.c _ _
        have w23 : -1 ≤ Xi T1 895 4 ∧ Xi T1 895 4 ≤ 15 := hHT1.c _ _
        exact ⟨hHT1, hFT1, _, rfl, ⟨by omega, by omega⟩, (hc59), (fun q => by first | (exfalso; omega) | exact cl_7 (by omega) (w := Xi S 246 8) (by omega) (v := (Xi S 878 row.toNat + 1)) (by omega) (n := v4 - (Xi S 878 row.toNat + 1)) (by omega) (tx_mk (SRX_FR hFT1 rfl hS) (by omega) (by omega)) (ins_mk hx (hFT1 20 1 rfl).2.2 (fun j => (hFT1.smk (ks := [(902, 904)]) rfl).x ts (tp_kC htp) j) (by rw [show v6 - (Xi S 878 row.toNat + 1) = v4 - (Xi S 878 row.toNat + 1) by omega, show v5 = -1 by omega] at hn59; exact hn59) hi59 rfl)), (fun q => by first | (exfalso; omega) | exact hi59), (fun q => by first | (exfalso; omega) | exact hk59), (fun q => by first | (exfalso; omega) | exact hT59), (by omega), (fun q => by first | omega | (exfalso; omega))⟩
      · refine l_aload_n rfl rfl ?_
        refine l_gfr rfl rfl rfl rfl rfl (hHT1.r 899 0 876 rfl) ?_
        refine l_bipush rfl rfl ?_
        refine l_iload_n rfl rfl ?_
        refine l_callV rfl rfl rfl (t_to_wrong hHT1 8 row ⟨by omega, by omega⟩ ⟨by omega, by omega⟩ _) ?_
        rintro _ T2 ⟨hHT2, w30, z29, rfl, w29, w27, w28⟩
        have hFT2 : FR md_rr_sayText S T2 := FR.tr hFT1 w30 rfl
        show Rl _ _ _ _ _ [iv z29] _ _
        refine l_if_eq rfl rfl (by unfold rg; omega) (fun w31 => ?_) (fun w32 => ?_)
        · refine l_iconst rfl ?_
          refine l_ireturn rfl rfl ?_
          have w33 : Xi T2 (276 + cl) 0 = Xi T1 (276 + cl) 0 := (show Xi T2 (276 + cl) 0 = Xi T1 (276 + cl) 0 from FR_cl w30 rfl (by omega))
          have w34 : Xi T2 (276 + cl) 3 = Xi T1 (276 + cl) 3 := (show Xi T2 (276 + cl) 3 = Xi T1 (276 + cl) 3 from FR_cl w30 rfl (by omega))
          have w35 : Xi T2 (276 + cl) 4 = Xi T1 (276 + cl) 4 := (show Xi T2 (276 + cl) 4 = Xi T1 (276 + cl) 4 from FR_cl w30 rfl (by omega))
          have w36 : Xi T2 (276 + cl) 5 = Xi T1 (276 + cl) 5 := (show Xi T2 (276 + cl) 5 = Xi T1 (276 + cl) 5 from FR_cl w30 rfl (by omega))
          have w37 : Xi T2 246 8 = Xi T1 246 8 := (show Xi T2 246 8 = Xi T1 246 8 from w30.x _ _ rfl)
          have w38 : 0 ≤ Xi T1 246 8 ∧ Xi T1 246 8 ≤ 1666 := hHT1.c _ _
          have w39 : Xi T2 876 7 = Xi T1 876 7 := (show Xi T2 876 7 = Xi T1 876 7 from w30.x _ _ rfl)
          have w41 : 0 ≤ Xi T2 876 8 ∧ Xi T2 876 8 ≤ 9 := hHT2.c _ _
          have w42 : Xi T2 895 4 = Xi T1 895 4 := (show Xi T2 895 4 = Xi T1 895 4 from w30.x _ _ rfl)
          have w43 : -1 ≤ Xi T1 895 4 ∧ Xi T1 895 4 ≤ 15 := hHT1.c _ _
          exact ⟨hHT2, hFT2, _, rfl, ⟨by omega, by omega⟩, ((kcl_f w30 rfl hc59)), (fun q => by first | (exfalso; omega) | exact cl_7 (by omega) (w := Xi S 246 8) (by omega) (v := (Xi S 878 row.toNat + 1)) (by omega) (n := v4 - (Xi S 878 row.toNat + 1)) (by omega) (tx_mk (SRX_FR hFT2 rfl hS) (by omega) (by omega)) (ins_mk hx (hFT2 20 1 rfl).2.2 (fun j => (hFT2.smk (ks := [(902, 904)]) rfl).x ts (tp_kC htp) j) (by rw [show v6 - (Xi S 878 row.toNat + 1) = v4 - (Xi S 878 row.toNat + 1) by omega, show v5 = -1 by omega] at hn59; exact hn59) hi59 rfl)), (fun q => by first | (exfalso; omega) | exact hi59), (fun q => by first | (exfalso; omega) | exact hk59), (fun q => by first | (exfalso; omega) | exact hT59), (by omega), (fun q => by first | omega | (exfalso; omega))⟩
        · refine l_iconst rfl ?_
          refine l_goto rfl rfl ?_
          refine l_ireturn rfl rfl ?_
          have w44 : Xi T2 (276 + cl) 0 = Xi T1 (276 + cl) 0 := (show Xi T2 (276 + cl) 0 = Xi T1 (276 + cl) 0 from FR_cl w30 rfl (by omega))
          have w45 : Xi T2 (276 + cl) 3 = Xi T1 (276 + cl) 3 := (show Xi T2 (276 + cl) 3 = Xi T1 (276 + cl) 3 from FR_cl w30 rfl (by omega))
          have w46 : Xi T2 (276 + cl) 4 = Xi T1 (276 + cl) 4 := (show Xi T2 (276 + cl) 4 = Xi T1 (276 + cl) 4 from FR_cl w30 rfl (by omega))
          have w47 : Xi T2 (276 + cl) 5 = Xi T1 (276 + cl) 5 := (show Xi T2 (276 + cl) 5 = Xi T1 (276 + cl) 5 from FR_cl w30 rfl (by omega))
          have w48 : Xi T2 246 8 = Xi T1 246 8 := (show Xi T2 246 8 = Xi T1 246 8 from w30.x _ _ rfl)
          have w49 : 0 ≤ Xi T1 246 8 ∧ Xi T1 246 8 ≤ 1666 := hHT1.c _ _
          have w50 : Xi T2 876 7 = Xi T1 876 7 := (show Xi T2 876 7 = Xi T1 876 7 from w30.x _ _ rfl)
          have w52 : 0 ≤ Xi T2 876 8 ∧ Xi T2 876 8 ≤ 9 := hHT2.c _ _
          have w53 : Xi T2 895 4 = Xi T1 895 4 := (show Xi T2 895 4 = Xi T1 895 4 from w30.x _ _ rfl)
          have w54 : -1 ≤ Xi T1 895 4 ∧ Xi T1 895 4 ≤ 15 := hHT1.c _ _
          exact ⟨hHT2, hFT2, _, rfl, ⟨by omega, by omega⟩, ((kcl_f w30 rfl hc59)), (fun q => by first | (exfalso; omega) | exact cl_7 (by omega) (w := Xi S 246 8) (by omega) (v := (Xi S 878 row.toNat + 1)) (by omega) (n := v4 - (Xi S 878 row.toNat + 1)) (by omega) (tx_mk (SRX_FR hFT2 rfl hS) (by omega) (by omega)) (ins_mk hx (hFT2 20 1 rfl).2.2 (fun j => (hFT2.smk (ks := [(902, 904)]) rfl).x ts (tp_kC htp) j) (by rw [show v6 - (Xi S 878 row.toNat + 1) = v4 - (Xi S 878 row.toNat + 1) by omega, show v5 = -1 by omega] at hn59; exact hn59) hi59 rfl)), (fun q => by first | (exfalso; omega) | exact hi59), (fun q => by first | (exfalso; omega) | exact hk59), (fun q => by first | (exfalso; omega) | exact hT59), (by omega), (fun q => by first | omega | (exfalso; omega))⟩
    · refine l_aload_n rfl rfl ?_
      refine l_gfr rfl rfl rfl rfl rfl (hHT1.r 899 0 876 rfl) ?_
      refine l_gfr rfl rfl rfl rfl rfl ((hFT1 876 4 rfl).2.2.trans hts) ?_
      refine l_iload rfl rfl ?_
      refine l_baload (n := 5000) rfl (tp_sv (by assumption)) (lay_tp (by assumption)) (by decide) (by omega) (by omega) (by unfold rg; omega) ?_
      have w56 : -128 ≤ (Xi T1 ts ((v6).toNat)) ∧ (Xi T1 ts ((v6).toNat)) ≤ 127 := tpc hHT1 (by assumption)
      have x75 : (Xi T1 ts ((v6).toNat)) = Xi S ts ((Xi S 878 row.toNat + 1) + (v6 - (Xi S 878 row.toNat + 1))).toNat := by rw [show (Xi S 878 row.toNat + 1) + (v6 - (Xi S 878 row.toNat + 1)) = v6 by omega]; exact (hFT1.smk (ks := [(902, 904)]) rfl).x ts (tp_kC htp) _
      refine l_istore rfl rfl rfl ?_
      refine l_iload rfl rfl ?_
      refine l_bipush rfl rfl ?_
      refine l_icmp_ne rfl rfl (by unfold rg; omega) (by unfold rg; omega) (fun w57 => ?_) (fun w58 => ?_)
      · refine l_iload rfl rfl ?_
        refine l_bipush rfl rfl ?_
        refine l_icmp_ne rfl rfl (by unfold rg; omega) (by unfold rg; omega) (fun w59 => ?_) (fun w60 => ?_)
        · refine l_iload rfl rfl ?_
          refine l_bipush rfl rfl ?_
          refine l_icmp_eq rfl rfl (by unfold rg; omega) (by unfold rg; omega) (fun w61 => ?_) (fun w62 => ?_)
          · refine l_iload rfl rfl ?_
            refine l_bipush rfl rfl ?_
            refine l_icmp_ne rfl rfl (by unfold rg; omega) (by unfold rg; omega) (fun w63 => ?_) (fun w64 => ?_)
            · refine l_iconst rfl ?_
              refine l_istore rfl rfl rfl ?_
              refine l_iinc rfl rfl rfl rfl ?_
              refine l_goto rfl rfl ?_
              have w65 : 0 ≤ Xi T1 246 8 ∧ Xi T1 246 8 ≤ 1666 := hHT1.c _ _
              have w67 : -1 ≤ Xi T1 895 4 ∧ Xi T1 895 4 ≤ 15 := hHT1.c _ _
              exact Rl_weak (ih59 _ (by omega) T1 hHT1 hFT1 (v4) ((-1)) ((v6 + 1)) (by omega) (by omega) (by omega) (hc59) (by omega) (by omega) (by omega) (by omega) (by first | assumption | exact t53) (by omega) (by first | exact k111 | exact hk59 | exact k53) (by first | exact i111 | exact hi59 | exact i53) (by first | exact nb_0 (by omega) (by omega) | exact nb_s hn59 (by omega) (by omega) x75 (by omega)) rfl) (And.intro rfl (And.intro rfl (And.intro rfl (And.intro rfl (And.intro rfl (True.intro))))))
            · refine l_iload rfl rfl ?_
              refine l_goto rfl rfl ?_
              refine l_istore rfl rfl rfl ?_
              refine l_iinc rfl rfl rfl rfl ?_
              refine l_goto rfl rfl ?_
              have w68 : 0 ≤ Xi T1 246 8 ∧ Xi T1 246 8 ≤ 1666 := hHT1.c _ _
              have w70 : -1 ≤ Xi T1 895 4 ∧ Xi T1 895 4 ≤ 15 := hHT1.c _ _
              exact Rl_weak (ih59 _ (by omega) T1 hHT1 hFT1 (v4) (v6) ((v6 + 1)) (by omega) (by omega) (by omega) (hc59) (by omega) (by omega) (by omega) (by omega) (by first | assumption | exact t53) (by omega) (by first | exact k111 | exact hk59 | exact k53) (by first | exact i111 | exact hi59 | exact i53) (by first | exact nb_0 (by omega) (by omega) | exact nb_s hn59 (by omega) (by omega) x75 (by omega)) rfl) (And.intro rfl (And.intro rfl (And.intro rfl (And.intro rfl (And.intro rfl (True.intro))))))
          · refine l_iload rfl rfl ?_
            refine l_bipush rfl rfl ?_
            refine l_icmp_ne rfl rfl (by unfold rg; omega) (by unfold rg; omega) (fun w71 => ?_) (fun w72 => ?_)
            · refine l_iinc rfl rfl rfl rfl ?_
              refine l_goto rfl rfl ?_
              have w73 : 0 ≤ Xi T1 246 8 ∧ Xi T1 246 8 ≤ 1666 := hHT1.c _ _
              have w75 : -1 ≤ Xi T1 895 4 ∧ Xi T1 895 4 ≤ 15 := hHT1.c _ _
              exact Rl_weak (ih59 _ (by omega) T1 hHT1 hFT1 (v4) (v5) ((v6 + 1)) (by omega) (by omega) (by omega) (hc59) (by omega) (by omega) (by omega) (by omega) (by first | assumption | exact t53) (by omega) (by first | exact k111 | exact hk59 | exact k53) (by first | exact i111 | exact hi59 | exact i53) (by first | exact nb_0 (by omega) (by omega) | exact nb_s hn59 (by omega) (by omega) x75 (by omega)) rfl) (And.intro rfl (And.intro rfl (And.intro rfl (And.intro rfl (And.intro rfl (True.intro))))))
            · refine l_iload rfl rfl ?_
              refine l_bipush rfl rfl ?_
              refine l_icmp_ne rfl rfl (by unfold rg; omega) (by unfold rg; omega) (fun w76 => ?_) (fun w77 => ?_)
              · refine l_iconst rfl ?_
                refine l_istore rfl rfl rfl ?_
                refine l_iinc rfl rfl rfl rfl ?_
                refine l_goto rfl rfl ?_
                have w78 : 0 ≤ Xi T1 246 8 ∧ Xi T1 246 8 ≤ 1666 := hHT1.c _ _
                have w80 : -1 ≤ Xi T1 895 4 ∧ Xi T1 895 4 ≤ 15 := hHT1.c _ _
                exact Rl_weak (ih59 _ (by omega) T1 hHT1 hFT1 (v4) ((-1)) ((v6 + 1)) (by omega) (by omega) (by omega) (hc59) (by omega) (by omega) (by omega) (by omega) (by first | assumption | exact t53) (by omega) (by first | exact k111 | exact hk59 | exact k53) (by first | exact i111 | exact hi59 | exact i53) (by first | exact nb_0 (by omega) (by omega) | exact nb_s hn59 (by omega) (by omega) x75 (by omega)) rfl) (And.intro rfl (And.intro rfl (And.intro rfl (And.intro rfl (And.intro rfl (True.intro))))))
              · refine l_iload rfl rfl ?_
                refine l_goto rfl rfl ?_
                refine l_istore rfl rfl rfl ?_
                refine l_iinc rfl rfl rfl rfl ?_
                refine l_goto rfl rfl ?_
                have w81 : 0 ≤ Xi T1 246 8 ∧ Xi T1 246 8 ≤ 1666 := hHT1.c _ _
                have w83 : -1 ≤ Xi T1 895 4 ∧ Xi T1 895 4 ≤ 15 := hHT1.c _ _
                exact Rl_weak (ih59 _ (by omega) T1 hHT1 hFT1 (v4) (v6) ((v6 + 1)) (by omega) (by omega) (by omega) (hc59) (by omega) (by omega) (by omega) (by omega) (by first | assumption | exact t53) (by omega) (by first | exact k111 | exact hk59 | exact k53) (by first | exact i111 | exact hi59 | exact i53) (by first | exact nb_0 (by omega) (by omega) | exact nb_s hn59 (by omega) (by omega) x75 (by omega)) rfl) (And.intro rfl (And.intro rfl (And.intro rfl (And.intro rfl (And.intro rfl (True.intro))))))
        · refine l_iload rfl rfl ?_
          refine l_iconst rfl ?_
          refine l_icmp_eq rfl rfl (by unfold rg; omega) (by unfold rg; omega) (fun w84 => ?_) (fun w85 => ?_)
          · refine l_aload_n rfl rfl ?_
            refine l_gfr rfl rfl rfl rfl rfl (hHT1.r 899 0 876 rfl) ?_
            refine l_bipush rfl rfl ?_
            refine l_iload_n rfl rfl ?_
            refine l_callV rfl rfl rfl (t_to_wrong hHT1 8 row ⟨by omega, by omega⟩ ⟨by omega, by omega⟩ _) ?_
            rintro _ T3 ⟨hHT3, w92, z91, rfl, w91, w89, w90⟩
            have hFT3 : FR md_rr_sayText S T3 := FR.tr hFT1 w92 rfl
            show Rl _ _ _ _ _ [iv z91] _ _
            refine l_ireturn rfl (retI_z (by omega)) ?_
            have w93 : Xi T3 (276 + cl) 0 = Xi T1 (276 + cl) 0 := (show Xi T3 (276 + cl) 0 = Xi T1 (276 + cl) 0 from FR_cl w92 rfl (by omega))
            have w94 : Xi T3 (276 + cl) 3 = Xi T1 (276 + cl) 3 := (show Xi T3 (276 + cl) 3 = Xi T1 (276 + cl) 3 from FR_cl w92 rfl (by omega))
            have w95 : Xi T3 (276 + cl) 4 = Xi T1 (276 + cl) 4 := (show Xi T3 (276 + cl) 4 = Xi T1 (276 + cl) 4 from FR_cl w92 rfl (by omega))
            have w96 : Xi T3 (276 + cl) 5 = Xi T1 (276 + cl) 5 := (show Xi T3 (276 + cl) 5 = Xi T1 (276 + cl) 5 from FR_cl w92 rfl (by omega))
            have w97 : Xi T3 246 8 = Xi T1 246 8 := (show Xi T3 246 8 = Xi T1 246 8 from w92.x _ _ rfl)
            have w98 : 0 ≤ Xi T1 246 8 ∧ Xi T1 246 8 ≤ 1666 := hHT1.c _ _
            have w99 : Xi T3 876 7 = Xi T1 876 7 := (show Xi T3 876 7 = Xi T1 876 7 from w92.x _ _ rfl)
            have w101 : 0 ≤ Xi T3 876 8 ∧ Xi T3 876 8 ≤ 9 := hHT3.c _ _
            have w102 : Xi T3 895 4 = Xi T1 895 4 := (show Xi T3 895 4 = Xi T1 895 4 from w92.x _ _ rfl)
            have w103 : -1 ≤ Xi T1 895 4 ∧ Xi T1 895 4 ≤ 15 := hHT1.c _ _
            exact ⟨hHT3, hFT3, _, rfl, ⟨by omega, by omega⟩, ((kcl_f w92 rfl hc59)), (fun q => by first | (exfalso; omega) | exact cl_7 (by omega) (w := Xi S 246 8) (by omega) (v := (Xi S 878 row.toNat + 1)) (by omega) (n := v4 - (Xi S 878 row.toNat + 1)) (by omega) (tx_mk (SRX_FR hFT3 rfl hS) (by omega) (by omega)) (ins_mk hx (hFT3 20 1 rfl).2.2 (fun j => (hFT3.smk (ks := [(902, 904)]) rfl).x ts (tp_kC htp) j) (by rw [show v6 - (Xi S 878 row.toNat + 1) = v4 - (Xi S 878 row.toNat + 1) by omega, show v5 = -1 by omega] at hn59; exact hn59) hi59 rfl)), (fun q => by first | (exfalso; omega) | exact hi59), (fun q => by first | (exfalso; omega) | exact hk59), (fun q => by first | (exfalso; omega) | exact hT59), (by omega), (fun q => by first | omega | (exfalso; omega))⟩
          · refine l_aload_n rfl rfl ?_
            refine l_iload rfl rfl ?_
            refine l_iconst rfl ?_
            refine l_iadd rfl ?_
            refine l_iload rfl rfl ?_
            have w104 : 0 ≤ Xi T1 246 8 ∧ Xi T1 246 8 ≤ 1666 := hHT1.c _ _
            have w105 : 0 ≤ Xi T1 876 6 ∧ Xi T1 876 6 ≤ 5002 := hHT1.c _ _
            have w107 : -1 ≤ Xi T1 895 4 ∧ Xi T1 895 4 ≤ 15 := hHT1.c _ _
            refine l_callV rfl rfl rfl (t_rr_insert hHT1 ts (v5 + 1) v6 ⟨by omega, by omega⟩ ⟨by omega, by omega⟩ ((hFT1 876 4 rfl).2.2.trans hts) htp (by first | assumption | exact (LEX_FR hFT1 rfl rfl (by assumption : LEX S))) (by assumption) (by first | assumption | omega) (by first | assumption | omega) _) ?_
            rintro _ T4 ⟨hHT4, w114, z113, rfl, w113, w108, w109, w110, w111, w112⟩
            have hFT4 : FR md_rr_sayText S T4 := FR.tr hFT1 w114 rfl
            show Rl _ _ _ _ _ [iv z113] _ _
            have i111 : IGR S T4 (0 ≤ Xi S 895 4) := IGR.tr hi59 (by assumption : IGR T1 T4 (0 ≤ Xi T1 895 4)) (fun x => by omega)
            have k111 : KTK S T4 (Xi S 876 6) := ktk_tr hk59 (by assumption : KTK T1 T4 (Xi T1 876 6)) (by omega)
            refine l_if_ne rfl rfl (by unfold rg; omega) (fun w115 => ?_) (fun w116 => ?_)
            · refine l_iload rfl rfl ?_
              refine l_bipush rfl rfl ?_
              refine l_icmp_eq rfl rfl (by unfold rg; omega) (by unfold rg; omega) (fun w117 => ?_) (fun w118 => ?_)
              · refine l_iload rfl rfl ?_
                refine l_bipush rfl rfl ?_
                refine l_icmp_ne rfl rfl (by unfold rg; omega) (by unfold rg; omega) (fun w119 => ?_) (fun w120 => ?_)
                · refine l_iconst rfl ?_
                  refine l_istore rfl rfl rfl ?_
                  refine l_iinc rfl rfl rfl rfl ?_
                  refine l_goto rfl rfl ?_
                  have w121 : Xi T4 (276 + cl) 0 = Xi T1 (276 + cl) 0 := (show Xi T4 (276 + cl) 0 = Xi T1 (276 + cl) 0 from FR_cl w114 rfl (by omega))
                  have w122 : Xi T4 (276 + cl) 3 = Xi T1 (276 + cl) 3 := (show Xi T4 (276 + cl) 3 = Xi T1 (276 + cl) 3 from FR_cl w114 rfl (by omega))
                  have w123 : Xi T4 (276 + cl) 4 = Xi T1 (276 + cl) 4 := (show Xi T4 (276 + cl) 4 = Xi T1 (276 + cl) 4 from FR_cl w114 rfl (by omega))
                  have w124 : Xi T4 (276 + cl) 5 = Xi T1 (276 + cl) 5 := (show Xi T4 (276 + cl) 5 = Xi T1 (276 + cl) 5 from FR_cl w114 rfl (by omega))
                  have w125 : 0 ≤ Xi T4 246 8 ∧ Xi T4 246 8 ≤ 1666 := hHT4.c _ _
                  have w126 : 0 ≤ Xi T4 876 7 ∧ Xi T4 876 7 ≤ 5125 := hHT4.c _ _
                  have w127 : Xi T4 895 4 = Xi T1 895 4 := (show Xi T4 895 4 = Xi T1 895 4 from w114.x _ _ rfl)
                  exact Rl_weak (ih59 _ (by omega) T4 hHT4 hFT4 (v4) ((-1)) ((v6 + 1)) (by omega) (by omega) (by omega) ((kcl_f w114 rfl hc59)) (by omega) (by omega) (by omega) (by omega) (by first | assumption | exact t53) (by omega) (by first | exact k111 | exact hk59 | exact k53) (by first | exact i111 | exact hi59 | exact i53) (by first | exact nb_0 (by omega) (by omega) | exact nb_s hn59 (by omega) (by omega) x75 (by omega)) rfl) (And.intro rfl (And.intro rfl (And.intro rfl (And.intro rfl (And.intro rfl (True.intro))))))
                · refine l_iload rfl rfl ?_
                  refine l_goto rfl rfl ?_
                  refine l_istore rfl rfl rfl ?_
                  refine l_iinc rfl rfl rfl rfl ?_
                  refine l_goto rfl rfl ?_
                  have w129 : Xi T4 (276 + cl) 0 = Xi T1 (276 + cl) 0 := (show Xi T4 (276 + cl) 0 = Xi T1 (276 + cl) 0 from FR_cl w114 rfl (by omega))
                  have w130 : Xi T4 (276 + cl) 3 = Xi T1 (276 + cl) 3 := (show Xi T4 (276 + cl) 3 = Xi T1 (276 + cl) 3 from FR_cl w114 rfl (by omega))
                  have w131 : Xi T4 (276 + cl) 4 = Xi T1 (276 + cl) 4 := (show Xi T4 (276 + cl) 4 = Xi T1 (276 + cl) 4 from FR_cl w114 rfl (by omega))
                  have w132 : Xi T4 (276 + cl) 5 = Xi T1 (276 + cl) 5 := (show Xi T4 (276 + cl) 5 = Xi T1 (276 + cl) 5 from FR_cl w114 rfl (by omega))
                  have w133 : 0 ≤ Xi T4 246 8 ∧ Xi T4 246 8 ≤ 1666 := hHT4.c _ _
                  have w134 : 0 ≤ Xi T4 876 7 ∧ Xi T4 876 7 ≤ 5125 := hHT4.c _ _
                  have w135 : Xi T4 895 4 = Xi T1 895 4 := (show Xi T4 895 4 = Xi T1 895 4 from w114.x _ _ rfl)
                  exact Rl_weak (ih59 _ (by omega) T4 hHT4 hFT4 (v4) (v6) ((v6 + 1)) (by omega) (by omega) (by omega) ((kcl_f w114 rfl hc59)) (by omega) (by omega) (by omega) (by omega) (by first | assumption | exact t53) (by omega) (by first | exact k111 | exact hk59 | exact k53) (by first | exact i111 | exact hi59 | exact i53) (by first | exact nb_0 (by omega) (by omega) | exact nb_s hn59 (by omega) (by omega) x75 (by omega)) rfl) (And.intro rfl (And.intro rfl (And.intro rfl (And.intro rfl (And.intro rfl (True.intro))))))
              · refine l_iload rfl rfl ?_
                refine l_bipush rfl rfl ?_
                refine l_icmp_ne rfl rfl (by unfold rg; omega) (by unfold rg; omega) (fun w137 => ?_) (fun w138 => ?_)
                · refine l_iinc rfl rfl rfl rfl ?_
                  refine l_goto rfl rfl ?_
                  have w139 : Xi T4 (276 + cl) 0 = Xi T1 (276 + cl) 0 := (show Xi T4 (276 + cl) 0 = Xi T1 (276 + cl) 0 from FR_cl w114 rfl (by omega))
                  have w140 : Xi T4 (276 + cl) 3 = Xi T1 (276 + cl) 3 := (show Xi T4 (276 + cl) 3 = Xi T1 (276 + cl) 3 from FR_cl w114 rfl (by omega))
                  have w141 : Xi T4 (276 + cl) 4 = Xi T1 (276 + cl) 4 := (show Xi T4 (276 + cl) 4 = Xi T1 (276 + cl) 4 from FR_cl w114 rfl (by omega))
                  have w142 : Xi T4 (276 + cl) 5 = Xi T1 (276 + cl) 5 := (show Xi T4 (276 + cl) 5 = Xi T1 (276 + cl) 5 from FR_cl w114 rfl (by omega))
                  have w143 : 0 ≤ Xi T4 246 8 ∧ Xi T4 246 8 ≤ 1666 := hHT4.c _ _
                  have w144 : 0 ≤ Xi T4 876 7 ∧ Xi T4 876 7 ≤ 5125 := hHT4.c _ _
                  have w145 : Xi T4 895 4 = Xi T1 895 4 := (show Xi T4 895 4 = Xi T1 895 4 from w114.x _ _ rfl)
                  exact Rl_weak (ih59 _ (by omega) T4 hHT4 hFT4 (v4) (v5) ((v6 + 1)) (by omega) (by omega) (by omega) ((kcl_f w114 rfl hc59)) (by omega) (by omega) (by omega) (by omega) (by first | assumption | exact t53) (by omega) (by first | exact k111 | exact hk59 | exact k53) (by first | exact i111 | exact hi59 | exact i53) (by first | exact nb_0 (by omega) (by omega) | exact nb_s hn59 (by omega) (by omega) x75 (by omega)) rfl) (And.intro rfl (And.intro rfl (And.intro rfl (And.intro rfl (And.intro rfl (True.intro))))))
                · refine l_iload rfl rfl ?_
                  refine l_bipush rfl rfl ?_
                  refine l_icmp_ne rfl rfl (by unfold rg; omega) (by unfold rg; omega) (fun w147 => ?_) (fun w148 => ?_)
                  · refine l_iconst rfl ?_
                    refine l_istore rfl rfl rfl ?_
                    refine l_iinc rfl rfl rfl rfl ?_
                    refine l_goto rfl rfl ?_
                    have w149 : Xi T4 (276 + cl) 0 = Xi T1 (276 + cl) 0 := (show Xi T4 (276 + cl) 0 = Xi T1 (276 + cl) 0 from FR_cl w114 rfl (by omega))
                    have w150 : Xi T4 (276 + cl) 3 = Xi T1 (276 + cl) 3 := (show Xi T4 (276 + cl) 3 = Xi T1 (276 + cl) 3 from FR_cl w114 rfl (by omega))
                    have w151 : Xi T4 (276 + cl) 4 = Xi T1 (276 + cl) 4 := (show Xi T4 (276 + cl) 4 = Xi T1 (276 + cl) 4 from FR_cl w114 rfl (by omega))
                    have w152 : Xi T4 (276 + cl) 5 = Xi T1 (276 + cl) 5 := (show Xi T4 (276 + cl) 5 = Xi T1 (276 + cl) 5 from FR_cl w114 rfl (by omega))
                    have w153 : 0 ≤ Xi T4 246 8 ∧ Xi T4 246 8 ≤ 1666 := hHT4.c _ _
                    have w154 : 0 ≤ Xi T4 876 7 ∧ Xi T4 876 7 ≤ 5125 := hHT4.c _ _
                    have w155 : Xi T4 895 4 = Xi T1 895 4 := (show Xi T4 895 4 = Xi T1 895 4 from w114.x _ _ rfl)
                    exact Rl_weak (ih59 _ (by omega) T4 hHT4 hFT4 (v4) ((-1)) ((v6 + 1)) (by omega) (by omega) (by omega) ((kcl_f w114 rfl hc59)) (by omega) (by omega) (by omega) (by omega) (by first | assumption | exact t53) (by omega) (by first | exact k111 | exact hk59 | exact k53) (by first | exact i111 | exact hi59 | exact i53) (by first | exact nb_0 (by omega) (by omega) | exact nb_s hn59 (by omega) (by omega) x75 (by omega)) rfl) (And.intro rfl (And.intro rfl (And.intro rfl (And.intro rfl (And.intro rfl (True.intro))))))
                  · refine l_iload rfl rfl ?_
                    refine l_goto rfl rfl ?_
                    refine l_istore rfl rfl rfl ?_
                    refine l_iinc rfl rfl rfl rfl ?_
                    refine l_goto rfl rfl ?_
                    have w157 : Xi T4 (276 + cl) 0 = Xi T1 (276 + cl) 0 := (show Xi T4 (276 + cl) 0 = Xi T1 (276 + cl) 0 from FR_cl w114 rfl (by omega))
                    have w158 : Xi T4 (276 + cl) 3 = Xi T1 (276 + cl) 3 := (show Xi T4 (276 + cl) 3 = Xi T1 (276 + cl) 3 from FR_cl w114 rfl (by omega))
                    have w159 : Xi T4 (276 + cl) 4 = Xi T1 (276 + cl) 4 := (show Xi T4 (276 + cl) 4 = Xi T1 (276 + cl) 4 from FR_cl w114 rfl (by omega))
                    have w160 : Xi T4 (276 + cl) 5 = Xi T1 (276 + cl) 5 := (show Xi T4 (276 + cl) 5 = Xi T1 (276 + cl) 5 from FR_cl w114 rfl (by omega))
                    have w161 : 0 ≤ Xi T4 246 8 ∧ Xi T4 246 8 ≤ 1666 := hHT4.c _ _
                    have w162 : 0 ≤ Xi T4 876 7 ∧ Xi T4 876 7 ≤ 5125 := hHT4.c _ _
                    have w163 : Xi T4 895 4 = Xi T1 895 4 := (show Xi T4 895 4 = Xi T1 895 4 from w114.x _ _ rfl)
                    exact Rl_weak (ih59 _ (by omega) T4 hHT4 hFT4 (v4) (v6) ((v6 + 1)) (by omega) (by omega) (by omega) ((kcl_f w114 rfl hc59)) (by omega) (by omega) (by omega) (by omega) (by first | assumption | exact t53) (by omega) (by first | exact k111 | exact hk59 | exact k53) (by first | exact i111 | exact hi59 | exact i53) (by first | exact nb_0 (by omega) (by omega) | exact nb_s hn59 (by omega) (by omega) x75 (by omega)) rfl) (And.intro rfl (And.intro rfl (And.intro rfl (And.intro rfl (And.intro rfl (True.intro))))))
            · refine l_aload_n rfl rfl ?_
              refine l_gfr rfl rfl rfl rfl rfl (hHT4.r 899 0 876 rfl) ?_
              refine l_bipush rfl rfl ?_
              refine l_iload_n rfl rfl ?_
              have w165 : Xi T4 (276 + cl) 0 = Xi T1 (276 + cl) 0 := (show Xi T4 (276 + cl) 0 = Xi T1 (276 + cl) 0 from FR_cl w114 rfl (by omega))
              have w166 : Xi T4 (276 + cl) 3 = Xi T1 (276 + cl) 3 := (show Xi T4 (276 + cl) 3 = Xi T1 (276 + cl) 3 from FR_cl w114 rfl (by omega))
              have w167 : Xi T4 (276 + cl) 4 = Xi T1 (276 + cl) 4 := (show Xi T4 (276 + cl) 4 = Xi T1 (276 + cl) 4 from FR_cl w114 rfl (by omega))
              have w168 : Xi T4 (276 + cl) 5 = Xi T1 (276 + cl) 5 := (show Xi T4 (276 + cl) 5 = Xi T1 (276 + cl) 5 from FR_cl w114 rfl (by omega))
              refine l_callV rfl rfl rfl (t_to_wrong hHT4 8 row ⟨by omega, by omega⟩ ⟨by omega, by omega⟩ _) ?_
              rintro _ T5 ⟨hHT5, w176, z175, rfl, w175, w173, w174⟩
              have hFT5 : FR md_rr_sayText S T5 := FR.tr hFT4 w176 rfl
              show Rl _ _ _ _ _ [iv z175] _ _
              refine l_ireturn rfl (retI_z (by omega)) ?_
              have w177 : Xi T5 (276 + cl) 0 = Xi T1 (276 + cl) 0 := (show Xi T5 (276 + cl) 0 = Xi T4 (276 + cl) 0 from FR_cl w176 rfl (by omega)).trans ((show Xi T4 (276 + cl) 0 = Xi T1 (276 + cl) 0 from FR_cl w114 rfl (by omega)))
              have w178 : Xi T5 (276 + cl) 3 = Xi T1 (276 + cl) 3 := (show Xi T5 (276 + cl) 3 = Xi T4 (276 + cl) 3 from FR_cl w176 rfl (by omega)).trans ((show Xi T4 (276 + cl) 3 = Xi T1 (276 + cl) 3 from FR_cl w114 rfl (by omega)))
              have w179 : Xi T5 (276 + cl) 4 = Xi T1 (276 + cl) 4 := (show Xi T5 (276 + cl) 4 = Xi T4 (276 + cl) 4 from FR_cl w176 rfl (by omega)).trans ((show Xi T4 (276 + cl) 4 = Xi T1 (276 + cl) 4 from FR_cl w114 rfl (by omega)))
              have w180 : Xi T5 (276 + cl) 5 = Xi T1 (276 + cl) 5 := (show Xi T5 (276 + cl) 5 = Xi T4 (276 + cl) 5 from FR_cl w176 rfl (by omega)).trans ((show Xi T4 (276 + cl) 5 = Xi T1 (276 + cl) 5 from FR_cl w114 rfl (by omega)))
              have w181 : Xi T5 246 8 = Xi T4 246 8 := (show Xi T5 246 8 = Xi T4 246 8 from w176.x _ _ rfl)
              have w182 : 0 ≤ Xi T4 246 8 ∧ Xi T4 246 8 ≤ 1666 := hHT4.c _ _
              have w183 : Xi T5 876 7 = Xi T4 876 7 := (show Xi T5 876 7 = Xi T4 876 7 from w176.x _ _ rfl)
              have w184 : 0 ≤ Xi T4 876 7 ∧ Xi T4 876 7 ≤ 5125 := hHT4.c _ _
              have w185 : 0 ≤ Xi T5 876 8 ∧ Xi T5 876 8 ≤ 9 := hHT5.c _ _
              have w186 : Xi T5 895 4 = Xi T1 895 4 := (show Xi T5 895 4 = Xi T4 895 4 from w176.x _ _ rfl).trans ((show Xi T4 895 4 = Xi T1 895 4 from w114.x _ _ rfl))
              exact ⟨hHT5, hFT5, _, rfl, ⟨by omega, by omega⟩, ((kcl_f w176 rfl (kcl_f w114 rfl hc59))), (fun q => by first | (exfalso; omega) | exact cl_7 (by omega) (w := Xi S 246 8) (by omega) (v := (Xi S 878 row.toNat + 1)) (by omega) (n := v4 - (Xi S 878 row.toNat + 1)) (by omega) (tx_mk (SRX_FR hFT5 rfl hS) (by omega) (by omega)) (ins_mk hx (hFT5 20 1 rfl).2.2 (fun j => (hFT5.smk (ks := [(902, 904)]) rfl).x ts (tp_kC htp) j) (by rw [show v6 - (Xi S 878 row.toNat + 1) = v4 - (Xi S 878 row.toNat + 1) by omega, show v5 = -1 by omega] at hn59; exact hn59) hi59 rfl)), (fun q => by first | (exfalso; omega) | exact hi59), (fun q => by first | (exfalso; omega) | exact hk59), (fun q => by first | (exfalso; omega) | exact hT59), (by omega), (fun q => by first | omega | (exfalso; omega))⟩
      · refine l_iload rfl rfl ?_
        refine l_iconst rfl ?_
        refine l_icmp_ne rfl rfl (by unfold rg; omega) (by unfold rg; omega) (fun w188 => ?_) (fun w189 => ?_)
        · refine l_aload_n rfl rfl ?_
          refine l_gfr rfl rfl rfl rfl rfl (hHT1.r 899 0 876 rfl) ?_
          refine l_bipush rfl rfl ?_
          refine l_iload_n rfl rfl ?_
          refine l_callV rfl rfl rfl (t_to_wrong hHT1 8 row ⟨by omega, by omega⟩ ⟨by omega, by omega⟩ _) ?_
          rintro _ T6 ⟨hHT6, w196, z195, rfl, w195, w193, w194⟩
          have hFT6 : FR md_rr_sayText S T6 := FR.tr hFT1 w196 rfl
          show Rl _ _ _ _ _ [iv z195] _ _
          refine l_ireturn rfl (retI_z (by omega)) ?_
          have w197 : Xi T6 (276 + cl) 0 = Xi T1 (276 + cl) 0 := (show Xi T6 (276 + cl) 0 = Xi T1 (276 + cl) 0 from FR_cl w196 rfl (by omega))
          have w198 : Xi T6 (276 + cl) 3 = Xi T1 (276 + cl) 3 := (show Xi T6 (276 + cl) 3 = Xi T1 (276 + cl) 3 from FR_cl w196 rfl (by omega))
          have w199 : Xi T6 (276 + cl) 4 = Xi T1 (276 + cl) 4 := (show Xi T6 (276 + cl) 4 = Xi T1 (276 + cl) 4 from FR_cl w196 rfl (by omega))
          have w200 : Xi T6 (276 + cl) 5 = Xi T1 (276 + cl) 5 := (show Xi T6 (276 + cl) 5 = Xi T1 (276 + cl) 5 from FR_cl w196 rfl (by omega))
          have w201 : Xi T6 246 8 = Xi T1 246 8 := (show Xi T6 246 8 = Xi T1 246 8 from w196.x _ _ rfl)
          have w202 : 0 ≤ Xi T1 246 8 ∧ Xi T1 246 8 ≤ 1666 := hHT1.c _ _
          have w203 : Xi T6 876 7 = Xi T1 876 7 := (show Xi T6 876 7 = Xi T1 876 7 from w196.x _ _ rfl)
          have w205 : 0 ≤ Xi T6 876 8 ∧ Xi T6 876 8 ≤ 9 := hHT6.c _ _
          have w206 : Xi T6 895 4 = Xi T1 895 4 := (show Xi T6 895 4 = Xi T1 895 4 from w196.x _ _ rfl)
          have w207 : -1 ≤ Xi T1 895 4 ∧ Xi T1 895 4 ≤ 15 := hHT1.c _ _
          exact ⟨hHT6, hFT6, _, rfl, ⟨by omega, by omega⟩, ((kcl_f w196 rfl hc59)), (fun q => by first | (exfalso; omega) | exact cl_7 (by omega) (w := Xi S 246 8) (by omega) (v := (Xi S 878 row.toNat + 1)) (by omega) (n := v4 - (Xi S 878 row.toNat + 1)) (by omega) (tx_mk (SRX_FR hFT6 rfl hS) (by omega) (by omega)) (ins_mk hx (hFT6 20 1 rfl).2.2 (fun j => (hFT6.smk (ks := [(902, 904)]) rfl).x ts (tp_kC htp) j) (by rw [show v6 - (Xi S 878 row.toNat + 1) = v4 - (Xi S 878 row.toNat + 1) by omega, show v5 = -1 by omega] at hn59; exact hn59) hi59 rfl)), (fun q => by first | (exfalso; omega) | exact hi59), (fun q => by first | (exfalso; omega) | exact hk59), (fun q => by first | (exfalso; omega) | exact hT59), (by omega), (fun q => by first | omega | (exfalso; omega))⟩
        · refine l_iload rfl rfl ?_
          refine l_bipush rfl rfl ?_
          refine l_icmp_ne rfl rfl (by unfold rg; omega) (by unfold rg; omega) (fun w208 => ?_) (fun w209 => ?_)
          · refine l_iload rfl rfl ?_
            refine l_bipush rfl rfl ?_
            refine l_icmp_eq rfl rfl (by unfold rg; omega) (by unfold rg; omega) (fun w210 => ?_) (fun w211 => ?_)
            · refine l_iload rfl rfl ?_
              refine l_bipush rfl rfl ?_
              refine l_icmp_ne rfl rfl (by unfold rg; omega) (by unfold rg; omega) (fun w212 => ?_) (fun w213 => ?_)
              · refine l_iconst rfl ?_
                refine l_istore rfl rfl rfl ?_
                refine l_iinc rfl rfl rfl rfl ?_
                refine l_goto rfl rfl ?_
                have w214 : 0 ≤ Xi T1 246 8 ∧ Xi T1 246 8 ≤ 1666 := hHT1.c _ _
                have w216 : -1 ≤ Xi T1 895 4 ∧ Xi T1 895 4 ≤ 15 := hHT1.c _ _
                exact Rl_weak (ih59 _ (by omega) T1 hHT1 hFT1 (v4) ((-1)) ((v6 + 1)) (by omega) (by omega) (by omega) (hc59) (by omega) (by omega) (by omega) (by omega) (by first | assumption | exact t53) (by omega) (by first | exact k111 | exact hk59 | exact k53) (by first | exact i111 | exact hi59 | exact i53) (by first | exact nb_0 (by omega) (by omega) | exact nb_s hn59 (by omega) (by omega) x75 (by omega)) rfl) (And.intro rfl (And.intro rfl (And.intro rfl (And.intro rfl (And.intro rfl (True.intro))))))
              · refine l_iload rfl rfl ?_
                refine l_goto rfl rfl ?_
                refine l_istore rfl rfl rfl ?_
                refine l_iinc rfl rfl rfl rfl ?_
                refine l_goto rfl rfl ?_
                have w217 : 0 ≤ Xi T1 246 8 ∧ Xi T1 246 8 ≤ 1666 := hHT1.c _ _
                have w219 : -1 ≤ Xi T1 895 4 ∧ Xi T1 895 4 ≤ 15 := hHT1.c _ _
                exact Rl_weak (ih59 _ (by omega) T1 hHT1 hFT1 (v4) (v6) ((v6 + 1)) (by omega) (by omega) (by omega) (hc59) (by omega) (by omega) (by omega) (by omega) (by first | assumption | exact t53) (by omega) (by first | exact k111 | exact hk59 | exact k53) (by first | exact i111 | exact hi59 | exact i53) (by first | exact nb_0 (by omega) (by omega) | exact nb_s hn59 (by omega) (by omega) x75 (by omega)) rfl) (And.intro rfl (And.intro rfl (And.intro rfl (And.intro rfl (And.intro rfl (True.intro))))))
            · refine l_iload rfl rfl ?_
              refine l_bipush rfl rfl ?_
              refine l_icmp_ne rfl rfl (by unfold rg; omega) (by unfold rg; omega) (fun w220 => ?_) (fun w221 => ?_)
              · refine l_iinc rfl rfl rfl rfl ?_
                refine l_goto rfl rfl ?_
                have w222 : 0 ≤ Xi T1 246 8 ∧ Xi T1 246 8 ≤ 1666 := hHT1.c _ _
                have w224 : -1 ≤ Xi T1 895 4 ∧ Xi T1 895 4 ≤ 15 := hHT1.c _ _
                exact Rl_weak (ih59 _ (by omega) T1 hHT1 hFT1 (v4) (v5) ((v6 + 1)) (by omega) (by omega) (by omega) (hc59) (by omega) (by omega) (by omega) (by omega) (by first | assumption | exact t53) (by omega) (by first | exact k111 | exact hk59 | exact k53) (by first | exact i111 | exact hi59 | exact i53) (by first | exact nb_0 (by omega) (by omega) | exact nb_s hn59 (by omega) (by omega) x75 (by omega)) rfl) (And.intro rfl (And.intro rfl (And.intro rfl (And.intro rfl (And.intro rfl (True.intro))))))
              · refine l_iload rfl rfl ?_
                refine l_bipush rfl rfl ?_
                refine l_icmp_ne rfl rfl (by unfold rg; omega) (by unfold rg; omega) (fun w225 => ?_) (fun w226 => ?_)
                · refine l_iconst rfl ?_
                  refine l_istore rfl rfl rfl ?_
                  refine l_iinc rfl rfl rfl rfl ?_
                  refine l_goto rfl rfl ?_
                  have w227 : 0 ≤ Xi T1 246 8 ∧ Xi T1 246 8 ≤ 1666 := hHT1.c _ _
                  have w229 : -1 ≤ Xi T1 895 4 ∧ Xi T1 895 4 ≤ 15 := hHT1.c _ _
                  exact Rl_weak (ih59 _ (by omega) T1 hHT1 hFT1 (v4) ((-1)) ((v6 + 1)) (by omega) (by omega) (by omega) (hc59) (by omega) (by omega) (by omega) (by omega) (by first | assumption | exact t53) (by omega) (by first | exact k111 | exact hk59 | exact k53) (by first | exact i111 | exact hi59 | exact i53) (by first | exact nb_0 (by omega) (by omega) | exact nb_s hn59 (by omega) (by omega) x75 (by omega)) rfl) (And.intro rfl (And.intro rfl (And.intro rfl (And.intro rfl (And.intro rfl (True.intro))))))
                · refine l_iload rfl rfl ?_
                  refine l_goto rfl rfl ?_
                  refine l_istore rfl rfl rfl ?_
                  refine l_iinc rfl rfl rfl rfl ?_
                  refine l_goto rfl rfl ?_
                  have w230 : 0 ≤ Xi T1 246 8 ∧ Xi T1 246 8 ≤ 1666 := hHT1.c _ _
                  have w232 : -1 ≤ Xi T1 895 4 ∧ Xi T1 895 4 ≤ 15 := hHT1.c _ _
                  exact Rl_weak (ih59 _ (by omega) T1 hHT1 hFT1 (v4) (v6) ((v6 + 1)) (by omega) (by omega) (by omega) (hc59) (by omega) (by omega) (by omega) (by omega) (by first | assumption | exact t53) (by omega) (by first | exact k111 | exact hk59 | exact k53) (by first | exact i111 | exact hi59 | exact i53) (by first | exact nb_0 (by omega) (by omega) | exact nb_s hn59 (by omega) (by omega) x75 (by omega)) rfl) (And.intro rfl (And.intro rfl (And.intro rfl (And.intro rfl (And.intro rfl (True.intro))))))
          · refine l_iload rfl rfl ?_
            refine l_iconst rfl ?_
            refine l_icmp_eq rfl rfl (by unfold rg; omega) (by unfold rg; omega) (fun w233 => ?_) (fun w234 => ?_)
            · refine l_aload_n rfl rfl ?_
              refine l_gfr rfl rfl rfl rfl rfl (hHT1.r 899 0 876 rfl) ?_
              refine l_bipush rfl rfl ?_
              refine l_iload_n rfl rfl ?_
              refine l_callV rfl rfl rfl (t_to_wrong hHT1 8 row ⟨by omega, by omega⟩ ⟨by omega, by omega⟩ _) ?_
              rintro _ T7 ⟨hHT7, w241, z240, rfl, w240, w238, w239⟩
              have hFT7 : FR md_rr_sayText S T7 := FR.tr hFT1 w241 rfl
              show Rl _ _ _ _ _ [iv z240] _ _
              refine l_ireturn rfl (retI_z (by omega)) ?_
              have w242 : Xi T7 (276 + cl) 0 = Xi T1 (276 + cl) 0 := (show Xi T7 (276 + cl) 0 = Xi T1 (276 + cl) 0 from FR_cl w241 rfl (by omega))
              have w243 : Xi T7 (276 + cl) 3 = Xi T1 (276 + cl) 3 := (show Xi T7 (276 + cl) 3 = Xi T1 (276 + cl) 3 from FR_cl w241 rfl (by omega))
              have w244 : Xi T7 (276 + cl) 4 = Xi T1 (276 + cl) 4 := (show Xi T7 (276 + cl) 4 = Xi T1 (276 + cl) 4 from FR_cl w241 rfl (by omega))
              have w245 : Xi T7 (276 + cl) 5 = Xi T1 (276 + cl) 5 := (show Xi T7 (276 + cl) 5 = Xi T1 (276 + cl) 5 from FR_cl w241 rfl (by omega))
              have w246 : Xi T7 246 8 = Xi T1 246 8 := (show Xi T7 246 8 = Xi T1 246 8 from w241.x _ _ rfl)
              have w247 : 0 ≤ Xi T1 246 8 ∧ Xi T1 246 8 ≤ 1666 := hHT1.c _ _
              have w248 : Xi T7 876 7 = Xi T1 876 7 := (show Xi T7 876 7 = Xi T1 876 7 from w241.x _ _ rfl)
              have w250 : 0 ≤ Xi T7 876 8 ∧ Xi T7 876 8 ≤ 9 := hHT7.c _ _
              have w251 : Xi T7 895 4 = Xi T1 895 4 := (show Xi T7 895 4 = Xi T1 895 4 from w241.x _ _ rfl)
              have w252 : -1 ≤ Xi T1 895 4 ∧ Xi T1 895 4 ≤ 15 := hHT1.c _ _
              exact ⟨hHT7, hFT7, _, rfl, ⟨by omega, by omega⟩, ((kcl_f w241 rfl hc59)), (fun q => by first | (exfalso; omega) | exact cl_7 (by omega) (w := Xi S 246 8) (by omega) (v := (Xi S 878 row.toNat + 1)) (by omega) (n := v4 - (Xi S 878 row.toNat + 1)) (by omega) (tx_mk (SRX_FR hFT7 rfl hS) (by omega) (by omega)) (ins_mk hx (hFT7 20 1 rfl).2.2 (fun j => (hFT7.smk (ks := [(902, 904)]) rfl).x ts (tp_kC htp) j) (by rw [show v6 - (Xi S 878 row.toNat + 1) = v4 - (Xi S 878 row.toNat + 1) by omega, show v5 = -1 by omega] at hn59; exact hn59) hi59 rfl)), (fun q => by first | (exfalso; omega) | exact hi59), (fun q => by first | (exfalso; omega) | exact hk59), (fun q => by first | (exfalso; omega) | exact hT59), (by omega), (fun q => by first | omega | (exfalso; omega))⟩
            · refine l_aload_n rfl rfl ?_
              refine l_iload rfl rfl ?_
              refine l_iconst rfl ?_
              refine l_iadd rfl ?_
              refine l_iload rfl rfl ?_
              have w253 : 0 ≤ Xi T1 246 8 ∧ Xi T1 246 8 ≤ 1666 := hHT1.c _ _
              have w254 : 0 ≤ Xi T1 876 6 ∧ Xi T1 876 6 ≤ 5002 := hHT1.c _ _
              have w256 : -1 ≤ Xi T1 895 4 ∧ Xi T1 895 4 ≤ 15 := hHT1.c _ _
              refine l_callV rfl rfl rfl (t_rr_insert hHT1 ts (v5 + 1) v6 ⟨by omega, by omega⟩ ⟨by omega, by omega⟩ ((hFT1 876 4 rfl).2.2.trans hts) htp (by first | assumption | exact (LEX_FR hFT1 rfl rfl (by assumption : LEX S))) (by assumption) (by first | assumption | omega) (by first | assumption | omega) _) ?_
              rintro _ T8 ⟨hHT8, w263, z262, rfl, w262, w257, w258, w259, w260, w261⟩
              have hFT8 : FR md_rr_sayText S T8 := FR.tr hFT1 w263 rfl
              show Rl _ _ _ _ _ [iv z262] _ _
              have i111 : IGR S T8 (0 ≤ Xi S 895 4) := IGR.tr hi59 (by assumption : IGR T1 T8 (0 ≤ Xi T1 895 4)) (fun x => by omega)
              have k111 : KTK S T8 (Xi S 876 6) := ktk_tr hk59 (by assumption : KTK T1 T8 (Xi T1 876 6)) (by omega)
              refine l_if_ne rfl rfl (by unfold rg; omega) (fun w264 => ?_) (fun w265 => ?_)
              · refine l_iload rfl rfl ?_
                refine l_bipush rfl rfl ?_
                refine l_icmp_eq rfl rfl (by unfold rg; omega) (by unfold rg; omega) (fun w266 => ?_) (fun w267 => ?_)
                · refine l_iload rfl rfl ?_
                  refine l_bipush rfl rfl ?_
                  refine l_icmp_ne rfl rfl (by unfold rg; omega) (by unfold rg; omega) (fun w268 => ?_) (fun w269 => ?_)
                  · refine l_iconst rfl ?_
                    refine l_istore rfl rfl rfl ?_
                    refine l_iinc rfl rfl rfl rfl ?_
                    refine l_goto rfl rfl ?_
                    have w270 : Xi T8 (276 + cl) 0 = Xi T1 (276 + cl) 0 := (show Xi T8 (276 + cl) 0 = Xi T1 (276 + cl) 0 from FR_cl w263 rfl (by omega))
                    have w271 : Xi T8 (276 + cl) 3 = Xi T1 (276 + cl) 3 := (show Xi T8 (276 + cl) 3 = Xi T1 (276 + cl) 3 from FR_cl w263 rfl (by omega))
                    have w272 : Xi T8 (276 + cl) 4 = Xi T1 (276 + cl) 4 := (show Xi T8 (276 + cl) 4 = Xi T1 (276 + cl) 4 from FR_cl w263 rfl (by omega))
                    have w273 : Xi T8 (276 + cl) 5 = Xi T1 (276 + cl) 5 := (show Xi T8 (276 + cl) 5 = Xi T1 (276 + cl) 5 from FR_cl w263 rfl (by omega))
                    have w274 : 0 ≤ Xi T8 246 8 ∧ Xi T8 246 8 ≤ 1666 := hHT8.c _ _
                    have w275 : 0 ≤ Xi T8 876 7 ∧ Xi T8 876 7 ≤ 5125 := hHT8.c _ _
                    have w276 : Xi T8 895 4 = Xi T1 895 4 := (show Xi T8 895 4 = Xi T1 895 4 from w263.x _ _ rfl)
                    exact Rl_weak (ih59 _ (by omega) T8 hHT8 hFT8 (v4) ((-1)) ((v6 + 1)) (by omega) (by omega) (by omega) ((kcl_f w263 rfl hc59)) (by omega) (by omega) (by omega) (by omega) (by first | assumption | exact t53) (by omega) (by first | exact k111 | exact hk59 | exact k53) (by first | exact i111 | exact hi59 | exact i53) (by first | exact nb_0 (by omega) (by omega) | exact nb_s hn59 (by omega) (by omega) x75 (by omega)) rfl) (And.intro rfl (And.intro rfl (And.intro rfl (And.intro rfl (And.intro rfl (True.intro))))))
                  · refine l_iload rfl rfl ?_
                    refine l_goto rfl rfl ?_
                    refine l_istore rfl rfl rfl ?_
                    refine l_iinc rfl rfl rfl rfl ?_
                    refine l_goto rfl rfl ?_
                    have w278 : Xi T8 (276 + cl) 0 = Xi T1 (276 + cl) 0 := (show Xi T8 (276 + cl) 0 = Xi T1 (276 + cl) 0 from FR_cl w263 rfl (by omega))
                    have w279 : Xi T8 (276 + cl) 3 = Xi T1 (276 + cl) 3 := (show Xi T8 (276 + cl) 3 = Xi T1 (276 + cl) 3 from FR_cl w263 rfl (by omega))
                    have w280 : Xi T8 (276 + cl) 4 = Xi T1 (276 + cl) 4 := (show Xi T8 (276 + cl) 4 = Xi T1 (276 + cl) 4 from FR_cl w263 rfl (by omega))
                    have w281 : Xi T8 (276 + cl) 5 = Xi T1 (276 + cl) 5 := (show Xi T8 (276 + cl) 5 = Xi T1 (276 + cl) 5 from FR_cl w263 rfl (by omega))
                    have w282 : 0 ≤ Xi T8 246 8 ∧ Xi T8 246 8 ≤ 1666 := hHT8.c _ _
                    have w283 : 0 ≤ Xi T8 876 7 ∧ Xi T8 876 7 ≤ 5125 := hHT8.c _ _
                    have w284 : Xi T8 895 4 = Xi T1 895 4 := (show Xi T8 895 4 = Xi T1 895 4 from w263.x _ _ rfl)
                    exact Rl_weak (ih59 _ (by omega) T8 hHT8 hFT8 (v4) (v6) ((v6 + 1)) (by omega) (by omega) (by omega) ((kcl_f w263 rfl hc59)) (by omega) (by omega) (by omega) (by omega) (by first | assumption | exact t53) (by omega) (by first | exact k111 | exact hk59 | exact k53) (by first | exact i111 | exact hi59 | exact i53) (by first | exact nb_0 (by omega) (by omega) | exact nb_s hn59 (by omega) (by omega) x75 (by omega)) rfl) (And.intro rfl (And.intro rfl (And.intro rfl (And.intro rfl (And.intro rfl (True.intro))))))
                · refine l_iload rfl rfl ?_
                  refine l_bipush rfl rfl ?_
                  refine l_icmp_ne rfl rfl (by unfold rg; omega) (by unfold rg; omega) (fun w286 => ?_) (fun w287 => ?_)
                  · refine l_iinc rfl rfl rfl rfl ?_
                    refine l_goto rfl rfl ?_
                    have w288 : Xi T8 (276 + cl) 0 = Xi T1 (276 + cl) 0 := (show Xi T8 (276 + cl) 0 = Xi T1 (276 + cl) 0 from FR_cl w263 rfl (by omega))
                    have w289 : Xi T8 (276 + cl) 3 = Xi T1 (276 + cl) 3 := (show Xi T8 (276 + cl) 3 = Xi T1 (276 + cl) 3 from FR_cl w263 rfl (by omega))
                    have w290 : Xi T8 (276 + cl) 4 = Xi T1 (276 + cl) 4 := (show Xi T8 (276 + cl) 4 = Xi T1 (276 + cl) 4 from FR_cl w263 rfl (by omega))
                    have w291 : Xi T8 (276 + cl) 5 = Xi T1 (276 + cl) 5 := (show Xi T8 (276 + cl) 5 = Xi T1 (276 + cl) 5 from FR_cl w263 rfl (by omega))
                    have w292 : 0 ≤ Xi T8 246 8 ∧ Xi T8 246 8 ≤ 1666 := hHT8.c _ _
                    have w293 : 0 ≤ Xi T8 876 7 ∧ Xi T8 876 7 ≤ 5125 := hHT8.c _ _
                    have w294 : Xi T8 895 4 = Xi T1 895 4 := (show Xi T8 895 4 = Xi T1 895 4 from w263.x _ _ rfl)
                    exact Rl_weak (ih59 _ (by omega) T8 hHT8 hFT8 (v4) (v5) ((v6 + 1)) (by omega) (by omega) (by omega) ((kcl_f w263 rfl hc59)) (by omega) (by omega) (by omega) (by omega) (by first | assumption | exact t53) (by omega) (by first | exact k111 | exact hk59 | exact k53) (by first | exact i111 | exact hi59 | exact i53) (by first | exact nb_0 (by omega) (by omega) | exact nb_s hn59 (by omega) (by omega) x75 (by omega)) rfl) (And.intro rfl (And.intro rfl (And.intro rfl (And.intro rfl (And.intro rfl (True.intro))))))
                  · refine l_iload rfl rfl ?_
                    refine l_bipush rfl rfl ?_
                    refine l_icmp_ne rfl rfl (by unfold rg; omega) (by unfold rg; omega) (fun w296 => ?_) (fun w297 => ?_)
                    · refine l_iconst rfl ?_
                      refine l_istore rfl rfl rfl ?_
                      refine l_iinc rfl rfl rfl rfl ?_
                      refine l_goto rfl rfl ?_
                      have w298 : Xi T8 (276 + cl) 0 = Xi T1 (276 + cl) 0 := (show Xi T8 (276 + cl) 0 = Xi T1 (276 + cl) 0 from FR_cl w263 rfl (by omega))
                      have w299 : Xi T8 (276 + cl) 3 = Xi T1 (276 + cl) 3 := (show Xi T8 (276 + cl) 3 = Xi T1 (276 + cl) 3 from FR_cl w263 rfl (by omega))
                      have w300 : Xi T8 (276 + cl) 4 = Xi T1 (276 + cl) 4 := (show Xi T8 (276 + cl) 4 = Xi T1 (276 + cl) 4 from FR_cl w263 rfl (by omega))
                      have w301 : Xi T8 (276 + cl) 5 = Xi T1 (276 + cl) 5 := (show Xi T8 (276 + cl) 5 = Xi T1 (276 + cl) 5 from FR_cl w263 rfl (by omega))
                      have w302 : 0 ≤ Xi T8 246 8 ∧ Xi T8 246 8 ≤ 1666 := hHT8.c _ _
                      have w303 : 0 ≤ Xi T8 876 7 ∧ Xi T8 876 7 ≤ 5125 := hHT8.c _ _
                      have w304 : Xi T8 895 4 = Xi T1 895 4 := (show Xi T8 895 4 = Xi T1 895 4 from w263.x _ _ rfl)
                      exact Rl_weak (ih59 _ (by omega) T8 hHT8 hFT8 (v4) ((-1)) ((v6 + 1)) (by omega) (by omega) (by omega) ((kcl_f w263 rfl hc59)) (by omega) (by omega) (by omega) (by omega) (by first | assumption | exact t53) (by omega) (by first | exact k111 | exact hk59 | exact k53) (by first | exact i111 | exact hi59 | exact i53) (by first | exact nb_0 (by omega) (by omega) | exact nb_s hn59 (by omega) (by omega) x75 (by omega)) rfl) (And.intro rfl (And.intro rfl (And.intro rfl (And.intro rfl (And.intro rfl (True.intro))))))
                    · refine l_iload rfl rfl ?_
                      refine l_goto rfl rfl ?_
                      refine l_istore rfl rfl rfl ?_
                      refine l_iinc rfl rfl rfl rfl ?_
                      refine l_goto rfl rfl ?_
                      have w306 : Xi T8 (276 + cl) 0 = Xi T1 (276 + cl) 0 := (show Xi T8 (276 + cl) 0 = Xi T1 (276 + cl) 0 from FR_cl w263 rfl (by omega))
                      have w307 : Xi T8 (276 + cl) 3 = Xi T1 (276 + cl) 3 := (show Xi T8 (276 + cl) 3 = Xi T1 (276 + cl) 3 from FR_cl w263 rfl (by omega))
                      have w308 : Xi T8 (276 + cl) 4 = Xi T1 (276 + cl) 4 := (show Xi T8 (276 + cl) 4 = Xi T1 (276 + cl) 4 from FR_cl w263 rfl (by omega))
                      have w309 : Xi T8 (276 + cl) 5 = Xi T1 (276 + cl) 5 := (show Xi T8 (276 + cl) 5 = Xi T1 (276 + cl) 5 from FR_cl w263 rfl (by omega))
                      have w310 : 0 ≤ Xi T8 246 8 ∧ Xi T8 246 8 ≤ 1666 := hHT8.c _ _
                      have w311 : 0 ≤ Xi T8 876 7 ∧ Xi T8 876 7 ≤ 5125 := hHT8.c _ _
                      have w312 : Xi T8 895 4 = Xi T1 895 4 := (show Xi T8 895 4 = Xi T1 895 4 from w263.x _ _ rfl)
                      exact Rl_weak (ih59 _ (by omega) T8 hHT8 hFT8 (v4) (v6) ((v6 + 1)) (by omega) (by omega) (by omega) ((kcl_f w263 rfl hc59)) (by omega) (by omega) (by omega) (by omega) (by first | assumption | exact t53) (by omega) (by first | exact k111 | exact hk59 | exact k53) (by first | exact i111 | exact hi59 | exact i53) (by first | exact nb_0 (by omega) (by omega) | exact nb_s hn59 (by omega) (by omega) x75 (by omega)) rfl) (And.intro rfl (And.intro rfl (And.intro rfl (And.intro rfl (And.intro rfl (True.intro))))))
              · refine l_aload_n rfl rfl ?_
                refine l_gfr rfl rfl rfl rfl rfl (hHT8.r 899 0 876 rfl) ?_
                refine l_bipush rfl rfl ?_
                refine l_iload_n rfl rfl ?_
                have w314 : Xi T8 (276 + cl) 0 = Xi T1 (276 + cl) 0 := (show Xi T8 (276 + cl) 0 = Xi T1 (276 + cl) 0 from FR_cl w263 rfl (by omega))
                have w315 : Xi T8 (276 + cl) 3 = Xi T1 (276 + cl) 3 := (show Xi T8 (276 + cl) 3 = Xi T1 (276 + cl) 3 from FR_cl w263 rfl (by omega))
                have w316 : Xi T8 (276 + cl) 4 = Xi T1 (276 + cl) 4 := (show Xi T8 (276 + cl) 4 = Xi T1 (276 + cl) 4 from FR_cl w263 rfl (by omega))
                have w317 : Xi T8 (276 + cl) 5 = Xi T1 (276 + cl) 5 := (show Xi T8 (276 + cl) 5 = Xi T1 (276 + cl) 5 from FR_cl w263 rfl (by omega))
                refine l_callV rfl rfl rfl (t_to_wrong hHT8 8 row ⟨by omega, by omega⟩ ⟨by omega, by omega⟩ _) ?_
                rintro _ T9 ⟨hHT9, w325, z324, rfl, w324, w322, w323⟩
                have hFT9 : FR md_rr_sayText S T9 := FR.tr hFT8 w325 rfl
                show Rl _ _ _ _ _ [iv z324] _ _
                refine l_ireturn rfl (retI_z (by omega)) ?_
                have w326 : Xi T9 (276 + cl) 0 = Xi T1 (276 + cl) 0 := (show Xi T9 (276 + cl) 0 = Xi T8 (276 + cl) 0 from FR_cl w325 rfl (by omega)).trans ((show Xi T8 (276 + cl) 0 = Xi T1 (276 + cl) 0 from FR_cl w263 rfl (by omega)))
                have w327 : Xi T9 (276 + cl) 3 = Xi T1 (276 + cl) 3 := (show Xi T9 (276 + cl) 3 = Xi T8 (276 + cl) 3 from FR_cl w325 rfl (by omega)).trans ((show Xi T8 (276 + cl) 3 = Xi T1 (276 + cl) 3 from FR_cl w263 rfl (by omega)))
                have w328 : Xi T9 (276 + cl) 4 = Xi T1 (276 + cl) 4 := (show Xi T9 (276 + cl) 4 = Xi T8 (276 + cl) 4 from FR_cl w325 rfl (by omega)).trans ((show Xi T8 (276 + cl) 4 = Xi T1 (276 + cl) 4 from FR_cl w263 rfl (by omega)))
                have w329 : Xi T9 (276 + cl) 5 = Xi T1 (276 + cl) 5 := (show Xi T9 (276 + cl) 5 = Xi T8 (276 + cl) 5 from FR_cl w325 rfl (by omega)).trans ((show Xi T8 (276 + cl) 5 = Xi T1 (276 + cl) 5 from FR_cl w263 rfl (by omega)))
                have w330 : Xi T9 246 8 = Xi T8 246 8 := (show Xi T9 246 8 = Xi T8 246 8 from w325.x _ _ rfl)
                have w331 : 0 ≤ Xi T8 246 8 ∧ Xi T8 246 8 ≤ 1666 := hHT8.c _ _
                have w332 : Xi T9 876 7 = Xi T8 876 7 := (show Xi T9 876 7 = Xi T8 876 7 from w325.x _ _ rfl)
                have w333 : 0 ≤ Xi T8 876 7 ∧ Xi T8 876 7 ≤ 5125 := hHT8.c _ _
                have w334 : 0 ≤ Xi T9 876 8 ∧ Xi T9 876 8 ≤ 9 := hHT9.c _ _
                have w335 : Xi T9 895 4 = Xi T1 895 4 := (show Xi T9 895 4 = Xi T8 895 4 from w325.x _ _ rfl).trans ((show Xi T8 895 4 = Xi T1 895 4 from w263.x _ _ rfl))
                exact ⟨hHT9, hFT9, _, rfl, ⟨by omega, by omega⟩, ((kcl_f w325 rfl (kcl_f w263 rfl hc59))), (fun q => by first | (exfalso; omega) | exact cl_7 (by omega) (w := Xi S 246 8) (by omega) (v := (Xi S 878 row.toNat + 1)) (by omega) (n := v4 - (Xi S 878 row.toNat + 1)) (by omega) (tx_mk (SRX_FR hFT9 rfl hS) (by omega) (by omega)) (ins_mk hx (hFT9 20 1 rfl).2.2 (fun j => (hFT9.smk (ks := [(902, 904)]) rfl).x ts (tp_kC htp) j) (by rw [show v6 - (Xi S 878 row.toNat + 1) = v4 - (Xi S 878 row.toNat + 1) by omega, show v5 = -1 by omega] at hn59; exact hn59) hi59 rfl)), (fun q => by first | (exfalso; omega) | exact hi59), (fun q => by first | (exfalso; omega) | exact hk59), (fun q => by first | (exfalso; omega) | exact hT59), (by omega), (fun q => by first | omega | (exfalso; omega))⟩
set_option maxRecDepth 100000 in
theorem t_rr_sayText {S : sS} (hH : HI S) (ts : Nat) (row : Int) (cl : Nat) (hrow : 0 ≤ row ∧ row ≤ 5130) (hcl : cl < 600) (hts : S.2.2 876 4 = some ts) (htp : tp ts) (hL : LEX S) (hT : TOK S) (hS : SRX S) (hx : ts = txr S) (hcr : Xi S 876 6 ≤ Xi S 876 7) (ht : row < Xi S 876 6 ∧ Xi S 877 row.toNat = 102) (d : Nat) : Mt lay0 (d + 5) m_rr_sayText [.ref 899, iv row, .ref (276 + cl)] S (Q_rr_sayText S ts row cl) := by
  refine Mt_R rfl rfl ?_
  have C59 := c59_rr_sayText hH ts row cl hrow hcl hts htp hL hT hS hx hcr ht d 
  have hF : FR md_rr_sayText S S := FR.rf
  have w1 : 0 ≤ Xi S 246 8 ∧ Xi S 246 8 ≤ 1666 := hH.c _ _
  have w2 : 0 ≤ Xi S 876 6 ∧ Xi S 876 6 ≤ 5002 := hH.c _ _
  have w3 : 0 ≤ Xi S 876 7 ∧ Xi S 876 7 ≤ 5125 := hH.c _ _
  have w4 : -1 ≤ Xi S 895 4 ∧ Xi S 895 4 ≤ 15 := hH.c _ _
  have htk := hT row.toNat (by omega) ht.2
  have he5 : 0 ≤ Xi S 876 5 ∧ Xi S 876 5 ≤ 5000 := hH.c _ _
  have hp0 : 0 ≤ Xi S 878 row.toNat := (hH.c 878 row.toNat).1
  refine l_aload_n rfl rfl ?_
  refine l_gfr rfl rfl rfl rfl rfl (hH.r 899 0 876 rfl) ?_
  refine l_iload_n rfl rfl ?_
  refine l_callV rfl rfl rfl (t_to_placeAt hH row ⟨by omega, by omega⟩ _) ?_
  rintro _ _ ⟨rfl, z341, rfl, w341, w340⟩
  show Rl _ _ _ _ _ [iv z341] _ _
  refine l_iconst rfl ?_
  refine l_iadd rfl ?_
  refine l_istore_n rfl rfl rfl ?_
  refine l_iload_n rfl rfl ?_
  refine l_aload_n rfl rfl ?_
  refine l_gfr rfl rfl rfl rfl rfl (hH.r 899 0 876 rfl) ?_
  refine l_iload_n rfl rfl ?_
  refine l_callV rfl rfl rfl (t_to_valueAt hH row ⟨by omega, by omega⟩ _) ?_
  rintro _ _ ⟨rfl, z346, rfl, w346, w345⟩
  show Rl _ _ _ _ _ [iv z346, iv (z341 + 1)] _ _
  refine l_iadd rfl ?_
  refine l_istore rfl rfl rfl ?_
  refine l_iconst rfl ?_
  refine l_istore rfl rfl rfl ?_
  refine l_aload_n rfl rfl ?_
  refine l_bipush rfl rfl ?_
  refine l_pfi rfl rfl (layClW (by omega) rfl) rfl ?_
  obtain ⟨U10, eU10⟩ : ∃ T : sS, T = uI S (276 + cl) 0 (Int32.ofInt 7) := ⟨_, rfl⟩
  rw [← eU10]
  have hHU10 : HI U10 := by rw [eU10]; exact HI_w hH (by rw [lh_cl0 (by omega)]; omega) (by rw [lh_cl0 (by omega)]; omega)
  have hFU10 : FR md_rr_sayText S U10 := by rw [eU10]; exact FR.wI hF (mdf_i (r := (276, 876, 0, 1)) (List.mem_of_getElem? (i := 3) rfl) (inR_i (by omega) (by omega) (by omega) (by omega)))
  have w347 : Xi U10 (276 + cl) 0 = 7 := by rw [eU10]; exact Xi_same (by unfold rg; omega)
  have t29 : TOK U10 := tok_cl eU10 (by omega) hT
  have i29 : IGR S U10 (0 ≤ Xi S 895 4) := igr_cl eU10 (IGR.rf hH)
  have k29 : KTK S U10 (Xi S 876 6) := fun r hr => by rw [eU10, Xi_ne (by omega)]
  refine l_aload_n rfl rfl ?_
  refine l_aload_n rfl rfl ?_
  refine l_gfr rfl rfl rfl rfl rfl (hHU10.r 899 3 246 rfl) ?_
  refine l_gfi rfl rfl rfl rfl rfl ?_
  have w348 : (Xi U10 246 8) = (Xi S 246 8) := (show Xi U10 246 8 = Xi S 246 8 from by rw [eU10]; exact Xi_ne (by omega))
  rw [w348]
  refine l_pfi rfl rfl (layClW (by omega) rfl) rfl ?_
  obtain ⟨U11, eU11⟩ : ∃ T : sS, T = uI U10 (276 + cl) 3 (Int32.ofInt (Xi S 246 8)) := ⟨_, rfl⟩
  rw [← eU11]
  have hHU11 : HI U11 := by rw [eU11]; exact HI_w hHU10 (by rw [lh_cl3 (by omega)]; omega) (by rw [lh_cl3 (by omega)]; omega)
  have hFU11 : FR md_rr_sayText S U11 := by rw [eU11]; exact FR.wI hFU10 (mdf_i (r := (276, 876, 3, 4)) (List.mem_of_getElem? (i := 4) rfl) (inR_i (by omega) (by omega) (by omega) (by omega)))
  have w349 : Xi U11 (276 + cl) 3 = (Xi S 246 8) := by rw [eU11]; exact Xi_same (by unfold rg; omega)
  have t40 : TOK U11 := tok_cl eU11 (by omega) t29
  have i40 : IGR S U11 (0 ≤ Xi S 895 4) := igr_cl eU11 i29
  have k40 : KTK S U11 (Xi S 876 6) := fun r hr => by rw [eU11, Xi_ne (by omega)]; exact k29 r hr
  refine l_aload_n rfl rfl ?_
  refine l_iload_n rfl rfl ?_
  refine l_pfi rfl rfl (layClW (by omega) rfl) rfl ?_
  obtain ⟨U12, eU12⟩ : ∃ T : sS, T = uI U11 (276 + cl) 4 (Int32.ofInt (z341 + 1)) := ⟨_, rfl⟩
  rw [← eU12]
  have hHU12 : HI U12 := by rw [eU12]; exact HI_any hHU11 (lh_cl4 (by omega))
  have hFU12 : FR md_rr_sayText S U12 := by rw [eU12]; exact FR.wI hFU11 (mdf_i (r := (276, 876, 4, 5)) (List.mem_of_getElem? (i := 5) rfl) (inR_i (by omega) (by omega) (by omega) (by omega)))
  have w350 : Xi U12 (276 + cl) 4 = (z341 + 1) := by rw [eU12]; exact Xi_same (by unfold rg; omega)
  have t45 : TOK U12 := tok_cl eU12 (by omega) t40
  have i45 : IGR S U12 (0 ≤ Xi S 895 4) := igr_cl eU12 i40
  have k45 : KTK S U12 (Xi S 876 6) := fun r hr => by rw [eU12, Xi_ne (by omega)]; exact k40 r hr
  refine l_aload_n rfl rfl ?_
  refine l_iload rfl rfl ?_
  refine l_iload_n rfl rfl ?_
  refine l_isub rfl ?_
  refine l_pfi rfl rfl (layClW (by omega) rfl) rfl ?_
  obtain ⟨U13, eU13⟩ : ∃ T : sS, T = uI U12 (276 + cl) 5 (Int32.ofInt (((z341 + 1) + z346) - (z341 + 1))) := ⟨_, rfl⟩
  rw [← eU13]
  have hHU13 : HI U13 := by rw [eU13]; exact HI_any hHU12 (lh_cl5 (by omega))
  have hFU13 : FR md_rr_sayText S U13 := by rw [eU13]; exact FR.wI hFU12 (mdf_i (r := (276, 876, 5, 6)) (List.mem_of_getElem? (i := 6) rfl) (inR_i (by omega) (by omega) (by omega) (by omega)))
  have w351 : Xi U13 (276 + cl) 5 = (((z341 + 1) + z346) - (z341 + 1)) := by rw [eU13]; exact Xi_same (by unfold rg; omega)
  have t53 : TOK U13 := tok_cl eU13 (by omega) t45
  have i53 : IGR S U13 (0 ≤ Xi S 895 4) := igr_cl eU13 i45
  have k53 : KTK S U13 (Xi S 876 6) := fun r hr => by rw [eU13, Xi_ne (by omega)]; exact k45 r hr
  refine l_iload_n rfl rfl ?_
  refine l_istore rfl rfl rfl ?_
  have w352 : Xi U13 (276 + cl) 0 = Xi U10 (276 + cl) 0 := (show Xi U13 (276 + cl) 0 = Xi U12 (276 + cl) 0 from by rw [eU13]; exact Xi_ne (by omega)).trans ( (show Xi U12 (276 + cl) 0 = Xi U11 (276 + cl) 0 from by rw [eU12]; exact Xi_ne (by omega)).trans ((show Xi U11 (276 + cl) 0 = Xi U10 (276 + cl) 0 from by rw [eU11]; exact Xi_ne (by omega))))
  have w353 : Xi U13 (276 + cl) 3 = Xi U11 (276 + cl) 3 := (show Xi U13 (276 + cl) 3 = Xi U12 (276 + cl) 3 from by rw [eU13]; exact Xi_ne (by omega)).trans ((show Xi U12 (276 + cl) 3 = Xi U11 (276 + cl) 3 from by rw [eU12]; exact Xi_ne (by omega)))
  have w354 : Xi U13 (276 + cl) 4 = Xi U12 (276 + cl) 4 := (show Xi U13 (276 + cl) 4 = Xi U12 (276 + cl) 4 from by rw [eU13]; exact Xi_ne (by omega))
  have w355 : Xi U13 246 8 = Xi S 246 8 := (show Xi U13 246 8 = Xi U12 246 8 from by rw [eU13]; exact Xi_ne (by omega)).trans ( (show Xi U12 246 8 = Xi U11 246 8 from by rw [eU12]; exact Xi_ne (by omega)).trans ( (show Xi U11 246 8 = Xi U10 246 8 from by rw [eU11]; exact Xi_ne (by omega)).trans ((show Xi U10 246 8 = Xi S 246 8 from by rw [eU10]; exact Xi_ne (by omega)))))
  have w357 : Xi U13 876 7 = Xi S 876 7 := (show Xi U13 876 7 = Xi U12 876 7 from by rw [eU13]; exact Xi_ne (by omega)).trans ( (show Xi U12 876 7 = Xi U11 876 7 from by rw [eU12]; exact Xi_ne (by omega)).trans ( (show Xi U11 876 7 = Xi U10 876 7 from by rw [eU11]; exact Xi_ne (by omega)).trans ((show Xi U10 876 7 = Xi S 876 7 from by rw [eU10]; exact Xi_ne (by omega)))))
  have w359 : Xi U13 895 4 = Xi S 895 4 := (show Xi U13 895 4 = Xi U12 895 4 from by rw [eU13]; exact Xi_ne (by omega)).trans ( (show Xi U12 895 4 = Xi U11 895 4 from by rw [eU12]; exact Xi_ne (by omega)).trans ( (show Xi U11 895 4 = Xi U10 895 4 from by rw [eU11]; exact Xi_ne (by omega)).trans ((show Xi U10 895 4 = Xi S 895 4 from by rw [eU10]; exact Xi_ne (by omega)))))
  exact Rl_weak (C59 _ U13 hHU13 hFU13 (((z341 + 1) + z346)) ((-1)) ((z341 + 1)) (by omega) (by omega) (by omega) ((kcl_w eU13 (kcl_w eU12 (kcl_w eU11 (kcl_w eU10 KCL.rf))))) (by omega) (by omega) (by omega) (by omega) (by first | assumption | exact t53) (by omega) (by first | exact k111 | exact hk59 | exact k53) (by first | exact i111 | exact hi59 | exact i53) (by first | exact nb_0 (by omega) (by omega) | exact nb_s hn59 (by omega) (by omega) x75 (by omega)) rfl) (And.intro rfl (And.intro rfl (And.intro rfl (And.intro rfl (And.intro rfl (True.intro))))))
