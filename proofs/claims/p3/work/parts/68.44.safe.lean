/-! SAFETY of methods: printed by wip/safe (vc.py, decl.py) -/
theorem who_of {b : Prop} {x : Int} (h1 : x ≠ -1) (h2 : -2 ≤ x) (h : x = -2 → b) : WHO b x := by
  by_cases e : x = -2
  · exact Or.inr ⟨e, h e⟩
  · exact Or.inl (by omega)
def md_rr_propertyOfThing : List rec := [(276, 876, 2, 3), (276, 876, 3, 4), (876, 877, 8, 9), (876, 877, 9, 10), (895, 896, 5, 6), (895, 896, 6, 7), (895, 896, 7, 8)]
abbrev Q_rr_propertyOfThing (S : sS) (from_ : Int) (off : Int) (num : Int) (cl : Nat) : pst := fun r S1 => HI S1 ∧ FR md_rr_propertyOfThing S S1 ∧ (∃ z : Int, r = some (iv z) ∧ (0 ≤ z ∧ z ≤ 1) ∧ (KCL S S1 cl) ∧ (∀ j, j ≠ 2 → j ≠ 3 → Xi S1 (276 + cl) j = Xi S (276 + cl) j) ∧ (z = 1 → WHO (0 ≤ Xi S 895 4) (Xi S1 (276 + cl) 2) ∧ 0 ≤ Xi S1 (276 + cl) 3 ∧ Xi S1 (276 + cl) 3 ≤ 11) ∧ (z = 0 → Xi S1 876 8 ≠ 0))
set_option maxRecDepth 100000 in
theorem t_rr_propertyOfThing {S : sS} (hH : HI S) (from_ : Int) (off : Int) (num : Int) (cl : Nat) (hfrom_ : 0 ≤ from_ ∧ from_ ≤ 5130) (hoff : 0 ≤ off ∧ off ≤ 5130) (hnum : 0 ≤ num ∧ num ≤ 1) (hcl : cl < 600) (hL : LEX S) (d : Nat) : Mt lay0 (d + 3) m_rr_propertyOfThing [.ref 899, iv from_, iv off, iv num, .ref (276 + cl)] S (Q_rr_propertyOfThing S from_ off num cl) := by
  refine Mt_R rfl rfl ?_
  have hF : FR md_rr_propertyOfThing S S := FR.rf
  have w1 : -1 ≤ Xi S 895 4 ∧ Xi S 895 4 ≤ 15 := hH.c _ _
  refine l_aload_n rfl rfl ?_
  refine l_gfr rfl rfl rfl rfl rfl (hH.r 899 2 895 rfl) ?_
  refine l_iload_n rfl rfl ?_
  refine l_iconst rfl ?_
  refine l_iadd rfl ?_
  refine l_aload_n rfl rfl ?_
  refine l_gfr rfl rfl rfl rfl rfl (hH.r 899 0 876 rfl) ?_
  have w2 : 0 ≤ Xi S 876 7 ∧ Xi S 876 7 ≤ 5125 := hH.c _ _
  refine l_callV rfl rfl rfl (t_to_lastRow hH _) ?_
  rintro _ _ ⟨rfl, z4, rfl, w4, w3⟩
  show Rl _ _ _ _ _ [iv z4, iv (off + 1), .ref 895] _ _
  have w5 : -1 ≤ Xi S 895 4 ∧ Xi S 895 4 ≤ 15 := hH.c _ _
  refine l_callV rfl rfl rfl (t_me_readThing hH (off + 1) z4 ⟨by omega, by omega⟩ ⟨by omega, by omega⟩ (by first | exact l27 | exact hL) _) ?_
  rintro _ T1 ⟨hHT1, w11, z10, rfl, w10, w6, w7, w8, w9⟩
  have hFT1 : FR md_rr_propertyOfThing S T1 := FR.tr hF w11 rfl
  show Rl _ _ _ _ _ [iv z10] _ _
  have hf14 : FR md_me_readThing S T1 := by assumption
  have hs14 : ∀ j, Xi T1 (276 + cl) j = Xi S (276 + cl) j := cl_keep hf14 rfl (by omega)
  have kc14 : KCL S T1 cl := kcl_f hf14 rfl KCL.rf
  have y14 : ∀ j, j ≠ 2 → j ≠ 3 → Xi T1 (276 + cl) j = Xi S (276 + cl) j := fun j h1 h2 => hs14 j
  have l14 : LEX T1 := LEX_FR hf14 rfl rfl hL
  have s14 : Xi T1 895 5 = -2 → 0 ≤ Xi S 895 4 := by assumption
  have g14 : -2 ≤ Xi T1 895 5 := (hHT1.c 895 5).1
  refine l_pop rfl rfl ?_
  refine l_aload rfl rfl ?_
  refine l_aload_n rfl rfl ?_
  refine l_gfr rfl rfl rfl rfl rfl (hHT1.r 899 2 895 rfl) ?_
  refine l_gfi rfl rfl rfl rfl rfl ?_
  have w12 : -2 ≤ (Xi T1 895 5) ∧ (Xi T1 895 5) ≤ 23 := hHT1.c _ _
  refine l_pfi rfl rfl (layClW (by omega) rfl) rfl ?_
  obtain ⟨U2, eU2⟩ : ∃ T : sS, T = uI T1 (276 + cl) 2 (Int32.ofInt (Xi T1 895 5)) := ⟨_, rfl⟩
  rw [← eU2]
  have hHU2 : HI U2 := by rw [eU2]; exact HI_w hHT1 (by rw [lh_cl2 (by omega)]; omega) (by rw [lh_cl2 (by omega)]; omega)
  have hFU2 : FR md_rr_propertyOfThing S U2 := by rw [eU2]; exact FR.wI hFT1 (mdf_i (r := (276, 876, 2, 3)) (List.mem_of_getElem? (i := 0) rfl) (inR_i (by omega) (by omega) (by omega) (by omega)))
  have w13 : Xi U2 (276 + cl) 2 = (Xi T1 895 5) := by rw [eU2]; exact Xi_same (by unfold rg; omega)
  have kc27 : KCL S U2 cl := kcl_w eU2 kc14
  have y27 : ∀ j, j ≠ 2 → j ≠ 3 → Xi U2 (276 + cl) j = Xi S (276 + cl) j := fun j h1 h2 => by rw [eU2, Xi_ne (by omega)]; exact y14 j h1 h2
  have p27 : Xi U2 (276 + cl) 2 = Xi T1 895 5 := by omega
  have e27 : Xi U2 895 5 = Xi T1 895 5 := by rw [eU2, Xi_ne (by omega)]
  have l27 : LEX U2 := LEX_fr (by rw [eU2, Xi_ne (by omega)]) (fun j => by rw [eU2, Xi_ne (by omega)]) (fun j => by rw [eU2, Xi_ne (by omega)]) (fun j => by rw [eU2, Xi_ne (by omega)]) l14
  refine l_aload rfl rfl ?_
  refine l_aload_n rfl rfl ?_
  refine l_gfr rfl rfl rfl rfl rfl (hHU2.r 899 2 895 rfl) ?_
  refine l_iload_n rfl rfl ?_
  refine l_iload_n rfl rfl ?_
  refine l_aload_n rfl rfl ?_
  refine l_gfr rfl rfl rfl rfl rfl (hHU2.r 899 2 895 rfl) ?_
  refine l_gfi rfl rfl rfl rfl rfl ?_
  have w14 : -1 ≤ (Xi U2 895 6) ∧ (Xi U2 895 6) ≤ 15 := hHU2.c _ _
  refine l_iload_n rfl rfl ?_
  refine l_callV rfl rfl rfl (t_me_readProperty hHU2 from_ off (Xi U2 895 6) num ⟨by omega, by omega⟩ ⟨by omega, by omega⟩ ⟨by omega, by omega⟩ ⟨by omega, by omega⟩ (by first | exact l27 | exact hL) _) ?_
  rintro _ T3 ⟨hHT3, w18, z17, rfl, w17, w15, w16⟩
  have hFT3 : FR md_rr_propertyOfThing S T3 := FR.tr hFU2 w18 rfl
  show Rl _ _ _ _ _ [iv z17, .ref (276 + cl)] _ _
  have hf46 : FR md_me_readProperty U2 T3 := by assumption
  have hs46 : ∀ j, Xi T3 (276 + cl) j = Xi U2 (276 + cl) j := cl_keep hf46 rfl (by omega)
  have kc46 : KCL S T3 cl := kcl_f hf46 rfl kc27
  have y46 : ∀ j, j ≠ 2 → j ≠ 3 → Xi T3 (276 + cl) j = Xi S (276 + cl) j := fun j h1 h2 => (hs46 j).trans (y27 j h1 h2)
  have p46 : Xi T3 (276 + cl) 2 = Xi U2 (276 + cl) 2 := hs46 2
  have e46 : Xi T3 895 5 = Xi U2 895 5 := hf46.x 895 5 rfl
  refine l_pfi rfl rfl (layClW (by omega) rfl) rfl ?_
  obtain ⟨U4, eU4⟩ : ∃ T : sS, T = uI T3 (276 + cl) 3 (Int32.ofInt z17) := ⟨_, rfl⟩
  rw [← eU4]
  have hHU4 : HI U4 := by rw [eU4]; exact HI_w hHT3 (by rw [lh_cl3 (by omega)]; omega) (by rw [lh_cl3 (by omega)]; omega)
  have hFU4 : FR md_rr_propertyOfThing S U4 := by rw [eU4]; exact FR.wI hFT3 (mdf_i (r := (276, 876, 3, 4)) (List.mem_of_getElem? (i := 1) rfl) (inR_i (by omega) (by omega) (by omega) (by omega)))
  have w19 : Xi U4 (276 + cl) 3 = z17 := by rw [eU4]; exact Xi_same (by unfold rg; omega)
  have kc49 : KCL S U4 cl := kcl_w eU4 kc46
  have y49 : ∀ j, j ≠ 2 → j ≠ 3 → Xi U4 (276 + cl) j = Xi S (276 + cl) j := fun j h1 h2 => by rw [eU4, Xi_ne (by omega)]; exact y46 j h1 h2
  have p49 : Xi U4 (276 + cl) 2 = Xi T3 (276 + cl) 2 := by rw [eU4, Xi_ne (by omega)]
  have e49 : Xi U4 895 5 = Xi T3 895 5 := by rw [eU4, Xi_ne (by omega)]
  have x49 : Xi U4 876 8 = Xi T3 876 8 := by rw [eU4, Xi_ne (by omega)]
  refine l_aload rfl rfl ?_
  refine l_gfi rfl rfl rfl (layCl (by omega)) rfl ?_
  refine l_iconst rfl ?_
  refine l_icmp_eq rfl rfl (by unfold rg; omega) (by unfold rg; omega) (fun w20 => ?_) (fun w21 => ?_)
  · refine l_iconst rfl ?_
    refine l_ireturn rfl rfl ?_
    have w22 : Xi U4 876 8 = Xi T3 876 8 := (show Xi U4 876 8 = Xi T3 876 8 from by rw [eU4]; exact Xi_ne (by omega))
    have w23 : 0 ≤ Xi T3 876 8 ∧ Xi T3 876 8 ≤ 9 := hHT3.c _ _
    exact ⟨hHU4, hFU4, _, rfl, ⟨by omega, by omega⟩, (by first | exact kc84 | exact kc49), (by first | exact y84 | exact y49), (fun q => by first | (exfalso; omega) | exact ⟨by rw [p49, p46, p27]; exact who_of (by omega) g14 s14, by omega, by omega⟩), (fun q => by first | omega | (exfalso; omega))⟩
  · refine l_aload_n rfl rfl ?_
    refine l_gfr rfl rfl rfl rfl rfl (hHU4.r 899 2 895 rfl) ?_
    refine l_gfi rfl rfl rfl rfl rfl ?_
    have w24 : (Xi U4 895 5) = (Xi T1 895 5) := (show Xi U4 895 5 = Xi T3 895 5 from by rw [eU4]; exact Xi_ne (by omega)).trans ( (show Xi T3 895 5 = Xi U2 895 5 from w18.x _ _ rfl).trans ((show Xi U2 895 5 = Xi T1 895 5 from by rw [eU2]; exact Xi_ne (by omega))))
    rw [w24]
    refine l_iconst rfl ?_
    refine l_icmp_ne rfl rfl (by unfold rg; omega) (by unfold rg; omega) (fun w25 => ?_) (fun w26 => ?_)
    · refine l_iconst rfl ?_
      refine l_goto rfl rfl ?_
      refine l_ireturn rfl rfl ?_
      have w27 : Xi U4 876 8 = Xi T3 876 8 := (show Xi U4 876 8 = Xi T3 876 8 from by rw [eU4]; exact Xi_ne (by omega))
      have w28 : 0 ≤ Xi T3 876 8 ∧ Xi T3 876 8 ≤ 9 := hHT3.c _ _
      exact ⟨hHU4, hFU4, _, rfl, ⟨by omega, by omega⟩, (by first | exact kc84 | exact kc49), (by first | exact y84 | exact y49), (fun q => by first | (exfalso; omega) | exact ⟨by rw [p49, p46, p27]; exact who_of (by omega) g14 s14, by omega, by omega⟩), (fun q => by first | omega | (exfalso; omega))⟩
    · refine l_aload_n rfl rfl ?_
      refine l_gfr rfl rfl rfl rfl rfl (hHU4.r 899 0 876 rfl) ?_
      refine l_iconst rfl ?_
      refine l_aload_n rfl rfl ?_
      refine l_gfr rfl rfl rfl rfl rfl (hHU4.r 899 2 895 rfl) ?_
      refine l_gfi rfl rfl rfl rfl rfl ?_
      have w29 : -2147483648 ≤ (Xi U4 895 7) ∧ (Xi U4 895 7) ≤ 2147483647 := Xi_rgI
      refine l_callV rfl rfl rfl (t_to_wrong hHU4 4 (Xi U4 895 7) ⟨by omega, by omega⟩ ⟨by omega, by omega⟩ _) ?_
      rintro _ T5 ⟨hHT5, w33, z32, rfl, w32, w30, w31⟩
      have hFT5 : FR md_rr_propertyOfThing S T5 := FR.tr hFU4 w33 rfl
      show Rl _ _ _ _ _ [iv z32] _ _
      have hf84 : FR md_to_wrong U4 T5 := by assumption
      have hs84 : ∀ j, Xi T5 (276 + cl) j = Xi U4 (276 + cl) j := cl_keep hf84 rfl (by omega)
      have kc84 : KCL S T5 cl := kcl_f hf84 rfl kc49
      have y84 : ∀ j, j ≠ 2 → j ≠ 3 → Xi T5 (276 + cl) j = Xi S (276 + cl) j := fun j h1 h2 => (hs84 j).trans (y49 j h1 h2)
      refine l_if_eq rfl rfl (by unfold rg; omega) (fun w34 => ?_) (fun w35 => ?_)
      · refine l_iconst rfl ?_
        refine l_ireturn rfl rfl ?_
        have w36 : 0 ≤ Xi T5 876 8 ∧ Xi T5 876 8 ≤ 9 := hHT5.c _ _
        exact ⟨hHT5, hFT5, _, rfl, ⟨by omega, by omega⟩, (by first | exact kc84 | exact kc49), (by first | exact y84 | exact y49), (fun q => by first | (exfalso; omega) | exact ⟨by rw [p49, p46, p27]; exact who_of (by omega) g14 s14, by omega, by omega⟩), (fun q => by first | omega | (exfalso; omega))⟩
      · refine l_iconst rfl ?_
        refine l_goto rfl rfl ?_
        refine l_ireturn rfl rfl ?_
        have w37 : 0 ≤ Xi T5 876 8 ∧ Xi T5 876 8 ≤ 9 := hHT5.c _ _
        exact ⟨hHT5, hFT5, _, rfl, ⟨by omega, by omega⟩, (by first | exact kc84 | exact kc49), (by first | exact y84 | exact y49), (fun q => by first | (exfalso; omega) | exact ⟨by rw [p49, p46, p27]; exact who_of (by omega) g14 s14, by omega, by omega⟩), (fun q => by first | omega | (exfalso; omega))⟩

