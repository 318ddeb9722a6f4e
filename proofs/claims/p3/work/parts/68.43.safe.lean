/-! SAFETY of methods: printed by wip/safe (vc.py, decl.py) -/
theorem cl_keep {l : List rec} {S T : sS} {c : Nat} (f : FR l S T) (e : kdis l [(276, 876)] = true) (hc : c < 600) : ∀ j, Xi T (276 + c) j = Xi S (276 + c) j := fun j => (f.smk e).x (276 + c) (by unfold inK; simp only [List.any_cons, List.any_nil, Bool.or_false, Bool.and_eq_true]; exact ⟨Nat.ble_eq_true_of_le (by omega), by unfold Nat.blt; exact Nat.ble_eq_true_of_le (by omega)⟩) j
def md_rr_placeTest : List rec := [(276, 876, 0, 1), (276, 876, 4, 5), (276, 876, 6, 7), (876, 877, 8, 9), (876, 877, 9, 10), (895, 896, 5, 6), (895, 896, 6, 7), (895, 896, 7, 8)]
abbrev Q_rr_placeTest (S : sS) (from_ : Int) (to : Int) (cl : Nat) : pst := fun r S1 => HI S1 ∧ FR md_rr_placeTest S S1 ∧ (∃ z : Int, r = some (iv z) ∧ (0 ≤ z ∧ z ≤ 1) ∧ (KCL S S1 cl) ∧ (Xi S1 (276 + cl) 0 = 5) ∧ (∀ j, j < 4 → j ≠ 0 → Xi S1 (276 + cl) j = Xi S (276 + cl) j) ∧ (z = 0 → Xi S1 876 8 ≠ 0))
set_option maxRecDepth 100000 in
theorem t_rr_placeTest {S : sS} (hH : HI S) (from_ : Int) (to : Int) (cl : Nat) (hfrom_ : 0 ≤ from_ ∧ from_ ≤ 5130) (hto : -1 ≤ to ∧ to ≤ 5130) (hcl : cl < 600) (hL : LEX S) (d : Nat) : Mt lay0 (d + 3) m_rr_placeTest [.ref 899, iv from_, iv to, .ref (276 + cl)] S (Q_rr_placeTest S from_ to cl) := by
  refine Mt_R rfl rfl ?_
  have hF : FR md_rr_placeTest S S := FR.rf
  refine l_aload_n rfl rfl ?_
  refine l_gfr rfl rfl rfl rfl rfl (hH.r 899 0 876 rfl) ?_
  refine l_iload_n rfl rfl ?_
  have w1 : 0 ≤ Xi S 876 7 ∧ Xi S 876 7 ≤ 5125 := hH.c _ _
  refine l_callV rfl rfl rfl (t_to_typeAt hH from_ ⟨by omega, by omega⟩ _) ?_
  rintro _ _ ⟨rfl, z5, rfl, w5, w2, w3, w4⟩
  clear w3 w4
  show Rl _ _ _ _ _ [iv z5] _ _
  refine l_istore rfl rfl rfl ?_
  refine l_aload_n rfl rfl ?_
  refine l_iconst rfl ?_
  refine l_pfi rfl rfl (layClW (by omega) rfl) rfl ?_
  obtain ⟨U1, eU1⟩ : ∃ T : sS, T = uI S (276 + cl) 0 (Int32.ofInt 5) := ⟨_, rfl⟩
  rw [← eU1]
  have hHU1 : HI U1 := by rw [eU1]; exact HI_w hH (by rw [lh_cl0 (by omega)]; omega) (by rw [lh_cl0 (by omega)]; omega)
  have hFU1 : FR md_rr_placeTest S U1 := by rw [eU1]; exact FR.wI hF (mdf_i (r := (276, 876, 0, 1)) (List.mem_of_getElem? (i := 0) rfl) (inR_i (by omega) (by omega) (by omega) (by omega)))
  have w6 : Xi U1 (276 + cl) 0 = 5 := by rw [eU1]; exact Xi_same (by unfold rg; omega)
  have kc12 : KCL S U1 cl := kcl_w eU1 KCL.rf
  have f12 : Xi U1 (276 + cl) 0 = 5 := by rw [eU1]; exact Xi_same (by unfold rg; omega)
  have y12 : ∀ j, j < 4 → j ≠ 0 → Xi U1 (276 + cl) j = Xi S (276 + cl) j := fun j h1 h2 => by rw [eU1, Xi_ne (by omega)]
  refine l_aload_n rfl rfl ?_
  refine l_iload rfl rfl ?_
  refine l_callS rfl rfl (by decide) rfl (t_rr_wayOf hHU1 z5 ⟨by omega, by omega⟩ _) ?_
  rintro _ _ ⟨rfl, z7, rfl, w7⟩
  show Rl _ _ _ _ _ [iv z7, .ref (276 + cl)] _ _
  refine l_pfi rfl rfl (layClW (by omega) rfl) rfl ?_
  obtain ⟨U2, eU2⟩ : ∃ T : sS, T = uI U1 (276 + cl) 4 (Int32.ofInt z7) := ⟨_, rfl⟩
  rw [← eU2]
  have hHU2 : HI U2 := by rw [eU2]; exact HI_any hHU1 (lh_cl4 (by omega))
  have hFU2 : FR md_rr_placeTest S U2 := by rw [eU2]; exact FR.wI hFU1 (mdf_i (r := (276, 876, 4, 5)) (List.mem_of_getElem? (i := 1) rfl) (inR_i (by omega) (by omega) (by omega) (by omega)))
  have w8 : Xi U2 (276 + cl) 4 = z7 := by rw [eU2]; exact Xi_same (by unfold rg; omega)
  have kc21 : KCL S U2 cl := kcl_w eU2 kc12
  have f21 : Xi U2 (276 + cl) 0 = 5 := by rw [eU2, Xi_ne (by omega)]; exact f12
  have y21 : ∀ j, j < 4 → j ≠ 0 → Xi U2 (276 + cl) j = Xi S (276 + cl) j := fun j h1 h2 => by rw [eU2, Xi_ne (by omega)]; exact y12 j h1 h2
  refine l_aload_n rfl rfl ?_
  refine l_gfr rfl rfl rfl rfl rfl (hHU2.r 899 2 895 rfl) ?_
  refine l_iload rfl rfl ?_
  refine l_bipush rfl rfl ?_
  refine l_icmp_eq rfl rfl (by unfold rg; omega) (by unfold rg; omega) (fun w9 => ?_) (fun w10 => ?_)
  · refine l_iload_n rfl rfl ?_
    refine l_iconst rfl ?_
    refine l_iadd rfl ?_
    refine l_goto rfl rfl ?_
    refine l_iload_n rfl rfl ?_
    have w11 : Xi U2 895 4 = Xi S 895 4 := (show Xi U2 895 4 = Xi U1 895 4 from by rw [eU2]; exact Xi_ne (by omega)).trans ((show Xi U1 895 4 = Xi S 895 4 from by rw [eU1]; exact Xi_ne (by omega)))
    have w12 : -1 ≤ Xi S 895 4 ∧ Xi S 895 4 ≤ 15 := hH.c _ _
    refine l_callV rfl rfl rfl (t_me_readThing hHU2 (from_ + 1) to ⟨by omega, by omega⟩ ⟨by omega, by omega⟩ (by first | assumption | exact (LEX_FR hFU2 rfl rfl (by assumption : LEX S))) _) ?_
    rintro _ T3 ⟨hHT3, w18, z17, rfl, w17, w13, w14, w15, w16⟩
    have hFT3 : FR md_rr_placeTest S T3 := FR.tr hFU2 w18 rfl
    show Rl _ _ _ _ _ [iv z17] _ _
    have hf52 : FR md_me_readThing U2 T3 := by assumption
    have hs52 : ∀ j, Xi T3 (276 + cl) j = Xi U2 (276 + cl) j := cl_keep hf52 rfl (by omega)
    have kc52 : KCL S T3 cl := kcl_f hf52 rfl kc21
    have f52 : Xi T3 (276 + cl) 0 = 5 := (hs52 0).trans f21
    have y52 : ∀ j, j < 4 → j ≠ 0 → Xi T3 (276 + cl) j = Xi S (276 + cl) j := fun j h1 h2 => (hs52 j).trans (y21 j h1 h2)
    refine l_pop rfl rfl ?_
    refine l_aload_n rfl rfl ?_
    refine l_aload_n rfl rfl ?_
    refine l_gfr rfl rfl rfl rfl rfl (hHT3.r 899 2 895 rfl) ?_
    refine l_gfi rfl rfl rfl rfl rfl ?_
    have w19 : -2 ≤ (Xi T3 895 5) ∧ (Xi T3 895 5) ≤ 23 := hHT3.c _ _
    refine l_pfi rfl rfl (layClW (by omega) rfl) rfl ?_
    obtain ⟨U4, eU4⟩ : ∃ T : sS, T = uI T3 (276 + cl) 6 (Int32.ofInt (Xi T3 895 5)) := ⟨_, rfl⟩
    rw [← eU4]
    have hHU4 : HI U4 := by rw [eU4]; exact HI_w hHT3 (by rw [lh_cl6 (by omega)]; omega) (by rw [lh_cl6 (by omega)]; omega)
    have hFU4 : FR md_rr_placeTest S U4 := by rw [eU4]; exact FR.wI hFT3 (mdf_i (r := (276, 876, 6, 7)) (List.mem_of_getElem? (i := 2) rfl) (inR_i (by omega) (by omega) (by omega) (by omega)))
    have w20 : Xi U4 (276 + cl) 6 = (Xi T3 895 5) := by rw [eU4]; exact Xi_same (by unfold rg; omega)
    have kc64 : KCL S U4 cl := kcl_w eU4 kc52
    have f64 : Xi U4 (276 + cl) 0 = 5 := by rw [eU4, Xi_ne (by omega)]; exact f52
    have y64 : ∀ j, j < 4 → j ≠ 0 → Xi U4 (276 + cl) j = Xi S (276 + cl) j := fun j h1 h2 => by rw [eU4, Xi_ne (by omega)]; exact y52 j h1 h2
    refine l_aload_n rfl rfl ?_
    refine l_gfr rfl rfl rfl rfl rfl (hHU4.r 899 2 895 rfl) ?_
    refine l_gfi rfl rfl rfl rfl rfl ?_
    have w21 : (Xi U4 895 5) = (Xi T3 895 5) := (show Xi U4 895 5 = Xi T3 895 5 from by rw [eU4]; exact Xi_ne (by omega))
    rw [w21]
    refine l_iconst rfl ?_
    refine l_icmp_ne rfl rfl (by unfold rg; omega) (by unfold rg; omega) (fun w22 => ?_) (fun w23 => ?_)
    · refine l_iconst rfl ?_
      refine l_goto rfl rfl ?_
      refine l_ireturn rfl rfl ?_
      have w24 : Xi U4 876 8 = Xi S 876 8 := (show Xi U4 876 8 = Xi T3 876 8 from by rw [eU4]; exact Xi_ne (by omega)).trans ( (show Xi T3 876 8 = Xi U2 876 8 from w18.x _ _ rfl).trans ( (show Xi U2 876 8 = Xi U1 876 8 from by rw [eU2]; exact Xi_ne (by omega)).trans ((show Xi U1 876 8 = Xi S 876 8 from by rw [eU1]; exact Xi_ne (by omega)))))
      have w25 : 0 ≤ Xi S 876 8 ∧ Xi S 876 8 ≤ 9 := hH.c _ _
      exact ⟨hHU4, hFU4, _, rfl, ⟨by omega, by omega⟩, (by first | exact kc90 | exact kc64), (by first | exact f90 | exact f64), (by first | exact y90 | exact y64), (fun q => by first | omega | (exfalso; omega))⟩
    · refine l_aload_n rfl rfl ?_
      refine l_gfr rfl rfl rfl rfl rfl (hHU4.r 899 0 876 rfl) ?_
      refine l_iconst rfl ?_
      refine l_aload_n rfl rfl ?_
      refine l_gfr rfl rfl rfl rfl rfl (hHU4.r 899 2 895 rfl) ?_
      refine l_gfi rfl rfl rfl rfl rfl ?_
      have w26 : -2147483648 ≤ (Xi U4 895 7) ∧ (Xi U4 895 7) ≤ 2147483647 := Xi_rgI
      refine l_callV rfl rfl rfl (t_to_wrong hHU4 4 (Xi U4 895 7) ⟨by omega, by omega⟩ ⟨by omega, by omega⟩ _) ?_
      rintro _ T5 ⟨hHT5, w30, z29, rfl, w29, w27, w28⟩
      have hFT5 : FR md_rr_placeTest S T5 := FR.tr hFU4 w30 rfl
      show Rl _ _ _ _ _ [iv z29] _ _
      have hf90 : FR md_to_wrong U4 T5 := by assumption
      have hs90 : ∀ j, Xi T5 (276 + cl) j = Xi U4 (276 + cl) j := cl_keep hf90 rfl (by omega)
      have kc90 : KCL S T5 cl := kcl_f hf90 rfl kc64
      have f90 : Xi T5 (276 + cl) 0 = 5 := (hs90 0).trans f64
      have y90 : ∀ j, j < 4 → j ≠ 0 → Xi T5 (276 + cl) j = Xi S (276 + cl) j := fun j h1 h2 => (hs90 j).trans (y64 j h1 h2)
      refine l_if_eq rfl rfl (by unfold rg; omega) (fun w31 => ?_) (fun w32 => ?_)
      · refine l_iconst rfl ?_
        refine l_ireturn rfl rfl ?_
        have w33 : 0 ≤ Xi T5 876 8 ∧ Xi T5 876 8 ≤ 9 := hHT5.c _ _
        exact ⟨hHT5, hFT5, _, rfl, ⟨by omega, by omega⟩, (by first | exact kc90 | exact kc64), (by first | exact f90 | exact f64), (by first | exact y90 | exact y64), (fun q => by first | omega | (exfalso; omega))⟩
      · refine l_iconst rfl ?_
        refine l_goto rfl rfl ?_
        refine l_ireturn rfl rfl ?_
        have w34 : 0 ≤ Xi T5 876 8 ∧ Xi T5 876 8 ≤ 9 := hHT5.c _ _
        exact ⟨hHT5, hFT5, _, rfl, ⟨by omega, by omega⟩, (by first | exact kc90 | exact kc64), (by first | exact f90 | exact f64), (by first | exact y90 | exact y64), (fun q => by first | omega | (exfalso; omega))⟩
  · refine l_iload rfl rfl ?_
    refine l_bipush rfl rfl ?_
    refine l_icmp_ne rfl rfl (by unfold rg; omega) (by unfold rg; omega) (fun w35 => ?_) (fun w36 => ?_)
    · refine l_iload_n rfl rfl ?_
      refine l_iconst rfl ?_
      refine l_iadd rfl ?_
      refine l_iload_n rfl rfl ?_
      have w37 : Xi U2 895 4 = Xi S 895 4 := (show Xi U2 895 4 = Xi U1 895 4 from by rw [eU2]; exact Xi_ne (by omega)).trans ((show Xi U1 895 4 = Xi S 895 4 from by rw [eU1]; exact Xi_ne (by omega)))
      have w38 : -1 ≤ Xi S 895 4 ∧ Xi S 895 4 ≤ 15 := hH.c _ _
      refine l_callV rfl rfl rfl (t_me_readThing hHU2 (from_ + 2) to ⟨by omega, by omega⟩ ⟨by omega, by omega⟩ (by first | assumption | exact (LEX_FR hFU2 rfl rfl (by assumption : LEX S))) _) ?_
      rintro _ T6 ⟨hHT6, w44, z43, rfl, w43, w39, w40, w41, w42⟩
      have hFT6 : FR md_rr_placeTest S T6 := FR.tr hFU2 w44 rfl
      show Rl _ _ _ _ _ [iv z43] _ _
      have hf52 : FR md_me_readThing U2 T6 := by assumption
      have hs52 : ∀ j, Xi T6 (276 + cl) j = Xi U2 (276 + cl) j := cl_keep hf52 rfl (by omega)
      have kc52 : KCL S T6 cl := kcl_f hf52 rfl kc21
      have f52 : Xi T6 (276 + cl) 0 = 5 := (hs52 0).trans f21
      have y52 : ∀ j, j < 4 → j ≠ 0 → Xi T6 (276 + cl) j = Xi S (276 + cl) j := fun j h1 h2 => (hs52 j).trans (y21 j h1 h2)
      refine l_pop rfl rfl ?_
      refine l_aload_n rfl rfl ?_
      refine l_aload_n rfl rfl ?_
      refine l_gfr rfl rfl rfl rfl rfl (hHT6.r 899 2 895 rfl) ?_
      refine l_gfi rfl rfl rfl rfl rfl ?_
      have w45 : -2 ≤ (Xi T6 895 5) ∧ (Xi T6 895 5) ≤ 23 := hHT6.c _ _
      refine l_pfi rfl rfl (layClW (by omega) rfl) rfl ?_
      obtain ⟨U7, eU7⟩ : ∃ T : sS, T = uI T6 (276 + cl) 6 (Int32.ofInt (Xi T6 895 5)) := ⟨_, rfl⟩
      rw [← eU7]
      have hHU7 : HI U7 := by rw [eU7]; exact HI_w hHT6 (by rw [lh_cl6 (by omega)]; omega) (by rw [lh_cl6 (by omega)]; omega)
      have hFU7 : FR md_rr_placeTest S U7 := by rw [eU7]; exact FR.wI hFT6 (mdf_i (r := (276, 876, 6, 7)) (List.mem_of_getElem? (i := 2) rfl) (inR_i (by omega) (by omega) (by omega) (by omega)))
      have w46 : Xi U7 (276 + cl) 6 = (Xi T6 895 5) := by rw [eU7]; exact Xi_same (by unfold rg; omega)
      have kc64 : KCL S U7 cl := kcl_w eU7 kc52
      have f64 : Xi U7 (276 + cl) 0 = 5 := by rw [eU7, Xi_ne (by omega)]; exact f52
      have y64 : ∀ j, j < 4 → j ≠ 0 → Xi U7 (276 + cl) j = Xi S (276 + cl) j := fun j h1 h2 => by rw [eU7, Xi_ne (by omega)]; exact y52 j h1 h2
      refine l_aload_n rfl rfl ?_
      refine l_gfr rfl rfl rfl rfl rfl (hHU7.r 899 2 895 rfl) ?_
      refine l_gfi rfl rfl rfl rfl rfl ?_
      have w47 : (Xi U7 895 5) = (Xi T6 895 5) := (show Xi U7 895 5 = Xi T6 895 5 from by rw [eU7]; exact Xi_ne (by omega))
      rw [w47]
      refine l_iconst rfl ?_
      refine l_icmp_ne rfl rfl (by unfold rg; omega) (by unfold rg; omega) (fun w48 => ?_) (fun w49 => ?_)
      · refine l_iconst rfl ?_
        refine l_goto rfl rfl ?_
        refine l_ireturn rfl rfl ?_
        have w50 : Xi U7 876 8 = Xi S 876 8 := (show Xi U7 876 8 = Xi T6 876 8 from by rw [eU7]; exact Xi_ne (by omega)).trans ( (show Xi T6 876 8 = Xi U2 876 8 from w44.x _ _ rfl).trans ( (show Xi U2 876 8 = Xi U1 876 8 from by rw [eU2]; exact Xi_ne (by omega)).trans ((show Xi U1 876 8 = Xi S 876 8 from by rw [eU1]; exact Xi_ne (by omega)))))
        have w51 : 0 ≤ Xi S 876 8 ∧ Xi S 876 8 ≤ 9 := hH.c _ _
        exact ⟨hHU7, hFU7, _, rfl, ⟨by omega, by omega⟩, (by first | exact kc90 | exact kc64), (by first | exact f90 | exact f64), (by first | exact y90 | exact y64), (fun q => by first | omega | (exfalso; omega))⟩
      · refine l_aload_n rfl rfl ?_
        refine l_gfr rfl rfl rfl rfl rfl (hHU7.r 899 0 876 rfl) ?_
        refine l_iconst rfl ?_
        refine l_aload_n rfl rfl ?_
        refine l_gfr rfl rfl rfl rfl rfl (hHU7.r 899 2 895 rfl) ?_
        refine l_gfi rfl rfl rfl rfl rfl ?_
        have w52 : -2147483648 ≤ (Xi U7 895 7) ∧ (Xi U7 895 7) ≤ 2147483647 := Xi_rgI
        refine l_callV rfl rfl rfl (t_to_wrong hHU7 4 (Xi U7 895 7) ⟨by omega, by omega⟩ ⟨by omega, by omega⟩ _) ?_
        rintro _ T8 ⟨hHT8, w56, z55, rfl, w55, w53, w54⟩
        have hFT8 : FR md_rr_placeTest S T8 := FR.tr hFU7 w56 rfl
        show Rl _ _ _ _ _ [iv z55] _ _
        have hf90 : FR md_to_wrong U7 T8 := by assumption
        have hs90 : ∀ j, Xi T8 (276 + cl) j = Xi U7 (276 + cl) j := cl_keep hf90 rfl (by omega)
        have kc90 : KCL S T8 cl := kcl_f hf90 rfl kc64
        have f90 : Xi T8 (276 + cl) 0 = 5 := (hs90 0).trans f64
        have y90 : ∀ j, j < 4 → j ≠ 0 → Xi T8 (276 + cl) j = Xi S (276 + cl) j := fun j h1 h2 => (hs90 j).trans (y64 j h1 h2)
        refine l_if_eq rfl rfl (by unfold rg; omega) (fun w57 => ?_) (fun w58 => ?_)
        · refine l_iconst rfl ?_
          refine l_ireturn rfl rfl ?_
          have w59 : 0 ≤ Xi T8 876 8 ∧ Xi T8 876 8 ≤ 9 := hHT8.c _ _
          exact ⟨hHT8, hFT8, _, rfl, ⟨by omega, by omega⟩, (by first | exact kc90 | exact kc64), (by first | exact f90 | exact f64), (by first | exact y90 | exact y64), (fun q => by first | omega | (exfalso; omega))⟩
        · refine l_iconst rfl ?_
          refine l_goto rfl rfl ?_
          refine l_ireturn rfl rfl ?_
          have w60 : 0 ≤ Xi T8 876 8 ∧ Xi T8 876 8 ≤ 9 := hHT8.c _ _
          exact ⟨hHT8, hFT8, _, rfl, ⟨by omega, by omega⟩, (by first | exact kc90 | exact kc64), (by first | exact f90 | exact f64), (by first | exact y90 | exact y64), (fun q => by first | omega | (exfalso; omega))⟩
    · refine l_iload_n rfl rfl ?_
      refine l_iconst rfl ?_
      refine l_iadd rfl ?_
      refine l_goto rfl rfl ?_
      refine l_iload_n rfl rfl ?_
      have w61 : Xi U2 895 4 = Xi S 895 4 := (show Xi U2 895 4 = Xi U1 895 4 from by rw [eU2]; exact Xi_ne (by omega)).trans ((show Xi U1 895 4 = Xi S 895 4 from by rw [eU1]; exact Xi_ne (by omega)))
      have w62 : -1 ≤ Xi S 895 4 ∧ Xi S 895 4 ≤ 15 := hH.c _ _
      refine l_callV rfl rfl rfl (t_me_readThing hHU2 (from_ + 1) to ⟨by omega, by omega⟩ ⟨by omega, by omega⟩ (by first | assumption | exact (LEX_FR hFU2 rfl rfl (by assumption : LEX S))) _) ?_
      rintro _ T9 ⟨hHT9, w68, z67, rfl, w67, w63, w64, w65, w66⟩
      have hFT9 : FR md_rr_placeTest S T9 := FR.tr hFU2 w68 rfl
      show Rl _ _ _ _ _ [iv z67] _ _
      have hf52 : FR md_me_readThing U2 T9 := by assumption
      have hs52 : ∀ j, Xi T9 (276 + cl) j = Xi U2 (276 + cl) j := cl_keep hf52 rfl (by omega)
      have kc52 : KCL S T9 cl := kcl_f hf52 rfl kc21
      have f52 : Xi T9 (276 + cl) 0 = 5 := (hs52 0).trans f21
      have y52 : ∀ j, j < 4 → j ≠ 0 → Xi T9 (276 + cl) j = Xi S (276 + cl) j := fun j h1 h2 => (hs52 j).trans (y21 j h1 h2)
      refine l_pop rfl rfl ?_
      refine l_aload_n rfl rfl ?_
      refine l_aload_n rfl rfl ?_
      refine l_gfr rfl rfl rfl rfl rfl (hHT9.r 899 2 895 rfl) ?_
      refine l_gfi rfl rfl rfl rfl rfl ?_
      have w69 : -2 ≤ (Xi T9 895 5) ∧ (Xi T9 895 5) ≤ 23 := hHT9.c _ _
      refine l_pfi rfl rfl (layClW (by omega) rfl) rfl ?_
      obtain ⟨U10, eU10⟩ : ∃ T : sS, T = uI T9 (276 + cl) 6 (Int32.ofInt (Xi T9 895 5)) := ⟨_, rfl⟩
      rw [← eU10]
      have hHU10 : HI U10 := by rw [eU10]; exact HI_w hHT9 (by rw [lh_cl6 (by omega)]; omega) (by rw [lh_cl6 (by omega)]; omega)
      have hFU10 : FR md_rr_placeTest S U10 := by rw [eU10]; exact FR.wI hFT9 (mdf_i (r := (276, 876, 6, 7)) (List.mem_of_getElem? (i := 2) rfl) (inR_i (by omega) (by omega) (by omega) (by omega)))
      have w70 : Xi U10 (276 + cl) 6 = (Xi T9 895 5) := by rw [eU10]; exact Xi_same (by unfold rg; omega)
      have kc64 : KCL S U10 cl := kcl_w eU10 kc52
      have f64 : Xi U10 (276 + cl) 0 = 5 := by rw [eU10, Xi_ne (by omega)]; exact f52
      have y64 : ∀ j, j < 4 → j ≠ 0 → Xi U10 (276 + cl) j = Xi S (276 + cl) j := fun j h1 h2 => by rw [eU10, Xi_ne (by omega)]; exact y52 j h1 h2
      refine l_aload_n rfl rfl ?_
      refine l_gfr rfl rfl rfl rfl rfl (hHU10.r 899 2 895 rfl) ?_
      refine l_gfi rfl rfl rfl rfl rfl ?_
      have w71 : (Xi U10 895 5) = (Xi T9 895 5) := (show Xi U10 895 5 = Xi T9 895 5 from by rw [eU10]; exact Xi_ne (by omega))
      rw [w71]
      refine l_iconst rfl ?_
      refine l_icmp_ne rfl rfl (by unfold rg; omega) (by unfold rg; omega) (fun w72 => ?_) (fun w73 => ?_)
      · refine l_iconst rfl ?_
        refine l_goto rfl rfl ?_
        refine l_ireturn rfl rfl ?_
        have w74 : Xi U10 876 8 = Xi S 876 8 := (show Xi U10 876 8 = Xi T9 876 8 from by rw [eU10]; exact Xi_ne (by omega)).trans ( (show Xi T9 876 8 = Xi U2 876 8 from w68.x _ _ rfl).trans ( (show Xi U2 876 8 = Xi U1 876 8 from by rw [eU2]; exact Xi_ne (by omega)).trans ((show Xi U1 876 8 = Xi S 876 8 from by rw [eU1]; exact Xi_ne (by omega)))))
        have w75 : 0 ≤ Xi S 876 8 ∧ Xi S 876 8 ≤ 9 := hH.c _ _
        exact ⟨hHU10, hFU10, _, rfl, ⟨by omega, by omega⟩, (by first | exact kc90 | exact kc64), (by first | exact f90 | exact f64), (by first | exact y90 | exact y64), (fun q => by first | omega | (exfalso; omega))⟩
      · refine l_aload_n rfl rfl ?_
        refine l_gfr rfl rfl rfl rfl rfl (hHU10.r 899 0 876 rfl) ?_
        refine l_iconst rfl ?_
        refine l_aload_n rfl rfl ?_
        refine l_gfr rfl rfl rfl rfl rfl (hHU10.r 899 2 895 rfl) ?_
        refine l_gfi rfl rfl rfl rfl rfl ?_
        have w76 : -2147483648 ≤ (Xi U10 895 7) ∧ (Xi U10 895 7) ≤ 2147483647 := Xi_rgI
        refine l_callV rfl rfl rfl (t_to_wrong hHU10 4 (Xi U10 895 7) ⟨by omega, by omega⟩ ⟨by omega, by omega⟩ _) ?_
        rintro _ T11 ⟨hHT11, w80, z79, rfl, w79, w77, w78⟩
        have hFT11 : FR md_rr_placeTest S T11 := FR.tr hFU10 w80 rfl
        show Rl _ _ _ _ _ [iv z79] _ _
        have hf90 : FR md_to_wrong U10 T11 := by assumption
        have hs90 : ∀ j, Xi T11 (276 + cl) j = Xi U10 (276 + cl) j := cl_keep hf90 rfl (by omega)
        have kc90 : KCL S T11 cl := kcl_f hf90 rfl kc64
        have f90 : Xi T11 (276 + cl) 0 = 5 := (hs90 0).trans f64
        have y90 : ∀ j, j < 4 → j ≠ 0 → Xi T11 (276 + cl) j = Xi S (276 + cl) j := fun j h1 h2 => (hs90 j).trans (y64 j h1 h2)
        refine l_if_eq rfl rfl (by unfold rg; omega) (fun w81 => ?_) (fun w82 => ?_)
        · refine l_iconst rfl ?_
          refine l_ireturn rfl rfl ?_
          have w83 : 0 ≤ Xi T11 876 8 ∧ Xi T11 876 8 ≤ 9 := hHT11.c _ _
          exact ⟨hHT11, hFT11, _, rfl, ⟨by omega, by omega⟩, (by first | exact kc90 | exact kc64), (by first | exact f90 | exact f64), (by first | exact y90 | exact y64), (fun q => by first | omega | (exfalso; omega))⟩
        · refine l_iconst rfl ?_
          refine l_goto rfl rfl ?_
          refine l_ireturn rfl rfl ?_
          have w84 : 0 ≤ Xi T11 876 8 ∧ Xi T11 876 8 ≤ 9 := hHT11.c _ _
          exact ⟨hHT11, hFT11, _, rfl, ⟨by omega, by omega⟩, (by first | exact kc90 | exact kc64), (by first | exact f90 | exact f64), (by first | exact y90 | exact y64), (fun q => by first | omega | (exfalso; omega))⟩

