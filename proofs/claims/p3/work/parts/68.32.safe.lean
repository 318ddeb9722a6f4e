/-! SAFETY of methods: printed by wip/safe (vc.py, decl.py) -/
def md_re_tellSentence : List rec := [(1, 2, 3, 4), (2, 3, 0, 100000), (3, 4, 0, 100000), (4, 5, 0, 100000), (5, 6, 0, 100000), (6, 7, 0, 100000), (7, 8, 0, 100000), (8, 9, 0, 100000), (9, 10, 0, 100000), (10, 11, 0, 100000), (11, 12, 0, 100000), (14, 15, 0, 100000), (15, 16, 0, 100000), (16, 17, 0, 100000), (17, 18, 0, 100000), (19, 20, 0, 100000), (20, 21, 12, 13), (21, 22, 0, 100000), (22, 23, 0, 100000), (23, 24, 0, 100000), (25, 65, 0, 100000), (66, 106, 0, 100000), (107, 147, 0, 100000), (148, 188, 0, 100000), (189, 195, 0, 100000), (196, 220, 0, 100000), (221, 245, 0, 100000), (876, 877, 8, 9), (876, 877, 9, 10), (891, 892, 9, 10), (891, 892, 10, 11), (891, 892, 11, 12), (891, 892, 12, 13), (892, 893, 0, 100000), (893, 894, 0, 100000), (894, 895, 0, 100000), (895, 896, 8, 9), (895, 896, 9, 10), (895, 896, 10, 11), (895, 896, 11, 12), (895, 896, 12, 13), (895, 896, 13, 14), (895, 896, 14, 15), (896, 897, 0, 100000), (897, 898, 0, 100000), (898, 899, 0, 100000)]
abbrev Q_re_tellSentence (S : sS) : pst := fun r S1 => HI S1 ∧ FR md_re_tellSentence S S1 ∧ (∃ z : Int, r = some (iv z) ∧ (0 ≤ z ∧ z ≤ 1) ∧ (z = 1 → WI S1) ∧ (z = 0 → Xi S1 876 8 ≠ 0))
set_option maxRecDepth 100000 in
theorem t_re_tellSentence {S : sS} (hH : HI S) (hW : WI S) (hT : TOK S) (hS : SRX S) (d : Nat) : Mt lay0 (d + 7) m_re_tellSentence [.ref 891] S (Q_re_tellSentence S) := by
  refine Mt_R rfl rfl ?_
  have hF : FR md_re_tellSentence S S := FR.rf
  have hL := hW.1
  have hX := hW.2.1
  refine l_aload_n rfl rfl ?_
  refine l_iconst rfl ?_
  refine l_pfi rfl rfl rfl rfl ?_
  obtain ⟨U1, eU1⟩ : ∃ T : sS, T = uI S 891 9 (Int32.ofInt 0) := ⟨_, rfl⟩
  rw [← eU1]
  have hHU1 : HI U1 := by rw [eU1]; exact HI_w hH (show 0 ≤ 0 by omega) (show 0 ≤ 24 by omega)
  have hFU1 : FR md_re_tellSentence S U1 := by rw [eU1]; exact FR.wI hF (mdf_i (r := (891, 892, 9, 10)) (List.mem_of_getElem? (i := 29) rfl) (inR_i (by omega) (by omega) (by omega) (by omega)))
  have w1 : Xi U1 891 9 = 0 := by rw [eU1]; exact Xi_same (by unfold rg; omega)
  refine l_aload_n rfl rfl ?_
  refine l_iconst rfl ?_
  refine l_pfi rfl rfl rfl rfl ?_
  obtain ⟨U2, eU2⟩ : ∃ T : sS, T = uI U1 891 11 (Int32.ofInt 0) := ⟨_, rfl⟩
  rw [← eU2]
  have hHU2 : HI U2 := by rw [eU2]; exact HI_w hHU1 (show 0 ≤ 0 by omega) (show 0 ≤ 5 by omega)
  have hFU2 : FR md_re_tellSentence S U2 := by rw [eU2]; exact FR.wI hFU1 (mdf_i (r := (891, 892, 11, 12)) (List.mem_of_getElem? (i := 31) rfl) (inR_i (by omega) (by omega) (by omega) (by omega)))
  have w2 : Xi U2 891 11 = 0 := by rw [eU2]; exact Xi_same (by unfold rg; omega)
  refine l_aload_n rfl rfl ?_
  refine l_gfr rfl rfl rfl rfl rfl (hHU2.r 891 1 890 rfl) ?_
  refine l_gfi rfl rfl rfl rfl rfl ?_
  have w3 : 0 ≤ (Xi U2 890 2) ∧ (Xi U2 890 2) ≤ 20 := hHU2.c _ _
  refine l_tsw rfl rfl rfl rfl (by unfold rg; omega) (fun w4 => ?_) (fun ii tt hii w4 => ?_)
  · refine l_aload_n rfl rfl ?_
    refine l_callV rfl rfl rfl (t_re_tellLoose hHU2 (by first | assumption | exact (WI_FR hHU1 (FR_e eU2) rfl rfl rfl rfl rfl rfl rfl rfl rfl (WI_FR hH (FR_e eU1) rfl rfl rfl rfl rfl rfl rfl rfl rfl (by assumption : WI S)))) _) ?_
    rintro _ T3 ⟨hHT3, w8, z7, rfl, w7, w5, w6⟩
    have hFT3 : FR md_re_tellSentence S T3 := FR.tr hFU2 w8 rfl
    show Rl _ _ _ _ _ [iv z7] _ _
    refine l_ireturn rfl (retI_z (by omega)) ?_
    have w9 : 0 ≤ Xi T3 876 8 ∧ Xi T3 876 8 ≤ 9 := hHT3.c _ _
    exact ⟨hHT3, hFT3, _, rfl, ⟨by omega, by omega⟩, (by first | (intro hz; omega) | (intro _; assumption) | (intro hz; apply_assumption; omega) | (intro _; exact (WI_FR hHU2 w8 rfl rfl rfl rfl rfl rfl rfl rfl rfl (WI_FR hHU1 (FR_e eU2) rfl rfl rfl rfl rfl rfl rfl rfl rfl (WI_FR hH (FR_e eU1) rfl rfl rfl rfl rfl rfl rfl rfl rfl (by assumption : WI S)))))), (by omega)⟩
  · match ii, hii with
    | 0, hii =>
      cases hii
      have w10 : (Xi U2 890 2) = 9 := by simpa using w4
      refine l_aload_n rfl rfl ?_
      refine l_callV rfl rfl rfl (t_re_tellProperty hHU2 (by first | assumption | exact (WI_FR hHU1 (FR_e eU2) rfl rfl rfl rfl rfl rfl rfl rfl rfl (WI_FR hH (FR_e eU1) rfl rfl rfl rfl rfl rfl rfl rfl rfl (by assumption : WI S)))) (by first | assumption | exact (TOK_FR hFU2 rfl rfl rfl (by assumption : TOK S))) (by first | assumption | exact (SRX_FR hFU2 rfl (by assumption : SRX S))) _) ?_
      rintro _ T4 ⟨hHT4, w14, z13, rfl, w13, w11, w12⟩
      have hFT4 : FR md_re_tellSentence S T4 := FR.tr hFU2 w14 rfl
      show Rl _ _ _ _ _ [iv z13] _ _
      refine l_ireturn rfl (retI_z (by omega)) ?_
      have w15 : 0 ≤ Xi T4 876 8 ∧ Xi T4 876 8 ≤ 9 := hHT4.c _ _
      exact ⟨hHT4, hFT4, _, rfl, ⟨by omega, by omega⟩, (by first | (intro hz; omega) | (intro _; assumption) | (intro hz; apply_assumption; omega) | (intro _; exact (by assumption : WI T4))), (by omega)⟩
    | 1, hii =>
      cases hii
      have w16 : (Xi U2 890 2) = 10 := by simpa using w4
      refine l_aload_n rfl rfl ?_
      have w17 : Xi U2 891 9 = Xi U1 891 9 := (show Xi U2 891 9 = Xi U1 891 9 from by rw [eU2]; exact Xi_ne (by omega))
      have w18 : 0 ≤ Xi U1 891 9 ∧ Xi U1 891 9 ≤ 24 := hHU1.c _ _
      refine l_callV rfl rfl rfl (t_re_tellKinds hHU2 (by first | assumption | exact (WI_FR hHU1 (FR_e eU2) rfl rfl rfl rfl rfl rfl rfl rfl rfl (WI_FR hH (FR_e eU1) rfl rfl rfl rfl rfl rfl rfl rfl rfl (by assumption : WI S)))) (by first | assumption | omega) _) ?_
      rintro _ T5 ⟨hHT5, w22, z21, rfl, w21, w19, w20⟩
      have hFT5 : FR md_re_tellSentence S T5 := FR.tr hFU2 w22 rfl
      show Rl _ _ _ _ _ [iv z21] _ _
      refine l_ireturn rfl (retI_z (by omega)) ?_
      have w23 : 0 ≤ Xi T5 876 8 ∧ Xi T5 876 8 ≤ 9 := hHT5.c _ _
      exact ⟨hHT5, hFT5, _, rfl, ⟨by omega, by omega⟩, (by first | (intro hz; omega) | (intro _; assumption) | (intro hz; apply_assumption; omega) | (intro _; exact (by assumption : WI T5))), (by omega)⟩
    | 2, hii =>
      cases hii
      have w24 : (Xi U2 890 2) = 11 := by simpa using w4
      refine l_aload_n rfl rfl ?_
      have w25 : Xi U2 891 9 = Xi U1 891 9 := (show Xi U2 891 9 = Xi U1 891 9 from by rw [eU2]; exact Xi_ne (by omega))
      have w26 : 0 ≤ Xi U1 891 9 ∧ Xi U1 891 9 ≤ 24 := hHU1.c _ _
      refine l_callV rfl rfl rfl (t_re_tellActions hHU2 (by first | assumption | exact (WI_FR hHU1 (FR_e eU2) rfl rfl rfl rfl rfl rfl rfl rfl rfl (WI_FR hH (FR_e eU1) rfl rfl rfl rfl rfl rfl rfl rfl rfl (by assumption : WI S)))) (by first | assumption | omega) _) ?_
      rintro _ T6 ⟨hHT6, w30, z29, rfl, w29, w27, w28⟩
      have hFT6 : FR md_re_tellSentence S T6 := FR.tr hFU2 w30 rfl
      show Rl _ _ _ _ _ [iv z29] _ _
      refine l_ireturn rfl (retI_z (by omega)) ?_
      have w31 : 0 ≤ Xi T6 876 8 ∧ Xi T6 876 8 ≤ 9 := hHT6.c _ _
      exact ⟨hHT6, hFT6, _, rfl, ⟨by omega, by omega⟩, (by first | (intro hz; omega) | (intro _; assumption) | (intro hz; apply_assumption; omega) | (intro _; exact (by assumption : WI T6))), (by omega)⟩
    | 3, hii =>
      cases hii
      have w32 : (Xi U2 890 2) = 12 := by simpa using w4
      refine l_aload_n rfl rfl ?_
      have w33 : 0 ≤ Xi U2 891 11 ∧ Xi U2 891 11 ≤ 5 := hHU2.c _ _
      have w34 : Xi U2 891 9 = Xi U1 891 9 := (show Xi U2 891 9 = Xi U1 891 9 from by rw [eU2]; exact Xi_ne (by omega))
      have w35 : 0 ≤ Xi U1 891 9 ∧ Xi U1 891 9 ≤ 24 := hHU1.c _ _
      refine l_callV rfl rfl rfl (t_re_tellObjects hHU2 (by first | assumption | exact (WI_FR hHU1 (FR_e eU2) rfl rfl rfl rfl rfl rfl rfl rfl rfl (WI_FR hH (FR_e eU1) rfl rfl rfl rfl rfl rfl rfl rfl rfl (by assumption : WI S)))) (by first | assumption | omega) (by first | assumption | omega) _) ?_
      rintro _ T7 ⟨hHT7, w39, z38, rfl, w38, w36, w37⟩
      have hFT7 : FR md_re_tellSentence S T7 := FR.tr hFU2 w39 rfl
      show Rl _ _ _ _ _ [iv z38] _ _
      refine l_ireturn rfl (retI_z (by omega)) ?_
      have w40 : 0 ≤ Xi T7 876 8 ∧ Xi T7 876 8 ≤ 9 := hHT7.c _ _
      exact ⟨hHT7, hFT7, _, rfl, ⟨by omega, by omega⟩, (by first | (intro hz; omega) | (intro _; assumption) | (intro hz; apply_assumption; omega) | (intro _; exact (by assumption : WI T7))), (by omega)⟩
    | 4, hii =>
      cases hii
      have w41 : (Xi U2 890 2) = 13 := by simpa using w4
      refine l_aload_n rfl rfl ?_
      have w42 : 0 ≤ Xi U2 891 11 ∧ Xi U2 891 11 ≤ 5 := hHU2.c _ _
      have w43 : Xi U2 891 9 = Xi U1 891 9 := (show Xi U2 891 9 = Xi U1 891 9 from by rw [eU2]; exact Xi_ne (by omega))
      have w44 : 0 ≤ Xi U1 891 9 ∧ Xi U1 891 9 ≤ 24 := hHU1.c _ _
      refine l_callV rfl rfl rfl (t_re_tellObjects hHU2 (by first | assumption | exact (WI_FR hHU1 (FR_e eU2) rfl rfl rfl rfl rfl rfl rfl rfl rfl (WI_FR hH (FR_e eU1) rfl rfl rfl rfl rfl rfl rfl rfl rfl (by assumption : WI S)))) (by first | assumption | omega) (by first | assumption | omega) _) ?_
      rintro _ T8 ⟨hHT8, w48, z47, rfl, w47, w45, w46⟩
      have hFT8 : FR md_re_tellSentence S T8 := FR.tr hFU2 w48 rfl
      show Rl _ _ _ _ _ [iv z47] _ _
      refine l_ireturn rfl (retI_z (by omega)) ?_
      have w49 : 0 ≤ Xi T8 876 8 ∧ Xi T8 876 8 ≤ 9 := hHT8.c _ _
      exact ⟨hHT8, hFT8, _, rfl, ⟨by omega, by omega⟩, (by first | (intro hz; omega) | (intro _; assumption) | (intro hz; apply_assumption; omega) | (intro _; exact (by assumption : WI T8))), (by omega)⟩
    | 5, hii =>
      cases hii
      have w50 : (Xi U2 890 2) = 14 := by simpa using w4
      refine l_aload_n rfl rfl ?_
      have w51 : Xi U2 891 9 = Xi U1 891 9 := (show Xi U2 891 9 = Xi U1 891 9 from by rw [eU2]; exact Xi_ne (by omega))
      have w52 : 0 ≤ Xi U1 891 9 ∧ Xi U1 891 9 ≤ 24 := hHU1.c _ _
      refine l_callV rfl rfl rfl (t_re_tellWay hHU2 (by first | assumption | exact (WI_FR hHU1 (FR_e eU2) rfl rfl rfl rfl rfl rfl rfl rfl rfl (WI_FR hH (FR_e eU1) rfl rfl rfl rfl rfl rfl rfl rfl rfl (by assumption : WI S)))) (by first | assumption | omega) _) ?_
      rintro _ T9 ⟨hHT9, w56, z55, rfl, w55, w53, w54⟩
      have hFT9 : FR md_re_tellSentence S T9 := FR.tr hFU2 w56 rfl
      show Rl _ _ _ _ _ [iv z55] _ _
      refine l_ireturn rfl (retI_z (by omega)) ?_
      have w57 : 0 ≤ Xi T9 876 8 ∧ Xi T9 876 8 ≤ 9 := hHT9.c _ _
      exact ⟨hHT9, hFT9, _, rfl, ⟨by omega, by omega⟩, (by first | (intro hz; omega) | (intro _; assumption) | (intro hz; apply_assumption; omega) | (intro _; exact (by assumption : WI T9))), (by omega)⟩
    | 6, hii =>
      cases hii
      have w58 : (Xi U2 890 2) = 15 := by simpa using w4
      refine l_aload_n rfl rfl ?_
      refine l_callV rfl rfl rfl (t_re_tellsUsually hHU2 _) ?_
      rintro _ _ ⟨rfl, z59, rfl, w59⟩
      show Rl _ _ _ _ _ [iv z59] _ _
      refine l_if_eq rfl rfl (by unfold rg; omega) (fun w60 => ?_) (fun w61 => ?_)
      · refine l_aload_n rfl rfl ?_
        refine l_callV rfl rfl rfl (t_re_tellsValues hHU2 (by first | assumption | exact (LEX_FR (FR_e eU2) rfl rfl (LEX_FR (FR_e eU1) rfl rfl (by first | assumption | exact (by assumption : WI S).1 : LEX S)))) _) ?_
        rintro _ _ ⟨rfl, z62, rfl, w62⟩
        show Rl _ _ _ _ _ [iv z62] _ _
        refine l_if_eq rfl rfl (by unfold rg; omega) (fun w63 => ?_) (fun w64 => ?_)
        · refine l_aload_n rfl rfl ?_
          have w65 : 0 ≤ Xi U2 891 11 ∧ Xi U2 891 11 ≤ 5 := hHU2.c _ _
          have w66 : Xi U2 891 9 = Xi U1 891 9 := (show Xi U2 891 9 = Xi U1 891 9 from by rw [eU2]; exact Xi_ne (by omega))
          have w67 : 0 ≤ Xi U1 891 9 ∧ Xi U1 891 9 ≤ 24 := hHU1.c _ _
          refine l_callV rfl rfl rfl (t_re_tellPlain hHU2 (by first | assumption | exact (WI_FR hHU1 (FR_e eU2) rfl rfl rfl rfl rfl rfl rfl rfl rfl (WI_FR hH (FR_e eU1) rfl rfl rfl rfl rfl rfl rfl rfl rfl (by assumption : WI S)))) (by first | assumption | omega) (by first | assumption | omega) _) ?_
          rintro _ T10 ⟨hHT10, w71, z70, rfl, w70, w68, w69⟩
          have hFT10 : FR md_re_tellSentence S T10 := FR.tr hFU2 w71 rfl
          show Rl _ _ _ _ _ [iv z70] _ _
          refine l_ireturn rfl (retI_z (by omega)) ?_
          have w72 : 0 ≤ Xi T10 876 8 ∧ Xi T10 876 8 ≤ 9 := hHT10.c _ _
          exact ⟨hHT10, hFT10, _, rfl, ⟨by omega, by omega⟩, (by first | (intro hz; omega) | (intro _; assumption) | (intro hz; apply_assumption; omega) | (intro _; exact (by assumption : WI T10))), (by omega)⟩
        · refine l_aload_n rfl rfl ?_
          have w73 : Xi U2 891 9 = Xi U1 891 9 := (show Xi U2 891 9 = Xi U1 891 9 from by rw [eU2]; exact Xi_ne (by omega))
          have w74 : 0 ≤ Xi U1 891 9 ∧ Xi U1 891 9 ≤ 24 := hHU1.c _ _
          refine l_callV rfl rfl rfl (t_re_tellValues hHU2 (by first | assumption | exact (WI_FR hHU1 (FR_e eU2) rfl rfl rfl rfl rfl rfl rfl rfl rfl (WI_FR hH (FR_e eU1) rfl rfl rfl rfl rfl rfl rfl rfl rfl (by assumption : WI S)))) (by first | assumption | omega) _) ?_
          rintro _ T11 ⟨hHT11, w78, z77, rfl, w77, w75, w76⟩
          have hFT11 : FR md_re_tellSentence S T11 := FR.tr hFU2 w78 rfl
          show Rl _ _ _ _ _ [iv z77] _ _
          refine l_goto rfl rfl ?_
          refine l_ireturn rfl (retI_z (by omega)) ?_
          have w79 : 0 ≤ Xi T11 876 8 ∧ Xi T11 876 8 ≤ 9 := hHT11.c _ _
          exact ⟨hHT11, hFT11, _, rfl, ⟨by omega, by omega⟩, (by first | (intro hz; omega) | (intro _; assumption) | (intro hz; apply_assumption; omega) | (intro _; exact (by assumption : WI T11))), (by omega)⟩
      · refine l_aload_n rfl rfl ?_
        refine l_callV rfl rfl rfl (t_re_tellUsually hHU2 (by first | assumption | exact (WI_FR hHU1 (FR_e eU2) rfl rfl rfl rfl rfl rfl rfl rfl rfl (WI_FR hH (FR_e eU1) rfl rfl rfl rfl rfl rfl rfl rfl rfl (by assumption : WI S)))) _) ?_
        rintro _ T12 ⟨hHT12, w83, z82, rfl, w82, w80, w81⟩
        have hFT12 : FR md_re_tellSentence S T12 := FR.tr hFU2 w83 rfl
        show Rl _ _ _ _ _ [iv z82] _ _
        refine l_goto rfl rfl ?_
        refine l_ireturn rfl (retI_z (by omega)) ?_
        have w84 : 0 ≤ Xi T12 876 8 ∧ Xi T12 876 8 ≤ 9 := hHT12.c _ _
        exact ⟨hHT12, hFT12, _, rfl, ⟨by omega, by omega⟩, (by first | (intro hz; omega) | (intro _; assumption) | (intro hz; apply_assumption; omega) | (intro _; exact (by assumption : WI T12))), (by omega)⟩
    | 7, hii =>
      cases hii
      have w85 : (Xi U2 890 2) = 16 := by simpa using w4
      refine l_aload_n rfl rfl ?_
      have w86 : Xi U2 891 9 = Xi U1 891 9 := (show Xi U2 891 9 = Xi U1 891 9 from by rw [eU2]; exact Xi_ne (by omega))
      have w87 : 0 ≤ Xi U1 891 9 ∧ Xi U1 891 9 ≤ 24 := hHU1.c _ _
      refine l_callV rfl rfl rfl (t_re_tellValues hHU2 (by first | assumption | exact (WI_FR hHU1 (FR_e eU2) rfl rfl rfl rfl rfl rfl rfl rfl rfl (WI_FR hH (FR_e eU1) rfl rfl rfl rfl rfl rfl rfl rfl rfl (by assumption : WI S)))) (by first | assumption | omega) _) ?_
      rintro _ T13 ⟨hHT13, w91, z90, rfl, w90, w88, w89⟩
      have hFT13 : FR md_re_tellSentence S T13 := FR.tr hFU2 w91 rfl
      show Rl _ _ _ _ _ [iv z90] _ _
      refine l_ireturn rfl (retI_z (by omega)) ?_
      have w92 : 0 ≤ Xi T13 876 8 ∧ Xi T13 876 8 ≤ 9 := hHT13.c _ _
      exact ⟨hHT13, hFT13, _, rfl, ⟨by omega, by omega⟩, (by first | (intro hz; omega) | (intro _; assumption) | (intro hz; apply_assumption; omega) | (intro _; exact (by assumption : WI T13))), (by omega)⟩
    | 8, hii =>
      cases hii
      have w93 : (Xi U2 890 2) = 17 := by simpa using w4
      refine l_aload_n rfl rfl ?_
      have w94 : Xi U2 891 9 = Xi U1 891 9 := (show Xi U2 891 9 = Xi U1 891 9 from by rw [eU2]; exact Xi_ne (by omega))
      have w95 : 0 ≤ Xi U1 891 9 ∧ Xi U1 891 9 ≤ 24 := hHU1.c _ _
      refine l_callV rfl rfl rfl (t_re_tellHas hHU2 (by first | assumption | exact (WI_FR hHU1 (FR_e eU2) rfl rfl rfl rfl rfl rfl rfl rfl rfl (WI_FR hH (FR_e eU1) rfl rfl rfl rfl rfl rfl rfl rfl rfl (by assumption : WI S)))) (by first | assumption | omega) _) ?_
      rintro _ T14 ⟨hHT14, w99, z98, rfl, w98, w96, w97⟩
      have hFT14 : FR md_re_tellSentence S T14 := FR.tr hFU2 w99 rfl
      show Rl _ _ _ _ _ [iv z98] _ _
      refine l_ireturn rfl (retI_z (by omega)) ?_
      have w100 : 0 ≤ Xi T14 876 8 ∧ Xi T14 876 8 ≤ 9 := hHT14.c _ _
      exact ⟨hHT14, hFT14, _, rfl, ⟨by omega, by omega⟩, (by first | (intro hz; omega) | (intro _; assumption) | (intro hz; apply_assumption; omega) | (intro _; exact (by assumption : WI T14))), (by omega)⟩
    | 9, hii =>
      cases hii
      have w101 : (Xi U2 890 2) = 18 := by simpa using w4
      refine l_aload_n rfl rfl ?_
      have w102 : Xi U2 891 9 = Xi U1 891 9 := (show Xi U2 891 9 = Xi U1 891 9 from by rw [eU2]; exact Xi_ne (by omega))
      have w103 : 0 ≤ Xi U1 891 9 ∧ Xi U1 891 9 ≤ 24 := hHU1.c _ _
      refine l_callV rfl rfl rfl (t_re_tellCan hHU2 (by first | assumption | exact (WI_FR hHU1 (FR_e eU2) rfl rfl rfl rfl rfl rfl rfl rfl rfl (WI_FR hH (FR_e eU1) rfl rfl rfl rfl rfl rfl rfl rfl rfl (by assumption : WI S)))) (by first | assumption | omega) _) ?_
      rintro _ T15 ⟨hHT15, w107, z106, rfl, w106, w104, w105⟩
      have hFT15 : FR md_re_tellSentence S T15 := FR.tr hFU2 w107 rfl
      show Rl _ _ _ _ _ [iv z106] _ _
      refine l_ireturn rfl (retI_z (by omega)) ?_
      have w108 : 0 ≤ Xi T15 876 8 ∧ Xi T15 876 8 ≤ 9 := hHT15.c _ _
      exact ⟨hHT15, hFT15, _, rfl, ⟨by omega, by omega⟩, (by first | (intro hz; omega) | (intro _; assumption) | (intro hz; apply_assumption; omega) | (intro _; exact (by assumption : WI T15))), (by omega)⟩
    | 10, hii =>
      cases hii
      have w109 : (Xi U2 890 2) = 19 := by simpa using w4
      refine l_aload_n rfl rfl ?_
      have w110 : Xi U2 891 9 = Xi U1 891 9 := (show Xi U2 891 9 = Xi U1 891 9 from by rw [eU2]; exact Xi_ne (by omega))
      have w111 : 0 ≤ Xi U1 891 9 ∧ Xi U1 891 9 ≤ 24 := hHU1.c _ _
      refine l_callV rfl rfl rfl (t_re_tellRelation hHU2 (by first | assumption | exact (WI_FR hHU1 (FR_e eU2) rfl rfl rfl rfl rfl rfl rfl rfl rfl (WI_FR hH (FR_e eU1) rfl rfl rfl rfl rfl rfl rfl rfl rfl (by assumption : WI S)))) (by first | assumption | omega) _) ?_
      rintro _ T16 ⟨hHT16, w115, z114, rfl, w114, w112, w113⟩
      have hFT16 : FR md_re_tellSentence S T16 := FR.tr hFU2 w115 rfl
      show Rl _ _ _ _ _ [iv z114] _ _
      refine l_ireturn rfl (retI_z (by omega)) ?_
      have w116 : 0 ≤ Xi T16 876 8 ∧ Xi T16 876 8 ≤ 9 := hHT16.c _ _
      exact ⟨hHT16, hFT16, _, rfl, ⟨by omega, by omega⟩, (by first | (intro hz; omega) | (intro _; assumption) | (intro hz; apply_assumption; omega) | (intro _; exact (by assumption : WI T16))), (by omega)⟩
    | n + 11, hii => exact absurd hii (by simp)

