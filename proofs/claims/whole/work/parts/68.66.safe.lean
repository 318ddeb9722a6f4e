/-! SAFETY of methods: printed by wip/safe (vc.py, decl.py) -/
def md_mo_list : List rec := [(904, 905, 8, 9), (904, 905, 65, 66), (904, 905, 66, 67), (904, 905, 69, 70), (904, 905, 71, 72), (904, 905, 72, 73), (950, 951, 0, 100000), (951, 952, 0, 100000)]
abbrev Q_mo_list (S : sS) (n : Nat) (c : Nat) (art : Int) : pst := fun r S1 => HI S1 ∧ FR md_mo_list S S1 ∧ (r = none ∧ (AT S1 n c) ∧ (Xi S 904 8 ≤ Xi S1 904 8 ∧ (Xi S1 904 8 ≤ n ∨ Xi S1 904 8 = Xi S 904 8)) ∧ (RNV S1 n) ∧ (Xi S1 904 71 = Xi S 904 69 ∧ Xi S1 904 72 = Xi S1 904 69 - Xi S 904 69))
set_option maxRecDepth 100000 in
theorem t_mo_list {S : sS} (hH : HI S) (n : Nat) (c : Nat) (art : Int) (hart : 0 ≤ art ∧ art ≤ 1) (hT : TK S n) (hA : AT S n c) (hv : RNV S n) (d : Nat) : Mt lay0 (d + 4) m_mo_list [.ref 904, iv art] S (Q_mo_list S n c art) := by
  refine Mt_R rfl rfl ?_
  have hF : FR md_mo_list S S := FR.rf
  have w1 : 0 ≤ Xi S 904 69 ∧ Xi S 904 69 ≤ 2600 := hH.c _ _
  have w2 : 0 ≤ Xi S 904 71 ∧ Xi S 904 71 ≤ 2600 := hH.c _ _
  have w3 : 0 ≤ Xi S 904 8 ∧ Xi S 904 8 ≤ 5010 := hH.c _ _
  have hn5 := hT.1
  have hat := hA
  have h8 : 0 ≤ Xi S 904 8 ∧ Xi S 904 8 ≤ 5010 := hH.c _ _
  have h69 : 0 ≤ Xi S 904 69 ∧ Xi S 904 69 ≤ 2600 := hH.c _ _
  have ha0 : Xi S 904 65 = 0 → Xi S 904 8 ≤ n := fun q => (hA q).1
  have ha3 : Xi S 904 65 = 0 → 2 * Xi S 904 69 ≤ Xi S 904 8 + 1 := fun q => (hA q).2.1
  clear hat
  have C10 : ∀ (n10 : Nat) (T1 : sS) (_ : HI T1) (_ : FR md_mo_list S T1) (v2 : Int), (0 ≤ v2 ∧ v2 ≤ 1) → (TK T1 n) → (AT T1 n c) → (RNV T1 n) → (Xi T1 904 71 = Xi S 904 69) → (Xi S 904 69 ≤ Xi T1 904 69) → (Xi S 904 8 ≤ Xi T1 904 8) → (Xi T1 904 8 ≤ n ∨ Xi T1 904 8 = Xi S 904 8) → n10 = (2 * (5012 - Xi T1 904 8) + v2).toNat → Rl lay0 (d + 3) m_mo_list 10 [(0, .ref 904), (1, iv art), (2, iv v2)] [] T1 (Q_mo_list S n c art) := by
    intro n10
    induction n10 using Nat.strongRecOn with
    | ind n10 ih10 =>
      intro T1 hHT1 hFT1 v2 w4 T10 A10 V10 w5 w6 w7 m10 hm10
      have w8 : 0 ≤ Xi T1 904 69 ∧ Xi T1 904 69 ≤ 2600 := hHT1.c _ _
      have w9 : 0 ≤ Xi T1 904 71 ∧ Xi T1 904 71 ≤ 2600 := hHT1.c _ _
      have w10 : 0 ≤ Xi T1 904 8 ∧ Xi T1 904 8 ≤ 5010 := hHT1.c _ _
      refine l_iload_n rfl rfl ?_
      refine l_if_eq rfl rfl (by unfold rg; omega) (fun w11 => ?_) (fun w12 => ?_)
      · refine l_aload_n rfl rfl ?_
        refine l_aload_n rfl rfl ?_
        refine l_gfi rfl rfl rfl rfl rfl ?_
        refine l_aload_n rfl rfl ?_
        refine l_gfi rfl rfl rfl rfl rfl ?_
        refine l_isub rfl ?_
        refine l_pfi rfl rfl rfl rfl ?_
        obtain ⟨U2, eU2⟩ : ∃ T : sS, T = uI T1 904 72 (Int32.ofInt ((Xi T1 904 69) - (Xi T1 904 71))) := ⟨_, rfl⟩
        rw [← eU2]
        have hHU2 : HI U2 := by rw [eU2]; exact HI_w hHT1 (show 0 ≤ ((Xi T1 904 69) - (Xi T1 904 71)) by omega) (show ((Xi T1 904 69) - (Xi T1 904 71)) ≤ 2600 by omega)
        have hFU2 : FR md_mo_list S U2 := by rw [eU2]; exact FR.wI hFT1 (mdf_i (r := (904, 905, 72, 73)) (List.mem_of_getElem? (i := 5) rfl) (inR_i (by omega) (by omega) (by omega) (by omega)))
        have w13 : Xi U2 904 72 = ((Xi T1 904 69) - (Xi T1 904 71)) := by rw [eU2]; exact Xi_same (by unfold rg; omega)
        have s56 : Xi U2 904 8 = Xi T1 904 8 ∧ Xi U2 904 69 = Xi T1 904 69 ∧ Xi U2 904 71 = Xi T1 904 71 := ⟨by rw [eU2, Xi_ne (by omega)], by rw [eU2, Xi_ne (by omega)], by rw [eU2, Xi_ne (by omega)]⟩
        have A56 : AT U2 n c := AT_FR (FR_e eU2) rfl A10
        have V56 : RNV U2 n := RNV_FR (FR_e eU2) rfl V10
        refine l_return rfl rfl ?_
        have w14 : Xi U2 904 65 = Xi T1 904 65 := (show Xi U2 904 65 = Xi T1 904 65 from by rw [eU2]; exact Xi_ne (by omega))
        have w15 : 0 ≤ Xi T1 904 65 ∧ Xi T1 904 65 ≤ 1 := hHT1.c _ _
        have w16 : Xi U2 904 69 = Xi T1 904 69 := (show Xi U2 904 69 = Xi T1 904 69 from by rw [eU2]; exact Xi_ne (by omega))
        have w17 : 0 ≤ Xi T1 904 69 ∧ Xi T1 904 69 ≤ 2600 := hHT1.c _ _
        have w18 : Xi U2 904 71 = Xi T1 904 71 := (show Xi U2 904 71 = Xi T1 904 71 from by rw [eU2]; exact Xi_ne (by omega))
        have w19 : 0 ≤ Xi T1 904 71 ∧ Xi T1 904 71 ≤ 2600 := hHT1.c _ _
        have w20 : 0 ≤ Xi U2 904 72 ∧ Xi U2 904 72 ≤ 2600 := hHU2.c _ _
        have w21 : Xi U2 904 8 = Xi T1 904 8 := (show Xi U2 904 8 = Xi T1 904 8 from by rw [eU2]; exact Xi_ne (by omega))
        have w22 : 0 ≤ Xi T1 904 8 ∧ Xi T1 904 8 ≤ 5010 := hHT1.c _ _
        exact ⟨hHU2, hFU2, rfl, (A56), (by omega), (V56), (by omega)⟩
      · refine l_aload_n rfl rfl ?_
        refine l_gfi rfl rfl rfl rfl rfl ?_
        have w23 : 0 ≤ (Xi T1 904 65) ∧ (Xi T1 904 65) ≤ 1 := hHT1.c _ _
        refine l_if_ne rfl rfl (by unfold rg; omega) (fun w24 => ?_) (fun w25 => ?_)
        · refine l_aload_n rfl rfl ?_
          refine l_aload_n rfl rfl ?_
          refine l_gfi rfl rfl rfl rfl rfl ?_
          refine l_aload_n rfl rfl ?_
          refine l_gfi rfl rfl rfl rfl rfl ?_
          refine l_isub rfl ?_
          refine l_pfi rfl rfl rfl rfl ?_
          obtain ⟨U3, eU3⟩ : ∃ T : sS, T = uI T1 904 72 (Int32.ofInt ((Xi T1 904 69) - (Xi T1 904 71))) := ⟨_, rfl⟩
          rw [← eU3]
          have hHU3 : HI U3 := by rw [eU3]; exact HI_w hHT1 (show 0 ≤ ((Xi T1 904 69) - (Xi T1 904 71)) by omega) (show ((Xi T1 904 69) - (Xi T1 904 71)) ≤ 2600 by omega)
          have hFU3 : FR md_mo_list S U3 := by rw [eU3]; exact FR.wI hFT1 (mdf_i (r := (904, 905, 72, 73)) (List.mem_of_getElem? (i := 5) rfl) (inR_i (by omega) (by omega) (by omega) (by omega)))
          have w26 : Xi U3 904 72 = ((Xi T1 904 69) - (Xi T1 904 71)) := by rw [eU3]; exact Xi_same (by unfold rg; omega)
          have s56 : Xi U3 904 8 = Xi T1 904 8 ∧ Xi U3 904 69 = Xi T1 904 69 ∧ Xi U3 904 71 = Xi T1 904 71 := ⟨by rw [eU3, Xi_ne (by omega)], by rw [eU3, Xi_ne (by omega)], by rw [eU3, Xi_ne (by omega)]⟩
          have A56 : AT U3 n c := AT_FR (FR_e eU3) rfl A10
          have V56 : RNV U3 n := RNV_FR (FR_e eU3) rfl V10
          refine l_return rfl rfl ?_
          have w27 : Xi U3 904 65 = Xi T1 904 65 := (show Xi U3 904 65 = Xi T1 904 65 from by rw [eU3]; exact Xi_ne (by omega))
          have w28 : 0 ≤ Xi T1 904 65 ∧ Xi T1 904 65 ≤ 1 := hHT1.c _ _
          have w29 : Xi U3 904 69 = Xi T1 904 69 := (show Xi U3 904 69 = Xi T1 904 69 from by rw [eU3]; exact Xi_ne (by omega))
          have w30 : 0 ≤ Xi T1 904 69 ∧ Xi T1 904 69 ≤ 2600 := hHT1.c _ _
          have w31 : Xi U3 904 71 = Xi T1 904 71 := (show Xi U3 904 71 = Xi T1 904 71 from by rw [eU3]; exact Xi_ne (by omega))
          have w32 : 0 ≤ Xi T1 904 71 ∧ Xi T1 904 71 ≤ 2600 := hHT1.c _ _
          have w33 : 0 ≤ Xi U3 904 72 ∧ Xi U3 904 72 ≤ 2600 := hHU3.c _ _
          have w34 : Xi U3 904 8 = Xi T1 904 8 := (show Xi U3 904 8 = Xi T1 904 8 from by rw [eU3]; exact Xi_ne (by omega))
          have w35 : 0 ≤ Xi T1 904 8 ∧ Xi T1 904 8 ≤ 5010 := hHT1.c _ _
          exact ⟨hHU3, hFU3, rfl, (A56), (by omega), (V56), (by omega)⟩
        · refine l_iload_n rfl rfl ?_
          refine l_if_eq rfl rfl (by unfold rg; omega) (fun w36 => ?_) (fun w37 => ?_)
          · refine l_aload_n rfl rfl ?_
            have w38 : 0 ≤ Xi T1 904 65 ∧ Xi T1 904 65 ≤ 1 := hHT1.c _ _
            have w39 : 0 ≤ Xi T1 904 69 ∧ Xi T1 904 69 ≤ 2600 := hHT1.c _ _
            have w40 : 0 ≤ Xi T1 904 71 ∧ Xi T1 904 71 ≤ 2600 := hHT1.c _ _
            have w41 : 0 ≤ Xi T1 904 8 ∧ Xi T1 904 8 ≤ 5010 := hHT1.c _ _
            refine l_callV rfl rfl rfl (t_mo_run hHT1 n c (by first | assumption | exact (TK_FR hFT1 rfl (by assumption : TK S _))) (by first | assumption | exact (by assumption : AT T1 _ _)) (by first | assumption | exact (by assumption : RNV T1 _)) _) ?_
            rintro _ T4 ⟨hHT4, w48, z47, rfl, w47, w42, w43, w44, w45, w46⟩
            have hFT4 : FR md_mo_list S T4 := FR.tr hFT1 w48 rfl
            show Rl _ _ _ _ _ [iv z47] _ _
            have T34 : TK T4 n := TK_FR (by assumption : FR md_mo_run T1 T4) rfl T10
            refine l_pop rfl rfl ?_
            refine l_aload_n rfl rfl ?_
            have w49 : 0 ≤ Xi T4 904 65 ∧ Xi T4 904 65 ≤ 1 := hHT4.c _ _
            have w50 : 0 ≤ Xi T4 904 69 ∧ Xi T4 904 69 ≤ 2600 := hHT4.c _ _
            have w51 : Xi T4 904 71 = Xi T1 904 71 := (show Xi T4 904 71 = Xi T1 904 71 from w48.x _ _ rfl)
            have w52 : 0 ≤ Xi T1 904 71 ∧ Xi T1 904 71 ≤ 2600 := hHT1.c _ _
            have w53 : 0 ≤ Xi T4 904 8 ∧ Xi T4 904 8 ≤ 5010 := hHT4.c _ _
            refine l_callV rfl rfl rfl (t_mo_isMore hHT4 n c (by first | assumption | exact (TK_FR hFT4 rfl (by assumption : TK S _))) (by first | assumption | exact (by assumption : AT T4 _ _)) _) ?_
            rintro _ T5 ⟨hHT5, w59, z58, rfl, w58, w54, w55, w56, w57⟩
            have hFT5 : FR md_mo_list S T5 := FR.tr hFT4 w59 rfl
            show Rl _ _ _ _ _ [iv z58] _ _
            have V39 : RNV T5 n := RNV_FR (by assumption : FR md_mo_isMore T4 T5) rfl (by assumption)
            have r39 : Xi T5 904 69 = Xi T4 904 69 := (by assumption : FR md_mo_isMore T4 T5).x 904 69 rfl
            have T39 : TK T5 n := TK_FR (by assumption : FR md_mo_isMore T4 T5) rfl (by first | exact T26 | exact T34)
            refine l_istore_n rfl rfl rfl ?_
            refine l_goto rfl rfl ?_
            have w60 : Xi T5 904 65 = Xi T4 904 65 := (show Xi T5 904 65 = Xi T4 904 65 from w59.x _ _ rfl)
            have w61 : 0 ≤ Xi T4 904 65 ∧ Xi T4 904 65 ≤ 1 := hHT4.c _ _
            have w62 : Xi T5 904 69 = Xi T4 904 69 := (show Xi T5 904 69 = Xi T4 904 69 from w59.x _ _ rfl)
            have w63 : 0 ≤ Xi T4 904 69 ∧ Xi T4 904 69 ≤ 2600 := hHT4.c _ _
            have w64 : Xi T5 904 71 = Xi T1 904 71 := (show Xi T5 904 71 = Xi T4 904 71 from w59.x _ _ rfl).trans ((show Xi T4 904 71 = Xi T1 904 71 from w48.x _ _ rfl))
            have w65 : 0 ≤ Xi T1 904 71 ∧ Xi T1 904 71 ≤ 2600 := hHT1.c _ _
            have w66 : 0 ≤ Xi T5 904 8 ∧ Xi T5 904 8 ≤ 5010 := hHT5.c _ _
            exact Rl_weak (ih10 _ (by omega) T5 hHT5 hFT5 (z58) (by omega) (by first | exact T39 | exact T5) (by first | assumption | exact A5) (by first | exact V39 | exact V5) (by omega) (by omega) (by omega) (by omega) rfl) (And.intro rfl (And.intro rfl (And.intro rfl (True.intro))))
          · refine l_aload_n rfl rfl ?_
            have w67 : 0 ≤ Xi T1 904 65 ∧ Xi T1 904 65 ≤ 1 := hHT1.c _ _
            have w68 : 0 ≤ Xi T1 904 69 ∧ Xi T1 904 69 ≤ 2600 := hHT1.c _ _
            have w69 : 0 ≤ Xi T1 904 71 ∧ Xi T1 904 71 ≤ 2600 := hHT1.c _ _
            have w70 : 0 ≤ Xi T1 904 8 ∧ Xi T1 904 8 ≤ 5010 := hHT1.c _ _
            refine l_callV rfl rfl rfl (t_mo_name hHT1 n c (by first | assumption | exact (TK_FR hFT1 rfl (by assumption : TK S _))) (by first | assumption | exact (by assumption : AT T1 _ _)) (by first | assumption | exact (by assumption : RNV T1 _)) _) ?_
            rintro _ T6 ⟨hHT6, w77, z76, rfl, w76, w71, w72, w73, w74, w75⟩
            have hFT6 : FR md_mo_list S T6 := FR.tr hFT1 w77 rfl
            show Rl _ _ _ _ _ [iv z76] _ _
            have T26 : TK T6 n := TK_FR (by assumption : FR md_mo_name T1 T6) rfl T10
            refine l_pop rfl rfl ?_
            refine l_goto rfl rfl ?_
            refine l_aload_n rfl rfl ?_
            have w78 : 0 ≤ Xi T6 904 65 ∧ Xi T6 904 65 ≤ 1 := hHT6.c _ _
            have w79 : 0 ≤ Xi T6 904 69 ∧ Xi T6 904 69 ≤ 2600 := hHT6.c _ _
            have w80 : Xi T6 904 71 = Xi T1 904 71 := (show Xi T6 904 71 = Xi T1 904 71 from w77.x _ _ rfl)
            have w81 : 0 ≤ Xi T1 904 71 ∧ Xi T1 904 71 ≤ 2600 := hHT1.c _ _
            have w82 : 0 ≤ Xi T6 904 8 ∧ Xi T6 904 8 ≤ 5010 := hHT6.c _ _
            refine l_callV rfl rfl rfl (t_mo_isMore hHT6 n c (by first | assumption | exact (TK_FR hFT6 rfl (by assumption : TK S _))) (by first | assumption | exact (by assumption : AT T6 _ _)) _) ?_
            rintro _ T7 ⟨hHT7, w88, z87, rfl, w87, w83, w84, w85, w86⟩
            have hFT7 : FR md_mo_list S T7 := FR.tr hFT6 w88 rfl
            show Rl _ _ _ _ _ [iv z87] _ _
            have V39 : RNV T7 n := RNV_FR (by assumption : FR md_mo_isMore T6 T7) rfl (by assumption)
            have r39 : Xi T7 904 69 = Xi T6 904 69 := (by assumption : FR md_mo_isMore T6 T7).x 904 69 rfl
            have T39 : TK T7 n := TK_FR (by assumption : FR md_mo_isMore T6 T7) rfl (by first | exact T26 | exact T34)
            refine l_istore_n rfl rfl rfl ?_
            refine l_goto rfl rfl ?_
            have w89 : Xi T7 904 65 = Xi T6 904 65 := (show Xi T7 904 65 = Xi T6 904 65 from w88.x _ _ rfl)
            have w90 : 0 ≤ Xi T6 904 65 ∧ Xi T6 904 65 ≤ 1 := hHT6.c _ _
            have w91 : Xi T7 904 69 = Xi T6 904 69 := (show Xi T7 904 69 = Xi T6 904 69 from w88.x _ _ rfl)
            have w92 : 0 ≤ Xi T6 904 69 ∧ Xi T6 904 69 ≤ 2600 := hHT6.c _ _
            have w93 : Xi T7 904 71 = Xi T1 904 71 := (show Xi T7 904 71 = Xi T6 904 71 from w88.x _ _ rfl).trans ((show Xi T6 904 71 = Xi T1 904 71 from w77.x _ _ rfl))
            have w94 : 0 ≤ Xi T1 904 71 ∧ Xi T1 904 71 ≤ 2600 := hHT1.c _ _
            have w95 : 0 ≤ Xi T7 904 8 ∧ Xi T7 904 8 ≤ 5010 := hHT7.c _ _
            exact Rl_weak (ih10 _ (by omega) T7 hHT7 hFT7 (z87) (by omega) (by first | exact T39 | exact T5) (by first | assumption | exact A5) (by first | exact V39 | exact V5) (by omega) (by omega) (by omega) (by omega) rfl) (And.intro rfl (And.intro rfl (And.intro rfl (True.intro))))
  refine l_aload_n rfl rfl ?_
  refine l_aload_n rfl rfl ?_
  refine l_gfi rfl rfl rfl rfl rfl ?_
  refine l_pfi rfl rfl rfl rfl ?_
  obtain ⟨U8, eU8⟩ : ∃ T : sS, T = uI S 904 71 (Int32.ofInt (Xi S 904 69)) := ⟨_, rfl⟩
  rw [← eU8]
  have hHU8 : HI U8 := by rw [eU8]; exact HI_w hH (show 0 ≤ (Xi S 904 69) by omega) (show (Xi S 904 69) ≤ 2600 by omega)
  have hFU8 : FR md_mo_list S U8 := by rw [eU8]; exact FR.wI hF (mdf_i (r := (904, 905, 71, 72)) (List.mem_of_getElem? (i := 4) rfl) (inR_i (by omega) (by omega) (by omega) (by omega)))
  have w96 : Xi U8 904 71 = (Xi S 904 69) := by rw [eU8]; exact Xi_same (by unfold rg; omega)
  have s5 : Xi U8 904 8 = Xi S 904 8 ∧ Xi U8 904 65 = Xi S 904 65 ∧ Xi U8 904 69 = Xi S 904 69 := ⟨by rw [eU8, Xi_ne (by omega)], by rw [eU8, Xi_ne (by omega)], by rw [eU8, Xi_ne (by omega)]⟩
  have T5 : TK U8 n := TK_FR (FR_e eU8) rfl hT
  have A5 : AT U8 n c := AT_FR (FR_e eU8) rfl hA
  have V5 : RNV U8 n := RNV_FR (FR_e eU8) rfl hv
  refine l_iconst rfl ?_
  refine l_istore_n rfl rfl rfl ?_
  have w97 : Xi U8 904 65 = Xi S 904 65 := (show Xi U8 904 65 = Xi S 904 65 from by rw [eU8]; exact Xi_ne (by omega))
  have w98 : 0 ≤ Xi S 904 65 ∧ Xi S 904 65 ≤ 1 := hH.c _ _
  have w99 : Xi U8 904 69 = Xi S 904 69 := (show Xi U8 904 69 = Xi S 904 69 from by rw [eU8]; exact Xi_ne (by omega))
  have w100 : 0 ≤ Xi S 904 69 ∧ Xi S 904 69 ≤ 2600 := hH.c _ _
  have w101 : 0 ≤ Xi U8 904 71 ∧ Xi U8 904 71 ≤ 2600 := hHU8.c _ _
  have w102 : Xi U8 904 8 = Xi S 904 8 := (show Xi U8 904 8 = Xi S 904 8 from by rw [eU8]; exact Xi_ne (by omega))
  have w103 : 0 ≤ Xi S 904 8 ∧ Xi S 904 8 ≤ 5010 := hH.c _ _
  exact Rl_weak (C10 _ U8 hHU8 hFU8 (1) (by omega) (by first | exact T39 | exact T5) (by first | assumption | exact A5) (by first | exact V39 | exact V5) (by omega) (by omega) (by omega) (by omega) rfl) (And.intro rfl (And.intro rfl (And.intro rfl (True.intro))))
abbrev Q_mo_beginsOf (S : sS) (n : Nat) (t : Int) : pst := fun r S1 => S = S1 ∧ (∃ z : Int, r = some (iv z) ∧ (0 ≤ z ∧ z ≤ 1))
set_option maxRecDepth 100000 in
theorem t_mo_beginsOf {S : sS} (hH : HI S) (n : Nat) (t : Int) (ht : 0 ≤ t ∧ t ≤ 5001) (hT : TK S n) (ht : t ≤ n) (d : Nat) : Mt lay0 (d + 1) m_mo_beginsOf [.ref 904, iv t] S (Q_mo_beginsOf S n t) := by
  refine Mt_R rfl rfl ?_
  have hn5 := hT.1
  have C17 : ∀ (n17 : Nat) (v2 : Int), (1 ≤ v2 ∧ v2 ≤ 5001) → (t < v2) → (v2 ≤ n) → n17 = (5002 - v2).toNat → Rl lay0 (d + 0) m_mo_beginsOf 17 [(0, .ref 904), (1, iv t), (2, iv v2)] [] S (Q_mo_beginsOf S n t) := by
    intro n17
    induction n17 using Nat.strongRecOn with
    | ind n17 ih17 =>
      intro v2 w1 w2 w3 hm17
      refine l_aload_n rfl rfl ?_
      refine l_gfr rfl rfl rfl rfl rfl (hH.r 904 4 907 rfl) ?_
      refine l_iload_n rfl rfl ?_
      refine l_iaload (n := 5002) rfl rfl (by omega) (by omega) (by unfold rg; omega) ?_
      have w4 : 0 ≤ (Xi S 907 ((v2).toNat)) ∧ (Xi S 907 ((v2).toNat)) ≤ 154 := hH.c _ _
      have u22 : (Xi S 907 ((v2).toNat)) = 3 → v2 < n := fun q => tk_lt hT (by omega) (by omega) (by omega)
      refine l_iconst rfl ?_
      refine l_icmp_ne rfl rfl (by unfold rg; omega) (by unfold rg; omega) (fun w5 => ?_) (fun w6 => ?_)
      · refine l_iload_n rfl rfl ?_
        refine l_iload_n rfl rfl ?_
        refine l_iconst rfl ?_
        refine l_iadd rfl ?_
        refine l_icmp_le rfl rfl (by unfold rg; omega) (by unfold rg; omega) (fun w7 => ?_) (fun w8 => ?_)
        · refine l_iconst rfl ?_
          refine l_ireturn rfl rfl ?_
          exact ⟨rfl, _, rfl, ⟨by omega, by omega⟩⟩
        · refine l_aload_n rfl rfl ?_
          refine l_gfr rfl rfl rfl rfl rfl (hH.r 904 4 907 rfl) ?_
          refine l_iload_n rfl rfl ?_
          refine l_iaload (n := 5002) rfl rfl (by omega) (by omega) (by unfold rg; omega) ?_
          refine l_bipush rfl rfl ?_
          refine l_icmp_ne rfl rfl (by unfold rg; omega) (by unfold rg; omega) (fun w9 => ?_) (fun w10 => ?_)
          · refine l_iconst rfl ?_
            refine l_ireturn rfl rfl ?_
            exact ⟨rfl, _, rfl, ⟨by omega, by omega⟩⟩
          · refine l_iconst rfl ?_
            refine l_goto rfl rfl ?_
            refine l_ireturn rfl rfl ?_
            exact ⟨rfl, _, rfl, ⟨by omega, by omega⟩⟩
      · refine l_iinc rfl rfl rfl rfl ?_
        refine l_goto rfl rfl ?_
        exact Rl_weak (ih17 _ (by omega) ((v2 + 1)) (by omega) (by omega) (by omega) rfl) (And.intro rfl (And.intro rfl (And.intro rfl (True.intro))))
  refine l_iload_n rfl rfl ?_
  refine l_iconst rfl ?_
  refine l_iadd rfl ?_
  refine l_istore_n rfl rfl rfl ?_
  refine l_aload_n rfl rfl ?_
  refine l_gfr rfl rfl rfl rfl rfl (hH.r 904 4 907 rfl) ?_
  refine l_iload_n rfl rfl ?_
  refine l_iaload (n := 5002) rfl rfl (by omega) (by omega) (by unfold rg; omega) ?_
  have w11 : 0 ≤ (Xi S 907 ((t).toNat)) ∧ (Xi S 907 ((t).toNat)) ≤ 154 := hH.c _ _
  have u9 : (Xi S 907 ((t).toNat)) = 102 → t < n := fun q => tk_lt hT (by omega) ht (by omega)
  refine l_bipush rfl rfl ?_
  refine l_icmp_eq rfl rfl (by unfold rg; omega) (by unfold rg; omega) (fun w12 => ?_) (fun w13 => ?_)
  · exact Rl_weak (C17 _ ((t + 1)) (by omega) (by omega) (by omega) rfl) (And.intro rfl (And.intro rfl (And.intro rfl (True.intro))))
  · refine l_iconst rfl ?_
    refine l_ireturn rfl rfl ?_
    exact ⟨rfl, _, rfl, ⟨by omega, by omega⟩⟩
