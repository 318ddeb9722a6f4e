/-! SAFETY of methods: printed by wip/safe (vc.py, decl.py) -/
def md_vo_startKind : List rec := [(1, 2, 3, 4), (2, 3, 0, 100000), (3, 4, 0, 100000), (4, 5, 0, 100000), (5, 6, 0, 100000), (6, 7, 0, 100000), (7, 8, 0, 100000)]
abbrev Q_vo_startKind (S : sS) (i : Nat) (xi : String × Nat × String × List Int32) (k : Nat) (xk : String × Nat × String × List Int32) (above : Int) : pst := fun r S1 => HI S1 ∧ FR md_vo_startKind S S1 ∧ (r = none ∧ (LEX S1) ∧ (Xi S1 5 0 = Xi S 5 0 + 1) ∧ (∀ j, j ≠ 0 → Xi S1 5 j = Xi S 5 j))
set_option maxRecDepth 100000 in
theorem t_vo_startKind {S : sS} (hH : HI S) (i : Nat) (xi : String × Nat × String × List Int32) (k : Nat) (xk : String × Nat × String × List Int32) (above : Int) (hi : strT[i]? = some xi) (hk : strT[k]? = some xk) (habove : -1 ≤ above ∧ above ≤ 15) (hL : LEX S) (hc : Xi S 5 0 < 16) (d : Nat) : Mt lay0 (d + 6) m_vo_startKind [.ref 1, .ref (SB + i), .ref (SB + k), iv above] S (Q_vo_startKind S i xi k xk above) := by
  refine Mt_R rfl rfl ?_
  have hF : FR md_vo_startKind S S := FR.rf
  have hsli := str_sm hi
  have hslk := str_sm hk
  have w1 : 0 ≤ Xi S 5 0 ∧ Xi S 5 0 ≤ 16 := hH.c _ _
  refine l_aload_n rfl rfl ?_
  refine l_iconst rfl ?_
  refine l_aload_n rfl rfl ?_
  have w2 : 0 ≤ Xi S 1 3 ∧ Xi S 1 3 ≤ 200 := hH.c _ _
  have w3 : 0 ≤ Xi S 5 0 ∧ Xi S 5 0 ≤ 16 := hH.c _ _
  refine l_callV rfl rfl rfl (t_vo_addFirst hH 0 i xi ⟨by omega, by omega⟩ hi (by first | assumption | exact (by first | assumption | exact (by assumption : WI S).1 : LEX S)) (show Xi S 5 0 + 1 ≤ 16 by first | omega | (have hz : Xi S 5 0 = Xi S 5 (0 : Int).toNat := rfl; omega)) _) ?_
  rintro _ T1 ⟨hHT1, w10, z9, rfl, w9, w4, w5, w6, w7, w8⟩
  have hFT1 : FR md_vo_startKind S T1 := FR.tr hF w10 rfl
  show Rl _ _ _ _ _ [iv z9] _ _
  have hz0 : z9 = Xi S 5 0 := by have t := (by assumption : z9 = Xi S 5 (0 : Int).toNat); exact t
  have hc0a : Xi T1 5 0 = Xi S 5 0 + 1 := by have t := (by assumption : Xi T1 5 (0 : Int).toNat = Xi S 5 (0 : Int).toNat + 1); exact t
  have ho0a : ∀ j, j ≠ 0 → Xi T1 5 j = Xi S 5 j := by have t := (by assumption : ∀ j, j ≠ (0 : Int).toNat → Xi T1 5 j = Xi S 5 j); exact t
  refine l_istore rfl rfl rfl ?_
  refine l_aload_n rfl rfl ?_
  refine l_bipush rfl rfl ?_
  refine l_iload rfl rfl ?_
  refine l_aload_n rfl rfl ?_
  have w11 : 0 ≤ Xi T1 5 0 ∧ Xi T1 5 0 ≤ 16 := hHT1.c _ _
  refine l_callS rfl rfl (by decide) rfl (t_vo_codeOf hHT1 k xk hk _) ?_
  rintro _ _ ⟨rfl, z12, rfl⟩
  show Rl _ _ _ _ _ [jw z12, iv z9, iv 11, .ref 1] _ _
  have w13 : 0 ≤ Xi T1 1 3 ∧ Xi T1 1 3 ≤ 200 := hHT1.c _ _
  have w14 : 0 ≤ Xi T1 5 0 ∧ Xi T1 5 0 ≤ 16 := hHT1.c _ _
  refine l_callV rfl rfl rfl (t_vo_addEntry hHT1 11 z9 z12 ⟨by omega, by omega⟩ ⟨by omega, by omega⟩ (by first | assumption | exact (by first | assumption | exact (by assumption : WI T1).1 : LEX T1)) (by unfold lexB; omega) _) ?_
  rintro _ T2 ⟨hHT2, w19, rfl, w15, w16, w17⟩
  have hFT2 : FR md_vo_startKind S T2 := FR.tr hFT1 w19 rfl
  show Rl _ _ _ _ _ [] _ _
  refine l_aload_n rfl rfl ?_
  refine l_gfr rfl rfl rfl rfl rfl (hHT2.r 1 5 6 rfl) ?_
  refine l_iload rfl rfl ?_
  refine l_iload_n rfl rfl ?_
  refine l_iastore (n := 16) rfl rfl (by omega) (by omega) (by unfold rg; omega) ?_
  obtain ⟨U3, eU3⟩ : ∃ T : sS, T = uI T2 6 ((z9).toNat) (Int32.ofInt above) := ⟨_, rfl⟩
  rw [← eU3]
  have hHU3 : HI U3 := by rw [eU3]; exact HI_w hHT2 (show -1 ≤ above by omega) (show above ≤ 15 by omega)
  have hFU3 : FR md_vo_startKind S U3 := by rw [eU3]; exact FR.wI hFT2 (mdf_i (r := (6, 7, 0, 100000)) (List.mem_of_getElem? (i := 5) rfl) (inR_i (by omega) (by omega) (by omega) (by omega)))
  have w20 : Xi U3 6 ((z9).toNat) = above := by rw [eU3]; exact Xi_same (by unfold rg; omega)
  refine l_aload_n rfl rfl ?_
  refine l_gfr rfl rfl rfl rfl rfl (hHU3.r 1 6 7 rfl) ?_
  refine l_iload rfl rfl ?_
  refine l_iconst rfl ?_
  refine l_iastore (n := 16) rfl rfl (by omega) (by omega) (by unfold rg; omega) ?_
  obtain ⟨U4, eU4⟩ : ∃ T : sS, T = uI U3 7 ((z9).toNat) (Int32.ofInt 0) := ⟨_, rfl⟩
  rw [← eU4]
  have hHU4 : HI U4 := by rw [eU4]; exact HI_any hHU3 (rfl)
  have hFU4 : FR md_vo_startKind S U4 := by rw [eU4]; exact FR.wI hFU3 (mdf_i (r := (7, 8, 0, 100000)) (List.mem_of_getElem? (i := 6) rfl) (inR_i (by omega) (by omega) (by omega) (by omega)))
  have w21 : Xi U4 7 ((z9).toNat) = 0 := by rw [eU4]; exact Xi_same (by unfold rg; omega)
  refine l_return rfl rfl ?_
  have w22 : Xi U4 5 0 = Xi T1 5 0 := (show Xi U4 5 0 = Xi U3 5 0 from by rw [eU4]; exact Xi_ne (by omega)).trans ( (show Xi U3 5 0 = Xi T2 5 0 from by rw [eU3]; exact Xi_ne (by omega)).trans ((show Xi T2 5 0 = Xi T1 5 0 from w19.x _ _ rfl)))
  have w23 : 0 ≤ Xi T1 5 0 ∧ Xi T1 5 0 ≤ 16 := hHT1.c _ _
  exact ⟨hHU4, hFU4, rfl, (by first | assumption | exact (LEX_FR (FR_e eU4) rfl rfl (LEX_FR (FR_e eU3) rfl rfl (by first | assumption | exact (by assumption : WI T2).1 : LEX T2)))), (by omega), (fun j hj => (((FR_e eU4).cx 5 rfl j).1.trans (((FR_e eU3).cx 5 rfl j).1)).trans ((((by assumption : FR md_vo_addEntry _ _).cx 5 rfl j).1).trans (ho0a j hj)))⟩
def md_vo_startKinds : List rec := [(1, 2, 3, 4), (2, 3, 0, 100000), (3, 4, 0, 100000), (4, 5, 0, 100000), (5, 6, 0, 100000), (6, 7, 0, 100000), (7, 8, 0, 100000)]
abbrev Q_vo_startKinds (S : sS) : pst := fun r S1 => HI S1 ∧ FR md_vo_startKinds S S1 ∧ (r = none ∧ (LEX S1) ∧ (Xi S1 5 0 = 5) ∧ (∀ j, j ≠ 0 → Xi S1 5 j = Xi S 5 j))
set_option maxRecDepth 100000 in
theorem t_vo_startKinds {S : sS} (hH : HI S) (hL : LEX S) (hc : Xi S 5 0 = 0) (d : Nat) : Mt lay0 (d + 7) m_vo_startKinds [.ref 1] S (Q_vo_startKinds S) := by
  refine Mt_R rfl rfl ?_
  have hF : FR md_vo_startKinds S S := FR.rf
  have w1 : 0 ≤ Xi S 5 0 ∧ Xi S 5 0 ≤ 16 := hH.c _ _
  refine l_aload_n rfl rfl ?_
  refine l_ldcR (i := 1) rfl rfl ?_
  refine l_ldcR (i := 2) rfl rfl ?_
  refine l_iconst rfl ?_
  have w2 : 0 ≤ Xi S 5 0 ∧ Xi S 5 0 ≤ 16 := hH.c _ _
  refine l_callV rfl rfl rfl (t_vo_startKind hH 1 _ 2 _ (-1) rfl rfl ⟨by omega, by omega⟩ (by first | assumption | exact (by first | assumption | exact (by assumption : WI S).1 : LEX S)) (by first | assumption | omega) _) ?_
  rintro _ T1 ⟨hHT1, w7, rfl, w3, w4, w5⟩
  have hFT1 : FR md_vo_startKinds S T1 := FR.tr hF w7 rfl
  show Rl _ _ _ _ _ [] _ _
  have ho6 : ∀ j, j ≠ 0 → Xi T1 5 j = Xi S 5 j := by assumption
  refine l_aload_n rfl rfl ?_
  refine l_ldcR (i := 3) rfl rfl ?_
  refine l_ldcR (i := 4) rfl rfl ?_
  refine l_iconst rfl ?_
  have w8 : 0 ≤ Xi T1 5 0 ∧ Xi T1 5 0 ≤ 16 := hHT1.c _ _
  refine l_callV rfl rfl rfl (t_vo_startKind hHT1 3 _ 4 _ (-1) rfl rfl ⟨by omega, by omega⟩ (by first | assumption | exact (by first | assumption | exact (by assumption : WI T1).1 : LEX T1)) (by first | assumption | omega) _) ?_
  rintro _ T2 ⟨hHT2, w13, rfl, w9, w10, w11⟩
  have hFT2 : FR md_vo_startKinds S T2 := FR.tr hFT1 w13 rfl
  show Rl _ _ _ _ _ [] _ _
  have ho15 : ∀ j, j ≠ 0 → Xi T2 5 j = Xi S 5 j := fun j hj => ((by assumption : ∀ j, j ≠ 0 → Xi T2 5 j = Xi T1 5 j) j hj).trans (ho6 j hj)
  refine l_aload_n rfl rfl ?_
  refine l_ldcR (i := 5) rfl rfl ?_
  refine l_ldcR (i := 6) rfl rfl ?_
  refine l_iconst rfl ?_
  have w14 : 0 ≤ Xi T2 5 0 ∧ Xi T2 5 0 ≤ 16 := hHT2.c _ _
  refine l_callV rfl rfl rfl (t_vo_startKind hHT2 5 _ 6 _ 0 rfl rfl ⟨by omega, by omega⟩ (by first | assumption | exact (by first | assumption | exact (by assumption : WI T2).1 : LEX T2)) (by first | assumption | omega) _) ?_
  rintro _ T3 ⟨hHT3, w19, rfl, w15, w16, w17⟩
  have hFT3 : FR md_vo_startKinds S T3 := FR.tr hFT2 w19 rfl
  show Rl _ _ _ _ _ [] _ _
  have ho24 : ∀ j, j ≠ 0 → Xi T3 5 j = Xi S 5 j := fun j hj => ((by assumption : ∀ j, j ≠ 0 → Xi T3 5 j = Xi T2 5 j) j hj).trans (ho15 j hj)
  refine l_aload_n rfl rfl ?_
  refine l_ldcR (i := 7) rfl rfl ?_
  refine l_ldcR (i := 8) rfl rfl ?_
  refine l_iconst rfl ?_
  have w20 : 0 ≤ Xi T3 5 0 ∧ Xi T3 5 0 ≤ 16 := hHT3.c _ _
  refine l_callV rfl rfl rfl (t_vo_startKind hHT3 7 _ 8 _ 0 rfl rfl ⟨by omega, by omega⟩ (by first | assumption | exact (by first | assumption | exact (by assumption : WI T3).1 : LEX T3)) (by first | assumption | omega) _) ?_
  rintro _ T4 ⟨hHT4, w25, rfl, w21, w22, w23⟩
  have hFT4 : FR md_vo_startKinds S T4 := FR.tr hFT3 w25 rfl
  show Rl _ _ _ _ _ [] _ _
  have ho33 : ∀ j, j ≠ 0 → Xi T4 5 j = Xi S 5 j := fun j hj => ((by assumption : ∀ j, j ≠ 0 → Xi T4 5 j = Xi T3 5 j) j hj).trans (ho24 j hj)
  refine l_aload_n rfl rfl ?_
  refine l_ldcR (i := 9) rfl rfl ?_
  refine l_ldcR (i := 10) rfl rfl ?_
  refine l_iconst rfl ?_
  have w26 : 0 ≤ Xi T4 5 0 ∧ Xi T4 5 0 ≤ 16 := hHT4.c _ _
  refine l_callV rfl rfl rfl (t_vo_startKind hHT4 9 _ 10 _ 0 rfl rfl ⟨by omega, by omega⟩ (by first | assumption | exact (by first | assumption | exact (by assumption : WI T4).1 : LEX T4)) (by first | assumption | omega) _) ?_
  rintro _ T5 ⟨hHT5, w31, rfl, w27, w28, w29⟩
  have hFT5 : FR md_vo_startKinds S T5 := FR.tr hFT4 w31 rfl
  show Rl _ _ _ _ _ [] _ _
  have ho42 : ∀ j, j ≠ 0 → Xi T5 5 j = Xi S 5 j := fun j hj => ((by assumption : ∀ j, j ≠ 0 → Xi T5 5 j = Xi T4 5 j) j hj).trans (ho33 j hj)
  refine l_return rfl rfl ?_
  have w32 : 0 ≤ Xi T5 5 0 ∧ Xi T5 5 0 ≤ 16 := hHT5.c _ _
  exact ⟨hHT5, hFT5, rfl, (by first | assumption | exact (by first | assumption | exact (by assumption : WI T5).1 : LEX T5)), (by omega), (ho42)⟩

