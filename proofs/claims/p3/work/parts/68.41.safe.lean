/-! SAFETY of methods: printed by wip/safe (vc.py, decl.py) -/
/-! SAFETY: as at first: all holds -/
theorem WI_first {S : sS} (hL : LEX S) (hk : KN0 S 40 0) (hC : CMD S) (h8 : Xi S 5 8 = 5) (ha : Xi S 19 0 = -1 ∧ Xi S 19 1 = 0 ∧ Xi S 19 2 = 0 ∧ Xi S 19 3 = 0 ∧ Xi S 19 4 = -2) (h3 : Xi S 5 3 = 2) (h4 : Xi S 5 4 = 0) (hc : Xi S 11 0 = 1 ∧ Xi S 11 1 = 0) (hr : Xi S 246 2 = 0) (hq : Xi S 246 5 = 0) : WI S := by
  refine ⟨hL, TX_kn hk, fun a h1 h2 => ?_, fun i hi => by omega, hC, ⟨by omega, ha⟩, by unfold CC; omega, fun t => ?_⟩
  · rcases (by omega : a = 0 ∨ a = 1) with rfl | rfl
    · omega
    · omega
  · unfold vals
    rw [h4]
    show (0 : Int) ≤ 8
    decide
def md_bo_startAgain__2 : List rec := [(246, 247, 2, 3), (246, 247, 5, 6), (246, 247, 8, 9)]
abbrev Q_bo_startAgain__2 (S : sS) : pst := fun r S1 => HI S1 ∧ FR md_bo_startAgain__2 S S1 ∧ (r = none ∧ (Xi S1 246 2 = 0 ∧ Xi S1 246 5 = 0))
set_option maxRecDepth 100000 in
theorem t_bo_startAgain__2 {S : sS} (hH : HI S) (d : Nat) : Mt lay0 (d + 1) m_bo_startAgain [.ref 246] S (Q_bo_startAgain__2 S) := by
  refine Mt_R rfl rfl ?_
  have hF : FR md_bo_startAgain__2 S S := FR.rf
  refine l_aload_n rfl rfl ?_
  refine l_iconst rfl ?_
  refine l_pfi rfl rfl rfl rfl ?_
  obtain ⟨U1, eU1⟩ : ∃ T : sS, T = uI S 246 2 (Int32.ofInt 0) := ⟨_, rfl⟩
  rw [← eU1]
  have hHU1 : HI U1 := by rw [eU1]; exact HI_w hH (show 0 ≤ 0 by omega) (show 0 ≤ 24 by omega)
  have hFU1 : FR md_bo_startAgain__2 S U1 := by rw [eU1]; exact FR.wI hF (mdf_i (r := (246, 247, 2, 3)) (List.mem_of_getElem? (i := 0) rfl) (inR_i (by omega) (by omega) (by omega) (by omega)))
  have w1 : Xi U1 246 2 = 0 := by rw [eU1]; exact Xi_same (by unfold rg; omega)
  refine l_aload_n rfl rfl ?_
  refine l_iconst rfl ?_
  refine l_pfi rfl rfl rfl rfl ?_
  obtain ⟨U2, eU2⟩ : ∃ T : sS, T = uI U1 246 5 (Int32.ofInt 0) := ⟨_, rfl⟩
  rw [← eU2]
  have hHU2 : HI U2 := by rw [eU2]; exact HI_w hHU1 (show 0 ≤ 0 by omega) (show 0 ≤ 200000 by omega)
  have hFU2 : FR md_bo_startAgain__2 S U2 := by rw [eU2]; exact FR.wI hFU1 (mdf_i (r := (246, 247, 5, 6)) (List.mem_of_getElem? (i := 1) rfl) (inR_i (by omega) (by omega) (by omega) (by omega)))
  have w2 : Xi U2 246 5 = 0 := by rw [eU2]; exact Xi_same (by unfold rg; omega)
  refine l_aload_n rfl rfl ?_
  refine l_iconst rfl ?_
  refine l_pfi rfl rfl rfl rfl ?_
  obtain ⟨U3, eU3⟩ : ∃ T : sS, T = uI U2 246 8 (Int32.ofInt 0) := ⟨_, rfl⟩
  rw [← eU3]
  have hHU3 : HI U3 := by rw [eU3]; exact HI_w hHU2 (show 0 ≤ 0 by omega) (show 0 ≤ 1666 by omega)
  have hFU3 : FR md_bo_startAgain__2 S U3 := by rw [eU3]; exact FR.wI hFU2 (mdf_i (r := (246, 247, 8, 9)) (List.mem_of_getElem? (i := 2) rfl) (inR_i (by omega) (by omega) (by omega) (by omega)))
  have w3 : Xi U3 246 8 = 0 := by rw [eU3]; exact Xi_same (by unfold rg; omega)
  refine l_return rfl rfl ?_
  have w4 : Xi U3 246 2 = Xi U1 246 2 := (show Xi U3 246 2 = Xi U2 246 2 from by rw [eU3]; exact Xi_ne (by omega)).trans ((show Xi U2 246 2 = Xi U1 246 2 from by rw [eU2]; exact Xi_ne (by omega)))
  have w5 : 0 ≤ Xi U1 246 2 ∧ Xi U1 246 2 ≤ 24 := hHU1.c _ _
  have w6 : Xi U3 246 5 = Xi U2 246 5 := (show Xi U3 246 5 = Xi U2 246 5 from by rw [eU3]; exact Xi_ne (by omega))
  have w7 : 0 ≤ Xi U2 246 5 ∧ Xi U2 246 5 ≤ 200000 := hHU2.c _ _
  exact ⟨hHU3, hFU3, rfl, (⟨by first | omega | (rw [eU3, Xi_ne (by omega), eU2, Xi_ne (by omega), eU1]; exact Xi_same (by unfold rg; omega)), by first | omega | (rw [eU3, Xi_ne (by omega), eU2]; exact Xi_same (by unfold rg; omega))⟩)⟩
def md_rs_startAgain : List rec := [(1, 2, 3, 4), (2, 3, 0, 100000), (3, 4, 0, 100000), (4, 5, 0, 100000), (5, 6, 0, 100000), (6, 7, 0, 100000), (7, 8, 0, 100000), (9, 10, 0, 100000), (10, 11, 0, 100000), (11, 12, 0, 100000), (19, 20, 0, 100000), (20, 21, 12, 13), (21, 22, 0, 100000), (22, 23, 0, 100000), (23, 24, 0, 100000), (25, 65, 0, 100000), (66, 106, 0, 100000), (189, 195, 0, 100000), (196, 220, 0, 100000), (246, 247, 2, 3), (246, 247, 5, 6), (246, 247, 8, 9), (882, 883, 3, 4), (883, 884, 0, 100000), (884, 885, 0, 100000), (885, 886, 0, 100000), (886, 887, 0, 100000), (887, 888, 0, 100000), (891, 892, 10, 11)]
abbrev Q_rs_startAgain (S : sS) : pst := fun r S1 => HI S1 ∧ FR md_rs_startAgain S S1 ∧ (r = none ∧ (WI S1) ∧ (Xi S1 246 2 = 0))
set_option maxRecDepth 100000 in
theorem t_rs_startAgain {S : sS} (hH : HI S) (d : Nat) : Mt lay0 (d + 9) m_rs_startAgain [.ref 0] S (Q_rs_startAgain S) := by
  refine Mt_R rfl rfl ?_
  have hF : FR md_rs_startAgain S S := FR.rf
  refine l_aload_n rfl rfl ?_
  refine l_gfr rfl rfl rfl rfl rfl (hH.r 0 0 1 rfl) ?_
  refine l_callV rfl rfl rfl (t_vo_startAgain hH _) ?_
  rintro _ T1 ⟨hHT1, w6, rfl, w1, w2, w3, w4⟩
  have hFT1 : FR md_rs_startAgain S T1 := FR.tr hF w6 rfl
  show Rl _ _ _ _ _ [] _ _
  have c4 : Xi T1 5 0 = 5 ∧ Xi T1 5 1 = 2 ∧ Xi T1 5 2 = 0 ∧ Xi T1 5 3 = 2 ∧ Xi T1 5 4 = 0 ∧ Xi T1 5 5 = 1 ∧ Xi T1 5 6 = 0 ∧ Xi T1 5 7 = 0 ∧ Xi T1 5 8 = 5 := by assumption
  have a4 : Xi T1 19 0 = -1 ∧ Xi T1 19 1 = 0 ∧ Xi T1 19 2 = 0 ∧ Xi T1 19 3 = 0 ∧ Xi T1 19 4 = -2 := by assumption
  have k4 : Xi T1 11 0 = 1 ∧ Xi T1 11 1 = 0 := by assumption
  have l4 : LEX T1 := by assumption
  have m4 : Xi T1 5 2 = 0 := c4.2.2.1
  have n4_3 : Xi T1 5 3 = 2 := c4.2.2.2.1
  have n4_4 : Xi T1 5 4 = 0 := c4.2.2.2.2.1
  have n4_8 : Xi T1 5 8 = 5 := c4.2.2.2.2.2.2.2.2
  refine l_aload_n rfl rfl ?_
  refine l_gfr rfl rfl rfl rfl rfl (hHT1.r 0 1 20 rfl) ?_
  have w7 : 0 ≤ Xi T1 5 2 ∧ Xi T1 5 2 ≤ 24 := hHT1.c _ _
  refine l_callV rfl rfl rfl (t_wo_startAgain hHT1 (by assumption) (by assumption) _) ?_
  rintro _ T2 ⟨hHT2, w13, rfl, w8, w9, w10, w11⟩
  have hFT2 : FR md_rs_startAgain S T2 := FR.tr hFT1 w13 rfl
  show Rl _ _ _ _ _ [] _ _
  have f11 : FR md_wo_startAgain T1 T2 := by assumption
  have q11 : ∀ j, Xi T2 19 j = Xi T1 19 j := fun j => (f11.cx 19 rfl j).1
  have a11 : Xi T2 19 0 = -1 ∧ Xi T2 19 1 = 0 ∧ Xi T2 19 2 = 0 ∧ Xi T2 19 3 = 0 ∧ Xi T2 19 4 = -2 := by rw [q11, q11, q11, q11, q11]; exact a4
  have p11 : ∀ j, Xi T2 11 j = Xi T1 11 j := fun j => (f11.cx 11 rfl j).1
  have k11 : Xi T2 11 0 = 1 ∧ Xi T2 11 1 = 0 := by rw [p11, p11]; exact k4
  have o11 : ∀ j, j ≠ 2 → Xi T2 5 j = Xi T1 5 j := by assumption
  have n11_3 : Xi T2 5 3 = 2 := (o11 3 (by decide)).trans n4_3
  have n11_4 : Xi T2 5 4 = 0 := (o11 4 (by decide)).trans n4_4
  have n11_8 : Xi T2 5 8 = 5 := (o11 8 (by decide)).trans n4_8
  have l11 : LEX T2 := by assumption
  have z11 : KN0 T2 40 0 := by assumption
  refine l_aload_n rfl rfl ?_
  refine l_gfr rfl rfl rfl rfl rfl (hHT2.r 0 2 246 rfl) ?_
  refine l_callV rfl rfl rfl (t_bo_startAgain__2 hHT2 _) ?_
  rintro _ T3 ⟨hHT3, w16, rfl, w14⟩
  have hFT3 : FR md_rs_startAgain S T3 := FR.tr hFT2 w16 rfl
  show Rl _ _ _ _ _ [] _ _
  have f18 : FR md_bo_startAgain__2 T2 T3 := by assumption
  have q18 : ∀ j, Xi T3 19 j = Xi T2 19 j := fun j => (f18.cx 19 rfl j).1
  have a18 : Xi T3 19 0 = -1 ∧ Xi T3 19 1 = 0 ∧ Xi T3 19 2 = 0 ∧ Xi T3 19 3 = 0 ∧ Xi T3 19 4 = -2 := by rw [q18, q18, q18, q18, q18]; exact a11
  have p18 : ∀ j, Xi T3 11 j = Xi T2 11 j := fun j => (f18.cx 11 rfl j).1
  have k18 : Xi T3 11 0 = 1 ∧ Xi T3 11 1 = 0 := by rw [p18, p18]; exact k11
  have n18_3 : Xi T3 5 3 = 2 := (f18.cx 5 rfl 3).1.trans n11_3
  have n18_4 : Xi T3 5 4 = 0 := (f18.cx 5 rfl 4).1.trans n11_4
  have n18_8 : Xi T3 5 8 = 5 := (f18.cx 5 rfl 8).1.trans n11_8
  have l18 : LEX T3 := LEX_FR f18 rfl rfl l11
  have z18 : KN0 T3 40 0 := kn_f f18 rfl z11
  have r18 : Xi T3 246 2 = 0 ∧ Xi T3 246 5 = 0 := by assumption
  refine l_aload_n rfl rfl ?_
  refine l_gfr rfl rfl rfl rfl rfl (hHT3.r 0 3 882 rfl) ?_
  have w17 : Xi T3 19 0 = Xi T1 19 0 := (show Xi T3 19 0 = Xi T2 19 0 from w16.x _ _ rfl).trans ((show Xi T2 19 0 = Xi T1 19 0 from w13.x _ _ rfl))
  have w18 : -2 ≤ Xi T1 19 0 ∧ Xi T1 19 0 ≤ 15 := hHT1.c _ _
  have w19 : Xi T3 19 1 = Xi T1 19 1 := (show Xi T3 19 1 = Xi T2 19 1 from w16.x _ _ rfl).trans ((show Xi T2 19 1 = Xi T1 19 1 from w13.x _ _ rfl))
  have w20 : -2 ≤ Xi T1 19 1 ∧ Xi T1 19 1 ≤ 15 := hHT1.c _ _
  have w21 : Xi T3 19 2 = Xi T1 19 2 := (show Xi T3 19 2 = Xi T2 19 2 from w16.x _ _ rfl).trans ((show Xi T2 19 2 = Xi T1 19 2 from w13.x _ _ rfl))
  have w22 : -2 ≤ Xi T1 19 2 ∧ Xi T1 19 2 ≤ 15 := hHT1.c _ _
  have w23 : Xi T3 19 3 = Xi T1 19 3 := (show Xi T3 19 3 = Xi T2 19 3 from w16.x _ _ rfl).trans ((show Xi T2 19 3 = Xi T1 19 3 from w13.x _ _ rfl))
  have w24 : -2 ≤ Xi T1 19 3 ∧ Xi T1 19 3 ≤ 15 := hHT1.c _ _
  have w25 : Xi T3 19 4 = Xi T1 19 4 := (show Xi T3 19 4 = Xi T2 19 4 from w16.x _ _ rfl).trans ((show Xi T2 19 4 = Xi T1 19 4 from w13.x _ _ rfl))
  have w26 : -2 ≤ Xi T1 19 4 ∧ Xi T1 19 4 ≤ 15 := hHT1.c _ _
  have w27 : Xi T3 5 8 = Xi T2 5 8 := (show Xi T3 5 8 = Xi T2 5 8 from w16.x _ _ rfl)
  have w28 : 0 ≤ Xi T2 5 8 ∧ Xi T2 5 8 ≤ 12 := hHT2.c _ _
  refine l_callV rfl rfl rfl (t_co_startAgain__2 hHT3 (by omega) (by assumption) _) ?_
  rintro _ T4 ⟨hHT4, w32, rfl, w29, w30⟩
  have hFT4 : FR md_rs_startAgain S T4 := FR.tr hFT3 w32 rfl
  show Rl _ _ _ _ _ [] _ _
  have f25 : FR md_co_startAgain__2 T3 T4 := by assumption
  have q25 : ∀ j, Xi T4 19 j = Xi T3 19 j := fun j => (f25.cx 19 rfl j).1
  have a25 : Xi T4 19 0 = -1 ∧ Xi T4 19 1 = 0 ∧ Xi T4 19 2 = 0 ∧ Xi T4 19 3 = 0 ∧ Xi T4 19 4 = -2 := by rw [q25, q25, q25, q25, q25]; exact a18
  have p25 : ∀ j, Xi T4 11 j = Xi T3 11 j := fun j => (f25.cx 11 rfl j).1
  have k25 : Xi T4 11 0 = 1 ∧ Xi T4 11 1 = 0 := by rw [p25, p25]; exact k18
  have n25_3 : Xi T4 5 3 = 2 := (f25.cx 5 rfl 3).1.trans n18_3
  have n25_4 : Xi T4 5 4 = 0 := (f25.cx 5 rfl 4).1.trans n18_4
  have n25_8 : Xi T4 5 8 = 5 := (f25.cx 5 rfl 8).1.trans n18_8
  have l25 : LEX T4 := LEX_FR f25 rfl rfl l18
  have z25 : KN0 T4 40 0 := kn_f f25 rfl z18
  have r25 : Xi T4 246 2 = 0 ∧ Xi T4 246 5 = 0 := ⟨(f25.x 246 2 rfl).trans r18.1, (f25.x 246 5 rfl).trans r18.2⟩
  have d25 : CMD T4 := by assumption
  refine l_aload_n rfl rfl ?_
  refine l_gfr rfl rfl rfl rfl rfl (hHT4.r 0 6 891 rfl) ?_
  refine l_callV rfl rfl rfl (t_re_startAgain hHT4 _) ?_
  rintro _ T5 ⟨hHT5, w34, rfl⟩
  have hFT5 : FR md_rs_startAgain S T5 := FR.tr hFT4 w34 rfl
  show Rl _ _ _ _ _ [] _ _
  have f32 : FR md_re_startAgain T4 T5 := by assumption
  have q32 : ∀ j, Xi T5 19 j = Xi T4 19 j := fun j => (f32.cx 19 rfl j).1
  have a32 : Xi T5 19 0 = -1 ∧ Xi T5 19 1 = 0 ∧ Xi T5 19 2 = 0 ∧ Xi T5 19 3 = 0 ∧ Xi T5 19 4 = -2 := by rw [q32, q32, q32, q32, q32]; exact a25
  have p32 : ∀ j, Xi T5 11 j = Xi T4 11 j := fun j => (f32.cx 11 rfl j).1
  have k32 : Xi T5 11 0 = 1 ∧ Xi T5 11 1 = 0 := by rw [p32, p32]; exact k25
  have n32_3 : Xi T5 5 3 = 2 := (f32.cx 5 rfl 3).1.trans n25_3
  have n32_4 : Xi T5 5 4 = 0 := (f32.cx 5 rfl 4).1.trans n25_4
  have n32_8 : Xi T5 5 8 = 5 := (f32.cx 5 rfl 8).1.trans n25_8
  have l32 : LEX T5 := LEX_FR f32 rfl rfl l25
  have z32 : KN0 T5 40 0 := kn_f f32 rfl z25
  have r32 : Xi T5 246 2 = 0 ∧ Xi T5 246 5 = 0 := ⟨(f32.x 246 2 rfl).trans r25.1, (f32.x 246 5 rfl).trans r25.2⟩
  have d32 : CMD T5 := CMD_FR f32 rfl d25
  have wi32 : WI T5 := WI_first l32 z32 d32 n32_8 a32 n32_3 n32_4 k32 r32.1 r32.2
  refine l_return rfl rfl ?_
  have w35 : Xi T5 246 2 = Xi T3 246 2 := (show Xi T5 246 2 = Xi T4 246 2 from w34.x _ _ rfl).trans ((show Xi T4 246 2 = Xi T3 246 2 from w32.x _ _ rfl))
  have w36 : 0 ≤ Xi T3 246 2 ∧ Xi T3 246 2 ≤ 24 := hHT3.c _ _
  exact ⟨hHT5, hFT5, rfl, (wi32), (r32.1)⟩

