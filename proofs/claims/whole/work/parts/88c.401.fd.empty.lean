section
def md_rs_read__u : List rec := [(0, 1, 8, 9), (0, 1, 9, 10), (0, 1, 10, 11), (0, 1, 11, 12), (1, 2, 3, 4), (2, 3, 0, 100000), (3, 4, 0, 100000), (4, 5, 0, 100000), (5, 6, 0, 100000), (6, 7, 0, 100000), (7, 8, 0, 100000), (8, 9, 0, 100000), (9, 10, 0, 100000), (10, 11, 0, 100000), (11, 12, 0, 100000), (12, 13, 0, 100000), (13, 14, 0, 100000), (14, 15, 0, 100000), (15, 16, 0, 100000), (16, 17, 0, 100000), (17, 18, 0, 100000), (18, 19, 0, 100000), (19, 20, 0, 100000), (20, 21, 1, 2), (20, 21, 12, 13), (21, 22, 0, 100000), (22, 23, 0, 100000), (23, 24, 0, 100000), (25, 65, 0, 100000), (66, 106, 0, 100000), (107, 147, 0, 100000), (148, 188, 0, 100000), (189, 195, 0, 100000), (196, 220, 0, 100000), (221, 245, 0, 100000), (246, 247, 2, 3), (246, 247, 5, 6), (246, 247, 8, 9), (248, 272, 0, 100000), (272, 273, 0, 100000), (274, 275, 0, 100000), (275, 276, 0, 100000), (276, 876, 0, 1), (276, 876, 1, 2), (276, 876, 2, 3), (276, 876, 3, 4), (276, 876, 4, 5), (276, 876, 5, 6), (276, 876, 6, 7), (876, 877, 4, 5), (876, 877, 5, 6), (876, 877, 6, 7), (876, 877, 7, 8), (876, 877, 8, 9), (876, 877, 9, 10), (877, 878, 0, 100000), (878, 879, 0, 100000), (879, 880, 0, 100000), (882, 883, 3, 4), (882, 883, 10, 11), (883, 884, 0, 100000), (884, 885, 0, 100000), (885, 886, 0, 100000), (886, 887, 0, 100000), (887, 888, 0, 100000), (888, 889, 0, 100000), (890, 891, 1, 2), (890, 891, 2, 3), (890, 891, 3, 4), (891, 892, 9, 10), (891, 892, 10, 11), (891, 892, 11, 12), (891, 892, 12, 13), (892, 893, 0, 100000), (893, 894, 0, 100000), (894, 895, 0, 100000), (895, 896, 3, 4), (895, 896, 4, 5), (895, 896, 5, 6), (895, 896, 6, 7), (895, 896, 7, 8), (895, 896, 8, 9), (895, 896, 9, 10), (895, 896, 10, 11), (895, 896, 11, 12), (895, 896, 12, 13), (895, 896, 13, 14), (895, 896, 14, 15), (896, 897, 0, 100000), (897, 898, 0, 100000), (898, 899, 0, 100000), (899, 900, 4, 5), (899, 900, 5, 6), (899, 900, 6, 7), (900, 901, 4, 5)]
abbrev Q_rs_read__u (S : sS) (ts : Nat) (tq : Nat) : pst := fun r S1 => HI S1 ∧ FR md_rs_read__u S S1 ∧ (∃ z : Int, r = some (iv z) ∧ (-5010 ≤ z ∧ z ≤ 5000) ∧ (WI S1) ∧ (ORD S1) ∧ (S1.2.2 0 8 = some tq) ∧ (S1.2.2 0 9 = some ts) ∧ (S1.2.2 20 1 = some ts) ∧ (S1.2.2 876 4 = some ts) ∧ (RFN S ts S1 z) ∧ (Xi S1 0 10 = 0) ∧ (Xi S1 900 4 = 0))
set_option maxRecDepth 100000 in
set_option maxHeartbeats 4000000 in
theorem t_rs_read__u {S : sS} (hH : HI S) (ts : Nat) (tq : Nat) (h8 : S.2.2 0 8 = some ts) (h9 : S.2.2 0 9 = some tq) (htp : tp ts) (htq : tp tq) (d : Nat) : Mt lay0 (d + 10) m_rs_read [.ref 0] S (Q_rs_read__u S ts tq) := by
  refine Mt_R rfl rfl ?_
  have hF : FR md_rs_read__u S S := FR.rf
  have w1 : 0 ≤ Xi S 0 10 ∧ Xi S 0 10 ≤ 5000 := hH.c _ _
  have w2 : 0 ≤ Xi S 876 5 ∧ Xi S 876 5 ≤ 5000 := hH.c _ _
  have w3 : 0 ≤ Xi S 876 8 ∧ Xi S 876 8 ≤ 9 := hH.c _ _
  have w4 : 0 ≤ Xi S 900 4 ∧ Xi S 900 4 ≤ 2000 := hH.c _ _
  have C69 : ∀ (n69 : Nat) (T1 : sS) (_ : HI T1) (_ : FR md_rs_read__u S T1) (v1 : Int) (v3 : Int) (v4 : Int), (0 ≤ v1 ∧ v1 ≤ 5000) → (0 ≤ v3 ∧ v3 ≤ 5000) → (0 ≤ v4 ∧ v4 ≤ 5000) → (T1.2.2 876 4 = some ts) → (T1.2.2 20 1 = some ts) → (T1.2.2 0 8 = some tq) → (T1.2.2 0 9 = some ts) → (v4 ≤ v1) → (Xi T1 876 5 = v1) → (Xi T1 876 8 = 0 → WI T1) → (Hid (RTR S ts v3 T1 v4)) → (Xi T1 0 10 = 0) → (Xi T1 900 4 = 0) → n69 = (5001 - v3).toNat → Rl lay0 (d + 9) m_rs_read 69 [(0, .ref 0), (1, iv v1), (3, iv v3), (4, iv v4)] [] T1 (Q_rs_read__u S ts tq) := by
    intro n69
    induction n69 using Nat.strongRecOn with
    | ind n69 ih69 =>
      intro T1 hHT1 hFT1 v1 v3 v4 w5 w6 w7 h76_69 h20_69 h08_69 h09_69 w8 w9 hW69 tr69 w10 w11 hm69
      have w12 : 0 ≤ Xi T1 0 10 ∧ Xi T1 0 10 ≤ 5000 := hHT1.c _ _
      have w13 : 0 ≤ Xi T1 876 5 ∧ Xi T1 876 5 ≤ 5000 := hHT1.c _ _
      have w14 : 0 ≤ Xi T1 876 8 ∧ Xi T1 876 8 ≤ 9 := hHT1.c _ _
      have w15 : 0 ≤ Xi T1 900 4 ∧ Xi T1 900 4 ≤ 2000 := hHT1.c _ _
      have C203 : ∀  (T2 : sS) (_ : HI T2) (_ : FR md_rs_read__u S T2) (v3 : Int), (0 ≤ v3 ∧ v3 ≤ 5000) → (T2.2.2 876 4 = some ts) → (T2.2.2 20 1 = some ts) → (T2.2.2 0 8 = some tq) → (T2.2.2 0 9 = some ts) → (Xi T2 876 8 = 0 → WI T2) → (Hid (RTX S ts v3 T2)) → (Xi T2 0 10 = 0) → (Xi T2 900 4 = 0) → Rl lay0 (d + 9) m_rs_read 203 [(0, .ref 0), (3, iv v3)] [] T2 (Q_rs_read__u S ts tq) := by
        intro T2 hHT2 hFT2 v3 w16 h76_203 h20_203 h08_203 h09_203 hW203 tr203 w17 w18
        have w19 : 0 ≤ Xi T2 0 10 ∧ Xi T2 0 10 ≤ 5000 := hHT2.c _ _
        have w20 : 0 ≤ Xi T2 876 8 ∧ Xi T2 876 8 ≤ 9 := hHT2.c _ _
        have w21 : 0 ≤ Xi T2 900 4 ∧ Xi T2 900 4 ≤ 2000 := hHT2.c _ _
        refine l_iload_n rfl rfl ?_
        refine l_if_ne rfl rfl (by unfold rg; omega) (fun w22 => ?_) (fun w23 => ?_)
        · refine l_aload_n rfl rfl ?_
          refine l_aload_n rfl rfl ?_
          refine l_gfr rfl rfl rfl rfl rfl (hHT2.r 0 4 876 rfl) ?_
          refine l_gfi rfl rfl rfl rfl rfl ?_
          refine l_pfi rfl rfl rfl rfl ?_
          obtain ⟨U3, eU3⟩ : ∃ T : sS, T = uI T2 0 11 (Int32.ofInt (Xi T2 876 8)) := ⟨_, rfl⟩
          rw [← eU3]
          have hHU3 : HI U3 := by rw [eU3]; exact HI_w hHT2 (show 0 ≤ (Xi T2 876 8) by omega) (show (Xi T2 876 8) ≤ 9 by omega)
          have hFU3 : FR md_rs_read__u S U3 := by rw [eU3]; exact FR.wI hFT2 (mdf_i (r := (0, 1, 11, 12)) (List.mem_of_getElem? (i := 3) rfl) (inR_i (by omega) (by omega) (by omega) (by omega)))
          have w24 : Xi U3 0 11 = (Xi T2 876 8) := by rw [eU3]; exact Xi_same (by unfold rg; omega)
          have e225 : Xi U3 0 11 = Xi T2 876 8 := by omega
          have W225 : Xi U3 876 8 = 0 → WI U3 := fun q => WI_FR hHT2 (FR_e eU3) rfl rfl rfl rfl rfl rfl rfl rfl rfl (by first | exact W213 (by rw [eU3, Xi_ne (by omega)] at q; exact q) | exact hW203 (by rw [eU3, Xi_ne (by omega)] at q; exact q))
          have f225 : Xi U3 876 8 = Xi T2 876 8 := by rw [eU3, Xi_ne (by omega)]
          have X225 : Hid (RFX S ts v3 U3) := by first | exact rfx_1 tr203.o (by omega) G213.o eU3 | exact rfx_0 tr203.o (by omega) eU3
          refine l_aload_n rfl rfl ?_
          refine l_gfi rfl rfl rfl rfl rfl ?_
          refine l_if_eq rfl rfl (by unfold rg; omega) (fun w25 => ?_) (fun w26 => ?_)
          · refine l_aload_n rfl rfl ?_
            refine l_gfr rfl rfl rfl rfl rfl (hHU3.r 0 1 20 rfl) ?_
            have w27 : Xi U3 0 10 = Xi T2 0 10 := (show Xi U3 0 10 = Xi T2 0 10 from by rw [eU3]; exact Xi_ne (by omega))
            have w29 : Xi U3 876 5 = Xi T2 876 5 := (show Xi U3 876 5 = Xi T2 876 5 from by rw [eU3]; exact Xi_ne (by omega))
            have w30 : 0 ≤ Xi T2 876 5 ∧ Xi T2 876 5 ≤ 5000 := hHT2.c _ _
            have w31 : Xi U3 876 6 = Xi T2 876 6 := (show Xi U3 876 6 = Xi T2 876 6 from by rw [eU3]; exact Xi_ne (by omega))
            have w32 : 0 ≤ Xi T2 876 6 ∧ Xi T2 876 6 ≤ 5002 := hHT2.c _ _
            have w33 : Xi U3 876 7 = Xi T2 876 7 := (show Xi U3 876 7 = Xi T2 876 7 from by rw [eU3]; exact Xi_ne (by omega))
            have w34 : 0 ≤ Xi T2 876 7 ∧ Xi T2 876 7 ≤ 5125 := hHT2.c _ _
            have w35 : Xi U3 876 8 = Xi T2 876 8 := (show Xi U3 876 8 = Xi T2 876 8 from by rw [eU3]; exact Xi_ne (by omega))
            have w37 : Xi U3 890 2 = Xi T2 890 2 := (show Xi U3 890 2 = Xi T2 890 2 from by rw [eU3]; exact Xi_ne (by omega))
            have w38 : 0 ≤ Xi T2 890 2 ∧ Xi T2 890 2 ≤ 20 := hHT2.c _ _
            have w39 : Xi U3 900 4 = Xi T2 900 4 := (show Xi U3 900 4 = Xi T2 900 4 from by rw [eU3]; exact Xi_ne (by omega))
            refine l_callV rfl rfl rfl (t_wo_placePlayer__b hHU3 _) ?_
            rintro _ T4 ⟨hHT4, w42, rfl, ev254⟩
            have hFT4 : FR md_rs_read__u S T4 := FR.tr hFU3 w42 rfl
            show Rl _ _ _ _ _ [] _ _
            have W254 : WI T4 := WI_FR hHU3 (by assumption : FR md_wo_placePlayer__b U3 T4) rfl rfl rfl rfl rfl rfl rfl rfl rfl (W225 (by omega))
            have F254 : FR md_wo_placePlayer__b U3 T4 := by assumption
            have Y254 : Hid (RFP S ts v3 T4) := rfp_i X225.o (by omega) hHU3 ev254 F254
            clear ev254
            refine l_aload_n rfl rfl ?_
            refine l_gfr rfl rfl rfl rfl rfl (hHT4.r 0 2 246 rfl) ?_
            refine l_callV rfl rfl rfl (t_bo_putInOrder__b hHT4 _) ?_
            rintro _ T5 ⟨hHT5, w59, rfl, w57, ev261⟩
            have hFT5 : FR md_rs_read__u S T5 := FR.tr hFT4 w59 rfl
            show Rl _ _ _ _ _ [] _ _
            have W261 : WI T5 := WI_FR hHT4 (by assumption : FR md_bo_putInOrder__b T4 T5) rfl rfl rfl rfl rfl rfl rfl rfl rfl W254
            have o261 : ORD T5 := by assumption
            have F261 : FR md_bo_putInOrder__b T4 T5 := by assumption
            have Y261 : Hid (RFN S ts T5 v3) := rfn_1 Y254.o hHT4 ev261 F261
            clear ev261
            refine l_iload_n rfl rfl ?_
            refine l_ireturn rfl rfl ?_
            have w60 : Xi T5 0 10 = Xi T2 0 10 := (show Xi T5 0 10 = Xi T4 0 10 from w59.x _ _ rfl).trans ( (show Xi T4 0 10 = Xi U3 0 10 from w42.x _ _ rfl).trans ((show Xi U3 0 10 = Xi T2 0 10 from by rw [eU3]; exact Xi_ne (by omega))))
            have w62 : Xi T5 876 5 = Xi T2 876 5 := (show Xi T5 876 5 = Xi T4 876 5 from w59.x _ _ rfl).trans ( (show Xi T4 876 5 = Xi U3 876 5 from w42.x _ _ rfl).trans ((show Xi U3 876 5 = Xi T2 876 5 from by rw [eU3]; exact Xi_ne (by omega))))
            have w64 : Xi T5 876 6 = Xi T2 876 6 := (show Xi T5 876 6 = Xi T4 876 6 from w59.x _ _ rfl).trans ( (show Xi T4 876 6 = Xi U3 876 6 from w42.x _ _ rfl).trans ((show Xi U3 876 6 = Xi T2 876 6 from by rw [eU3]; exact Xi_ne (by omega))))
            have w66 : Xi T5 876 7 = Xi T2 876 7 := (show Xi T5 876 7 = Xi T4 876 7 from w59.x _ _ rfl).trans ( (show Xi T4 876 7 = Xi U3 876 7 from w42.x _ _ rfl).trans ((show Xi U3 876 7 = Xi T2 876 7 from by rw [eU3]; exact Xi_ne (by omega))))
            have w68 : Xi T5 876 8 = Xi T2 876 8 := (show Xi T5 876 8 = Xi T4 876 8 from w59.x _ _ rfl).trans ( (show Xi T4 876 8 = Xi U3 876 8 from w42.x _ _ rfl).trans ((show Xi U3 876 8 = Xi T2 876 8 from by rw [eU3]; exact Xi_ne (by omega))))
            have w70 : Xi T5 890 2 = Xi T2 890 2 := (show Xi T5 890 2 = Xi T4 890 2 from w59.x _ _ rfl).trans ( (show Xi T4 890 2 = Xi U3 890 2 from w42.x _ _ rfl).trans ((show Xi U3 890 2 = Xi T2 890 2 from by rw [eU3]; exact Xi_ne (by omega))))
            have w72 : Xi T5 900 4 = Xi T2 900 4 := (show Xi T5 900 4 = Xi T4 900 4 from w59.x _ _ rfl).trans ( (show Xi T4 900 4 = Xi U3 900 4 from w42.x _ _ rfl).trans ((show Xi U3 900 4 = Xi T2 900 4 from by rw [eU3]; exact Xi_ne (by omega))))
            exact ⟨hHT5, hFT5, _, rfl, ⟨by omega, by omega⟩, (by first | exact W236 | exact W261), (by first | exact o236 | exact o261), (((w59 0 8 rfl).2.2.trans ((w42 0 8 rfl).2.2.trans ((show U3.2.2 0 8 = T2.2.2 0 8 from by rw [eU3]; rfl).trans h08_203)))), (((w59 0 9 rfl).2.2.trans ((w42 0 9 rfl).2.2.trans ((show U3.2.2 0 9 = T2.2.2 0 9 from by rw [eU3]; rfl).trans h09_203)))), (((w59 20 1 rfl).2.2.trans ((w42 20 1 rfl).2.2.trans ((show U3.2.2 20 1 = T2.2.2 20 1 from by rw [eU3]; rfl).trans h20_203)))), (((w59 876 4 rfl).2.2.trans ((w42 876 4 rfl).2.2.trans ((show U3.2.2 876 4 = T2.2.2 876 4 from by rw [eU3]; rfl).trans h76_203)))), (by first | exact Y236.o | exact Y261.o | (have t := Y236.o; rw [show -10 - Xi _ 876 9 = _ by omega] at t; exact t)), (by omega), (by omega)⟩
          · refine l_aload_n rfl rfl ?_
            have w74 : Xi U3 0 10 = Xi T2 0 10 := (show Xi U3 0 10 = Xi T2 0 10 from by rw [eU3]; exact Xi_ne (by omega))
            have w76 : Xi U3 876 5 = Xi T2 876 5 := (show Xi U3 876 5 = Xi T2 876 5 from by rw [eU3]; exact Xi_ne (by omega))
            have w77 : 0 ≤ Xi T2 876 5 ∧ Xi T2 876 5 ≤ 5000 := hHT2.c _ _
            have w78 : Xi U3 876 6 = Xi T2 876 6 := (show Xi U3 876 6 = Xi T2 876 6 from by rw [eU3]; exact Xi_ne (by omega))
            have w79 : 0 ≤ Xi T2 876 6 ∧ Xi T2 876 6 ≤ 5002 := hHT2.c _ _
            have w80 : Xi U3 876 7 = Xi T2 876 7 := (show Xi U3 876 7 = Xi T2 876 7 from by rw [eU3]; exact Xi_ne (by omega))
            have w81 : 0 ≤ Xi T2 876 7 ∧ Xi T2 876 7 ≤ 5125 := hHT2.c _ _
            have w82 : Xi U3 876 8 = Xi T2 876 8 := (show Xi U3 876 8 = Xi T2 876 8 from by rw [eU3]; exact Xi_ne (by omega))
            have w84 : Xi U3 890 2 = Xi T2 890 2 := (show Xi U3 890 2 = Xi T2 890 2 from by rw [eU3]; exact Xi_ne (by omega))
            have w85 : 0 ≤ Xi T2 890 2 ∧ Xi T2 890 2 ≤ 20 := hHT2.c _ _
            have w86 : Xi U3 900 4 = Xi T2 900 4 := (show Xi U3 900 4 = Xi T2 900 4 from by rw [eU3]; exact Xi_ne (by omega))
            refine l_callV rfl rfl rfl (t_rs_startAgain__b hHU3 _) ?_
            rintro _ T6 ⟨hHT6, w91, rfl, w88, w89, ev236⟩
            have hFT6 : FR md_rs_read__u S T6 := FR.tr hFU3 w91 rfl
            show Rl _ _ _ _ _ [] _ _
            have W236 : WI T6 := by assumption
            have o236 : ORD T6 := fun i hi => by omega
            have F236 : FR md_rs_startAgain__b U3 T6 := by assumption
            have Y236 : Hid (RFN S ts T6 (-10 - Xi T6 876 9)) := rfn_0 X225.o (by omega) hHU3 ev236 F236
            clear ev236
            refine l_bipush rfl rfl ?_
            refine l_aload_n rfl rfl ?_
            refine l_gfr rfl rfl rfl rfl rfl (hHT6.r 0 4 876 rfl) ?_
            refine l_gfi rfl rfl rfl rfl rfl ?_
            have w92 : 0 ≤ (Xi T6 876 9) ∧ (Xi T6 876 9) ≤ 5000 := hHT6.c _ _
            refine l_isub rfl ?_
            refine l_ireturn rfl rfl ?_
            have w93 : Xi T6 0 10 = Xi T2 0 10 := (show Xi T6 0 10 = Xi U3 0 10 from w91.x _ _ rfl).trans ((show Xi U3 0 10 = Xi T2 0 10 from by rw [eU3]; exact Xi_ne (by omega)))
            have w95 : Xi T6 876 5 = Xi T2 876 5 := (show Xi T6 876 5 = Xi U3 876 5 from w91.x _ _ rfl).trans ((show Xi U3 876 5 = Xi T2 876 5 from by rw [eU3]; exact Xi_ne (by omega)))
            have w97 : Xi T6 876 6 = Xi T2 876 6 := (show Xi T6 876 6 = Xi U3 876 6 from w91.x _ _ rfl).trans ((show Xi U3 876 6 = Xi T2 876 6 from by rw [eU3]; exact Xi_ne (by omega)))
            have w99 : Xi T6 876 7 = Xi T2 876 7 := (show Xi T6 876 7 = Xi U3 876 7 from w91.x _ _ rfl).trans ((show Xi U3 876 7 = Xi T2 876 7 from by rw [eU3]; exact Xi_ne (by omega)))
            have w101 : Xi T6 876 8 = Xi T2 876 8 := (show Xi T6 876 8 = Xi U3 876 8 from w91.x _ _ rfl).trans ((show Xi U3 876 8 = Xi T2 876 8 from by rw [eU3]; exact Xi_ne (by omega)))
            have w103 : Xi T6 890 2 = Xi T2 890 2 := (show Xi T6 890 2 = Xi U3 890 2 from w91.x _ _ rfl).trans ((show Xi U3 890 2 = Xi T2 890 2 from by rw [eU3]; exact Xi_ne (by omega)))
            have w105 : Xi T6 900 4 = Xi T2 900 4 := (show Xi T6 900 4 = Xi U3 900 4 from w91.x _ _ rfl).trans ((show Xi U3 900 4 = Xi T2 900 4 from by rw [eU3]; exact Xi_ne (by omega)))
            exact ⟨hHT6, hFT6, _, rfl, ⟨by omega, by omega⟩, (by first | exact W236 | exact W261), (by first | exact o236 | exact o261), (((w91 0 8 rfl).2.2.trans ((show U3.2.2 0 8 = T2.2.2 0 8 from by rw [eU3]; rfl).trans h08_203))), (((w91 0 9 rfl).2.2.trans ((show U3.2.2 0 9 = T2.2.2 0 9 from by rw [eU3]; rfl).trans h09_203))), (((w91 20 1 rfl).2.2.trans ((show U3.2.2 20 1 = T2.2.2 20 1 from by rw [eU3]; rfl).trans h20_203))), (((w91 876 4 rfl).2.2.trans ((show U3.2.2 876 4 = T2.2.2 876 4 from by rw [eU3]; rfl).trans h76_203))), (by first | exact Y236.o | exact Y261.o | (have t := Y236.o; rw [show -10 - Xi _ 876 9 = _ by omega] at t; exact t)), (by omega), (by omega)⟩
        · refine l_aload_n rfl rfl ?_
          refine l_gfr rfl rfl rfl rfl rfl (hHT2.r 0 4 876 rfl) ?_
          refine l_iconst rfl ?_
          refine l_iconst rfl ?_
          have w108 : 0 ≤ Xi T2 876 5 ∧ Xi T2 876 5 ≤ 5000 := hHT2.c _ _
          have w109 : 0 ≤ Xi T2 876 6 ∧ Xi T2 876 6 ≤ 5002 := hHT2.c _ _
          have w110 : 0 ≤ Xi T2 876 7 ∧ Xi T2 876 7 ≤ 5125 := hHT2.c _ _
          have w112 : 0 ≤ Xi T2 876 9 ∧ Xi T2 876 9 ≤ 5000 := hHT2.c _ _
          have w113 : 0 ≤ Xi T2 890 2 ∧ Xi T2 890 2 ≤ 20 := hHT2.c _ _
          refine l_callV rfl rfl rfl (t_to_wrong__b hHT2 2 (-1) ⟨by omega, by omega⟩ ⟨by omega, by omega⟩ _) ?_
          rintro _ T7 ⟨hHT7, w118, z117, rfl, w117, w115, w116, w213⟩
          have hFT7 : FR md_rs_read__u S T7 := FR.tr hFT2 w118 rfl
          show Rl _ _ _ _ _ [iv z117] _ _
          have W213 : Xi T7 876 8 = 0 → WI T7 := fun q => by omega
          have G213 : Hid (WRG T2 T7 2 (-1)) := ⟨(by assumption : FR md_to_wrong__b T2 T7), hHT7, w213 trivial⟩
          clear w213
          refine l_pop rfl rfl ?_
          refine l_aload_n rfl rfl ?_
          refine l_aload_n rfl rfl ?_
          refine l_gfr rfl rfl rfl rfl rfl (hHT7.r 0 4 876 rfl) ?_
          refine l_gfi rfl rfl rfl rfl rfl ?_
          have w119 : 0 ≤ (Xi T7 876 8) ∧ (Xi T7 876 8) ≤ 9 := hHT7.c _ _
          refine l_pfi rfl rfl rfl rfl ?_
          obtain ⟨U8, eU8⟩ : ∃ T : sS, T = uI T7 0 11 (Int32.ofInt (Xi T7 876 8)) := ⟨_, rfl⟩
          rw [← eU8]
          have hHU8 : HI U8 := by rw [eU8]; exact HI_w hHT7 (show 0 ≤ (Xi T7 876 8) by omega) (show (Xi T7 876 8) ≤ 9 by omega)
          have hFU8 : FR md_rs_read__u S U8 := by rw [eU8]; exact FR.wI hFT7 (mdf_i (r := (0, 1, 11, 12)) (List.mem_of_getElem? (i := 3) rfl) (inR_i (by omega) (by omega) (by omega) (by omega)))
          have w120 : Xi U8 0 11 = (Xi T7 876 8) := by rw [eU8]; exact Xi_same (by unfold rg; omega)
          have e225 : Xi U8 0 11 = Xi T7 876 8 := by omega
          have W225 : Xi U8 876 8 = 0 → WI U8 := fun q => WI_FR hHT7 (FR_e eU8) rfl rfl rfl rfl rfl rfl rfl rfl rfl (by first | exact W213 (by rw [eU8, Xi_ne (by omega)] at q; exact q) | exact hW203 (by rw [eU8, Xi_ne (by omega)] at q; exact q))
          have f225 : Xi U8 876 8 = Xi T7 876 8 := by rw [eU8, Xi_ne (by omega)]
          have X225 : Hid (RFX S ts v3 U8) := by first | exact rfx_1 tr203.o (by omega) G213.o eU8 | exact rfx_0 tr203.o (by omega) eU8
          refine l_aload_n rfl rfl ?_
          refine l_gfi rfl rfl rfl rfl rfl ?_
          refine l_if_eq rfl rfl (by unfold rg; omega) (fun w121 => ?_) (fun w122 => ?_)
          · refine l_aload_n rfl rfl ?_
            refine l_gfr rfl rfl rfl rfl rfl (hHU8.r 0 1 20 rfl) ?_
            have w123 : Xi U8 0 10 = Xi T2 0 10 := (show Xi U8 0 10 = Xi T7 0 10 from by rw [eU8]; exact Xi_ne (by omega)).trans ((show Xi T7 0 10 = Xi T2 0 10 from w118.x _ _ rfl))
            have w125 : Xi U8 876 5 = Xi T2 876 5 := (show Xi U8 876 5 = Xi T7 876 5 from by rw [eU8]; exact Xi_ne (by omega)).trans ((show Xi T7 876 5 = Xi T2 876 5 from w118.x _ _ rfl))
            have w127 : Xi U8 876 6 = Xi T2 876 6 := (show Xi U8 876 6 = Xi T7 876 6 from by rw [eU8]; exact Xi_ne (by omega)).trans ((show Xi T7 876 6 = Xi T2 876 6 from w118.x _ _ rfl))
            have w129 : Xi U8 876 7 = Xi T2 876 7 := (show Xi U8 876 7 = Xi T7 876 7 from by rw [eU8]; exact Xi_ne (by omega)).trans ((show Xi T7 876 7 = Xi T2 876 7 from w118.x _ _ rfl))
            have w131 : Xi U8 876 8 = Xi T7 876 8 := (show Xi U8 876 8 = Xi T7 876 8 from by rw [eU8]; exact Xi_ne (by omega))
            have w132 : 0 ≤ Xi T7 876 8 ∧ Xi T7 876 8 ≤ 9 := hHT7.c _ _
            have w133 : Xi U8 890 2 = Xi T2 890 2 := (show Xi U8 890 2 = Xi T7 890 2 from by rw [eU8]; exact Xi_ne (by omega)).trans ((show Xi T7 890 2 = Xi T2 890 2 from w118.x _ _ rfl))
            have w135 : Xi U8 900 4 = Xi T2 900 4 := (show Xi U8 900 4 = Xi T7 900 4 from by rw [eU8]; exact Xi_ne (by omega)).trans ((show Xi T7 900 4 = Xi T2 900 4 from w118.x _ _ rfl))
            refine l_callV rfl rfl rfl (t_wo_placePlayer__b hHU8 _) ?_
            rintro _ T9 ⟨hHT9, w138, rfl, ev254⟩
            have hFT9 : FR md_rs_read__u S T9 := FR.tr hFU8 w138 rfl
            show Rl _ _ _ _ _ [] _ _
            have W254 : WI T9 := WI_FR hHU8 (by assumption : FR md_wo_placePlayer__b U8 T9) rfl rfl rfl rfl rfl rfl rfl rfl rfl (W225 (by omega))
            have F254 : FR md_wo_placePlayer__b U8 T9 := by assumption
            have Y254 : Hid (RFP S ts v3 T9) := rfp_i X225.o (by omega) hHU8 ev254 F254
            clear ev254
            refine l_aload_n rfl rfl ?_
            refine l_gfr rfl rfl rfl rfl rfl (hHT9.r 0 2 246 rfl) ?_
            refine l_callV rfl rfl rfl (t_bo_putInOrder__b hHT9 _) ?_
            rintro _ T10 ⟨hHT10, w155, rfl, w153, ev261⟩
            have hFT10 : FR md_rs_read__u S T10 := FR.tr hFT9 w155 rfl
            show Rl _ _ _ _ _ [] _ _
            have W261 : WI T10 := WI_FR hHT9 (by assumption : FR md_bo_putInOrder__b T9 T10) rfl rfl rfl rfl rfl rfl rfl rfl rfl W254
            have o261 : ORD T10 := by assumption
            have F261 : FR md_bo_putInOrder__b T9 T10 := by assumption
            have Y261 : Hid (RFN S ts T10 v3) := rfn_1 Y254.o hHT9 ev261 F261
            clear ev261
            refine l_iload_n rfl rfl ?_
            refine l_ireturn rfl rfl ?_
            have w156 : Xi T10 0 10 = Xi T2 0 10 := (show Xi T10 0 10 = Xi T9 0 10 from w155.x _ _ rfl).trans ( (show Xi T9 0 10 = Xi U8 0 10 from w138.x _ _ rfl).trans ( (show Xi U8 0 10 = Xi T7 0 10 from by rw [eU8]; exact Xi_ne (by omega)).trans ((show Xi T7 0 10 = Xi T2 0 10 from w118.x _ _ rfl))))
            have w158 : Xi T10 876 5 = Xi T2 876 5 := (show Xi T10 876 5 = Xi T9 876 5 from w155.x _ _ rfl).trans ( (show Xi T9 876 5 = Xi U8 876 5 from w138.x _ _ rfl).trans ( (show Xi U8 876 5 = Xi T7 876 5 from by rw [eU8]; exact Xi_ne (by omega)).trans ((show Xi T7 876 5 = Xi T2 876 5 from w118.x _ _ rfl))))
            have w160 : Xi T10 876 6 = Xi T2 876 6 := (show Xi T10 876 6 = Xi T9 876 6 from w155.x _ _ rfl).trans ( (show Xi T9 876 6 = Xi U8 876 6 from w138.x _ _ rfl).trans ( (show Xi U8 876 6 = Xi T7 876 6 from by rw [eU8]; exact Xi_ne (by omega)).trans ((show Xi T7 876 6 = Xi T2 876 6 from w118.x _ _ rfl))))
            have w162 : Xi T10 876 7 = Xi T2 876 7 := (show Xi T10 876 7 = Xi T9 876 7 from w155.x _ _ rfl).trans ( (show Xi T9 876 7 = Xi U8 876 7 from w138.x _ _ rfl).trans ( (show Xi U8 876 7 = Xi T7 876 7 from by rw [eU8]; exact Xi_ne (by omega)).trans ((show Xi T7 876 7 = Xi T2 876 7 from w118.x _ _ rfl))))
            have w164 : Xi T10 876 8 = Xi T7 876 8 := (show Xi T10 876 8 = Xi T9 876 8 from w155.x _ _ rfl).trans ( (show Xi T9 876 8 = Xi U8 876 8 from w138.x _ _ rfl).trans ((show Xi U8 876 8 = Xi T7 876 8 from by rw [eU8]; exact Xi_ne (by omega))))
            have w166 : Xi T10 890 2 = Xi T2 890 2 := (show Xi T10 890 2 = Xi T9 890 2 from w155.x _ _ rfl).trans ( (show Xi T9 890 2 = Xi U8 890 2 from w138.x _ _ rfl).trans ( (show Xi U8 890 2 = Xi T7 890 2 from by rw [eU8]; exact Xi_ne (by omega)).trans ((show Xi T7 890 2 = Xi T2 890 2 from w118.x _ _ rfl))))
            have w168 : Xi T10 900 4 = Xi T2 900 4 := (show Xi T10 900 4 = Xi T9 900 4 from w155.x _ _ rfl).trans ( (show Xi T9 900 4 = Xi U8 900 4 from w138.x _ _ rfl).trans ( (show Xi U8 900 4 = Xi T7 900 4 from by rw [eU8]; exact Xi_ne (by omega)).trans ((show Xi T7 900 4 = Xi T2 900 4 from w118.x _ _ rfl))))
            exact ⟨hHT10, hFT10, _, rfl, ⟨by omega, by omega⟩, (by first | exact W236 | exact W261), (by first | exact o236 | exact o261), (((w155 0 8 rfl).2.2.trans ((w138 0 8 rfl).2.2.trans ((show U8.2.2 0 8 = T7.2.2 0 8 from by rw [eU8]; rfl).trans ((w118 0 8 rfl).2.2.trans h08_203))))), (((w155 0 9 rfl).2.2.trans ((w138 0 9 rfl).2.2.trans ((show U8.2.2 0 9 = T7.2.2 0 9 from by rw [eU8]; rfl).trans ((w118 0 9 rfl).2.2.trans h09_203))))), (((w155 20 1 rfl).2.2.trans ((w138 20 1 rfl).2.2.trans ((show U8.2.2 20 1 = T7.2.2 20 1 from by rw [eU8]; rfl).trans ((w118 20 1 rfl).2.2.trans h20_203))))), (((w155 876 4 rfl).2.2.trans ((w138 876 4 rfl).2.2.trans ((show U8.2.2 876 4 = T7.2.2 876 4 from by rw [eU8]; rfl).trans ((w118 876 4 rfl).2.2.trans h76_203))))), (by first | exact Y236.o | exact Y261.o | (have t := Y236.o; rw [show -10 - Xi _ 876 9 = _ by omega] at t; exact t)), (by omega), (by omega)⟩
          · refine l_aload_n rfl rfl ?_
            have w170 : Xi U8 0 10 = Xi T2 0 10 := (show Xi U8 0 10 = Xi T7 0 10 from by rw [eU8]; exact Xi_ne (by omega)).trans ((show Xi T7 0 10 = Xi T2 0 10 from w118.x _ _ rfl))
            have w172 : Xi U8 876 5 = Xi T2 876 5 := (show Xi U8 876 5 = Xi T7 876 5 from by rw [eU8]; exact Xi_ne (by omega)).trans ((show Xi T7 876 5 = Xi T2 876 5 from w118.x _ _ rfl))
            have w174 : Xi U8 876 6 = Xi T2 876 6 := (show Xi U8 876 6 = Xi T7 876 6 from by rw [eU8]; exact Xi_ne (by omega)).trans ((show Xi T7 876 6 = Xi T2 876 6 from w118.x _ _ rfl))
            have w176 : Xi U8 876 7 = Xi T2 876 7 := (show Xi U8 876 7 = Xi T7 876 7 from by rw [eU8]; exact Xi_ne (by omega)).trans ((show Xi T7 876 7 = Xi T2 876 7 from w118.x _ _ rfl))
            have w178 : Xi U8 876 8 = Xi T7 876 8 := (show Xi U8 876 8 = Xi T7 876 8 from by rw [eU8]; exact Xi_ne (by omega))
            have w179 : 0 ≤ Xi T7 876 8 ∧ Xi T7 876 8 ≤ 9 := hHT7.c _ _
            have w180 : Xi U8 890 2 = Xi T2 890 2 := (show Xi U8 890 2 = Xi T7 890 2 from by rw [eU8]; exact Xi_ne (by omega)).trans ((show Xi T7 890 2 = Xi T2 890 2 from w118.x _ _ rfl))
            have w182 : Xi U8 900 4 = Xi T2 900 4 := (show Xi U8 900 4 = Xi T7 900 4 from by rw [eU8]; exact Xi_ne (by omega)).trans ((show Xi T7 900 4 = Xi T2 900 4 from w118.x _ _ rfl))
            refine l_callV rfl rfl rfl (t_rs_startAgain__b hHU8 _) ?_
            rintro _ T11 ⟨hHT11, w187, rfl, w184, w185, ev236⟩
            have hFT11 : FR md_rs_read__u S T11 := FR.tr hFU8 w187 rfl
            show Rl _ _ _ _ _ [] _ _
            have W236 : WI T11 := by assumption
            have o236 : ORD T11 := fun i hi => by omega
            have F236 : FR md_rs_startAgain__b U8 T11 := by assumption
            have Y236 : Hid (RFN S ts T11 (-10 - Xi T11 876 9)) := rfn_0 X225.o (by omega) hHU8 ev236 F236
            clear ev236
            refine l_bipush rfl rfl ?_
            refine l_aload_n rfl rfl ?_
            refine l_gfr rfl rfl rfl rfl rfl (hHT11.r 0 4 876 rfl) ?_
            refine l_gfi rfl rfl rfl rfl rfl ?_
            have w188 : 0 ≤ (Xi T11 876 9) ∧ (Xi T11 876 9) ≤ 5000 := hHT11.c _ _
            refine l_isub rfl ?_
            refine l_ireturn rfl rfl ?_
            have w189 : Xi T11 0 10 = Xi T2 0 10 := (show Xi T11 0 10 = Xi U8 0 10 from w187.x _ _ rfl).trans ( (show Xi U8 0 10 = Xi T7 0 10 from by rw [eU8]; exact Xi_ne (by omega)).trans ((show Xi T7 0 10 = Xi T2 0 10 from w118.x _ _ rfl)))
            have w191 : Xi T11 876 5 = Xi T2 876 5 := (show Xi T11 876 5 = Xi U8 876 5 from w187.x _ _ rfl).trans ( (show Xi U8 876 5 = Xi T7 876 5 from by rw [eU8]; exact Xi_ne (by omega)).trans ((show Xi T7 876 5 = Xi T2 876 5 from w118.x _ _ rfl)))
            have w193 : Xi T11 876 6 = Xi T2 876 6 := (show Xi T11 876 6 = Xi U8 876 6 from w187.x _ _ rfl).trans ( (show Xi U8 876 6 = Xi T7 876 6 from by rw [eU8]; exact Xi_ne (by omega)).trans ((show Xi T7 876 6 = Xi T2 876 6 from w118.x _ _ rfl)))
            have w195 : Xi T11 876 7 = Xi T2 876 7 := (show Xi T11 876 7 = Xi U8 876 7 from w187.x _ _ rfl).trans ( (show Xi U8 876 7 = Xi T7 876 7 from by rw [eU8]; exact Xi_ne (by omega)).trans ((show Xi T7 876 7 = Xi T2 876 7 from w118.x _ _ rfl)))
            have w197 : Xi T11 876 8 = Xi T7 876 8 := (show Xi T11 876 8 = Xi U8 876 8 from w187.x _ _ rfl).trans ((show Xi U8 876 8 = Xi T7 876 8 from by rw [eU8]; exact Xi_ne (by omega)))
            have w199 : Xi T11 890 2 = Xi T2 890 2 := (show Xi T11 890 2 = Xi U8 890 2 from w187.x _ _ rfl).trans ( (show Xi U8 890 2 = Xi T7 890 2 from by rw [eU8]; exact Xi_ne (by omega)).trans ((show Xi T7 890 2 = Xi T2 890 2 from w118.x _ _ rfl)))
            have w201 : Xi T11 900 4 = Xi T2 900 4 := (show Xi T11 900 4 = Xi U8 900 4 from w187.x _ _ rfl).trans ( (show Xi U8 900 4 = Xi T7 900 4 from by rw [eU8]; exact Xi_ne (by omega)).trans ((show Xi T7 900 4 = Xi T2 900 4 from w118.x _ _ rfl)))
            exact ⟨hHT11, hFT11, _, rfl, ⟨by omega, by omega⟩, (by first | exact W236 | exact W261), (by first | exact o236 | exact o261), (((w187 0 8 rfl).2.2.trans ((show U8.2.2 0 8 = T7.2.2 0 8 from by rw [eU8]; rfl).trans ((w118 0 8 rfl).2.2.trans h08_203)))), (((w187 0 9 rfl).2.2.trans ((show U8.2.2 0 9 = T7.2.2 0 9 from by rw [eU8]; rfl).trans ((w118 0 9 rfl).2.2.trans h09_203)))), (((w187 20 1 rfl).2.2.trans ((show U8.2.2 20 1 = T7.2.2 20 1 from by rw [eU8]; rfl).trans ((w118 20 1 rfl).2.2.trans h20_203)))), (((w187 876 4 rfl).2.2.trans ((show U8.2.2 876 4 = T7.2.2 876 4 from by rw [eU8]; rfl).trans ((w118 876 4 rfl).2.2.trans h76_203)))), (by first | exact Y236.o | exact Y261.o | (have t := Y236.o; rw [show -10 - Xi _ 876 9 = _ by omega] at t; exact t)), (by omega), (by omega)⟩
      refine l_iload rfl rfl ?_
      refine l_iload_n rfl rfl ?_
      refine l_icmp_ge rfl rfl (by unfold rg; omega) (by unfold rg; omega) (fun w203 => ?_) (fun w204 => ?_)
      · have w205 : 0 ≤ Xi T1 0 10 ∧ Xi T1 0 10 ≤ 5000 := hHT1.c _ _
        have w207 : 0 ≤ Xi T1 876 6 ∧ Xi T1 876 6 ≤ 5002 := hHT1.c _ _
        have w208 : 0 ≤ Xi T1 876 7 ∧ Xi T1 876 7 ≤ 5125 := hHT1.c _ _
        have w210 : 0 ≤ Xi T1 890 2 ∧ Xi T1 890 2 ≤ 20 := hHT1.c _ _
        exact Rl_weak (C203 T1 hHT1 hFT1 (v3) (⟨by omega, by omega⟩) (h76_69) (h20_69) (h08_69) (h09_69) (hW69) (⟨v4, tr69.o, fun q => by omega⟩) (by omega) (by omega)) (And.intro rfl (And.intro rfl (True.intro)))
      · refine l_iload_n rfl rfl ?_
        refine l_iload_n rfl rfl ?_
        refine l_icmp_ge rfl rfl (by unfold rg; omega) (by unfold rg; omega) (fun w212 => ?_) (fun w213 => ?_)
        · have w214 : 0 ≤ Xi T1 0 10 ∧ Xi T1 0 10 ≤ 5000 := hHT1.c _ _
          have w216 : 0 ≤ Xi T1 876 6 ∧ Xi T1 876 6 ≤ 5002 := hHT1.c _ _
          have w217 : 0 ≤ Xi T1 876 7 ∧ Xi T1 876 7 ≤ 5125 := hHT1.c _ _
          have w219 : 0 ≤ Xi T1 890 2 ∧ Xi T1 890 2 ≤ 20 := hHT1.c _ _
          exact Rl_weak (C203 T1 hHT1 hFT1 (v3) (⟨by omega, by omega⟩) (h76_69) (h20_69) (h08_69) (h09_69) (hW69) (⟨v4, tr69.o, fun q => by omega⟩) (by omega) (by omega)) (And.intro rfl (And.intro rfl (True.intro)))
        · refine l_aload_n rfl rfl ?_
          refine l_gfr rfl rfl rfl rfl rfl (hHT1.r 0 4 876 rfl) ?_
          refine l_gfi rfl rfl rfl rfl rfl ?_
          refine l_if_ne rfl rfl (by unfold rg; omega) (fun w221 => ?_) (fun w222 => ?_)
          · have w223 : 0 ≤ Xi T1 0 10 ∧ Xi T1 0 10 ≤ 5000 := hHT1.c _ _
            have w225 : 0 ≤ Xi T1 876 6 ∧ Xi T1 876 6 ≤ 5002 := hHT1.c _ _
            have w226 : 0 ≤ Xi T1 876 7 ∧ Xi T1 876 7 ≤ 5125 := hHT1.c _ _
            have w228 : 0 ≤ Xi T1 890 2 ∧ Xi T1 890 2 ≤ 20 := hHT1.c _ _
            exact Rl_weak (C203 T1 hHT1 hFT1 (v3) (⟨by omega, by omega⟩) (h76_69) (h20_69) (h08_69) (h09_69) (hW69) (⟨v4, tr69.o, fun q => by omega⟩) (by omega) (by omega)) (And.intro rfl (And.intro rfl (True.intro)))
          · refine l_iinc rfl rfl rfl rfl ?_
            refine l_aload_n rfl rfl ?_
            refine l_gfr rfl rfl rfl rfl rfl (hHT1.r 0 4 876 rfl) ?_
            refine l_aload_n rfl rfl ?_
            refine l_gfr rfl rfl rfl rfl rfl (hHT1.r 0 4 876 rfl) ?_
            refine l_iload rfl rfl ?_
            have w232 : 0 ≤ Xi T1 876 6 ∧ Xi T1 876 6 ≤ 5002 := hHT1.c _ _
            have w233 : 0 ≤ Xi T1 876 7 ∧ Xi T1 876 7 ≤ 5125 := hHT1.c _ _
            have w235 : 0 ≤ Xi T1 890 2 ∧ Xi T1 890 2 ≤ 20 := hHT1.c _ _
            refine l_callV rfl rfl rfl (t_to_takeSentence__b hHT1 ts v4 ⟨by omega, by omega⟩ h76_69 htp (by first | assumption | omega) _) ?_
            rintro _ T12 ⟨hHT12, w241, z240, rfl, w240, w237, w238, hc103, hn103, hm103, w239, s103⟩
            have hFT12 : FR md_rs_read__u S T12 := FR.tr hFT1 w241 rfl
            show Rl _ _ _ _ _ [iv z240, .ref 876] _ _
            have W103 : WI T12 := WI_FR hHT1 (by assumption : FR md_to_takeSentence__b T1 T12) rfl rfl rfl rfl rfl rfl rfl rfl rfl (hW69 (by omega))
            have n103 : ND T12 (Xi T12 876 7 - 1) := by assumption
            have t103 : TOK T12 := by assumption
            obtain ⟨zT, eT⟩ : ∃ x : Int, x = z240 := ⟨_, rfl⟩
            have F103 : FR md_to_takeSentence__b T1 T12 := by assumption
            have B103 : Hid (TKB T1 T12 ts v4 zT) := ⟨hHT12, F103, t103, by rw [eT]; omega, ⟨hc103, hn103, hm103⟩, n103, by rw [eT]; exact s103 (by omega)⟩
            clear s103
            have w242 : Xi T12 0 10 = Xi T1 0 10 := (show Xi T12 0 10 = Xi T1 0 10 from w241.x _ _ rfl)
            have w244 : Xi T12 876 5 = Xi T1 876 5 := (show Xi T12 876 5 = Xi T1 876 5 from w241.x _ _ rfl)
            have w246 : 0 ≤ Xi T12 876 6 ∧ Xi T12 876 6 ≤ 5002 := hHT12.c _ _
            have w247 : 0 ≤ Xi T12 876 7 ∧ Xi T12 876 7 ≤ 5125 := hHT12.c _ _
            have w248 : Xi T12 876 8 = Xi T1 876 8 := (show Xi T12 876 8 = Xi T1 876 8 from w241.x _ _ rfl)
            have w250 : Xi T12 890 2 = Xi T1 890 2 := (show Xi T12 890 2 = Xi T1 890 2 from w241.x _ _ rfl)
            have w252 : Xi T12 900 4 = Xi T1 900 4 := (show Xi T12 900 4 = Xi T1 900 4 from w241.x _ _ rfl)
            refine l_callV rfl rfl rfl (t_to_skip__f hHT12 ts z240 ⟨by omega, by omega⟩ ((w241 876 4 rfl).2.2.trans h76_69) htp (by first | assumption | omega) _) ?_
            rintro _ _ ⟨rfl, z255, rfl, w255, w254, k106⟩
            show Rl _ _ _ _ _ [iv z255] _ _
            obtain ⟨aN, eN⟩ : ∃ x : Int, x = z255 := ⟨_, rfl⟩
            have k106b : aN = sk7 (Xi T12 ts) (Xi T12 876 5) zT := by rw [eN, eT]; exact k106
            have C106 : Hid (CS0 ts T1 v4 T12 zT aN) := ⟨⟨hHT1, hW69 (by omega), h76_69, h20_69, by omega, by omega, by omega⟩, B103.o, k106b⟩
            clear k106
            refine l_istore rfl rfl rfl ?_
            refine l_aload_n rfl rfl ?_
            refine l_gfr rfl rfl rfl rfl rfl (hHT12.r 0 4 876 rfl) ?_
            refine l_callV rfl rfl rfl (t_to_endsBadly__b hHT12 _) ?_
            rintro _ _ ⟨rfl, z268, rfl, w268, v115_⟩
            show Rl _ _ _ _ _ [iv z268] _ _
            have v115 := v115_ trivial
            clear v115_
            refine l_if_eq rfl rfl (by unfold rg; omega) (fun w269 => ?_) (fun w270 => ?_)
            · refine l_aload_n rfl rfl ?_
              refine l_gfr rfl rfl rfl rfl rfl (hHT12.r 0 5 890 rfl) ?_
              refine l_callV rfl rfl rfl (t_gr_check__b hHT12 _) ?_
              rintro _ T13 ⟨hHT13, w284, z283, rfl, w283, hp0_144, hp1_144, hp3_144, hq0_144, hq1_144, g144⟩
              have hFT13 : FR md_rs_read__u S T13 := FR.tr hFT12 w284 rfl
              show Rl _ _ _ _ _ [iv z283] _ _
              have f144 : FR md_gr_check__b T12 T13 := by assumption
              have W144 : WI T13 := WI_FR hHT12 f144 rfl rfl rfl rfl rfl rfl rfl rfl rfl W103
              have t144 : TOK T13 := TOK_FR f144 rfl rfl rfl t103
              have y144 : ∀ j, Xi T13 877 j = Xi T12 877 j := fun j => (f144.cx 877 rfl j).1
              have r144 : Xi T13 876 7 = Xi T12 876 7 ∧ Xi T13 876 6 = Xi T12 876 6 := ⟨f144.x 876 7 rfl, f144.x 876 6 rfl⟩
              have c6_144 : Xi T13 876 6 = Xi T13 876 7 := by rw [r144.1, r144.2]; exact hc103
              have m144 : 1 ≤ Xi T13 876 7 := by rw [r144.1]; exact hm103
              have s144 : SRX T13 ∧ txr T13 = ts := srx_of ((w284 20 1 rfl).2.2.trans ((w241 20 1 rfl).2.2.trans h20_69)) htp
              have a144 : z283 = 1 → Xi T13 890 2 = 0 → Xi T13 877 (0 : Int).toNat = 102 ∧ 0 < Xi T13 876 7 := fun q e => ⟨by rw [y144]; exact (by assumption : z283 = 1 → Xi T13 890 2 = 0 → Xi T12 877 (0 : Int).toNat = 102) q e, by have t := (by assumption : z283 = 1 → Xi T13 890 2 = 0 → 0 < Xi T12 876 7) q e; omega⟩
              have b144 : z283 = 1 → Xi T13 890 2 = 1 → Xi T13 877 (1 : Int).toNat = 102 ∧ 1 < Xi T13 876 7 := fun q e => ⟨by rw [y144]; exact (by assumption : z283 = 1 → Xi T13 890 2 = 1 → Xi T12 877 (1 : Int).toNat = 102) q e, by have t := (by assumption : z283 = 1 → Xi T13 890 2 = 1 → 1 < Xi T12 876 7) q e; omega⟩
              have c144 : z283 = 1 → 3 ≤ Xi T13 890 2 → Xi T13 890 2 ≤ 6 → SAY T13 (Xi T13 876 6) ∧ Xi T13 877 (Xi T13 876 6 - 1).toNat = 103 := fun q e1 e2 => dot_end (n := Xi T13 876 7) m144 (nd_f f144 rfl n103 (by rw [r144.1]; exact Int.le_refl _)) (by have t := (by assumption : z283 = 1 → 3 ≤ Xi T13 890 2 → Xi T13 890 2 ≤ 6 → SAY T13 (Xi T13 890 1) ∧ 1 ≤ Xi T13 890 1 ∧ Xi T13 890 1 ≤ Xi T12 876 7 ∧ Xi T13 877 (Xi T13 890 1 - 1).toNat = 103) q e1 e2; exact ⟨t.1, t.2.1, by rw [r144.1]; exact t.2.2.1, t.2.2.2⟩) c6_144
              clear hp0_144 hp1_144 hp3_144 hq0_144 hq1_144
              have n144 : z283 = 0 ∨ z283 = 1 := by omega
              have D144 : Hid (CS1 ts T1 v4 T12 T13 zT aN z283) := ⟨C106.o, fun q => by have t := v115.2 q; omega, hHT13, f144, n144, g144, W144, t144, c6_144, s144⟩
              clear g144
              refine l_if_ne rfl rfl (by unfold rg; omega) (fun w285 => ?_) (fun w286 => ?_)
              · refine l_aload_n rfl rfl ?_
                refine l_gfr rfl rfl rfl rfl rfl (hHT13.r 0 5 890 rfl) ?_
                refine l_gfi rfl rfl rfl rfl rfl ?_
                have w287 : 0 ≤ (Xi T13 890 2) ∧ (Xi T13 890 2) ≤ 20 := hHT13.c _ _
                refine l_bipush rfl rfl ?_
                refine l_icmp_ge rfl rfl (by unfold rg; omega) (by unfold rg; omega) (fun w288 => ?_) (fun w289 => ?_)
                · refine l_aload_n rfl rfl ?_
                  refine l_gfr rfl rfl rfl rfl rfl (hHT13.r 0 6 891 rfl) ?_
                  have w290 : Xi T13 0 10 = Xi T1 0 10 := (show Xi T13 0 10 = Xi T12 0 10 from w284.x _ _ rfl).trans ((show Xi T12 0 10 = Xi T1 0 10 from w241.x _ _ rfl))
                  have w292 : Xi T13 876 5 = Xi T1 876 5 := (show Xi T13 876 5 = Xi T12 876 5 from w284.x _ _ rfl).trans ((show Xi T12 876 5 = Xi T1 876 5 from w241.x _ _ rfl))
                  have w294 : Xi T13 876 6 = Xi T12 876 6 := (show Xi T13 876 6 = Xi T12 876 6 from w284.x _ _ rfl)
                  have w296 : Xi T13 876 7 = Xi T12 876 7 := (show Xi T13 876 7 = Xi T12 876 7 from w284.x _ _ rfl)
                  have w298 : Xi T13 876 8 = Xi T1 876 8 := (show Xi T13 876 8 = Xi T12 876 8 from w284.x _ _ rfl).trans ((show Xi T12 876 8 = Xi T1 876 8 from w241.x _ _ rfl))
                  have w300 : 0 ≤ Xi T13 890 2 ∧ Xi T13 890 2 ≤ 20 := hHT13.c _ _
                  have w301 : Xi T13 900 4 = Xi T1 900 4 := (show Xi T13 900 4 = Xi T12 900 4 from w284.x _ _ rfl).trans ((show Xi T12 900 4 = Xi T1 900 4 from w241.x _ _ rfl))
                  refine l_callV rfl rfl rfl (t_re_tellSentence__b hHT13 (W144) (t144) (s144.1) _) ?_
                  rintro _ T14 ⟨hHT14, w304, z303, rfl, w303, ww196, ff196, t196⟩
                  have hFT14 : FR md_rs_read__u S T14 := FR.tr hFT13 w304 rfl
                  show Rl _ _ _ _ _ [iv z303] _ _
                  have W196 : Xi T14 876 8 = 0 → WI T14 := fun q => ww196 (by have u := ff196; omega)
                  have G196 : Hid (RTR S ts (v3 + 1) T14 aN) := rtr_s tr69.o (by omega) (cst_4 D144.o (by omega) (by omega) ⟨z303, (by assumption : FR md_re_tellSentence__b T13 T14), hHT14, by omega, ww196, ff196, t196⟩)
                  clear t196
                  refine l_pop rfl rfl ?_
                  refine l_goto rfl rfl ?_
                  have w305 : Xi T14 0 10 = Xi T1 0 10 := (show Xi T14 0 10 = Xi T13 0 10 from w304.x _ _ rfl).trans ( (show Xi T13 0 10 = Xi T12 0 10 from w284.x _ _ rfl).trans ((show Xi T12 0 10 = Xi T1 0 10 from w241.x _ _ rfl)))
                  have w307 : Xi T14 876 5 = Xi T1 876 5 := (show Xi T14 876 5 = Xi T13 876 5 from w304.x _ _ rfl).trans ( (show Xi T13 876 5 = Xi T12 876 5 from w284.x _ _ rfl).trans ((show Xi T12 876 5 = Xi T1 876 5 from w241.x _ _ rfl)))
                  have w309 : Xi T14 876 6 = Xi T12 876 6 := (show Xi T14 876 6 = Xi T13 876 6 from w304.x _ _ rfl).trans ((show Xi T13 876 6 = Xi T12 876 6 from w284.x _ _ rfl))
                  have w311 : Xi T14 876 7 = Xi T12 876 7 := (show Xi T14 876 7 = Xi T13 876 7 from w304.x _ _ rfl).trans ((show Xi T13 876 7 = Xi T12 876 7 from w284.x _ _ rfl))
                  have w313 : 0 ≤ Xi T14 876 8 ∧ Xi T14 876 8 ≤ 9 := hHT14.c _ _
                  have w314 : Xi T14 890 2 = Xi T13 890 2 := (show Xi T14 890 2 = Xi T13 890 2 from w304.x _ _ rfl)
                  have w316 : Xi T14 900 4 = Xi T1 900 4 := (show Xi T14 900 4 = Xi T13 900 4 from w304.x _ _ rfl).trans ( (show Xi T13 900 4 = Xi T12 900 4 from w284.x _ _ rfl).trans ((show Xi T12 900 4 = Xi T1 900 4 from w241.x _ _ rfl)))
                  exact Rl_weak (ih69 _ (by omega) T14 hHT14 hFT14 (v1) ((v3 + 1)) (z255) (⟨by omega, by omega⟩) (⟨by omega, by omega⟩) (⟨by omega, by omega⟩) (((w304 876 4 rfl).2.2.trans ((w284 876 4 rfl).2.2.trans ((w241 876 4 rfl).2.2.trans h76_69)))) (((w304 20 1 rfl).2.2.trans ((w284 20 1 rfl).2.2.trans ((w241 20 1 rfl).2.2.trans h20_69)))) (((w304 0 8 rfl).2.2.trans ((w284 0 8 rfl).2.2.trans ((w241 0 8 rfl).2.2.trans h08_69)))) (((w304 0 9 rfl).2.2.trans ((w284 0 9 rfl).2.2.trans ((w241 0 9 rfl).2.2.trans h09_69)))) (by omega) (by omega) (by first | exact W133 | exact W162 | exact W185 | exact W196 | exact fun _ => W54) (by first | exact R64 | (rw [← eN]; first | exact G133 | exact G162 | exact G185 | exact G196)) (by omega) (by omega) rfl) (And.intro rfl (And.intro rfl (And.intro rfl (And.intro rfl (True.intro)))))
                · refine l_aload_n rfl rfl ?_
                  refine l_gfr rfl rfl rfl rfl rfl (hHT13.r 0 6 891 rfl) ?_
                  have w318 : Xi T13 0 10 = Xi T1 0 10 := (show Xi T13 0 10 = Xi T12 0 10 from w284.x _ _ rfl).trans ((show Xi T12 0 10 = Xi T1 0 10 from w241.x _ _ rfl))
                  have w320 : Xi T13 876 5 = Xi T1 876 5 := (show Xi T13 876 5 = Xi T12 876 5 from w284.x _ _ rfl).trans ((show Xi T12 876 5 = Xi T1 876 5 from w241.x _ _ rfl))
                  have w322 : Xi T13 876 6 = Xi T12 876 6 := (show Xi T13 876 6 = Xi T12 876 6 from w284.x _ _ rfl)
                  have w324 : Xi T13 876 7 = Xi T12 876 7 := (show Xi T13 876 7 = Xi T12 876 7 from w284.x _ _ rfl)
                  have w326 : Xi T13 876 8 = Xi T1 876 8 := (show Xi T13 876 8 = Xi T12 876 8 from w284.x _ _ rfl).trans ((show Xi T12 876 8 = Xi T1 876 8 from w241.x _ _ rfl))
                  have w328 : 0 ≤ Xi T13 890 2 ∧ Xi T13 890 2 ≤ 20 := hHT13.c _ _
                  have w329 : Xi T13 900 4 = Xi T1 900 4 := (show Xi T13 900 4 = Xi T12 900 4 from w284.x _ _ rfl).trans ((show Xi T12 900 4 = Xi T1 900 4 from w241.x _ _ rfl))
                  refine l_callV rfl rfl rfl (t_re_beginSentence__b hHT13 ts ((w284 876 4 rfl).2.2.trans ((w241 876 4 rfl).2.2.trans h76_69)) htp (W144) (t144) (s144.1) (s144.2.symm) (by first | assumption | omega) (a144 (by omega)) (b144 (by omega)) (fun e1 e2 => (c144 (by omega) e1 e2).1) (fun e1 e2 => (c144 (by omega) e1 e2).2) (by first | assumption | omega) (by first | assumption | omega) _) ?_
                  rintro _ T15 ⟨hHT15, w332, z331, rfl, w331, ww185, ff185, b185⟩
                  have hFT15 : FR md_rs_read__u S T15 := FR.tr hFT13 w332 rfl
                  show Rl _ _ _ _ _ [iv z331] _ _
                  have W185 : Xi T15 876 8 = 0 → WI T15 := fun q => ww185 (by have u := ff185; omega)
                  have G185 : Hid (RTR S ts (v3 + 1) T15 aN) := rtr_s tr69.o (by omega) (cst_3 D144.o (by omega) (by omega) ⟨z331, (by assumption : FR md_re_beginSentence__b T13 T15), hHT15, by omega, ww185, ff185, b185⟩)
                  clear b185
                  refine l_pop rfl rfl ?_
                  refine l_goto rfl rfl ?_
                  have w333 : Xi T15 0 10 = Xi T1 0 10 := (show Xi T15 0 10 = Xi T13 0 10 from w332.x _ _ rfl).trans ( (show Xi T13 0 10 = Xi T12 0 10 from w284.x _ _ rfl).trans ((show Xi T12 0 10 = Xi T1 0 10 from w241.x _ _ rfl)))
                  have w335 : Xi T15 876 5 = Xi T1 876 5 := (show Xi T15 876 5 = Xi T13 876 5 from w332.x _ _ rfl).trans ( (show Xi T13 876 5 = Xi T12 876 5 from w284.x _ _ rfl).trans ((show Xi T12 876 5 = Xi T1 876 5 from w241.x _ _ rfl)))
                  have w337 : Xi T15 876 6 = Xi T12 876 6 := (show Xi T15 876 6 = Xi T13 876 6 from w332.x _ _ rfl).trans ((show Xi T13 876 6 = Xi T12 876 6 from w284.x _ _ rfl))
                  have w339 : 0 ≤ Xi T15 876 7 ∧ Xi T15 876 7 ≤ 5125 := hHT15.c _ _
                  have w340 : 0 ≤ Xi T15 876 8 ∧ Xi T15 876 8 ≤ 9 := hHT15.c _ _
                  have w341 : Xi T15 890 2 = Xi T13 890 2 := (show Xi T15 890 2 = Xi T13 890 2 from w332.x _ _ rfl)
                  have w343 : Xi T15 900 4 = Xi T1 900 4 := (show Xi T15 900 4 = Xi T13 900 4 from w332.x _ _ rfl).trans ( (show Xi T13 900 4 = Xi T12 900 4 from w284.x _ _ rfl).trans ((show Xi T12 900 4 = Xi T1 900 4 from w241.x _ _ rfl)))
                  exact Rl_weak (ih69 _ (by omega) T15 hHT15 hFT15 (v1) ((v3 + 1)) (z255) (⟨by omega, by omega⟩) (⟨by omega, by omega⟩) (⟨by omega, by omega⟩) (((w332 876 4 rfl).2.2.trans ((w284 876 4 rfl).2.2.trans ((w241 876 4 rfl).2.2.trans h76_69)))) (((w332 20 1 rfl).2.2.trans ((w284 20 1 rfl).2.2.trans ((w241 20 1 rfl).2.2.trans h20_69)))) (((w332 0 8 rfl).2.2.trans ((w284 0 8 rfl).2.2.trans ((w241 0 8 rfl).2.2.trans h08_69)))) (((w332 0 9 rfl).2.2.trans ((w284 0 9 rfl).2.2.trans ((w241 0 9 rfl).2.2.trans h09_69)))) (by omega) (by omega) (by first | exact W133 | exact W162 | exact W185 | exact W196 | exact fun _ => W54) (by first | exact R64 | (rw [← eN]; first | exact G133 | exact G162 | exact G185 | exact G196)) (by omega) (by omega) rfl) (And.intro rfl (And.intro rfl (And.intro rfl (And.intro rfl (True.intro)))))
              · refine l_aload_n rfl rfl ?_
                refine l_gfr rfl rfl rfl rfl rfl (hHT13.r 0 4 876 rfl) ?_
                refine l_iconst rfl ?_
                refine l_aload_n rfl rfl ?_
                refine l_gfr rfl rfl rfl rfl rfl (hHT13.r 0 5 890 rfl) ?_
                refine l_gfi rfl rfl rfl rfl rfl ?_
                have w345 : 0 ≤ (Xi T13 890 1) ∧ (Xi T13 890 1) ≤ 5126 := hHT13.c _ _
                have w346 : Xi T13 0 10 = Xi T1 0 10 := (show Xi T13 0 10 = Xi T12 0 10 from w284.x _ _ rfl).trans ((show Xi T12 0 10 = Xi T1 0 10 from w241.x _ _ rfl))
                have w348 : Xi T13 876 5 = Xi T1 876 5 := (show Xi T13 876 5 = Xi T12 876 5 from w284.x _ _ rfl).trans ((show Xi T12 876 5 = Xi T1 876 5 from w241.x _ _ rfl))
                have w350 : Xi T13 876 6 = Xi T12 876 6 := (show Xi T13 876 6 = Xi T12 876 6 from w284.x _ _ rfl)
                have w352 : Xi T13 876 7 = Xi T12 876 7 := (show Xi T13 876 7 = Xi T12 876 7 from w284.x _ _ rfl)
                have w354 : Xi T13 876 8 = Xi T1 876 8 := (show Xi T13 876 8 = Xi T12 876 8 from w284.x _ _ rfl).trans ((show Xi T12 876 8 = Xi T1 876 8 from w241.x _ _ rfl))
                have w356 : Xi T13 876 9 = Xi T1 876 9 := (show Xi T13 876 9 = Xi T12 876 9 from w284.x _ _ rfl).trans ((show Xi T12 876 9 = Xi T1 876 9 from w241.x _ _ rfl))
                have w357 : 0 ≤ Xi T1 876 9 ∧ Xi T1 876 9 ≤ 5000 := hHT1.c _ _
                have w358 : 0 ≤ Xi T13 890 2 ∧ Xi T13 890 2 ≤ 20 := hHT13.c _ _
                have w359 : Xi T13 900 4 = Xi T1 900 4 := (show Xi T13 900 4 = Xi T12 900 4 from w284.x _ _ rfl).trans ((show Xi T12 900 4 = Xi T1 900 4 from w241.x _ _ rfl))
                refine l_callV rfl rfl rfl (t_to_wrong__b hHT13 2 (Xi T13 890 1) ⟨by omega, by omega⟩ ⟨by omega, by omega⟩ _) ?_
                rintro _ T16 ⟨hHT16, w364, z363, rfl, w363, w361, w362, w162⟩
                have hFT16 : FR md_rs_read__u S T16 := FR.tr hFT13 w364 rfl
                show Rl _ _ _ _ _ [iv z363] _ _
                have W162 : Xi T16 876 8 = 0 → WI T16 := fun q => by omega
                have G162 : Hid (RTR S ts (v3 + 1) T16 aN) := rtr_s tr69.o (by omega) (cst_2 D144.o (by omega) ⟨(by assumption : FR md_to_wrong__b T13 T16), hHT16, w162 trivial⟩)
                clear w162
                refine l_pop rfl rfl ?_
                refine l_goto rfl rfl ?_
                have w365 : Xi T16 0 10 = Xi T1 0 10 := (show Xi T16 0 10 = Xi T13 0 10 from w364.x _ _ rfl).trans ( (show Xi T13 0 10 = Xi T12 0 10 from w284.x _ _ rfl).trans ((show Xi T12 0 10 = Xi T1 0 10 from w241.x _ _ rfl)))
                have w367 : Xi T16 876 5 = Xi T1 876 5 := (show Xi T16 876 5 = Xi T13 876 5 from w364.x _ _ rfl).trans ( (show Xi T13 876 5 = Xi T12 876 5 from w284.x _ _ rfl).trans ((show Xi T12 876 5 = Xi T1 876 5 from w241.x _ _ rfl)))
                have w369 : Xi T16 876 6 = Xi T12 876 6 := (show Xi T16 876 6 = Xi T13 876 6 from w364.x _ _ rfl).trans ((show Xi T13 876 6 = Xi T12 876 6 from w284.x _ _ rfl))
                have w371 : Xi T16 876 7 = Xi T12 876 7 := (show Xi T16 876 7 = Xi T13 876 7 from w364.x _ _ rfl).trans ((show Xi T13 876 7 = Xi T12 876 7 from w284.x _ _ rfl))
                have w373 : 0 ≤ Xi T16 876 8 ∧ Xi T16 876 8 ≤ 9 := hHT16.c _ _
                have w374 : Xi T16 890 2 = Xi T13 890 2 := (show Xi T16 890 2 = Xi T13 890 2 from w364.x _ _ rfl)
                have w376 : Xi T16 900 4 = Xi T1 900 4 := (show Xi T16 900 4 = Xi T13 900 4 from w364.x _ _ rfl).trans ( (show Xi T13 900 4 = Xi T12 900 4 from w284.x _ _ rfl).trans ((show Xi T12 900 4 = Xi T1 900 4 from w241.x _ _ rfl)))
                exact Rl_weak (ih69 _ (by omega) T16 hHT16 hFT16 (v1) ((v3 + 1)) (z255) (⟨by omega, by omega⟩) (⟨by omega, by omega⟩) (⟨by omega, by omega⟩) (((w364 876 4 rfl).2.2.trans ((w284 876 4 rfl).2.2.trans ((w241 876 4 rfl).2.2.trans h76_69)))) (((w364 20 1 rfl).2.2.trans ((w284 20 1 rfl).2.2.trans ((w241 20 1 rfl).2.2.trans h20_69)))) (((w364 0 8 rfl).2.2.trans ((w284 0 8 rfl).2.2.trans ((w241 0 8 rfl).2.2.trans h08_69)))) (((w364 0 9 rfl).2.2.trans ((w284 0 9 rfl).2.2.trans ((w241 0 9 rfl).2.2.trans h09_69)))) (by omega) (by omega) (by first | exact W133 | exact W162 | exact W185 | exact W196 | exact fun _ => W54) (by first | exact R64 | (rw [← eN]; first | exact G133 | exact G162 | exact G185 | exact G196)) (by omega) (by omega) rfl) (And.intro rfl (And.intro rfl (And.intro rfl (And.intro rfl (True.intro)))))
            · refine l_aload_n rfl rfl ?_
              refine l_gfr rfl rfl rfl rfl rfl (hHT12.r 0 4 876 rfl) ?_
              refine l_iconst rfl ?_
              refine l_aload_n rfl rfl ?_
              refine l_gfr rfl rfl rfl rfl rfl (hHT12.r 0 4 876 rfl) ?_
              refine l_callV rfl rfl rfl (t_to_lastRow hHT12 _) ?_
              rintro _ _ ⟨rfl, z390, rfl, w390, l130⟩
              show Rl _ _ _ _ _ [iv z390, iv 1, .ref 876] _ _
              have w399 : Xi T12 876 9 = Xi T1 876 9 := (show Xi T12 876 9 = Xi T1 876 9 from w241.x _ _ rfl)
              have w400 : 0 ≤ Xi T1 876 9 ∧ Xi T1 876 9 ≤ 5000 := hHT1.c _ _
              refine l_callV rfl rfl rfl (t_to_wrong__b hHT12 1 z390 ⟨by omega, by omega⟩ ⟨by omega, by omega⟩ _) ?_
              rintro _ T17 ⟨hHT17, w408, z407, rfl, w407, w405, w406, w133⟩
              have hFT17 : FR md_rs_read__u S T17 := FR.tr hFT12 w408 rfl
              show Rl _ _ _ _ _ [iv z407] _ _
              have W133 : Xi T17 876 8 = 0 → WI T17 := fun q => by omega
              have G133 : Hid (RTR S ts (v3 + 1) T17 aN) := rtr_s tr69.o (by omega) (cst_1 C106.o (v115.1 (by omega)) ⟨(by assumption : FR md_to_wrong__b T12 T17), hHT17, by have t := w133 trivial; rw [l130] at t; exact t⟩)
              clear w133
              refine l_pop rfl rfl ?_
              refine l_goto rfl rfl ?_
              have w409 : Xi T17 0 10 = Xi T1 0 10 := (show Xi T17 0 10 = Xi T12 0 10 from w408.x _ _ rfl).trans ((show Xi T12 0 10 = Xi T1 0 10 from w241.x _ _ rfl))
              have w411 : Xi T17 876 5 = Xi T1 876 5 := (show Xi T17 876 5 = Xi T12 876 5 from w408.x _ _ rfl).trans ((show Xi T12 876 5 = Xi T1 876 5 from w241.x _ _ rfl))
              have w413 : Xi T17 876 6 = Xi T12 876 6 := (show Xi T17 876 6 = Xi T12 876 6 from w408.x _ _ rfl)
              have w415 : Xi T17 876 7 = Xi T12 876 7 := (show Xi T17 876 7 = Xi T12 876 7 from w408.x _ _ rfl)
              have w417 : 0 ≤ Xi T17 876 8 ∧ Xi T17 876 8 ≤ 9 := hHT17.c _ _
              have w418 : Xi T17 890 2 = Xi T1 890 2 := (show Xi T17 890 2 = Xi T12 890 2 from w408.x _ _ rfl).trans ((show Xi T12 890 2 = Xi T1 890 2 from w241.x _ _ rfl))
              have w420 : Xi T17 900 4 = Xi T1 900 4 := (show Xi T17 900 4 = Xi T12 900 4 from w408.x _ _ rfl).trans ((show Xi T12 900 4 = Xi T1 900 4 from w241.x _ _ rfl))
              exact Rl_weak (ih69 _ (by omega) T17 hHT17 hFT17 (v1) ((v3 + 1)) (z255) (⟨by omega, by omega⟩) (⟨by omega, by omega⟩) (⟨by omega, by omega⟩) (((w408 876 4 rfl).2.2.trans ((w241 876 4 rfl).2.2.trans h76_69))) (((w408 20 1 rfl).2.2.trans ((w241 20 1 rfl).2.2.trans h20_69))) (((w408 0 8 rfl).2.2.trans ((w241 0 8 rfl).2.2.trans h08_69))) (((w408 0 9 rfl).2.2.trans ((w241 0 9 rfl).2.2.trans h09_69))) (by omega) (by omega) (by first | exact W133 | exact W162 | exact W185 | exact W196 | exact fun _ => W54) (by first | exact R64 | (rw [← eN]; first | exact G133 | exact G162 | exact G185 | exact G196)) (by omega) (by omega) rfl) (And.intro rfl (And.intro rfl (And.intro rfl (And.intro rfl (True.intro)))))
  refine l_aload_n rfl rfl ?_
  refine l_callV rfl rfl rfl (t_rs_wipe hH _) ?_
  rintro _ T18 ⟨hHT18, w431, z430, rfl, w430, w429⟩
  have hFT18 : FR md_rs_read__u S T18 := FR.tr hF w431 rfl
  show Rl _ _ _ _ _ [iv z430] _ _
  refine l_istore_n rfl rfl rfl ?_
  refine l_aload_n rfl rfl ?_
  refine l_gfr rfl rfl rfl rfl rfl ((w431 0 9 rfl).2.2.trans h9) ?_
  refine l_astore_n rfl rfl rfl ?_
  refine l_aload_n rfl rfl ?_
  refine l_aload_n rfl rfl ?_
  refine l_gfr rfl rfl rfl rfl rfl ((w431 0 8 rfl).2.2.trans h8) ?_
  refine l_pfr rfl rfl rfl rfl ?_
  obtain ⟨U19, eU19⟩ : ∃ T : sS, T = uR T18 0 9 (some ts) := ⟨_, rfl⟩
  rw [← eU19]
  have hHU19 : HI U19 := by rw [eU19]; exact HI_R hHT18 rfl rfl (fun q => absurd q.2 (by decide)) (fun _ => ⟨_, rfl, by first | assumption | (right; assumption) | omega⟩) (fun q => absurd q.1 (by decide)) (fun q => absurd q.1 (by decide)) (fun q => absurd q.1 (by decide))
  have hFU19 : FR md_rs_read__u S U19 := by rw [eU19]; exact FR.wR hFT18 (mdf_i (r := (0, 1, 9, 10)) (List.mem_of_getElem? (i := 1) rfl) (inR_i (by omega) (by omega) (by omega) (by omega)))
  refine l_aload_n rfl rfl ?_
  refine l_aload_n rfl rfl ?_
  refine l_pfr rfl rfl rfl rfl ?_
  obtain ⟨U20, eU20⟩ : ∃ T : sS, T = uR U19 0 8 (some tq) := ⟨_, rfl⟩
  rw [← eU20]
  have hHU20 : HI U20 := by rw [eU20]; exact HI_R hHU19 rfl rfl (fun _ => ⟨_, rfl, by first | assumption | (right; assumption) | omega⟩) (fun q => absurd q.2 (by decide)) (fun q => absurd q.1 (by decide)) (fun q => absurd q.1 (by decide)) (fun q => absurd q.1 (by decide))
  have hFU20 : FR md_rs_read__u S U20 := by rw [eU20]; exact FR.wR hFU19 (mdf_i (r := (0, 1, 8, 9)) (List.mem_of_getElem? (i := 0) rfl) (inR_i (by omega) (by omega) (by omega) (by omega)))
  refine l_aload_n rfl rfl ?_
  refine l_gfr rfl rfl rfl rfl rfl (hHU20.r 0 7 900 rfl) ?_
  have w446 : Xi U20 900 4 = Xi S 900 4 := (show Xi U20 900 4 = Xi U19 900 4 from by rw [eU20]; rfl).trans ( (show Xi U19 900 4 = Xi T18 900 4 from by rw [eU19]; rfl).trans ((show Xi T18 900 4 = Xi S 900 4 from w431.x _ _ rfl)))
  refine l_callV rfl rfl rfl (t_tu_empty__q hHU20 _) ?_
  rintro _ T21 ⟨hHT21, w450, rfl, w448⟩
  have hFT21 : FR md_rs_read__u S T21 := FR.tr hFU20 w450 rfl
  show Rl _ _ _ _ _ [] _ _
  refine l_aload_n rfl rfl ?_
  refine l_callV rfl rfl rfl (t_rs_startAgain__b hHT21 _) ?_
  rintro _ T22 ⟨hHT22, w467, rfl, w464, w465, ev31⟩
  have hFT22 : FR md_rs_read__u S T22 := FR.tr hFT21 w467 rfl
  show Rl _ _ _ _ _ [] _ _
  have W31 : WI T22 := by assumption
  have r31 : Xi T22 246 2 = 0 := by assumption
  have f31 : FR md_rs_startAgain__b T21 T22 := by assumption
  have h31 := hHT21
  have g31 : Hid (∃ A : sS, HI A ∧ EVR m_rs_startAgain [.ref 0] A none T22 ∧ FR md_rs_startAgain__b A T22) := ⟨_, hHT21, ev31, f31⟩
  clear ev31
  refine l_aload_n rfl rfl ?_
  refine l_gfr rfl rfl rfl rfl rfl (hHT22.r 0 1 20 rfl) ?_
  refine l_aload_n rfl rfl ?_
  refine l_gfr rfl rfl rfl rfl rfl ((w467 0 9 rfl).2.2.trans ((w450 0 9 rfl).2.2.trans ((show U20.2.2 0 9 = U19.2.2 0 9 from by rw [eU20]; exact uR_o (by decide)).trans (show U19.2.2 0 9 = some ts from by rw [eU19]; exact uR_s)))) ?_
  refine l_pfr rfl rfl rfl rfl ?_
  obtain ⟨U23, eU23⟩ : ∃ T : sS, T = uR T22 20 1 (some ts) := ⟨_, rfl⟩
  rw [← eU23]
  have hHU23 : HI U23 := by rw [eU23]; exact HI_R hHT22 rfl rfl (fun q => absurd q.1 (by decide)) (fun q => absurd q.1 (by decide)) (fun _ => ⟨_, rfl, by first | assumption | (right; assumption) | omega⟩) (fun q => absurd q.1 (by decide)) (fun q => absurd q.1 (by decide))
  have hFU23 : FR md_rs_read__u S U23 := by rw [eU23]; exact FR.wR hFT22 (mdf_i (r := (20, 21, 1, 2)) (List.mem_of_getElem? (i := 23) rfl) (inR_i (by omega) (by omega) (by omega) (by omega)))
  have W42 : WI U23 := WI_tx eU23 htp r31 W31
  have g42 : U23 = uR T22 20 1 (some ts) := eU23
  refine l_aload_n rfl rfl ?_
  refine l_gfr rfl rfl rfl rfl rfl (hHU23.r 0 4 876 rfl) ?_
  refine l_aload_n rfl rfl ?_
  refine l_gfr rfl rfl rfl rfl rfl ((show U23.2.2 0 9 = T22.2.2 0 9 from by rw [eU23]; exact uR_o (by decide)).trans ((w467 0 9 rfl).2.2.trans ((w450 0 9 rfl).2.2.trans ((show U20.2.2 0 9 = U19.2.2 0 9 from by rw [eU20]; exact uR_o (by decide)).trans (show U19.2.2 0 9 = some ts from by rw [eU19]; exact uR_s))))) ?_
  refine l_iload_n rfl rfl ?_
  have w472 : Xi U23 876 5 = Xi S 876 5 := (show Xi U23 876 5 = Xi T22 876 5 from by rw [eU23]; rfl).trans ( (show Xi T22 876 5 = Xi T21 876 5 from w467.x _ _ rfl).trans ( (show Xi T21 876 5 = Xi U20 876 5 from w450.x _ _ rfl).trans ( (show Xi U20 876 5 = Xi U19 876 5 from by rw [eU20]; rfl).trans ( (show Xi U19 876 5 = Xi T18 876 5 from by rw [eU19]; rfl).trans ((show Xi T18 876 5 = Xi S 876 5 from w431.x _ _ rfl))))))
  have w478 : Xi U23 876 8 = Xi S 876 8 := (show Xi U23 876 8 = Xi T22 876 8 from by rw [eU23]; rfl).trans ( (show Xi T22 876 8 = Xi T21 876 8 from w467.x _ _ rfl).trans ( (show Xi T21 876 8 = Xi U20 876 8 from w450.x _ _ rfl).trans ( (show Xi U20 876 8 = Xi U19 876 8 from by rw [eU20]; rfl).trans ( (show Xi U19 876 8 = Xi T18 876 8 from by rw [eU19]; rfl).trans ((show Xi T18 876 8 = Xi S 876 8 from w431.x _ _ rfl))))))
  refine l_callV rfl rfl rfl (t_to_open hHU23 ts z430 htp ⟨by omega, by omega⟩ _) ?_
  rintro _ T24 ⟨hHT24, w487, rfl, w484, w485⟩
  have hFT24 : FR md_rs_read__u S T24 := FR.tr hFU23 w487 rfl
  show Rl _ _ _ _ _ [] _ _
  have h54 : T24.2.2 876 4 = some ts := by assumption
  have W54 : WI T24 := WI_FR hHU23 (by assumption : FR md_to_open U23 T24) rfl rfl rfl rfl rfl rfl rfl rfl rfl W42
  have f54 : FR md_to_open U23 T24 := by assumption
  have g54 : Hid (OPN T24 ts) := ⟨T22, U23, g31.o, g42, f54⟩
  refine l_iconst rfl ?_
  refine l_istore_n rfl rfl rfl ?_
  refine l_aload_n rfl rfl ?_
  refine l_gfr rfl rfl rfl rfl rfl (hHT24.r 0 4 876 rfl) ?_
  refine l_iconst rfl ?_
  have w490 : 0 ≤ Xi T24 876 5 ∧ Xi T24 876 5 ≤ 5000 := hHT24.c _ _
  refine l_callV rfl rfl rfl (t_to_skip__f hHT24 ts 0 ⟨by omega, by omega⟩ h54 htp (by first | assumption | omega) _) ?_
  rintro _ _ ⟨rfl, z501, rfl, w501, w500, k64⟩
  show Rl _ _ _ _ _ [iv z501] _ _
  have k64b : z501 = sk7 (Xi T24 ts) (Xi T24 876 5) 0 := k64
  have R64 : Hid (RTR S ts 0 T24 z501) := ⟨T24, _, Int.le_refl _, ⟨hHT24, h54, ((w487 20 1 rfl).2.2.trans (show U23.2.2 20 1 = some ts from by rw [eU23]; exact uR_s))⟩, g54.o, by omega, by omega, k64b, rfl, rfl⟩
  refine l_istore rfl rfl rfl ?_
  have w502 : Xi T24 0 10 = Xi T18 0 10 := (show Xi T24 0 10 = Xi U23 0 10 from w487.x _ _ rfl).trans ( (show Xi U23 0 10 = Xi T22 0 10 from by rw [eU23]; rfl).trans ( (show Xi T22 0 10 = Xi T21 0 10 from w467.x _ _ rfl).trans ( (show Xi T21 0 10 = Xi U20 0 10 from w450.x _ _ rfl).trans ( (show Xi U20 0 10 = Xi U19 0 10 from by rw [eU20]; rfl).trans ((show Xi U19 0 10 = Xi T18 0 10 from by rw [eU19]; rfl))))))
  have w503 : 0 ≤ Xi T18 0 10 ∧ Xi T18 0 10 ≤ 5000 := hHT18.c _ _
  have w505 : Xi T24 876 6 = Xi S 876 6 := (show Xi T24 876 6 = Xi U23 876 6 from w487.x _ _ rfl).trans ( (show Xi U23 876 6 = Xi T22 876 6 from by rw [eU23]; rfl).trans ( (show Xi T22 876 6 = Xi T21 876 6 from w467.x _ _ rfl).trans ( (show Xi T21 876 6 = Xi U20 876 6 from w450.x _ _ rfl).trans ( (show Xi U20 876 6 = Xi U19 876 6 from by rw [eU20]; rfl).trans ( (show Xi U19 876 6 = Xi T18 876 6 from by rw [eU19]; rfl).trans ((show Xi T18 876 6 = Xi S 876 6 from w431.x _ _ rfl)))))))
  have w506 : 0 ≤ Xi S 876 6 ∧ Xi S 876 6 ≤ 5002 := hH.c _ _
  have w507 : Xi T24 876 7 = Xi S 876 7 := (show Xi T24 876 7 = Xi U23 876 7 from w487.x _ _ rfl).trans ( (show Xi U23 876 7 = Xi T22 876 7 from by rw [eU23]; rfl).trans ( (show Xi T22 876 7 = Xi T21 876 7 from w467.x _ _ rfl).trans ( (show Xi T21 876 7 = Xi U20 876 7 from w450.x _ _ rfl).trans ( (show Xi U20 876 7 = Xi U19 876 7 from by rw [eU20]; rfl).trans ( (show Xi U19 876 7 = Xi T18 876 7 from by rw [eU19]; rfl).trans ((show Xi T18 876 7 = Xi S 876 7 from w431.x _ _ rfl)))))))
  have w508 : 0 ≤ Xi S 876 7 ∧ Xi S 876 7 ≤ 5125 := hH.c _ _
  have w509 : 0 ≤ Xi T24 876 8 ∧ Xi T24 876 8 ≤ 9 := hHT24.c _ _
  have w510 : Xi T24 890 2 = Xi S 890 2 := (show Xi T24 890 2 = Xi U23 890 2 from w487.x _ _ rfl).trans ( (show Xi U23 890 2 = Xi T22 890 2 from by rw [eU23]; rfl).trans ( (show Xi T22 890 2 = Xi T21 890 2 from w467.x _ _ rfl).trans ( (show Xi T21 890 2 = Xi U20 890 2 from w450.x _ _ rfl).trans ( (show Xi U20 890 2 = Xi U19 890 2 from by rw [eU20]; rfl).trans ( (show Xi U19 890 2 = Xi T18 890 2 from by rw [eU19]; rfl).trans ((show Xi T18 890 2 = Xi S 890 2 from w431.x _ _ rfl)))))))
  have w511 : 0 ≤ Xi S 890 2 ∧ Xi S 890 2 ≤ 20 := hH.c _ _
  have w512 : Xi T24 900 4 = Xi T21 900 4 := (show Xi T24 900 4 = Xi U23 900 4 from w487.x _ _ rfl).trans ( (show Xi U23 900 4 = Xi T22 900 4 from by rw [eU23]; rfl).trans ((show Xi T22 900 4 = Xi T21 900 4 from w467.x _ _ rfl)))
  have w513 : 0 ≤ Xi T21 900 4 ∧ Xi T21 900 4 ≤ 2000 := hHT21.c _ _
  exact Rl_weak (C69 _ T24 hHT24 hFT24 (z430) (0) (z501) (⟨by omega, by omega⟩) (⟨by omega, by omega⟩) (⟨by omega, by omega⟩) (h54) (((w487 20 1 rfl).2.2.trans (show U23.2.2 20 1 = some ts from by rw [eU23]; exact uR_s))) (((w487 0 8 rfl).2.2.trans ((show U23.2.2 0 8 = T22.2.2 0 8 from by rw [eU23]; exact uR_o (by decide)).trans ((w467 0 8 rfl).2.2.trans ((w450 0 8 rfl).2.2.trans (show U20.2.2 0 8 = some tq from by rw [eU20]; exact uR_s)))))) (((w487 0 9 rfl).2.2.trans ((show U23.2.2 0 9 = T22.2.2 0 9 from by rw [eU23]; exact uR_o (by decide)).trans ((w467 0 9 rfl).2.2.trans ((w450 0 9 rfl).2.2.trans ((show U20.2.2 0 9 = U19.2.2 0 9 from by rw [eU20]; exact uR_o (by decide)).trans (show U19.2.2 0 9 = some ts from by rw [eU19]; exact uR_s))))))) (by omega) (by omega) (by first | exact W133 | exact W162 | exact W185 | exact W196 | exact fun _ => W54) (by first | exact R64 | (rw [← eN]; first | exact G133 | exact G162 | exact G185 | exact G196)) (by omega) (by omega) rfl) (And.intro rfl (And.intro rfl (And.intro rfl (And.intro rfl (True.intro)))))
def md_mo_read__u : List rec := [(904, 905, 1, 2), (904, 905, 3, 4), (904, 905, 8, 9), (904, 905, 15, 16), (904, 905, 16, 17), (904, 905, 18, 19), (904, 905, 19, 20), (904, 905, 23, 24), (904, 905, 30, 31), (904, 905, 32, 33), (904, 905, 41, 42), (904, 905, 47, 48), (904, 905, 49, 50), (904, 905, 51, 52), (904, 905, 55, 56), (904, 905, 60, 61), (904, 905, 61, 62), (904, 905, 62, 63), (904, 905, 63, 64), (904, 905, 64, 65), (904, 905, 65, 66), (904, 905, 66, 67), (904, 905, 69, 70), (904, 905, 70, 71), (904, 905, 71, 72), (904, 905, 72, 73), (904, 905, 73, 74), (904, 905, 74, 75), (904, 905, 75, 76), (904, 905, 76, 77), (904, 905, 77, 78), (904, 905, 78, 79), (904, 905, 79, 80), (904, 905, 80, 81), (904, 905, 81, 82), (904, 905, 93, 94), (904, 905, 94, 95), (904, 905, 98, 99), (904, 905, 99, 100), (904, 905, 100, 101), (904, 905, 101, 102), (904, 905, 102, 103), (904, 905, 103, 104), (904, 905, 104, 105), (904, 905, 105, 106), (904, 905, 106, 107), (904, 905, 108, 109), (904, 905, 109, 110), (904, 905, 110, 111), (904, 905, 112, 113), (904, 905, 113, 114), (904, 905, 115, 116), (904, 905, 116, 117), (904, 905, 117, 118), (904, 905, 125, 126), (904, 905, 128, 129), (904, 905, 129, 130), (904, 905, 130, 131), (904, 905, 142, 143), (904, 905, 144, 145), (904, 905, 146, 147), (904, 905, 147, 148), (904, 905, 150, 151), (904, 905, 151, 152), (904, 905, 153, 154), (904, 905, 154, 155), (904, 905, 156, 157), (904, 905, 157, 158), (904, 905, 158, 159), (904, 905, 160, 161), (906, 907, 0, 100000), (907, 908, 0, 100000), (908, 909, 0, 100000), (909, 910, 0, 100000), (910, 911, 0, 100000), (912, 913, 0, 100000), (913, 914, 0, 100000), (914, 915, 0, 100000), (915, 916, 0, 100000), (916, 917, 0, 100000), (917, 918, 0, 100000), (918, 919, 0, 100000), (919, 920, 0, 100000), (920, 921, 0, 100000), (921, 922, 0, 100000), (922, 923, 0, 100000), (923, 924, 0, 100000), (924, 925, 0, 100000), (925, 926, 0, 100000), (926, 927, 0, 100000), (927, 928, 0, 100000), (928, 929, 0, 100000), (929, 930, 0, 100000), (930, 931, 0, 100000), (931, 932, 0, 100000), (932, 933, 0, 100000), (933, 934, 0, 100000), (934, 935, 0, 100000), (935, 936, 0, 100000), (936, 937, 0, 100000), (937, 938, 0, 100000), (938, 939, 0, 100000), (939, 940, 0, 100000), (940, 941, 0, 100000), (941, 942, 0, 100000), (942, 943, 0, 100000), (943, 944, 0, 100000), (944, 945, 0, 100000), (945, 946, 0, 100000), (946, 947, 0, 100000), (947, 948, 0, 100000), (948, 949, 0, 100000), (949, 950, 0, 100000), (950, 951, 0, 100000), (951, 952, 0, 100000), (952, 953, 0, 100000), (953, 954, 0, 100000), (954, 955, 0, 100000), (955, 956, 0, 100000), (956, 957, 0, 100000), (957, 958, 0, 100000), (958, 959, 0, 100000), (959, 960, 0, 100000), (960, 961, 0, 100000), (961, 962, 0, 100000), (962, 963, 0, 100000), (963, 964, 0, 100000), (964, 965, 0, 100000), (965, 966, 0, 100000), (966, 967, 0, 100000), (967, 968, 0, 100000), (968, 969, 0, 100000), (969, 970, 0, 100000), (970, 971, 0, 100000), (971, 972, 0, 100000), (972, 973, 0, 100000), (973, 974, 0, 100000), (974, 975, 0, 100000), (975, 976, 0, 100000), (976, 977, 0, 100000), (977, 978, 0, 100000), (978, 979, 0, 100000), (979, 980, 0, 100000), (980, 981, 0, 100000), (981, 982, 0, 100000), (982, 983, 0, 100000), (983, 984, 0, 100000), (984, 985, 0, 100000), (985, 986, 0, 100000), (986, 987, 0, 100000), (987, 988, 0, 100000), (988, 989, 0, 100000), (989, 990, 0, 100000), (990, 991, 0, 100000), (991, 992, 0, 100000), (992, 993, 0, 100000), (993, 994, 0, 100000), (994, 995, 0, 100000)]
abbrev Q_mo_read__u (S : sS) : pst := fun r S1 => HI S1 ∧ FR md_mo_read__u S S1 ∧ (∃ z : Int, r = some (iv z) ∧ (-5010 ≤ z ∧ z ≤ 5001) ∧ (TIX S1) ∧ (PF S1) ∧ (BDA S1) ∧ (MRN S S1 z) ∧ (Xi S1 904 1 = 0))
set_option maxRecDepth 100000 in
set_option maxHeartbeats 4000000 in
theorem c63_mo_read__u {S : sS} (hH : HI S) (hB : ABV S) (hW : WYM S) (hK : KWM S) (hPF : PF S) (hBDA : BDA S) (d : Nat) : ∀ (n63 : Nat) (T1 : sS) (_ : HI T1) (_ : FR md_mo_read__u S T1) (v1 : Int), (0 ≤ v1 ∧ v1 ≤ 24) → (TXM T1) → (WYM T1) → (LXM T1) → (LCN T1) → (ABV T1) → (DCM T1) → (VTM T1) → (VCN T1) → (WYD T1) → (RDT T1) → (AKR T1) → (Xi T1 904 60 < Xi T1 904 19) → (2 ≤ Xi T1 904 16) → (v1 ≤ Xi T1 904 19) → (PF T1) → (BDA T1) → (Hid (PLI S T1 v1)) → (0 ≤ v1) → (Xi T1 904 1 = 0) → n63 = (25 - v1).toNat → Rl lay0 (d + 14) m_mo_read 63 [(0, .ref 904), (1, iv v1)] [] T1 (Q_mo_read__u S) := by
  have hF : FR md_mo_read__u S S := FR.rf
  have w1 : 0 ≤ Xi S 904 1 ∧ Xi S 904 1 ≤ 5000 := hH.c _ _
  have w2 : 0 ≤ Xi S 904 16 ∧ Xi S 904 16 ≤ 16 := hH.c _ _
  have w3 : 0 ≤ Xi S 904 19 ∧ Xi S 904 19 ≤ 24 := hH.c _ _
  have w4 : -1 ≤ Xi S 904 60 ∧ Xi S 904 60 ≤ 23 := hH.c _ _
  have hc1 : 0 ≤ Xi S 904 1 ∧ Xi S 904 1 ≤ 5000 := hH.c _ _
  intro n63
  induction n63 using Nat.strongRecOn with
  | ind n63 ih63 =>
    intro T1 hHT1 hFT1 v1 w5 TXM63 WYM63 LXM63 LCN63 ABV63 DCM63 VTM63 VCN63 WYD63 RDT63 AKR63 w6 w7 w8 PF63 BD63 pl63 w9 w10 hm63
    have w11 : 0 ≤ Xi T1 904 1 ∧ Xi T1 904 1 ≤ 5000 := hHT1.c _ _
    have w12 : 0 ≤ Xi T1 904 16 ∧ Xi T1 904 16 ≤ 16 := hHT1.c _ _
    have w13 : 0 ≤ Xi T1 904 19 ∧ Xi T1 904 19 ≤ 24 := hHT1.c _ _
    have w14 : -1 ≤ Xi T1 904 60 ∧ Xi T1 904 60 ≤ 23 := hHT1.c _ _
    refine l_iload_n rfl rfl ?_
    refine l_aload_n rfl rfl ?_
    refine l_gfi rfl rfl rfl rfl rfl ?_
    refine l_icmp_ge rfl rfl (by unfold rg; omega) (by unfold rg; omega) (fun w15 => ?_) (fun w16 => ?_)
    · refine l_aload_n rfl rfl ?_
      refine l_gfi rfl rfl rfl rfl rfl ?_
      have w17 : 0 ≤ (Xi T1 904 61) ∧ (Xi T1 904 61) ≤ 5001 := hHT1.c _ _
      refine l_ireturn rfl rfl ?_
      have w21 : 0 ≤ Xi T1 904 3 ∧ Xi T1 904 3 ≤ 5000 := hHT1.c _ _
      have w23 : 0 ≤ Xi T1 904 61 ∧ Xi T1 904 61 ≤ 5001 := hHT1.c _ _
      have w24 : 0 ≤ Xi T1 904 62 ∧ Xi T1 904 62 ≤ 9 := hHT1.c _ _
      have w25 : 0 ≤ Xi T1 904 63 ∧ Xi T1 904 63 ≤ 5000 := hHT1.c _ _
      exact ⟨hHT1, hFT1, _, rfl, ⟨by omega, by omega⟩, (by first | exact I50 | exact (⟨by first | assumption | exact (by assumption : TXM T1), by first | assumption | exact (by assumption : WYM T1), by first | assumption | exact (by assumption : LXM T1), by first | assumption | exact (by assumption : LCN T1), by first | assumption | exact (by assumption : ABV T1), by first | assumption | exact (by assumption : DCM T1), by first | assumption | exact (by assumption : VTM T1), by first | assumption | exact (by assumption : VCN T1), by first | assumption | exact (by assumption : WYD T1), by first | assumption | exact (by assumption : RDT T1), by first | assumption | exact (by assumption : AKR T1), by omega, by omega⟩)), (by first | assumption | exact (by assumption : PF T1)), (by first | assumption | exact (by assumption : BDA T1)), (by first | exact Z50.o | (have t := Z50.o; rw [show -10 - Xi _ 904 63 = _ by omega] at t; exact t) | exact Or.inr (pli_e pl63.o (by omega) (by omega))), (by omega)⟩
    · refine l_aload_n rfl rfl ?_
      refine l_gfr rfl rfl rfl rfl rfl (hHT1.r 904 21 919 rfl) ?_
      refine l_iconst rfl ?_
      refine l_iaload (n := 24) rfl rfl (by omega) (by omega) (by unfold rg; omega) ?_
      have w26 : 0 ≤ (Xi T1 919 ((0 : Int).toNat)) ∧ (Xi T1 919 ((0 : Int).toNat)) ≤ 5 := hHT1.c _ _
      have w27 : (Xi T1 919 ((0 : Int).toNat)) = Xi T1 919 0 := rfl
      refine l_if_ne rfl rfl (by unfold rg; omega) (fun w28 => ?_) (fun w29 => ?_)
      · refine l_aload_n rfl rfl ?_
        refine l_gfi rfl rfl rfl rfl rfl ?_
        have w30 : 0 ≤ (Xi T1 904 61) ∧ (Xi T1 904 61) ≤ 5001 := hHT1.c _ _
        refine l_ireturn rfl rfl ?_
        have w34 : 0 ≤ Xi T1 904 3 ∧ Xi T1 904 3 ≤ 5000 := hHT1.c _ _
        have w36 : 0 ≤ Xi T1 904 61 ∧ Xi T1 904 61 ≤ 5001 := hHT1.c _ _
        have w37 : 0 ≤ Xi T1 904 62 ∧ Xi T1 904 62 ≤ 9 := hHT1.c _ _
        have w38 : 0 ≤ Xi T1 904 63 ∧ Xi T1 904 63 ≤ 5000 := hHT1.c _ _
        exact ⟨hHT1, hFT1, _, rfl, ⟨by omega, by omega⟩, (by first | exact I50 | exact (⟨by first | assumption | exact (by assumption : TXM T1), by first | assumption | exact (by assumption : WYM T1), by first | assumption | exact (by assumption : LXM T1), by first | assumption | exact (by assumption : LCN T1), by first | assumption | exact (by assumption : ABV T1), by first | assumption | exact (by assumption : DCM T1), by first | assumption | exact (by assumption : VTM T1), by first | assumption | exact (by assumption : VCN T1), by first | assumption | exact (by assumption : WYD T1), by first | assumption | exact (by assumption : RDT T1), by first | assumption | exact (by assumption : AKR T1), by omega, by omega⟩)), (by first | assumption | exact (by assumption : PF T1)), (by first | assumption | exact (by assumption : BDA T1)), (by first | exact Z50.o | (have t := Z50.o; rw [show -10 - Xi _ 904 63 = _ by omega] at t; exact t) | exact Or.inr (pli_e pl63.o (by omega) (by omega))), (by omega)⟩
      · refine l_aload_n rfl rfl ?_
        refine l_aload_n rfl rfl ?_
        refine l_gfr rfl rfl rfl rfl rfl (hHT1.r 904 20 918 rfl) ?_
        refine l_iload_n rfl rfl ?_
        refine l_iaload (n := 24) rfl rfl (by omega) (by omega) (by unfold rg; omega) ?_
        have w39 : 0 ≤ (Xi T1 918 ((v1).toNat)) ∧ (Xi T1 918 ((v1).toNat)) ≤ 15 := hHT1.c _ _
        refine l_iconst rfl ?_
        have w43 : 0 ≤ Xi T1 904 3 ∧ Xi T1 904 3 ≤ 5000 := hHT1.c _ _
        have w45 : 0 ≤ Xi T1 904 61 ∧ Xi T1 904 61 ≤ 5001 := hHT1.c _ _
        have w46 : 0 ≤ Xi T1 904 62 ∧ Xi T1 904 62 ≤ 9 := hHT1.c _ _
        have w47 : 0 ≤ Xi T1 904 63 ∧ Xi T1 904 63 ≤ 5000 := hHT1.c _ _
        refine l_callV rfl rfl rfl (t_mo_isBelow__b hHT1 (Xi T1 918 ((v1).toNat)) 1 ⟨by omega, by omega⟩ ⟨by omega, by omega⟩ (by first | assumption | exact (by assumption : ABV T1)) _) ?_
        rintro _ _ ⟨rfl, z49, rfl, w49, w48, v88⟩
        show Rl _ _ _ _ _ [iv z49] _ _
        have w88 : z49 = blR T1 (Xi T1 918 (v1).toNat) 1 := v88 ⟨by first | assumption | exact (by assumption : ABV T1), by omega, by omega⟩
        clear v88
        refine l_if_eq rfl rfl (by unfold rg; omega) (fun w50 => ?_) (fun w51 => ?_)
        · refine l_iinc rfl rfl rfl rfl ?_
          refine l_goto rfl rfl ?_
          exact Rl_weak (ih63 _ (by omega) T1 hHT1 hFT1 ((v1 + 1)) (by omega) (by first | assumption | exact (by assumption : TXM T1)) (by first | assumption | exact (by assumption : WYM T1)) (by first | assumption | exact (by assumption : LXM T1)) (by first | assumption | exact (by assumption : LCN T1)) (by first | assumption | exact (by assumption : ABV T1)) (by first | assumption | exact (by assumption : DCM T1)) (by first | assumption | exact (by assumption : VTM T1)) (by first | assumption | exact (by assumption : VCN T1)) (by first | assumption | exact (by assumption : WYD T1)) (by first | assumption | exact (by assumption : RDT T1)) (by first | assumption | exact (by assumption : AKR T1)) (by omega) (by omega) (by omega) (by first | assumption | exact (by assumption : PF T1)) (by first | assumption | exact (by assumption : BDA T1)) (by first | exact X107 | exact pli_n pl63.o (by omega) (by omega) (by have t := w88; omega) | exact pli_0 R39.o (by omega)) (by omega) (by omega) rfl) (And.intro rfl (And.intro rfl (True.intro)))
        · refine l_aload_n rfl rfl ?_
          refine l_gfr rfl rfl rfl rfl rfl (hHT1.r 904 21 919 rfl) ?_
          refine l_iconst rfl ?_
          refine l_iconst rfl ?_
          refine l_iastore (n := 24) rfl rfl (by omega) (by omega) (by unfold rg; omega) ?_
          obtain ⟨U2, eU2⟩ : ∃ T : sS, T = uI T1 919 ((0 : Int).toNat) (Int32.ofInt 1) := ⟨_, rfl⟩
          rw [← eU2]
          have hHU2 : HI U2 := by rw [eU2]; exact HI_w hHT1 (show 0 ≤ 1 by omega) (show 1 ≤ 5 by omega)
          have hFU2 : FR md_mo_read__u S U2 := by rw [eU2]; exact FR.wI hFT1 (mdf_i (r := (919, 920, 0, 100000)) (List.mem_of_getElem? (i := 82) rfl) (inR_i (by omega) (by omega) (by omega) (by omega)))
          have w60 : Xi U2 919 ((0 : Int).toNat) = 1 := by rw [eU2]; exact Xi_same (by unfold rg; omega)
          refine l_aload_n rfl rfl ?_
          refine l_gfr rfl rfl rfl rfl rfl (hHU2.r 904 22 920 rfl) ?_
          refine l_iconst rfl ?_
          refine l_iload_n rfl rfl ?_
          refine l_iastore (n := 24) rfl rfl (by omega) (by omega) (by unfold rg; omega) ?_
          obtain ⟨U3, eU3⟩ : ∃ T : sS, T = uI U2 920 ((0 : Int).toNat) (Int32.ofInt v1) := ⟨_, rfl⟩
          rw [← eU3]
          have hHU3 : HI U3 := by rw [eU3]; exact HI_w hHU2 (show -1 ≤ v1 by omega) (show v1 ≤ 23 by omega)
          have hFU3 : FR md_mo_read__u S U3 := by rw [eU3]; exact FR.wI hFU2 (mdf_i (r := (920, 921, 0, 100000)) (List.mem_of_getElem? (i := 83) rfl) (inR_i (by omega) (by omega) (by omega) (by omega)))
          have w61 : Xi U3 920 ((0 : Int).toNat) = v1 := by rw [eU3]; exact Xi_same (by unfold rg; omega)
          have W107 : WYM U3 := wym_w eU2 eU3 (fun _ => by rw [eU3]; first | (rw [Xi_same (by unfold rg; omega)]; omega) | omega) WYM63
          have K107 : True := trivial
          have X107 : Hid (PLI S U3 (v1 + 1)) := pli_y pl63.o (by omega) (by omega) (by omega) (by have t := w88; omega) eU2 eU3
          refine l_iinc rfl rfl rfl rfl ?_
          refine l_goto rfl rfl ?_
          have w62 : Xi U3 904 1 = Xi T1 904 1 := (show Xi U3 904 1 = Xi U2 904 1 from by rw [eU3]; exact Xi_ne (by omega)).trans ((show Xi U2 904 1 = Xi T1 904 1 from by rw [eU2]; exact Xi_ne (by omega)))
          have w64 : Xi U3 904 16 = Xi T1 904 16 := (show Xi U3 904 16 = Xi U2 904 16 from by rw [eU3]; exact Xi_ne (by omega)).trans ((show Xi U2 904 16 = Xi T1 904 16 from by rw [eU2]; exact Xi_ne (by omega)))
          have w66 : Xi U3 904 19 = Xi T1 904 19 := (show Xi U3 904 19 = Xi U2 904 19 from by rw [eU3]; exact Xi_ne (by omega)).trans ((show Xi U2 904 19 = Xi T1 904 19 from by rw [eU2]; exact Xi_ne (by omega)))
          have w68 : Xi U3 904 3 = Xi T1 904 3 := (show Xi U3 904 3 = Xi U2 904 3 from by rw [eU3]; exact Xi_ne (by omega)).trans ((show Xi U2 904 3 = Xi T1 904 3 from by rw [eU2]; exact Xi_ne (by omega)))
          have w70 : Xi U3 904 60 = Xi T1 904 60 := (show Xi U3 904 60 = Xi U2 904 60 from by rw [eU3]; exact Xi_ne (by omega)).trans ((show Xi U2 904 60 = Xi T1 904 60 from by rw [eU2]; exact Xi_ne (by omega)))
          have w72 : Xi U3 904 61 = Xi T1 904 61 := (show Xi U3 904 61 = Xi U2 904 61 from by rw [eU3]; exact Xi_ne (by omega)).trans ((show Xi U2 904 61 = Xi T1 904 61 from by rw [eU2]; exact Xi_ne (by omega)))
          have w74 : Xi U3 904 62 = Xi T1 904 62 := (show Xi U3 904 62 = Xi U2 904 62 from by rw [eU3]; exact Xi_ne (by omega)).trans ((show Xi U2 904 62 = Xi T1 904 62 from by rw [eU2]; exact Xi_ne (by omega)))
          have w76 : Xi U3 904 63 = Xi T1 904 63 := (show Xi U3 904 63 = Xi U2 904 63 from by rw [eU3]; exact Xi_ne (by omega)).trans ((show Xi U2 904 63 = Xi T1 904 63 from by rw [eU2]; exact Xi_ne (by omega)))
          exact Rl_weak (ih63 _ (by omega) U3 hHU3 hFU3 ((v1 + 1)) (by omega) (by first | assumption | exact (TXM_FR (FR_e eU3) rfl (TXM_FR (FR_e eU2) rfl (by assumption : TXM T1)))) (by first | assumption | exact (by assumption : WYM U3)) (by first | assumption | exact (LXM_FR (FR_e eU3) rfl (LXM_FR (FR_e eU2) rfl (by assumption : LXM T1)))) (by first | assumption | exact (LCN_FR (FR_e eU3) rfl (LCN_FR (FR_e eU2) rfl (by assumption : LCN T1)))) (by first | assumption | exact (ABV_FR (FR_e eU3) rfl (ABV_FR (FR_e eU2) rfl (by assumption : ABV T1)))) (by first | assumption | exact (DCM_FR (FR_e eU3) rfl (DCM_FR (FR_e eU2) rfl (by assumption : DCM T1)))) (by first | assumption | exact (VTM_FR (FR_e eU3) rfl (VTM_FR (FR_e eU2) rfl (by assumption : VTM T1)))) (by first | assumption | exact (VCN_FR (FR_e eU3) rfl (VCN_FR (FR_e eU2) rfl (by assumption : VCN T1)))) (by first | assumption | exact (WYD_FR (FR_e eU3) rfl (WYD_FR (FR_e eU2) rfl (by assumption : WYD T1)))) (by first | assumption | exact (RDT_FR hHU2 (FR_e eU3) rfl rfl rfl (RDT_FR hHT1 (FR_e eU2) rfl rfl rfl (by assumption : RDT T1)))) (by first | assumption | exact (AKR_FR (FR_e eU3) rfl (AKR_FR (FR_e eU2) rfl (by assumption : AKR T1)))) (by omega) (by omega) (by omega) (by first | assumption | exact (PF_FR (FR_e eU3) rfl (PF_FR (FR_e eU2) rfl (by assumption : PF T1)))) (by first | assumption | exact (BDA_FR (FR_e eU3) rfl (BDA_FR (FR_e eU2) rfl (by assumption : BDA T1)))) (by first | exact X107 | exact pli_n pl63.o (by omega) (by omega) (by have t := w88; omega) | exact pli_0 R39.o (by omega)) (by omega) (by omega) rfl) (And.intro rfl (And.intro rfl (True.intro)))
set_option maxRecDepth 100000 in
set_option maxHeartbeats 4000000 in
theorem t_mo_read__u {S : sS} (hH : HI S) (hB : ABV S) (hW : WYM S) (hK : KWM S) (hPF : PF S) (hBDA : BDA S) (d : Nat) : Mt lay0 (d + 15) m_mo_read [.ref 904] S (Q_mo_read__u S) := by
  refine Mt_R rfl rfl ?_
  have C63 := c63_mo_read__u hH hB hW hK hPF hBDA d 
  have hF : FR md_mo_read__u S S := FR.rf
  have w1 : 0 ≤ Xi S 904 1 ∧ Xi S 904 1 ≤ 5000 := hH.c _ _
  have w2 : 0 ≤ Xi S 904 16 ∧ Xi S 904 16 ≤ 16 := hH.c _ _
  have w3 : 0 ≤ Xi S 904 19 ∧ Xi S 904 19 ≤ 24 := hH.c _ _
  have w4 : -1 ≤ Xi S 904 60 ∧ Xi S 904 60 ≤ 23 := hH.c _ _
  have hc1 : 0 ≤ Xi S 904 1 ∧ Xi S 904 1 ≤ 5000 := hH.c _ _
  refine l_aload_n rfl rfl ?_
  refine l_aload_n rfl rfl ?_
  refine l_gfi rfl rfl rfl rfl rfl ?_
  refine l_pfi rfl rfl rfl rfl ?_
  obtain ⟨U4, eU4⟩ : ∃ T : sS, T = uI S 904 3 (Int32.ofInt (Xi S 904 1)) := ⟨_, rfl⟩
  rw [← eU4]
  have hHU4 : HI U4 := by rw [eU4]; exact HI_w hH (show 0 ≤ (Xi S 904 1) by omega) (show (Xi S 904 1) ≤ 5000 by omega)
  have hFU4 : FR md_mo_read__u S U4 := by rw [eU4]; exact FR.wI hF (mdf_i (r := (904, 905, 3, 4)) (List.mem_of_getElem? (i := 1) rfl) (inR_i (by omega) (by omega) (by omega) (by omega)))
  have w78 : Xi U4 904 3 = (Xi S 904 1) := by rw [eU4]; exact Xi_same (by unfold rg; omega)
  have g5 : Hid (KEP [(905, 906), (911, 995)] [(904, 157)] S U4) := by have e := eU4; rw [e]; exact (FR.wI (m := [(904, 905, 3, 4)]) FR.rf rfl).kep rfl
  refine l_aload_n rfl rfl ?_
  refine l_gfr rfl rfl rfl rfl rfl (hHU4.r 904 0 905 rfl) ?_
  refine l_iconst rfl ?_
  refine l_aload_n rfl rfl ?_
  refine l_gfr rfl rfl rfl rfl rfl (hHU4.r 904 2 906 rfl) ?_
  refine l_iconst rfl ?_
  refine l_aload_n rfl rfl ?_
  refine l_gfi rfl rfl rfl rfl rfl ?_
  have w79 : (Xi U4 904 1) = (Xi S 904 1) := (show Xi U4 904 1 = Xi S 904 1 from by rw [eU4]; exact Xi_ne (by omega))
  rw [w79]
  refine l_acp rfl rfl rfl (acpB (A := 5000) (B := 5000) rfl rfl (by omega) (by omega) (by omega) (by omega) (by omega) (by omega) (by omega) (fun j => hHU4.c 905 j)) ?_
  obtain ⟨T5, eT5⟩ : ∃ T : sS, T = cpI U4 905 906 (0 : Int).toNat (0 : Int).toNat ((Xi S 904 1) : Int).toNat := ⟨_, rfl⟩
  rw [← eT5]
  have hHT5 : HI T5 := by rw [eT5]; exact HI_cpI hHU4 (fun j _ _ => hHU4.c 905 _)
  have w80 : FR [(906, 907, 0, 100000)] U4 T5 := by rw [eT5]; exact FR_cpI (by omega)
  have hFT5 : FR md_mo_read__u S T5 := FR.tr hFU4 w80 rfl
  have c22 : Hid (∀ j : Nat, (j : Int) < Xi S 904 1 → Xi T5 906 j = Xi S 905 j) := fun j hj => by rw [eT5, cpI_in (by constructor <;> omega), show (0 : Int).toNat + (j - (0 : Int).toNat) = j by omega]; exact (hFU4.cx 905 rfl _).1
  have g22 : Hid (KEP [(905, 906), (911, 995)] [(904, 157)] S T5) := by have e := eT5; rw [e]; exact KEP.tr g5.o ((FR_cpI (by omega)).kep rfl)
  refine l_aload_n rfl rfl ?_
  refine l_iconst rfl ?_
  refine l_pfi rfl rfl rfl rfl ?_
  obtain ⟨U6, eU6⟩ : ∃ T : sS, T = uI T5 904 1 (Int32.ofInt 0) := ⟨_, rfl⟩
  rw [← eU6]
  have hHU6 : HI U6 := by rw [eU6]; exact HI_w hHT5 (show 0 ≤ 0 by omega) (show 0 ≤ 5000 by omega)
  have hFU6 : FR md_mo_read__u S U6 := by rw [eU6]; exact FR.wI hFT5 (mdf_i (r := (904, 905, 1, 2)) (List.mem_of_getElem? (i := 0) rfl) (inR_i (by omega) (by omega) (by omega) (by omega)))
  have w81 : Xi U6 904 1 = 0 := by rw [eU6]; exact Xi_same (by unfold rg; omega)
  have g27 : Hid (KEP [(905, 906), (911, 995)] [(904, 157)] S U6) := by have e := eU6; rw [e]; exact KEP.tr g22.o ((FR.wI (m := [(904, 905, 1, 2)]) FR.rf rfl).kep rfl)
  have q27 : Hid (∀ j : Nat, (j : Int) < Xi S 904 1 → Xi U6 906 j = Xi S 905 j) := fun j hj => by rw [eU6, Xi_ne (by omega)]; exact c22.o j hj
  refine l_aload_n rfl rfl ?_
  have w82 : 0 ≤ Xi U6 904 1 ∧ Xi U6 904 1 ≤ 5000 := hHU6.c _ _
  have w87 : Xi U6 904 3 = Xi U4 904 3 := (show Xi U6 904 3 = Xi T5 904 3 from by rw [eU6]; exact Xi_ne (by omega)).trans ((show Xi T5 904 3 = Xi U4 904 3 from w80.x _ _ rfl))
  have w88 : 0 ≤ Xi U4 904 3 ∧ Xi U4 904 3 ≤ 5000 := hHU4.c _ _
  refine l_callV rfl rfl rfl (t_mo_cut__f hHU6 (by first | assumption | exact (KWM_FR hFU6 rfl (by assumption : KWM S))) _) ?_
  rintro _ T7 ⟨hHT7, w98, rfl, tk31_⟩
  have hFT7 : FR md_mo_read__u S T7 := FR.tr hFU6 w98 rfl
  show Rl _ _ _ _ _ [] _ _
  obtain ⟨n, tk31, tx31, cu31_⟩ := tk31_
  have f31 : FR md_mo_cut__f U6 T7 := by assumption
  have z31 : Xi U6 904 3 = Xi S 904 1 := by omega
  have cu31 : Hid (CTX S T7 n) := ctx_i tk31 tx31 cu31_ f31 z31 q27.o g27.o
  have h31 := hHT7
  refine l_aload_n rfl rfl ?_
  have w101 : Xi T7 904 16 = Xi S 904 16 := (show Xi T7 904 16 = Xi U6 904 16 from w98.x _ _ rfl).trans ( (show Xi U6 904 16 = Xi T5 904 16 from by rw [eU6]; exact Xi_ne (by omega)).trans ( (show Xi T5 904 16 = Xi U4 904 16 from w80.x _ _ rfl).trans ((show Xi U4 904 16 = Xi S 904 16 from by rw [eU4]; exact Xi_ne (by omega)))))
  have w103 : Xi T7 904 19 = Xi S 904 19 := (show Xi T7 904 19 = Xi U6 904 19 from w98.x _ _ rfl).trans ( (show Xi U6 904 19 = Xi T5 904 19 from by rw [eU6]; exact Xi_ne (by omega)).trans ( (show Xi T5 904 19 = Xi U4 904 19 from w80.x _ _ rfl).trans ((show Xi U4 904 19 = Xi S 904 19 from by rw [eU4]; exact Xi_ne (by omega)))))
  have w107 : Xi T7 904 60 = Xi S 904 60 := (show Xi T7 904 60 = Xi U6 904 60 from w98.x _ _ rfl).trans ( (show Xi U6 904 60 = Xi T5 904 60 from by rw [eU6]; exact Xi_ne (by omega)).trans ( (show Xi T5 904 60 = Xi U4 904 60 from w80.x _ _ rfl).trans ((show Xi U4 904 60 = Xi S 904 60 from by rw [eU4]; exact Xi_ne (by omega)))))
  refine l_callV rfl rfl rfl (t_mo_begin__b hHT7 (by first | assumption | exact (ABV_FR w98 rfl (ABV_FR (FR_e eU6) rfl (ABV_FR w80 rfl (ABV_FR (FR_e eU4) rfl (by assumption : ABV S)))))) (by first | assumption | exact (WYM_FR w98 rfl (WYM_FR (FR_e eU6) rfl (WYM_FR w80 rfl (WYM_FR (FR_e eU4) rfl (by assumption : WYM S)))))) _) ?_
  rintro _ T8 ⟨hHT8, w128, rfl, w115, w116, w117, w118, w119, w120, w121, w122, w123, w124, n35, d35, w125, w126, ev35⟩
  have hFT8 : FR md_mo_read__u S T8 := FR.tr hFT7 w128 rfl
  show Rl _ _ _ _ _ [] _ _
  have R35 : RDT T8 := rdt_0 (hHT8.c 904 23).1 n35 d35
  have I35 : TIX T8 := ⟨by first | assumption | exact (by assumption : TXM T8), by first | assumption | exact (by assumption : WYM T8), by first | assumption | exact (by assumption : LXM T8), by first | assumption | exact (by assumption : LCN T8), by first | assumption | exact (by assumption : ABV T8), by first | assumption | exact (by assumption : DCM T8), by first | assumption | exact (by assumption : VTM T8), by first | assumption | exact (by assumption : VCN T8), by first | assumption | exact (by assumption : WYD T8), R35, by first | assumption | exact (by assumption : AKR T8), by omega, by omega⟩
  have tk35 : TK T8 n := TK_FR (by assumption : FR md_mo_begin__b T7 T8) rfl tk31
  have tx35 : TXK T8 n := TXK_FR (by assumption : FR md_mo_begin__b T7 T8) rfl tx31
  have f35 : FR md_mo_begin__b T7 T8 := by assumption
  have B35 : Hid (BGS S T8 n) := ⟨T7, hHT7, cu31.o, ev35, f35⟩
  clear ev35
  refine l_aload_n rfl rfl ?_
  have w131 : 0 ≤ Xi T8 904 16 ∧ Xi T8 904 16 ≤ 16 := hHT8.c _ _
  have w132 : 0 ≤ Xi T8 904 19 ∧ Xi T8 904 19 ≤ 24 := hHT8.c _ _
  have w135 : -1 ≤ Xi T8 904 60 ∧ Xi T8 904 60 ≤ 23 := hHT8.c _ _
  have w138 : Xi T8 904 62 = Xi S 904 62 := (show Xi T8 904 62 = Xi T7 904 62 from w128.x _ _ rfl).trans ( (show Xi T7 904 62 = Xi U6 904 62 from w98.x _ _ rfl).trans ( (show Xi U6 904 62 = Xi T5 904 62 from by rw [eU6]; exact Xi_ne (by omega)).trans ( (show Xi T5 904 62 = Xi U4 904 62 from w80.x _ _ rfl).trans ((show Xi U4 904 62 = Xi S 904 62 from by rw [eU4]; exact Xi_ne (by omega))))))
  have w139 : 0 ≤ Xi S 904 62 ∧ Xi S 904 62 ≤ 9 := hH.c _ _
  refine l_callV rfl rfl rfl (t_mo_readStory__t hHT8 n (by first | assumption | exact (TK_FR w128 rfl (by assumption : TK T7 _))) (by first | assumption | exact (TXK_FR w128 rfl (by assumption : TXK T7 _))) (by first | assumption | omega) (by first | assumption | exact (PF_FR w128 rfl (PF_FR w98 rfl (PF_FR (FR_e eU6) rfl (PF_FR w80 rfl (PF_FR (FR_e eU4) rfl (by assumption : PF S))))))) (by first | assumption | exact (BDA_FR w128 rfl (BDA_FR w98 rfl (BDA_FR (FR_e eU6) rfl (BDA_FR w80 rfl (BDA_FR (FR_e eU4) rfl (by assumption : BDA S))))))) _) ?_
  rintro _ T9 ⟨hHT9, w147, rfl, t39, w142, w143, w144, w145, tr39⟩
  have hFT9 : FR md_mo_read__u S T9 := FR.tr hFT8 w147 rfl
  show Rl _ _ _ _ _ [] _ _
  have f39 : FR md_mo_readStory__t T8 T9 := by assumption
  have R39 : Hid (SRY S T9) := ⟨n, T8, hHT8, B35.o, f39, hHT9, tr39⟩
  clear tr39
  have q39 := hHT9
  refine l_aload_n rfl rfl ?_
  refine l_gfi rfl rfl rfl rfl rfl ?_
  have w148 : 0 ≤ (Xi T9 904 62) ∧ (Xi T9 904 62) ≤ 9 := hHT9.c _ _
  refine l_if_eq rfl rfl (by unfold rg; omega) (fun w149 => ?_) (fun w150 => ?_)
  · refine l_iconst rfl ?_
    have I61 : TIX T9 := t39 (by omega)
    have txm61 : TXM T9 := I61.1
    have wym61 : WYM T9 := I61.2.1
    have lxm61 : LXM T9 := I61.2.2.1
    have lcn61 : LCN T9 := I61.2.2.2.1
    have abv61 : ABV T9 := I61.2.2.2.2.1
    have dcm61 : DCM T9 := I61.2.2.2.2.2.1
    have vtm61 : VTM T9 := I61.2.2.2.2.2.2.1
    have vcn61 : VCN T9 := I61.2.2.2.2.2.2.2.1
    have wyd61 : WYD T9 := I61.2.2.2.2.2.2.2.2.1
    have rdt61 : RDT T9 := I61.2.2.2.2.2.2.2.2.2.1
    have akr61 : AKR T9 := I61.2.2.2.2.2.2.2.2.2.2.1
    have i61a : Xi T9 904 60 < Xi T9 904 19 := I61.2.2.2.2.2.2.2.2.2.2.2.1
    have i61b : 2 ≤ Xi T9 904 16 := I61.2.2.2.2.2.2.2.2.2.2.2.2
    refine l_istore_n rfl rfl rfl ?_
    have w151 : Xi T9 904 1 = Xi U6 904 1 := (show Xi T9 904 1 = Xi T8 904 1 from w147.x _ _ rfl).trans ( (show Xi T8 904 1 = Xi T7 904 1 from w128.x _ _ rfl).trans ((show Xi T7 904 1 = Xi U6 904 1 from w98.x _ _ rfl)))
    have w153 : 0 ≤ Xi T9 904 16 ∧ Xi T9 904 16 ≤ 16 := hHT9.c _ _
    have w154 : 0 ≤ Xi T9 904 19 ∧ Xi T9 904 19 ≤ 24 := hHT9.c _ _
    have w155 : Xi T9 904 3 = Xi U4 904 3 := (show Xi T9 904 3 = Xi T8 904 3 from w147.x _ _ rfl).trans ( (show Xi T8 904 3 = Xi T7 904 3 from w128.x _ _ rfl).trans ( (show Xi T7 904 3 = Xi U6 904 3 from w98.x _ _ rfl).trans ( (show Xi U6 904 3 = Xi T5 904 3 from by rw [eU6]; exact Xi_ne (by omega)).trans ((show Xi T5 904 3 = Xi U4 904 3 from w80.x _ _ rfl)))))
    have w157 : -1 ≤ Xi T9 904 60 ∧ Xi T9 904 60 ≤ 23 := hHT9.c _ _
    have w158 : 0 ≤ Xi T9 904 61 ∧ Xi T9 904 61 ≤ 5001 := hHT9.c _ _
    have w159 : 0 ≤ Xi T9 904 62 ∧ Xi T9 904 62 ≤ 9 := hHT9.c _ _
    have w160 : 0 ≤ Xi T9 904 63 ∧ Xi T9 904 63 ≤ 5000 := hHT9.c _ _
    exact Rl_weak (C63 _ T9 hHT9 hFT9 (0) (by omega) (by first | assumption | exact (by assumption : TXM T9)) (by first | assumption | exact (by assumption : WYM T9)) (by first | assumption | exact (by assumption : LXM T9)) (by first | assumption | exact (by assumption : LCN T9)) (by first | assumption | exact (by assumption : ABV T9)) (by first | assumption | exact (by assumption : DCM T9)) (by first | assumption | exact (by assumption : VTM T9)) (by first | assumption | exact (by assumption : VCN T9)) (by first | assumption | exact (by assumption : WYD T9)) (by first | assumption | exact (by assumption : RDT T9)) (by first | assumption | exact (by assumption : AKR T9)) (by omega) (by omega) (by omega) (by first | assumption | exact (by assumption : PF T9)) (by first | assumption | exact (by assumption : BDA T9)) (by first | exact X107 | exact pli_n pl63.o (by omega) (by omega) (by have t := w88; omega) | exact pli_0 R39.o (by omega)) (by omega) (by omega) rfl) (And.intro rfl (And.intro rfl (True.intro)))
  · refine l_aload_n rfl rfl ?_
    have w163 : 0 ≤ Xi T9 904 16 ∧ Xi T9 904 16 ≤ 16 := hHT9.c _ _
    have w164 : 0 ≤ Xi T9 904 19 ∧ Xi T9 904 19 ≤ 24 := hHT9.c _ _
    have w167 : -1 ≤ Xi T9 904 60 ∧ Xi T9 904 60 ≤ 23 := hHT9.c _ _
    have w170 : 0 ≤ Xi T9 904 63 ∧ Xi T9 904 63 ≤ 5000 := hHT9.c _ _
    refine l_callV rfl rfl rfl (t_mo_begin__b hHT9 (by first | assumption | exact (by assumption : ABV T9)) (by first | assumption | exact (by assumption : WYM T9)) _) ?_
    rintro _ T10 ⟨hHT10, w184, rfl, w171, w172, w173, w174, w175, w176, w177, w178, w179, w180, n50, d50, w181, w182, ev50⟩
    have hFT10 : FR md_mo_read__u S T10 := FR.tr hFT9 w184 rfl
    show Rl _ _ _ _ _ [] _ _
    have R50 : RDT T10 := rdt_0 (hHT10.c 904 23).1 n50 d50
    have I50 : TIX T10 := ⟨by first | assumption | exact (by assumption : TXM T10), by first | assumption | exact (by assumption : WYM T10), by first | assumption | exact (by assumption : LXM T10), by first | assumption | exact (by assumption : LCN T10), by first | assumption | exact (by assumption : ABV T10), by first | assumption | exact (by assumption : DCM T10), by first | assumption | exact (by assumption : VTM T10), by first | assumption | exact (by assumption : VCN T10), by first | assumption | exact (by assumption : WYD T10), R50, by first | assumption | exact (by assumption : AKR T10), by omega, by omega⟩
    have f50 : FR md_mo_begin__b T9 T10 := by assumption
    have Z50 : Hid (MRN S T10 (-10 - Xi T10 904 63)) := Or.inl ⟨T9, R39.o, by omega, rfl, ev50, f50⟩
    clear ev50
    refine l_bipush rfl rfl ?_
    refine l_aload_n rfl rfl ?_
    refine l_gfi rfl rfl rfl rfl rfl ?_
    have w185 : 0 ≤ (Xi T10 904 63) ∧ (Xi T10 904 63) ≤ 5000 := hHT10.c _ _
    refine l_isub rfl ?_
    refine l_ireturn rfl rfl ?_
    have w186 : Xi T10 904 1 = Xi U6 904 1 := (show Xi T10 904 1 = Xi T9 904 1 from w184.x _ _ rfl).trans ( (show Xi T9 904 1 = Xi T8 904 1 from w147.x _ _ rfl).trans ( (show Xi T8 904 1 = Xi T7 904 1 from w128.x _ _ rfl).trans ((show Xi T7 904 1 = Xi U6 904 1 from w98.x _ _ rfl))))
    have w188 : 0 ≤ Xi T10 904 16 ∧ Xi T10 904 16 ≤ 16 := hHT10.c _ _
    have w189 : 0 ≤ Xi T10 904 19 ∧ Xi T10 904 19 ≤ 24 := hHT10.c _ _
    have w190 : Xi T10 904 3 = Xi U4 904 3 := (show Xi T10 904 3 = Xi T9 904 3 from w184.x _ _ rfl).trans ( (show Xi T9 904 3 = Xi T8 904 3 from w147.x _ _ rfl).trans ( (show Xi T8 904 3 = Xi T7 904 3 from w128.x _ _ rfl).trans ( (show Xi T7 904 3 = Xi U6 904 3 from w98.x _ _ rfl).trans ( (show Xi U6 904 3 = Xi T5 904 3 from by rw [eU6]; exact Xi_ne (by omega)).trans ((show Xi T5 904 3 = Xi U4 904 3 from w80.x _ _ rfl))))))
    have w192 : -1 ≤ Xi T10 904 60 ∧ Xi T10 904 60 ≤ 23 := hHT10.c _ _
    have w193 : Xi T10 904 61 = Xi T9 904 61 := (show Xi T10 904 61 = Xi T9 904 61 from w184.x _ _ rfl)
    have w194 : 0 ≤ Xi T9 904 61 ∧ Xi T9 904 61 ≤ 5001 := hHT9.c _ _
    have w195 : Xi T10 904 62 = Xi T9 904 62 := (show Xi T10 904 62 = Xi T9 904 62 from w184.x _ _ rfl)
    have w196 : 0 ≤ Xi T9 904 62 ∧ Xi T9 904 62 ≤ 9 := hHT9.c _ _
    have w197 : Xi T10 904 63 = Xi T9 904 63 := (show Xi T10 904 63 = Xi T9 904 63 from w184.x _ _ rfl)
    exact ⟨hHT10, hFT10, _, rfl, ⟨by omega, by omega⟩, (by first | exact I50 | exact (⟨by first | assumption | exact (by assumption : TXM T10), by first | assumption | exact (by assumption : WYM T10), by first | assumption | exact (by assumption : LXM T10), by first | assumption | exact (by assumption : LCN T10), by first | assumption | exact (by assumption : ABV T10), by first | assumption | exact (by assumption : DCM T10), by first | assumption | exact (by assumption : VTM T10), by first | assumption | exact (by assumption : VCN T10), by first | assumption | exact (by assumption : WYD T10), by first | assumption | exact (by assumption : RDT T10), by first | assumption | exact (by assumption : AKR T10), by omega, by omega⟩)), (by first | assumption | exact (PF_FR w184 rfl (by assumption : PF T9))), (by first | assumption | exact (BDA_FR w184 rfl (by assumption : BDA T9))), (by first | exact Z50.o | (have t := Z50.o; rw [show -10 - Xi _ 904 63 = _ by omega] at t; exact t) | exact Or.inr (pli_e pl63.o (by omega) (by omega))), (by omega)⟩
end
section
/-! kind answers alike in both -/
theorem kind_l {U S : sS} {i w z y : Int} (h : RLQ U S) (p : ((i < 0 ∨ Xi U 5 0 ≤ i ∨ w < 0 ∨ 2 < w) → z = -1) ∧ (0 ≤ i → i < Xi U 5 0 → (w = 0 → z = Xi U 6 i.toNat) ∧ (w = 1 → z = bcJ (pps U i)) ∧ (w = 2 → z = adjs U i))) (q : ((i < 0 ∨ Xi S 904 16 ≤ i ∨ w < 0 ∨ 2 < w) → y = -1) ∧ (0 ≤ i → i < Xi S 904 16 → (w = 0 → y = Xi S 917 i.toNat) ∧ (w = 1 → y = npN S i (Xi S 904 32).toNat) ∧ (w = 2 → y = naN S i (Xi S 904 23).toNat))) : z = y := by
  by_cases c : i < Xi U 5 0
  · exact kind_same h (pps_12 h.2.2.2.1 c) p q
  · have e := h.2.2.1.1
    rw [p.1 (by omega), q.1 (by omega)]
/-! BETWEEN THE LAW'S CALLS: all that both share -/
def RLL (S : sS) : Prop := EQB S ∧ RTB S S ∧ STX S S
def cL1 : List (Nat × Nat) := [(2, 20), (21, 24), (25, 65), (66, 106), (107, 147), (148, 188), (189, 195), (196, 220), (221, 876), (883, 888), (901, 904), (906, 907), (911, 950), (969, 988), (993, 994)]
def cL2 : List (Nat × Nat) := [(1, 3), (20, 1), (20, 12), (882, 3), (900, 4), (904, 15), (904, 16), (904, 18), (904, 19), (904, 23), (904, 30), (904, 32), (904, 41), (904, 47), (904, 49), (904, 51), (904, 55), (904, 117), (904, 125), (904, 130), (904, 156), (904, 157)]
theorem tx_k3 {S T : sS} {ks fs : List (Nat × Nat)} (t3 : TX3 S) (k : KEP ks fs S T) (e : inK ks 245 = true) (e1 : inK ks 902 = true) (e2 : inK ks 903 = true) : ∀ j, Xi T (txr S) j = Xi S (txr S) j := fun j => tx_k t3 k e e1 e2 j
/-- calls that change nothing that is related -/
theorem rll_k {S V : sS} (hH : HI S) (h : RLL S) (k : KEP cL1 cL2 S V) (e : EQB V) : RLL V :=
  ⟨e, rtb_k h.2.1 (k.le rfl (by decide)) (k.le rfl (by decide)), h.2.2.k (k.le rfl (by decide)) (tx_k3 (tx3_hi hH) k rfl rfl rfl) (k.le rfl (by decide))⟩
def cX1 : List (Nat × Nat) := [(2, 20), (21, 22), (196, 220), (221, 876), (883, 888), (902, 904), (906, 907), (911, 919), (921, 925), (927, 930), (936, 940), (941, 950), (969, 988)]
def cX2 : List (Nat × Nat) := [(1, 3), (20, 1), (20, 12), (882, 3), (904, 15), (904, 16), (904, 18), (904, 19), (904, 23), (904, 30), (904, 32), (904, 41), (904, 47), (904, 49), (904, 51), (904, 55), (904, 117), (904, 125), (904, 130)]
/-- turns, the page -/
theorem rll_t {S V : sS} (hH : HI S) (h : RLL S) (k : KEP cX1 cX2 S V) (e : EQB V) (b : RTB V V) : RLL V :=
  ⟨e, b, h.2.2.k (k.le rfl (by decide)) (tx_k3 (tx3_hi hH) k rfl rfl rfl) (k.le rfl (by decide))⟩
/-- the class's call is over, the reference's not yet begun -/
theorem rtb_c {l : List rec} {S T : sS} (h : RTB S S) (F : FR l S T) (e : kepC l [(906, 907), (911, 950), (969, 988), (993, 994)] [(904, 15), (904, 16), (904, 18), (904, 19), (904, 23), (904, 30), (904, 32), (904, 41), (904, 47), (904, 49), (904, 51), (904, 55), (904, 117), (904, 125), (904, 130), (904, 156), (904, 157)] = true) : RTB S T := rtb_k h KEP.rf (F.kep e)
theorem rtb_m {l : List rec} {T V : sS} (h : RTB T V) (F : FR l T V) (e : kepC l [(2, 20), (21, 24), (25, 65), (66, 106), (107, 147), (148, 188), (189, 195), (196, 220), (221, 876), (883, 888), (901, 904)] [(1, 3), (20, 1), (20, 12), (882, 3), (900, 4)] = true) : RTB V V := rtb_k h (F.kep e) KEP.rf
theorem eqb_2 {l m : List rec} {S T V : sS} (hI : INV S) (E : EQB S) (F : FR l S T) (G : FR m T V) (e : kepC l [(880, 881), (902, 904), (905, 906), (911, 912)] [(0, 8), (0, 11), (904, 62)] = true) (e2 : kepC m [(880, 881), (902, 904), (905, 906), (911, 912)] [(0, 8), (0, 11), (904, 62)] = true) (q : Xi T 904 1 = Xi S 904 1 ∨ Xi T 904 1 ≤ 0) (q2 : Xi V 904 1 = Xi T 904 1 ∨ Xi V 904 1 ≤ 0) : EQB V := by
  have E1 : EQB T := eqb_fr F e (inv_tp hI) q E
  have k : KEP [(880, 881), (902, 904), (905, 906), (911, 912)] [(0, 8), (0, 11), (904, 62)] S T := F.kep e
  exact eqb_fr G e2 (fun ts h8 => inv_tp hI ts ((k.2 (0, 8) (by decide)).2.2.symm.trans h8)) q2 E1
theorem act_l {S T V : sS} {a n z y : Int} (hI : INV S) (h : RLL S) (F : FR md_rs_act__q S T) (G : FR md_mo_act__s T V) (c : AXC S T a n z) (r : ATX T V a n y) : z = y ∧ RLL V := by
  obtain ⟨e, b⟩ := act_sm (rtb_c h.2.1 F rfl) c r
  exact ⟨e, rll_t hI.1 h (KEP.tr (F.kep rfl) (G.kep rfl)) (eqb_2 hI h.1 F G rfl rfl (Or.inl (F.x 904 1 rfl)) (Or.inl (G.x 904 1 rfl))) (rtb_m b G rfl)⟩
theorem clear_l {S T V : sS} {z y : Int} (hI : INV S) (h : RLL S) (F : FR md_rs_clear__q S T) (G : FR md_mo_clear T V) (c : z = Xi S 900 4 ∧ Xi T 900 4 = 0) (r : y = Xi T 904 156 ∧ Xi V 904 156 = 0) : z = y ∧ RLL V := by
  obtain ⟨e, b⟩ := clear_sm (rtb_c h.2.1 F rfl) c F r G
  exact ⟨e, rll_t hI.1 h (KEP.tr (F.kep rfl) (G.kep rfl)) (eqb_2 hI h.1 F G rfl rfl (Or.inl (F.x 904 1 rfl)) (Or.inl (G.x 904 1 rfl))) (rtb_m b G rfl)⟩
theorem wipe_l {S T V : sS} (hI : INV S) (h : RLL S) (F : FR md_rs_wipe S T) (G : FR md_mo_wipe T V) (v : Xi V 904 1 = 0) : RLL V :=
  rll_k hI.1 h (KEP.tr (F.kep rfl) (G.kep rfl)) (eqb_2 hI h.1 F G rfl rfl (Or.inl (F.x 904 1 rfl)) (Or.inr (by omega)))
/-- whether an adjective holds: what is remembered -/
theorem is_inv {S T : sS} (h : INV S) (hT : HI T) (f : FR zcM S T) : INV T := by
  obtain ⟨hH, ⟨us, uq, hc⟩, hm⟩ := h
  obtain ⟨⟨a1, a2, a3, a4, a5, a6, a7, a8, a9, a10, a11, a12, a13⟩, b1, b2, b3⟩ := hm
  exact ⟨hT, ⟨us, uq, CLI_FR f rfl (WI_FR hH f rfl rfl rfl rfl rfl rfl rfl rfl rfl hc.2.1) (ORD_FR f rfl hc.2.2) hc⟩, ⟨⟨TXM_FR f rfl a1, WYM_FR f rfl a2, LXM_FR f rfl a3, LCN_FR f rfl a4, ABV_FR f rfl a5, DCM_FR f rfl a6, VTM_FR f rfl a7, VCN_FR f rfl a8, WYD_FR f rfl a9, RDT_FR hH f rfl rfl rfl a10, AKR_FR f rfl a11, by rw [f.x 904 60 rfl, f.x 904 19 rfl]; exact a12, by rw [f.x 904 16 rfl]; exact a13⟩, PF_FR f rfl b1, BDA_FR f rfl b2, KWM_FR f rfl b3⟩⟩
theorem is_l {S T : sS} (hI : INV S) (h : RLL S) (F : FR zcM S T) : RLL T :=
  rll_k hI.1 h (F.kep rfl) (eqb_fr F rfl (inv_tp hI) (Or.inl (F.x 904 1 rfl)) h.1)
theorem is_b {S T : sS} (h : RLL S) (F : FR zcM S T) : RLB (zcS S) T := rlb_z h.2.1.1 (zc_fr.kep rfl) (F.kep rfl)
theorem is_p {S : sS} {o a z : Int} (p : ((o < 0 ∨ Xi S 5 2 ≤ o ∨ a < 0 ∨ Xi S 5 3 ≤ a) → z = -1) ∧ (0 ≤ o → o < Xi S 5 2 → 0 ≤ a → a < Xi S 5 3 → (isK S (Xi S 21 o.toNat) (Xi S 10 a.toNat) = 0 → z = -1) ∧ (isK S (Xi S 21 o.toNat) (Xi S 10 a.toNat) ≠ 0 → (ahC (zcS S) 8 o a = 0 → z = 0) ∧ (ahC (zcS S) 8 o a ≠ 0 → z = 1)))) : ((o < 0 ∨ Xi (zcS S) 5 2 ≤ o ∨ a < 0 ∨ Xi (zcS S) 5 3 ≤ a) → z = -1) ∧ (0 ≤ o → o < Xi (zcS S) 5 2 → 0 ≤ a → a < Xi (zcS S) 5 3 → (isK (zcS S) (Xi (zcS S) 21 o.toNat) (Xi (zcS S) 10 a.toNat) = 0 → z = -1) ∧ (isK (zcS S) (Xi (zcS S) 21 o.toNat) (Xi (zcS S) 10 a.toNat) ≠ 0 → (ahC (zcS S) 8 o a = 0 → z = 0) ∧ (ahC (zcS S) 8 o a ≠ 0 → z = 1))) := by
  rw [zc_x (k := 5) (j := 2) (by decide), zc_x (k := 5) (j := 3) (by decide), zc_x (k := 21) (by decide), zc_x (k := 10) (by decide), zc_isK]
  exact p
theorem num_l {S V : sS} (hI : INV S) (h : RLL S) (G : FR [(904, 905, 154, 155)] S V) : RLL V :=
  rll_k hI.1 h (G.kep rfl) (eqb_fr G rfl (inv_tp hI) (Or.inl (G.x 904 1 rfl)) h.1)
theorem command_l {S T V : sS} {ts : Nat} {z y : Int} (hI : INV S) (hq : Xi S 0 10 = Xi S 904 1) (h8 : S.2.2 0 8 = some ts) (h : RLL S) (F : FR md_rs_command__q S T) (G : FR md_mo_command__q T V) (c : CMC S T ts z) (r : MCM T V y) (v : Xi V 904 1 = 0) : z = y ∧ RLL V := by
  have e1 : Xi T 904 1 = Xi S 904 1 := F.x 904 1 rfl
  have n0 : 0 ≤ Xi S 0 10 := (hI.1.c 0 10).1
  have hB : ABV S := hI.2.2.1.2.2.2.2.1
  obtain ⟨e, b⟩ := command_sm (rtb_c h.2.1 F rfl) (ABV_FR F rfl hB) (fun j => (hI.1.c 19 j).1) (by rw [e1]; exact hq) n0 (fun j hj => by rw [(F.cx 905 rfl j).1]; exact h.1.2.2 ts h8 j (by omega)) c r
  exact ⟨e, rll_t hI.1 h (KEP.tr (F.kep rfl) (G.kep rfl)) (eqb_2 hI h.1 F G rfl rfl (Or.inl e1) (Or.inr (by omega))) (rtb_m b G rfl)⟩
theorem feed_l {S T V : sS} {ts tq : Nat} {w n : Int} (hI : INV S) (hV : HI V) (hc : CLI S ts tq) (hq : Xi S 0 10 = Xi S 904 1) (h : RLL S) (o : ∀ t j : Nat, 0 < t → t ≠ ts → Xi T t j = Xi S t j) (fS : FR md_rs_feed__t S T) (z : FDZ lushrF S T ts (Xi S 0 10) w n) (fT : FR md_mo_feed__t T V) (y : FDZ lshrF T V 905 (Xi T 904 1) w n) (v : Xi V 904 1 = Xi T 904 1 ∨ (1 ≤ n ∧ n ≤ 8 ∧ Xi T 904 1 + n ≤ 5000 ∧ Xi V 904 1 = Xi T 904 1 + n)) : RLL V := by
  have E : EQB V := eqb_feed hc.1.1 hc.1.2.2.1 hq (hI.1.c 0 10).1 h.1 fS z fT y v
  have ta : ∀ j, Xi T (txr S) j = Xi S (txr S) j := fun j => o _ j hc.1.2.2.2.2.2.2 hc.1.2.2.2.2.2.1
  have t3 : TX3 S := tx3_hi hI.1
  obtain ⟨b1, b2, b3, b4⟩ := h.2.1
  have kS : KEP [(2, 20), (21, 24), (25, 65), (66, 106), (107, 147), (148, 188), (189, 195), (196, 220), (221, 876), (883, 888), (901, 902), (906, 907), (911, 950), (969, 988), (993, 994)] cL2 S T := fS.kep rfl
  have kT : KEP cL1 cL2 T V := fT.kep rfl
  have kSV := KEP.tr kS (kT.le (ls := [(2, 20), (21, 24), (25, 65), (66, 106), (107, 147), (148, 188), (189, 195), (196, 220), (221, 876), (883, 888), (901, 902), (906, 907), (911, 950), (969, 988), (993, 994)]) (gs := cL2) rfl (by decide))
  have tv : ∀ j, Xi V (txr S) j = Xi S (txr S) j := fun j => by
    have q : Xi V (txr S) j = Xi T (txr S) j := by
      rcases t3 with e | e | e <;> rw [e]
      · exact kT.x 245 rfl j
      · exact kT.x 902 rfl j
      · exact kT.x 903 rfl j
    exact q.trans (ta j)
  have sx : STX V V := h.2.2.k (kSV.le rfl (by decide)) tv (kSV.le rfl (by decide))
  have rT : RLB T S := rlb_fd b1 fS ta
  have rV : RLB V V := rlb_z rT (kT.le rfl (by decide)) (kSV.le rfl (by decide))
  refine ⟨E, ⟨rV, ⟨?_, fun j hj => ?_⟩, by rw [kSV.f 904 157 (by decide)]; exact b3, sx.c (tx3_hi hV)⟩, sx⟩
  · rw [kSV.f 900 4 (by decide), kSV.f 904 156 (by decide)]; exact b2.1
  · rw [kSV.f 900 4 (by decide)] at hj
    rw [kSV.x 901 rfl, kSV.x 993 rfl]
    exact b2.2 j hj
/-- a rule of an object names no kind -/
theorem nok_h {U S : sS} (a : RLB U S) {r : Nat} (hr : (r : Int) < Xi U 246 2) (h : Xi U (248 + r) 2 ≠ -1) : Xi U (248 + r) 3 = -1 := by
  have hd := (a.2.2.2.2.2 r hr).2.1
  unfold HRT at hd
  rcases hd with x | x
  · omega
  · obtain ⟨_, aa, oo, kk, nn, x⟩ := x
    omega
theorem read_l {S T V : sS} {ts : Nat} {z w : Int} (hI : INV S) (hT : HI T) (hV : INV V) (h8 : S.2.2 0 8 = some ts) (htp : tp ts) (hq : Xi S 0 10 = Xi S 904 1) (h : RLL S) (fS : FR md_rs_read__t S T) (r : RFN S ts T z) (fT : FR md_mo_read__t T V) (m : MRN T V w) (v : Xi V 904 1 = 0) (o4 : Xi T 900 4 = 0) : z = w ∧ RLL V := by
  obtain ⟨e, E⟩ := eqb_read h8 htp hq h.1 fS r fT m v
  have kS : KEP [(905, 906), (911, 912)] [(904, 1), (904, 157)] S T := fS.kep rfl
  have e1 : Xi S 0 10 = Xi T 904 1 := by rw [kS.f 904 1 (by decide)]; exact hq
  have ky : KEYR (Xj S 880) (Xj T 911) := by
    rw [show Xj T 911 = Xj S 911 from funext fun j => kS.j 911 rfl j]
    exact h.1.1
  have yt : ∀ j : Nat, (j : Int) < Xi S 0 10 → Xi S ts j = Xi T 905 j := fun j hj => by
    rw [kS.x 905 rfl j]; exact h.1.2.2 ts h8 j (by omega)
  have oz := oz_read htp e1 ky yt (by rw [kS.f 904 157 (by decide)]; exact h.2.1.2.2.1) fS r m
  have bV : ABV V := hV.2.2.1.2.2.2.2.1
  have hb8 : ∀ j : Nat, Xi V 918 j ≤ 15 := fun j => (hi_kx hV.1 j).2
  have key : RLB T V ∧ STX T V := by
    rcases (read_same2 htp e1 ky yt fS r m).2 with ⟨kc, kr, _⟩ | ⟨U, R, Y, ⟨rl, a, x⟩, _, evp, evo, FO, FP, ⟨hX, hY⟩, pl, _⟩
    · exact fresh_x kc kr hV.1 (tx3_hi hT) bV
    · have F1 : FR [(0, 1, 11, 12)] U (uI U 0 11 (Int32.ofInt (Xi U 876 8))) := FR.wI FR.rf rfl
      have p := (evr_q (t_wo_placePlayer__q hX 0) evp).2.2.2
      have hk : ∀ r : Nat, (r : Int) < Xi Y 246 2 → Xi Y (248 + r) 2 ≠ -1 → Xi Y (248 + r) 3 = -1 := fun r hr h2 => by
        have k : KEP [(246, 272)] [] U Y := KEP.tr (F1.kep rfl) (FP.kep rfl)
        have e2 : Xi Y 246 2 = Xi U 246 2 := k.x 246 rfl 2
        have r24 : Xi U 246 2 ≤ 24 := by have := (rlb_of rl).2.2.2.1.2.2.2.1; omega
        have kk : ∀ j, Xi Y (248 + r) j = Xi U (248 + r) j := fun j => k.x (248 + r) (inK_i (a := 246) (b := 272) (by decide) (by omega) (by omega)) j
        rw [kk] at h2 ⊢
        exact nok_h (rlb_of rl) (by omega) h2
      have srt := (evr_q (t_bo_putInOrder__q hY hk 0) evo).2.2.2.2
      exact aft_x rl x (F1.kep rfl) p srt FO pl bV hb8
  have kT : KEP [(2, 20), (21, 24), (25, 65), (66, 106), (107, 147), (148, 188), (189, 195), (196, 220), (221, 876), (883, 888), (901, 904)] [(1, 3), (20, 1), (20, 12), (882, 3), (900, 4)] T V := fT.kep rfl
  have sx : STX V V := key.2.k (kT.le rfl (by decide)) (tx_k3 (tx3_hi hT) kT rfl rfl rfl) KEP.rf
  refine ⟨e, E, ⟨rlb_z key.1 (kT.le rfl (by decide)) KEP.rf, ⟨?_, fun j hj => ?_⟩, oz.2, sx.c (tx3_hi hV.1)⟩, sx⟩
  · rw [kT.f 900 4 (by decide), o4, oz.1]
    exact ⟨rfl, by decide, by decide⟩
  · rw [kT.f 900 4 (by decide), o4] at hj
    omega
/-! the fresh state -/
noncomputable def jV (k j : Nat) : Option Int := match lookT sT2 k j with
  | some (.inr (.inl (some z))) => some z
  | some (.inr (.inl none)) => none
  | _ => some 0
theorem gs_jv {S : sS} (h : gS sT2 S) {k j : Nat} {b : Int} (e : jV k j = some b) : Xj S k j = b := by
  have g := h.2 k j
  unfold jV at e
  split at e
  · next z hz => rw [hz] at g; unfold Xj; rw [g.2.1]; exact Option.some.inj e
  · exact nomatch e
  · next h1 h2 =>
    have z : S.2.1 k j = 0 := by
      cases c : lookT sT2 k j with
      | none => rw [c] at g; exact g.2.1
      | some v =>
        rw [c] at g
        match v, g, c with
        | .inl _, g, _ => exact g.2.1
        | .inr (.inl none), _, c => exact absurd c h2
        | .inr (.inl (some z)), _, c => exact absurd c (h1 z)
        | .inr (.inr _), g, _ => exact g.2.1
    unfold Xj
    rw [z]
    exact Option.some.inj e
noncomputable def kcB : Bool := kIc.all (fun q => (List.range q.2.length).all (fun i => decide (vT q.1 i = q.2.getD i 0))) && (kJc.all (fun q => (List.range q.2.length).all (fun i => decide (jV q.1 i = some (q.2.getD i 0)))) && (kFc.all (fun q => decide (vT q.1 q.2.1 = q.2.2)) && (kGc.all (fun q => decide (jV q.1 q.2.1 = some q.2.2)) && kZc.all (fun q => (List.range q.2).all (fun i => decide (vT q.1 i = 0))))))
noncomputable def krB : Bool := kIr.all (fun q => (List.range q.2.length).all (fun i => decide (vT q.1 i = q.2.getD i 0))) && (kJr.all (fun q => (List.range q.2.length).all (fun i => decide (jV q.1 i = some (q.2.getD i 0)))) && (kFr.all (fun q => decide (vT q.1 q.2.1 = q.2.2)) && (kGr.all (fun q => decide (jV q.1 q.2.1 = some q.2.2)) && kZr.all (fun q => (List.range q.2).all (fun i => decide (vT q.1 i = 0))))))
theorem kcB_t : kcB = true := by decide +kernel
theorem krB_t : krB = true := by decide +kernel
theorem knf_0 {LI LJ : List (Nat × List Int)} {F G : List (Nat × Nat × Int)} {Z : List (Nat × Nat)} {S : sS} (g : gS sT2 S) (h : (LI.all (fun q => (List.range q.2.length).all (fun i => decide (vT q.1 i = q.2.getD i 0))) && (LJ.all (fun q => (List.range q.2.length).all (fun i => decide (jV q.1 i = some (q.2.getD i 0)))) && (F.all (fun q => decide (vT q.1 q.2.1 = q.2.2)) && (G.all (fun q => decide (jV q.1 q.2.1 = some q.2.2)) && Z.all (fun q => (List.range q.2).all (fun i => decide (vT q.1 i = 0))))))) = true) : KNF LI LJ F G Z S := by
  rw [Bool.and_eq_true, Bool.and_eq_true, Bool.and_eq_true, Bool.and_eq_true] at h
  obtain ⟨h1, h2, h3, h4, h5⟩ := h
  refine ⟨fun q hq i hi => ?_, fun q hq i hi => ?_, fun q hq => ?_, fun q hq => ?_, fun q hq i hi => ?_⟩
  · rw [gs_v g]
    exact of_decide_eq_true (List.all_eq_true.mp (List.all_eq_true.mp h1 q hq) i (List.mem_range.mpr hi))
  · exact gs_jv g (of_decide_eq_true (List.all_eq_true.mp (List.all_eq_true.mp h2 q hq) i (List.mem_range.mpr hi)))
  · rw [gs_v g]
    exact of_decide_eq_true (List.all_eq_true.mp h3 q hq)
  · exact gs_jv g (of_decide_eq_true (List.all_eq_true.mp h4 q hq))
  · rw [gs_v g]
    exact of_decide_eq_true (List.all_eq_true.mp (List.all_eq_true.mp h5 q hq) i (List.mem_range.mpr hi))
theorem rll_0 {S : sS} (g : gS sT2 S) : RLL S := by
  have hI : INV S := (fr_INV g).1
  have kc : KCF S := knf_0 g kcB_t
  have kr : KRF S := knf_0 g krB_t
  have t3 : TX3 S := tx3_hi hI.1
  obtain ⟨r, s⟩ := fresh_x kc kr hI.1 t3 hI.2.2.1.2.2.2.2.1
  have a4 : Xi S 900 4 = 0 := by rw [gs_v g]; decide +kernel
  have a6 : Xi S 904 156 = 0 := by rw [gs_v g]; decide +kernel
  have a7 : Xi S 904 157 = 0 := by rw [gs_v g]; decide +kernel
  refine ⟨fr_EQB g, ⟨r, ⟨?_, fun j hj => ?_⟩, a7, s.c t3⟩, s⟩
  · rw [a4, a6]; exact ⟨rfl, by decide, by decide⟩
  · rw [a4] at hj; omega
theorem cpq_l {S : sS} (hI : INV S) (h : RLL S) : CPQ S := by
  refine ⟨hI.1.c 1 3, h.2.1.1.1.1.2.2.1, fun i hi => ?_⟩
  obtain ⟨_, c4, _, c5, _⟩ := h.2.1.1.2.2.1.2 i hi
  exact ⟨c5, by omega⟩
end
section
/-! what keeps the law's relation, out of the rows that say the answers -/
theorem dq_rs_act {S T : sS} {a n : Int} {r : Option Value} (q : Q_rs_act__q S a n r T) : Q_rs_act S a n r T := by
  obtain ⟨h, f, z, e, g, x, _⟩ := q
  exact ⟨h, f, z, e, g, x⟩
theorem dq_rs_clear {S T : sS} {r : Option Value} (q : Q_rs_clear__q S r T) : Q_rs_clear S r T := by
  obtain ⟨h, f, z, e, g, _⟩ := q
  exact ⟨h, f, z, e, g⟩
theorem dq_mo_act {S T : sS} {a n : Int} {r : Option Value} (q : Q_mo_act__s S a n r T) : Q_mo_act S a n r T := by
  obtain ⟨h, f, z, e, g, x, y, _⟩ := q
  exact ⟨h, f, z, e, g, x, y⟩
theorem dq_mo_is {S T : sS} {o a : Int} {r : Option Value} (q : Q_mo_is__q S o a r T) : Q_mo_is S o a r T := by
  obtain ⟨h, f, z, e, g, _⟩ := q
  exact ⟨h, f, z, e, g⟩
theorem dq_mo_property_2 {S T : sS} {o a : Int} {r : Option Value} (q : Q_mo_property_2__q S o a r T) : Q_mo_property_2 S o a r T := by
  obtain ⟨h, f, z, e, g, _⟩ := q
  exact ⟨h, f, z, e, g⟩
theorem dq_mo_letter {S T : sS} {o a k : Int} {r : Option Value} (q : Q_mo_letter__q S o a k r T) : Q_mo_letter S o a k r T := by
  obtain ⟨h, f, z, e, g, _⟩ := q
  exact ⟨h, f, z, e, g⟩
theorem dq_rs_command__2 {S T : sS} {ts : Nat} {r : Option Value} (q : Q_rs_command__q S ts r T) : Q_rs_command__2 S r T := by
  obtain ⟨h, f, z, e, g, x, y, _⟩ := q
  exact ⟨h, f, z, e, g, x, y⟩
theorem dq_mo_command__2 {S T : sS} {r : Option Value} (q : Q_mo_command__q S r T) : Q_mo_command__2 S r T := by
  obtain ⟨h, f, z, e, g, x, y, w, _⟩ := q
  exact ⟨h, f, z, e, g, x, y, w⟩
theorem t_rd_o {S : sS} (hH : HI S) (ts : Nat) (tq : Nat) (h8 : S.2.2 0 8 = some ts) (h9 : S.2.2 0 9 = some tq) (htp : tp ts) (htq : tp tq) (d : Nat) : Mt lay0 (d + 10) m_rs_read [.ref 0] S (fun r S1 => (Q_rs_read__2 S ts tq r S1 ∧ Xi S1 900 4 = 0) ∧ RXC S ts S1 r) := Mt_m (t_rs_read__u hH ts tq h8 h9 htp htq d) (fun r S1 h => by
  obtain ⟨h, f, z, e, g, a1, a2, a3, a4, a5, a6, q, a7, a8⟩ := h
  exact ⟨⟨⟨h, f, z, e, g, a1, a2, a3, a4, a5, a6, a7⟩, a8⟩, f, fun y hy ey => by rw [iv_i (ey.symm.trans e) hy (by unfold rg; omega)]; exact q⟩)
theorem t_rd_n {S : sS} (hH : HI S) (hB : ABV S) (hW : WYM S) (hK : KWM S) (hPF : PF S) (hBDA : BDA S) (d : Nat) : Mt lay0 (d + 15) m_mo_read [.ref 904] S (fun r S1 => Q_mo_read__2 S r S1 ∧ RXM S S1 r) := Mt_m (t_mo_read__u hH hB hW hK hPF hBDA d) (fun r S1 h => by
  obtain ⟨h, f, z, e, g, a1, a2, a3, q, a7⟩ := h
  exact ⟨⟨h, f, z, e, g, a1, a2, a3, a7⟩, f, fun y hy ey => by rw [iv_i (ey.symm.trans e) hy (by unfold rg; omega)]; exact q⟩)
end
