/-! SAFETY of methods: printed by wip/safe (vc.py, decl.py) -/
def md_rs_feed__2 : List rec := [(0, 1, 10, 11), (902, 904, 0, 100000)]
abbrev Q_rs_feed__2 (S : sS) (ts : Nat) (w : Int) (n : Int) : pst := fun r S1 => HI S1 ∧ FR md_rs_feed__2 S S1 ∧ (∃ z : Int, r = some (iv z) ∧ (-1 ≤ z ∧ z ≤ 5000) ∧ (1 ≤ n → n ≤ 8 → Xi S 0 10 + n ≤ 5000 → z = Xi S 0 10 + n ∧ Xi S1 0 10 = Xi S 0 10 + n) ∧ (n < 1 ∨ 8 < n ∨ 5000 < Xi S 0 10 + n → z = -1 ∧ Xi S1 0 10 = Xi S 0 10) ∧ (∀ t j : Nat, 0 < t → t ≠ ts → Xi S1 t j = Xi S t j))
set_option maxRecDepth 100000 in
theorem t_rs_feed__2 {S : sS} (hH : HI S) (ts : Nat) (w : Int) (n : Int) (hn : -2147483648 ≤ n ∧ n ≤ 2147483647) (h8 : S.2.2 0 8 = some ts) (htp : tp ts) (d : Nat) : Mt lay0 (d + 1) m_rs_feed [.ref 0, jw w, iv n] S (Q_rs_feed__2 S ts w n) := by
  refine Mt_R rfl rfl ?_
  have hF : FR md_rs_feed__2 S S := FR.rf
  have w1 : 0 ≤ Xi S 0 10 ∧ Xi S 0 10 ≤ 5000 := hH.c _ _
  have C30 : ∀ (n30 : Nat) (T1 : sS) (_ : HI T1) (_ : FR md_rs_feed__2 S T1) (v4 : Int), (-1 ≤ v4 ∧ v4 ≤ 7) → (Xi T1 0 10 + v4 + 1 = Xi S 0 10 + n) → (1 ≤ n ∧ n ≤ 8 ∧ Xi S 0 10 + n ≤ 5000) → (T1.2.2 0 8 = some ts) → (∀ t j : Nat, 0 < t → t ≠ ts → Xi T1 t j = Xi S t j) → n30 = (v4 + 1).toNat → Rl lay0 (d + 0) m_rs_feed 30 [(0, .ref 0), (1, jw w), (4, iv v4)] [] T1 (Q_rs_feed__2 S ts w n) := by
    intro n30
    induction n30 using Nat.strongRecOn with
    | ind n30 ih30 =>
      intro T1 hHT1 hFT1 v4 w2 w3 w4 h8_30 O30 hm30
      have w5 : 0 ≤ Xi T1 0 10 ∧ Xi T1 0 10 ≤ 5000 := hHT1.c _ _
      refine l_iload rfl rfl ?_
      refine l_if_lt rfl rfl (by unfold rg; omega) (fun w6 => ?_) (fun w7 => ?_)
      · refine l_aload_n rfl rfl ?_
        refine l_gfi rfl rfl rfl rfl rfl ?_
        refine l_ireturn rfl rfl ?_
        have w8 : 0 ≤ Xi T1 0 10 ∧ Xi T1 0 10 ≤ 5000 := hHT1.c _ _
        exact ⟨hHT1, hFT1, _, rfl, ⟨by omega, by omega⟩, (by first | assumption | omega), (by first | assumption | omega), (by first | exact O30 | exact fun _ _ _ _ => rfl)⟩
      · refine l_aload_n rfl rfl ?_
        refine l_gfr rfl rfl rfl rfl rfl h8_30 ?_
        refine l_aload_n rfl rfl ?_
        refine l_gfi rfl rfl rfl rfl rfl ?_
        refine l_lload_n rfl rfl ?_
        refine l_bipush rfl rfl ?_
        refine l_iload rfl rfl ?_
        refine l_imul rfl ?_
        refine l_lushrF rfl ?_
        have w10 : rgL (lushrF w (8 * v4)) := lushrF_rg
        refine l_l2iA rfl (fun c11 w11 => ?_)
        refine l_i2b rfl (fun c12 w12 => ?_)
        refine l_bastoreB1 (n := 5000) rfl (lay_tp (by assumption)) (by omega) (by omega) (by unfold rg; omega) ⟨by omega, by omega⟩ ?_
        obtain ⟨U2, eU2⟩ : ∃ T : sS, T = uI T1 ts (((Xi T1 0 10)).toNat) (Int32.ofInt c12) := ⟨_, rfl⟩
        rw [← eU2]
        have hHU2 : HI U2 := by rw [eU2]; exact HI_w hHT1 (by rw [lh_tp (by assumption)]; omega) (by rw [lh_tp (by assumption)]; omega)
        have hFU2 : FR md_rs_feed__2 S U2 := by rw [eU2]; exact FR.wI hFT1 (mdf_i (r := (902, 904, 0, 100000)) (List.mem_of_getElem? (i := 1) rfl) (inR_i (by unfold tp at *; omega) (by unfold tp at *; omega) (by omega) (by omega)))
        have w13 : Xi U2 ts (((Xi T1 0 10)).toNat) = c12 := by rw [eU2]; exact Xi_same (by unfold rg; omega)
        refine l_aload_n rfl rfl ?_
        refine l_dup rfl rfl ?_
        refine l_gfi rfl rfl rfl rfl rfl ?_
        have w14 : (Xi U2 0 10) = (Xi T1 0 10) := (show Xi U2 0 10 = Xi T1 0 10 from by rw [eU2]; exact Xi_ne (by unfold tp at *; omega))
        rw [w14]
        refine l_iconst rfl ?_
        refine l_iadd rfl ?_
        refine l_pfi rfl rfl rfl rfl ?_
        obtain ⟨U3, eU3⟩ : ∃ T : sS, T = uI U2 0 10 (Int32.ofInt ((Xi T1 0 10) + 1)) := ⟨_, rfl⟩
        rw [← eU3]
        have hHU3 : HI U3 := by rw [eU3]; exact HI_w hHU2 (show 0 ≤ ((Xi T1 0 10) + 1) by omega) (show ((Xi T1 0 10) + 1) ≤ 5000 by omega)
        have hFU3 : FR md_rs_feed__2 S U3 := by rw [eU3]; exact FR.wI hFU2 (mdf_i (r := (0, 1, 10, 11)) (List.mem_of_getElem? (i := 0) rfl) (inR_i (by omega) (by omega) (by omega) (by omega)))
        have w15 : Xi U3 0 10 = ((Xi T1 0 10) + 1) := by rw [eU3]; exact Xi_same (by unfold rg; omega)
        have O60 : ∀ t j : Nat, 0 < t → t ≠ ts → Xi U3 t j = Xi S t j := fun t j a b => by rw [eU3, Xi_ne (by omega), eU2, Xi_ne (by omega)]; exact O30 t j a b
        refine l_iinc rfl rfl rfl rfl ?_
        refine l_goto rfl rfl ?_
        have w16 : 0 ≤ Xi U3 0 10 ∧ Xi U3 0 10 ≤ 5000 := hHU3.c _ _
        exact Rl_weak (ih30 _ (by omega) U3 hHU3 hFU3 ((v4 + (-1))) (by omega) (by omega) (by omega) (((show U3.2.2 0 8 = U2.2.2 0 8 from by rw [eU3]; rfl).trans ((show U2.2.2 0 8 = T1.2.2 0 8 from by rw [eU2]; rfl).trans h8_30))) (by first | exact O60 | exact fun _ _ _ _ => rfl) rfl) (And.intro rfl (And.intro rfl (And.intro rfl (True.intro))))
  refine l_iload_n rfl rfl ?_
  refine l_iconst rfl ?_
  refine l_icmp_lt rfl rfl (by unfold rg; omega) (by unfold rg; omega) (fun w17 => ?_) (fun w18 => ?_)
  · refine l_iconst rfl ?_
    refine l_ireturn rfl rfl ?_
    have w19 : 0 ≤ Xi S 0 10 ∧ Xi S 0 10 ≤ 5000 := hH.c _ _
    exact ⟨hH, hF, _, rfl, ⟨by omega, by omega⟩, (by first | assumption | omega), (by first | assumption | omega), (by first | exact O30 | exact fun _ _ _ _ => rfl)⟩
  · refine l_iload_n rfl rfl ?_
    refine l_bipush rfl rfl ?_
    refine l_icmp_gt rfl rfl (by unfold rg; omega) (by unfold rg; omega) (fun w20 => ?_) (fun w21 => ?_)
    · refine l_iconst rfl ?_
      refine l_ireturn rfl rfl ?_
      have w22 : 0 ≤ Xi S 0 10 ∧ Xi S 0 10 ≤ 5000 := hH.c _ _
      exact ⟨hH, hF, _, rfl, ⟨by omega, by omega⟩, (by first | assumption | omega), (by first | assumption | omega), (by first | exact O30 | exact fun _ _ _ _ => rfl)⟩
    · refine l_aload_n rfl rfl ?_
      refine l_gfi rfl rfl rfl rfl rfl ?_
      refine l_iload_n rfl rfl ?_
      refine l_iadd rfl ?_
      refine l_sipush rfl rfl ?_
      refine l_icmp_le rfl rfl (by unfold rg; omega) (by unfold rg; omega) (fun w23 => ?_) (fun w24 => ?_)
      · refine l_iload_n rfl rfl ?_
        refine l_iconst rfl ?_
        refine l_isub rfl ?_
        refine l_istore rfl rfl rfl ?_
        have w25 : 0 ≤ Xi S 0 10 ∧ Xi S 0 10 ≤ 5000 := hH.c _ _
        exact Rl_weak (C30 _ S hH hF ((n - 1)) (by omega) (by omega) (by omega) (h8) (by first | exact O60 | exact fun _ _ _ _ => rfl) rfl) (And.intro rfl (And.intro rfl (And.intro rfl (True.intro))))
      · refine l_iconst rfl ?_
        refine l_ireturn rfl rfl ?_
        have w26 : 0 ≤ Xi S 0 10 ∧ Xi S 0 10 ≤ 5000 := hH.c _ _
        exact ⟨hH, hF, _, rfl, ⟨by omega, by omega⟩, (by first | assumption | omega), (by first | assumption | omega), (by first | exact O30 | exact fun _ _ _ _ => rfl)⟩
def md_rs_read__2 : List rec := [(0, 1, 8, 9), (0, 1, 9, 10), (0, 1, 10, 11), (0, 1, 11, 12), (1, 2, 3, 4), (2, 3, 0, 100000), (3, 4, 0, 100000), (4, 5, 0, 100000), (5, 6, 0, 100000), (6, 7, 0, 100000), (7, 8, 0, 100000), (8, 9, 0, 100000), (9, 10, 0, 100000), (10, 11, 0, 100000), (11, 12, 0, 100000), (12, 13, 0, 100000), (13, 14, 0, 100000), (14, 15, 0, 100000), (15, 16, 0, 100000), (16, 17, 0, 100000), (17, 18, 0, 100000), (18, 19, 0, 100000), (19, 20, 0, 100000), (20, 21, 1, 2), (20, 21, 12, 13), (21, 22, 0, 100000), (22, 23, 0, 100000), (23, 24, 0, 100000), (25, 65, 0, 100000), (66, 106, 0, 100000), (107, 147, 0, 100000), (148, 188, 0, 100000), (189, 195, 0, 100000), (196, 220, 0, 100000), (221, 245, 0, 100000), (246, 247, 2, 3), (246, 247, 5, 6), (246, 247, 8, 9), (248, 272, 0, 100000), (272, 273, 0, 100000), (274, 275, 0, 100000), (275, 276, 0, 100000), (276, 876, 0, 1), (276, 876, 1, 2), (276, 876, 2, 3), (276, 876, 3, 4), (276, 876, 4, 5), (276, 876, 5, 6), (276, 876, 6, 7), (876, 877, 4, 5), (876, 877, 5, 6), (876, 877, 6, 7), (876, 877, 7, 8), (876, 877, 8, 9), (876, 877, 9, 10), (877, 878, 0, 100000), (878, 879, 0, 100000), (879, 880, 0, 100000), (882, 883, 3, 4), (882, 883, 10, 11), (883, 884, 0, 100000), (884, 885, 0, 100000), (885, 886, 0, 100000), (886, 887, 0, 100000), (887, 888, 0, 100000), (888, 889, 0, 100000), (890, 891, 1, 2), (890, 891, 2, 3), (890, 891, 3, 4), (891, 892, 9, 10), (891, 892, 10, 11), (891, 892, 11, 12), (891, 892, 12, 13), (892, 893, 0, 100000), (893, 894, 0, 100000), (894, 895, 0, 100000), (895, 896, 3, 4), (895, 896, 4, 5), (895, 896, 5, 6), (895, 896, 6, 7), (895, 896, 7, 8), (895, 896, 8, 9), (895, 896, 9, 10), (895, 896, 10, 11), (895, 896, 11, 12), (895, 896, 12, 13), (895, 896, 13, 14), (895, 896, 14, 15), (896, 897, 0, 100000), (897, 898, 0, 100000), (898, 899, 0, 100000), (899, 900, 4, 5), (899, 900, 5, 6), (899, 900, 6, 7), (900, 901, 4, 5)]
abbrev Q_rs_read__2 (S : sS) (ts : Nat) (tq : Nat) : pst := fun r S1 => HI S1 ∧ FR md_rs_read__2 S S1 ∧ (∃ z : Int, r = some (iv z) ∧ (-5010 ≤ z ∧ z ≤ 5000) ∧ (WI S1) ∧ (ORD S1) ∧ (S1.2.2 0 8 = some tq) ∧ (S1.2.2 0 9 = some ts) ∧ (S1.2.2 20 1 = some ts) ∧ (S1.2.2 876 4 = some ts) ∧ (Xi S1 0 10 = 0))
set_option maxRecDepth 100000 in
set_option maxHeartbeats 4000000 in
theorem t_rs_read__2 {S : sS} (hH : HI S) (ts : Nat) (tq : Nat) (h8 : S.2.2 0 8 = some ts) (h9 : S.2.2 0 9 = some tq) (htp : tp ts) (htq : tp tq) (d : Nat) : Mt lay0 (d + 10) m_rs_read [.ref 0] S (Q_rs_read__2 S ts tq) := by
  refine Mt_R rfl rfl ?_
  have hF : FR md_rs_read__2 S S := FR.rf
  have w1 : 0 ≤ Xi S 0 10 ∧ Xi S 0 10 ≤ 5000 := hH.c _ _
  have w2 : 0 ≤ Xi S 876 5 ∧ Xi S 876 5 ≤ 5000 := hH.c _ _
  have w3 : 0 ≤ Xi S 876 8 ∧ Xi S 876 8 ≤ 9 := hH.c _ _
  have C69 : ∀ (n69 : Nat) (T1 : sS) (_ : HI T1) (_ : FR md_rs_read__2 S T1) (v1 : Int) (v3 : Int) (v4 : Int), (0 ≤ v1 ∧ v1 ≤ 5000) → (0 ≤ v3 ∧ v3 ≤ 5000) → (0 ≤ v4 ∧ v4 ≤ 5000) → (T1.2.2 876 4 = some ts) → (T1.2.2 20 1 = some ts) → (T1.2.2 0 8 = some tq) → (T1.2.2 0 9 = some ts) → (v4 ≤ v1) → (Xi T1 876 5 = v1) → (Xi T1 876 8 = 0 → WI T1) → (Xi T1 0 10 = 0) → n69 = (5001 - v3).toNat → Rl lay0 (d + 9) m_rs_read 69 [(0, .ref 0), (1, iv v1), (3, iv v3), (4, iv v4)] [] T1 (Q_rs_read__2 S ts tq) := by
    intro n69
    induction n69 using Nat.strongRecOn with
    | ind n69 ih69 =>
      intro T1 hHT1 hFT1 v1 v3 v4 w4 w5 w6 h76_69 h20_69 h08_69 h09_69 w7 w8 hW69 w9 hm69
      have w10 : 0 ≤ Xi T1 0 10 ∧ Xi T1 0 10 ≤ 5000 := hHT1.c _ _
      have w11 : 0 ≤ Xi T1 876 5 ∧ Xi T1 876 5 ≤ 5000 := hHT1.c _ _
      have w12 : 0 ≤ Xi T1 876 8 ∧ Xi T1 876 8 ≤ 9 := hHT1.c _ _
      have C203 : ∀  (T2 : sS) (_ : HI T2) (_ : FR md_rs_read__2 S T2) (v3 : Int), (0 ≤ v3 ∧ v3 ≤ 5000) → (T2.2.2 876 4 = some ts) → (T2.2.2 20 1 = some ts) → (T2.2.2 0 8 = some tq) → (T2.2.2 0 9 = some ts) → (Xi T2 876 8 = 0 → WI T2) → (Xi T2 0 10 = 0) → Rl lay0 (d + 9) m_rs_read 203 [(0, .ref 0), (3, iv v3)] [] T2 (Q_rs_read__2 S ts tq) := by
        intro T2 hHT2 hFT2 v3 w13 h76_203 h20_203 h08_203 h09_203 hW203 w14
        have w15 : 0 ≤ Xi T2 0 10 ∧ Xi T2 0 10 ≤ 5000 := hHT2.c _ _
        have w16 : 0 ≤ Xi T2 876 8 ∧ Xi T2 876 8 ≤ 9 := hHT2.c _ _
        refine l_iload_n rfl rfl ?_
        refine l_if_ne rfl rfl (by unfold rg; omega) (fun w17 => ?_) (fun w18 => ?_)
        · refine l_aload_n rfl rfl ?_
          refine l_aload_n rfl rfl ?_
          refine l_gfr rfl rfl rfl rfl rfl (hHT2.r 0 4 876 rfl) ?_
          refine l_gfi rfl rfl rfl rfl rfl ?_
          refine l_pfi rfl rfl rfl rfl ?_
          obtain ⟨U3, eU3⟩ : ∃ T : sS, T = uI T2 0 11 (Int32.ofInt (Xi T2 876 8)) := ⟨_, rfl⟩
          rw [← eU3]
          have hHU3 : HI U3 := by rw [eU3]; exact HI_w hHT2 (show 0 ≤ (Xi T2 876 8) by omega) (show (Xi T2 876 8) ≤ 9 by omega)
          have hFU3 : FR md_rs_read__2 S U3 := by rw [eU3]; exact FR.wI hFT2 (mdf_i (r := (0, 1, 11, 12)) (List.mem_of_getElem? (i := 3) rfl) (inR_i (by omega) (by omega) (by omega) (by omega)))
          have w19 : Xi U3 0 11 = (Xi T2 876 8) := by rw [eU3]; exact Xi_same (by unfold rg; omega)
          have e225 : Xi U3 0 11 = Xi T2 876 8 := by omega
          have W225 : Xi U3 876 8 = 0 → WI U3 := fun q => WI_FR hHT2 (FR_e eU3) rfl rfl rfl rfl rfl rfl rfl rfl rfl (by first | exact W213 (by rw [eU3, Xi_ne (by omega)] at q; exact q) | exact hW203 (by rw [eU3, Xi_ne (by omega)] at q; exact q))
          have f225 : Xi U3 876 8 = Xi T2 876 8 := by rw [eU3, Xi_ne (by omega)]
          refine l_aload_n rfl rfl ?_
          refine l_gfi rfl rfl rfl rfl rfl ?_
          refine l_if_eq rfl rfl (by unfold rg; omega) (fun w20 => ?_) (fun w21 => ?_)
          · refine l_aload_n rfl rfl ?_
            refine l_gfr rfl rfl rfl rfl rfl (hHU3.r 0 1 20 rfl) ?_
            have w22 : Xi U3 0 10 = Xi T2 0 10 := (show Xi U3 0 10 = Xi T2 0 10 from by rw [eU3]; exact Xi_ne (by omega))
            have w23 : 0 ≤ Xi T2 0 10 ∧ Xi T2 0 10 ≤ 5000 := hHT2.c _ _
            have w24 : Xi U3 876 5 = Xi T2 876 5 := (show Xi U3 876 5 = Xi T2 876 5 from by rw [eU3]; exact Xi_ne (by omega))
            have w25 : 0 ≤ Xi T2 876 5 ∧ Xi T2 876 5 ≤ 5000 := hHT2.c _ _
            have w26 : Xi U3 876 6 = Xi T2 876 6 := (show Xi U3 876 6 = Xi T2 876 6 from by rw [eU3]; exact Xi_ne (by omega))
            have w27 : 0 ≤ Xi T2 876 6 ∧ Xi T2 876 6 ≤ 5002 := hHT2.c _ _
            have w28 : Xi U3 876 7 = Xi T2 876 7 := (show Xi U3 876 7 = Xi T2 876 7 from by rw [eU3]; exact Xi_ne (by omega))
            have w29 : 0 ≤ Xi T2 876 7 ∧ Xi T2 876 7 ≤ 5125 := hHT2.c _ _
            have w30 : Xi U3 876 8 = Xi T2 876 8 := (show Xi U3 876 8 = Xi T2 876 8 from by rw [eU3]; exact Xi_ne (by omega))
            have w31 : 0 ≤ Xi T2 876 8 ∧ Xi T2 876 8 ≤ 9 := hHT2.c _ _
            have w32 : Xi U3 890 2 = Xi T2 890 2 := (show Xi U3 890 2 = Xi T2 890 2 from by rw [eU3]; exact Xi_ne (by omega))
            have w33 : 0 ≤ Xi T2 890 2 ∧ Xi T2 890 2 ≤ 20 := hHT2.c _ _
            refine l_callV rfl rfl rfl (t_wo_placePlayer hHU3 _) ?_
            rintro _ T4 ⟨hHT4, w35, rfl⟩
            have hFT4 : FR md_rs_read__2 S T4 := FR.tr hFU3 w35 rfl
            show Rl _ _ _ _ _ [] _ _
            have W254 : WI T4 := WI_FR hHU3 (by assumption : FR md_wo_placePlayer U3 T4) rfl rfl rfl rfl rfl rfl rfl rfl rfl (W225 (by omega))
            refine l_aload_n rfl rfl ?_
            refine l_gfr rfl rfl rfl rfl rfl (hHT4.r 0 2 246 rfl) ?_
            have w36 : Xi T4 0 10 = Xi T2 0 10 := (show Xi T4 0 10 = Xi U3 0 10 from w35.x _ _ rfl).trans ((show Xi U3 0 10 = Xi T2 0 10 from by rw [eU3]; exact Xi_ne (by omega)))
            have w37 : 0 ≤ Xi T2 0 10 ∧ Xi T2 0 10 ≤ 5000 := hHT2.c _ _
            have w38 : Xi T4 876 5 = Xi T2 876 5 := (show Xi T4 876 5 = Xi U3 876 5 from w35.x _ _ rfl).trans ((show Xi U3 876 5 = Xi T2 876 5 from by rw [eU3]; exact Xi_ne (by omega)))
            have w39 : 0 ≤ Xi T2 876 5 ∧ Xi T2 876 5 ≤ 5000 := hHT2.c _ _
            have w40 : Xi T4 876 6 = Xi T2 876 6 := (show Xi T4 876 6 = Xi U3 876 6 from w35.x _ _ rfl).trans ((show Xi U3 876 6 = Xi T2 876 6 from by rw [eU3]; exact Xi_ne (by omega)))
            have w41 : 0 ≤ Xi T2 876 6 ∧ Xi T2 876 6 ≤ 5002 := hHT2.c _ _
            have w42 : Xi T4 876 7 = Xi T2 876 7 := (show Xi T4 876 7 = Xi U3 876 7 from w35.x _ _ rfl).trans ((show Xi U3 876 7 = Xi T2 876 7 from by rw [eU3]; exact Xi_ne (by omega)))
            have w43 : 0 ≤ Xi T2 876 7 ∧ Xi T2 876 7 ≤ 5125 := hHT2.c _ _
            have w44 : Xi T4 876 8 = Xi T2 876 8 := (show Xi T4 876 8 = Xi U3 876 8 from w35.x _ _ rfl).trans ((show Xi U3 876 8 = Xi T2 876 8 from by rw [eU3]; exact Xi_ne (by omega)))
            have w45 : 0 ≤ Xi T2 876 8 ∧ Xi T2 876 8 ≤ 9 := hHT2.c _ _
            have w46 : Xi T4 890 2 = Xi T2 890 2 := (show Xi T4 890 2 = Xi U3 890 2 from w35.x _ _ rfl).trans ((show Xi U3 890 2 = Xi T2 890 2 from by rw [eU3]; exact Xi_ne (by omega)))
            have w47 : 0 ≤ Xi T2 890 2 ∧ Xi T2 890 2 ≤ 20 := hHT2.c _ _
            refine l_callV rfl rfl rfl (t_bo_putInOrder hHT4 _) ?_
            rintro _ T5 ⟨hHT5, w50, rfl, w48⟩
            have hFT5 : FR md_rs_read__2 S T5 := FR.tr hFT4 w50 rfl
            show Rl _ _ _ _ _ [] _ _
            have W261 : WI T5 := WI_FR hHT4 (by assumption : FR md_bo_putInOrder T4 T5) rfl rfl rfl rfl rfl rfl rfl rfl rfl W254
            have o261 : ORD T5 := by assumption
            refine l_iload_n rfl rfl ?_
            refine l_ireturn rfl rfl ?_
            have w51 : Xi T5 0 10 = Xi T2 0 10 := (show Xi T5 0 10 = Xi T4 0 10 from w50.x _ _ rfl).trans ( (show Xi T4 0 10 = Xi U3 0 10 from w35.x _ _ rfl).trans ((show Xi U3 0 10 = Xi T2 0 10 from by rw [eU3]; exact Xi_ne (by omega))))
            have w52 : 0 ≤ Xi T2 0 10 ∧ Xi T2 0 10 ≤ 5000 := hHT2.c _ _
            have w53 : Xi T5 876 5 = Xi T2 876 5 := (show Xi T5 876 5 = Xi T4 876 5 from w50.x _ _ rfl).trans ( (show Xi T4 876 5 = Xi U3 876 5 from w35.x _ _ rfl).trans ((show Xi U3 876 5 = Xi T2 876 5 from by rw [eU3]; exact Xi_ne (by omega))))
            have w54 : 0 ≤ Xi T2 876 5 ∧ Xi T2 876 5 ≤ 5000 := hHT2.c _ _
            have w55 : Xi T5 876 6 = Xi T2 876 6 := (show Xi T5 876 6 = Xi T4 876 6 from w50.x _ _ rfl).trans ( (show Xi T4 876 6 = Xi U3 876 6 from w35.x _ _ rfl).trans ((show Xi U3 876 6 = Xi T2 876 6 from by rw [eU3]; exact Xi_ne (by omega))))
            have w56 : 0 ≤ Xi T2 876 6 ∧ Xi T2 876 6 ≤ 5002 := hHT2.c _ _
            have w57 : Xi T5 876 7 = Xi T2 876 7 := (show Xi T5 876 7 = Xi T4 876 7 from w50.x _ _ rfl).trans ( (show Xi T4 876 7 = Xi U3 876 7 from w35.x _ _ rfl).trans ((show Xi U3 876 7 = Xi T2 876 7 from by rw [eU3]; exact Xi_ne (by omega))))
            have w58 : 0 ≤ Xi T2 876 7 ∧ Xi T2 876 7 ≤ 5125 := hHT2.c _ _
            have w59 : Xi T5 876 8 = Xi T2 876 8 := (show Xi T5 876 8 = Xi T4 876 8 from w50.x _ _ rfl).trans ( (show Xi T4 876 8 = Xi U3 876 8 from w35.x _ _ rfl).trans ((show Xi U3 876 8 = Xi T2 876 8 from by rw [eU3]; exact Xi_ne (by omega))))
            have w60 : 0 ≤ Xi T2 876 8 ∧ Xi T2 876 8 ≤ 9 := hHT2.c _ _
            have w61 : Xi T5 890 2 = Xi T2 890 2 := (show Xi T5 890 2 = Xi T4 890 2 from w50.x _ _ rfl).trans ( (show Xi T4 890 2 = Xi U3 890 2 from w35.x _ _ rfl).trans ((show Xi U3 890 2 = Xi T2 890 2 from by rw [eU3]; exact Xi_ne (by omega))))
            have w62 : 0 ≤ Xi T2 890 2 ∧ Xi T2 890 2 ≤ 20 := hHT2.c _ _
            exact ⟨hHT5, hFT5, _, rfl, ⟨by omega, by omega⟩, (by first | exact W236 | exact W261), (by first | exact o236 | exact o261), (((w50 0 8 rfl).2.2.trans ((w35 0 8 rfl).2.2.trans ((show U3.2.2 0 8 = T2.2.2 0 8 from by rw [eU3]; rfl).trans h08_203)))), (((w50 0 9 rfl).2.2.trans ((w35 0 9 rfl).2.2.trans ((show U3.2.2 0 9 = T2.2.2 0 9 from by rw [eU3]; rfl).trans h09_203)))), (((w50 20 1 rfl).2.2.trans ((w35 20 1 rfl).2.2.trans ((show U3.2.2 20 1 = T2.2.2 20 1 from by rw [eU3]; rfl).trans h20_203)))), (((w50 876 4 rfl).2.2.trans ((w35 876 4 rfl).2.2.trans ((show U3.2.2 876 4 = T2.2.2 876 4 from by rw [eU3]; rfl).trans h76_203)))), (by omega)⟩
          · refine l_aload_n rfl rfl ?_
            have w63 : Xi U3 0 10 = Xi T2 0 10 := (show Xi U3 0 10 = Xi T2 0 10 from by rw [eU3]; exact Xi_ne (by omega))
            have w64 : 0 ≤ Xi T2 0 10 ∧ Xi T2 0 10 ≤ 5000 := hHT2.c _ _
            have w65 : Xi U3 876 5 = Xi T2 876 5 := (show Xi U3 876 5 = Xi T2 876 5 from by rw [eU3]; exact Xi_ne (by omega))
            have w66 : 0 ≤ Xi T2 876 5 ∧ Xi T2 876 5 ≤ 5000 := hHT2.c _ _
            have w67 : Xi U3 876 6 = Xi T2 876 6 := (show Xi U3 876 6 = Xi T2 876 6 from by rw [eU3]; exact Xi_ne (by omega))
            have w68 : 0 ≤ Xi T2 876 6 ∧ Xi T2 876 6 ≤ 5002 := hHT2.c _ _
            have w69 : Xi U3 876 7 = Xi T2 876 7 := (show Xi U3 876 7 = Xi T2 876 7 from by rw [eU3]; exact Xi_ne (by omega))
            have w70 : 0 ≤ Xi T2 876 7 ∧ Xi T2 876 7 ≤ 5125 := hHT2.c _ _
            have w71 : Xi U3 876 8 = Xi T2 876 8 := (show Xi U3 876 8 = Xi T2 876 8 from by rw [eU3]; exact Xi_ne (by omega))
            have w72 : 0 ≤ Xi T2 876 8 ∧ Xi T2 876 8 ≤ 9 := hHT2.c _ _
            have w73 : Xi U3 890 2 = Xi T2 890 2 := (show Xi U3 890 2 = Xi T2 890 2 from by rw [eU3]; exact Xi_ne (by omega))
            have w74 : 0 ≤ Xi T2 890 2 ∧ Xi T2 890 2 ≤ 20 := hHT2.c _ _
            refine l_callV rfl rfl rfl (t_rs_startAgain hHU3 _) ?_
            rintro _ T6 ⟨hHT6, w78, rfl, w75, w76⟩
            have hFT6 : FR md_rs_read__2 S T6 := FR.tr hFU3 w78 rfl
            show Rl _ _ _ _ _ [] _ _
            have W236 : WI T6 := by assumption
            have o236 : ORD T6 := fun i hi => by omega
            refine l_bipush rfl rfl ?_
            refine l_aload_n rfl rfl ?_
            refine l_gfr rfl rfl rfl rfl rfl (hHT6.r 0 4 876 rfl) ?_
            refine l_gfi rfl rfl rfl rfl rfl ?_
            have w79 : 0 ≤ (Xi T6 876 9) ∧ (Xi T6 876 9) ≤ 5000 := hHT6.c _ _
            refine l_isub rfl ?_
            refine l_ireturn rfl rfl ?_
            have w80 : Xi T6 0 10 = Xi T2 0 10 := (show Xi T6 0 10 = Xi U3 0 10 from w78.x _ _ rfl).trans ((show Xi U3 0 10 = Xi T2 0 10 from by rw [eU3]; exact Xi_ne (by omega)))
            have w81 : 0 ≤ Xi T2 0 10 ∧ Xi T2 0 10 ≤ 5000 := hHT2.c _ _
            have w82 : Xi T6 876 5 = Xi T2 876 5 := (show Xi T6 876 5 = Xi U3 876 5 from w78.x _ _ rfl).trans ((show Xi U3 876 5 = Xi T2 876 5 from by rw [eU3]; exact Xi_ne (by omega)))
            have w83 : 0 ≤ Xi T2 876 5 ∧ Xi T2 876 5 ≤ 5000 := hHT2.c _ _
            have w84 : Xi T6 876 6 = Xi T2 876 6 := (show Xi T6 876 6 = Xi U3 876 6 from w78.x _ _ rfl).trans ((show Xi U3 876 6 = Xi T2 876 6 from by rw [eU3]; exact Xi_ne (by omega)))
            have w85 : 0 ≤ Xi T2 876 6 ∧ Xi T2 876 6 ≤ 5002 := hHT2.c _ _
            have w86 : Xi T6 876 7 = Xi T2 876 7 := (show Xi T6 876 7 = Xi U3 876 7 from w78.x _ _ rfl).trans ((show Xi U3 876 7 = Xi T2 876 7 from by rw [eU3]; exact Xi_ne (by omega)))
            have w87 : 0 ≤ Xi T2 876 7 ∧ Xi T2 876 7 ≤ 5125 := hHT2.c _ _
            have w88 : Xi T6 876 8 = Xi T2 876 8 := (show Xi T6 876 8 = Xi U3 876 8 from w78.x _ _ rfl).trans ((show Xi U3 876 8 = Xi T2 876 8 from by rw [eU3]; exact Xi_ne (by omega)))
            have w89 : 0 ≤ Xi T2 876 8 ∧ Xi T2 876 8 ≤ 9 := hHT2.c _ _
            have w90 : Xi T6 890 2 = Xi T2 890 2 := (show Xi T6 890 2 = Xi U3 890 2 from w78.x _ _ rfl).trans ((show Xi U3 890 2 = Xi T2 890 2 from by rw [eU3]; exact Xi_ne (by omega)))
            have w91 : 0 ≤ Xi T2 890 2 ∧ Xi T2 890 2 ≤ 20 := hHT2.c _ _
            exact ⟨hHT6, hFT6, _, rfl, ⟨by omega, by omega⟩, (by first | exact W236 | exact W261), (by first | exact o236 | exact o261), (((w78 0 8 rfl).2.2.trans ((show U3.2.2 0 8 = T2.2.2 0 8 from by rw [eU3]; rfl).trans h08_203))), (((w78 0 9 rfl).2.2.trans ((show U3.2.2 0 9 = T2.2.2 0 9 from by rw [eU3]; rfl).trans h09_203))), (((w78 20 1 rfl).2.2.trans ((show U3.2.2 20 1 = T2.2.2 20 1 from by rw [eU3]; rfl).trans h20_203))), (((w78 876 4 rfl).2.2.trans ((show U3.2.2 876 4 = T2.2.2 876 4 from by rw [eU3]; rfl).trans h76_203))), (by omega)⟩
        · refine l_aload_n rfl rfl ?_
          refine l_gfr rfl rfl rfl rfl rfl (hHT2.r 0 4 876 rfl) ?_
          refine l_iconst rfl ?_
          refine l_iconst rfl ?_
          have w92 : 0 ≤ Xi T2 0 10 ∧ Xi T2 0 10 ≤ 5000 := hHT2.c _ _
          have w93 : 0 ≤ Xi T2 876 5 ∧ Xi T2 876 5 ≤ 5000 := hHT2.c _ _
          have w94 : 0 ≤ Xi T2 876 6 ∧ Xi T2 876 6 ≤ 5002 := hHT2.c _ _
          have w95 : 0 ≤ Xi T2 876 7 ∧ Xi T2 876 7 ≤ 5125 := hHT2.c _ _
          have w96 : 0 ≤ Xi T2 876 8 ∧ Xi T2 876 8 ≤ 9 := hHT2.c _ _
          have w97 : 0 ≤ Xi T2 890 2 ∧ Xi T2 890 2 ≤ 20 := hHT2.c _ _
          refine l_callV rfl rfl rfl (t_to_wrong hHT2 2 (-1) ⟨by omega, by omega⟩ ⟨by omega, by omega⟩ _) ?_
          rintro _ T7 ⟨hHT7, w101, z100, rfl, w100, w98, w99⟩
          have hFT7 : FR md_rs_read__2 S T7 := FR.tr hFT2 w101 rfl
          show Rl _ _ _ _ _ [iv z100] _ _
          have W213 : Xi T7 876 8 = 0 → WI T7 := fun q => by omega
          refine l_pop rfl rfl ?_
          refine l_aload_n rfl rfl ?_
          refine l_aload_n rfl rfl ?_
          refine l_gfr rfl rfl rfl rfl rfl (hHT7.r 0 4 876 rfl) ?_
          refine l_gfi rfl rfl rfl rfl rfl ?_
          have w102 : 0 ≤ (Xi T7 876 8) ∧ (Xi T7 876 8) ≤ 9 := hHT7.c _ _
          refine l_pfi rfl rfl rfl rfl ?_
          obtain ⟨U8, eU8⟩ : ∃ T : sS, T = uI T7 0 11 (Int32.ofInt (Xi T7 876 8)) := ⟨_, rfl⟩
          rw [← eU8]
          have hHU8 : HI U8 := by rw [eU8]; exact HI_w hHT7 (show 0 ≤ (Xi T7 876 8) by omega) (show (Xi T7 876 8) ≤ 9 by omega)
          have hFU8 : FR md_rs_read__2 S U8 := by rw [eU8]; exact FR.wI hFT7 (mdf_i (r := (0, 1, 11, 12)) (List.mem_of_getElem? (i := 3) rfl) (inR_i (by omega) (by omega) (by omega) (by omega)))
          have w103 : Xi U8 0 11 = (Xi T7 876 8) := by rw [eU8]; exact Xi_same (by unfold rg; omega)
          have e225 : Xi U8 0 11 = Xi T7 876 8 := by omega
          have W225 : Xi U8 876 8 = 0 → WI U8 := fun q => WI_FR hHT7 (FR_e eU8) rfl rfl rfl rfl rfl rfl rfl rfl rfl (by first | exact W213 (by rw [eU8, Xi_ne (by omega)] at q; exact q) | exact hW203 (by rw [eU8, Xi_ne (by omega)] at q; exact q))
          have f225 : Xi U8 876 8 = Xi T7 876 8 := by rw [eU8, Xi_ne (by omega)]
          refine l_aload_n rfl rfl ?_
          refine l_gfi rfl rfl rfl rfl rfl ?_
          refine l_if_eq rfl rfl (by unfold rg; omega) (fun w104 => ?_) (fun w105 => ?_)
          · refine l_aload_n rfl rfl ?_
            refine l_gfr rfl rfl rfl rfl rfl (hHU8.r 0 1 20 rfl) ?_
            have w106 : Xi U8 0 10 = Xi T2 0 10 := (show Xi U8 0 10 = Xi T7 0 10 from by rw [eU8]; exact Xi_ne (by omega)).trans ((show Xi T7 0 10 = Xi T2 0 10 from w101.x _ _ rfl))
            have w107 : 0 ≤ Xi T2 0 10 ∧ Xi T2 0 10 ≤ 5000 := hHT2.c _ _
            have w108 : Xi U8 876 5 = Xi T2 876 5 := (show Xi U8 876 5 = Xi T7 876 5 from by rw [eU8]; exact Xi_ne (by omega)).trans ((show Xi T7 876 5 = Xi T2 876 5 from w101.x _ _ rfl))
            have w109 : 0 ≤ Xi T2 876 5 ∧ Xi T2 876 5 ≤ 5000 := hHT2.c _ _
            have w110 : Xi U8 876 6 = Xi T2 876 6 := (show Xi U8 876 6 = Xi T7 876 6 from by rw [eU8]; exact Xi_ne (by omega)).trans ((show Xi T7 876 6 = Xi T2 876 6 from w101.x _ _ rfl))
            have w111 : 0 ≤ Xi T2 876 6 ∧ Xi T2 876 6 ≤ 5002 := hHT2.c _ _
            have w112 : Xi U8 876 7 = Xi T2 876 7 := (show Xi U8 876 7 = Xi T7 876 7 from by rw [eU8]; exact Xi_ne (by omega)).trans ((show Xi T7 876 7 = Xi T2 876 7 from w101.x _ _ rfl))
            have w113 : 0 ≤ Xi T2 876 7 ∧ Xi T2 876 7 ≤ 5125 := hHT2.c _ _
            have w114 : Xi U8 876 8 = Xi T7 876 8 := (show Xi U8 876 8 = Xi T7 876 8 from by rw [eU8]; exact Xi_ne (by omega))
            have w115 : 0 ≤ Xi T7 876 8 ∧ Xi T7 876 8 ≤ 9 := hHT7.c _ _
            have w116 : Xi U8 890 2 = Xi T2 890 2 := (show Xi U8 890 2 = Xi T7 890 2 from by rw [eU8]; exact Xi_ne (by omega)).trans ((show Xi T7 890 2 = Xi T2 890 2 from w101.x _ _ rfl))
            have w117 : 0 ≤ Xi T2 890 2 ∧ Xi T2 890 2 ≤ 20 := hHT2.c _ _
            refine l_callV rfl rfl rfl (t_wo_placePlayer hHU8 _) ?_
            rintro _ T9 ⟨hHT9, w119, rfl⟩
            have hFT9 : FR md_rs_read__2 S T9 := FR.tr hFU8 w119 rfl
            show Rl _ _ _ _ _ [] _ _
            have W254 : WI T9 := WI_FR hHU8 (by assumption : FR md_wo_placePlayer U8 T9) rfl rfl rfl rfl rfl rfl rfl rfl rfl (W225 (by omega))
            refine l_aload_n rfl rfl ?_
            refine l_gfr rfl rfl rfl rfl rfl (hHT9.r 0 2 246 rfl) ?_
            have w120 : Xi T9 0 10 = Xi T2 0 10 := (show Xi T9 0 10 = Xi U8 0 10 from w119.x _ _ rfl).trans ( (show Xi U8 0 10 = Xi T7 0 10 from by rw [eU8]; exact Xi_ne (by omega)).trans ((show Xi T7 0 10 = Xi T2 0 10 from w101.x _ _ rfl)))
            have w121 : 0 ≤ Xi T2 0 10 ∧ Xi T2 0 10 ≤ 5000 := hHT2.c _ _
            have w122 : Xi T9 876 5 = Xi T2 876 5 := (show Xi T9 876 5 = Xi U8 876 5 from w119.x _ _ rfl).trans ( (show Xi U8 876 5 = Xi T7 876 5 from by rw [eU8]; exact Xi_ne (by omega)).trans ((show Xi T7 876 5 = Xi T2 876 5 from w101.x _ _ rfl)))
            have w123 : 0 ≤ Xi T2 876 5 ∧ Xi T2 876 5 ≤ 5000 := hHT2.c _ _
            have w124 : Xi T9 876 6 = Xi T2 876 6 := (show Xi T9 876 6 = Xi U8 876 6 from w119.x _ _ rfl).trans ( (show Xi U8 876 6 = Xi T7 876 6 from by rw [eU8]; exact Xi_ne (by omega)).trans ((show Xi T7 876 6 = Xi T2 876 6 from w101.x _ _ rfl)))
            have w125 : 0 ≤ Xi T2 876 6 ∧ Xi T2 876 6 ≤ 5002 := hHT2.c _ _
            have w126 : Xi T9 876 7 = Xi T2 876 7 := (show Xi T9 876 7 = Xi U8 876 7 from w119.x _ _ rfl).trans ( (show Xi U8 876 7 = Xi T7 876 7 from by rw [eU8]; exact Xi_ne (by omega)).trans ((show Xi T7 876 7 = Xi T2 876 7 from w101.x _ _ rfl)))
            have w127 : 0 ≤ Xi T2 876 7 ∧ Xi T2 876 7 ≤ 5125 := hHT2.c _ _
            have w128 : Xi T9 876 8 = Xi T7 876 8 := (show Xi T9 876 8 = Xi U8 876 8 from w119.x _ _ rfl).trans ((show Xi U8 876 8 = Xi T7 876 8 from by rw [eU8]; exact Xi_ne (by omega)))
            have w129 : 0 ≤ Xi T7 876 8 ∧ Xi T7 876 8 ≤ 9 := hHT7.c _ _
            have w130 : Xi T9 890 2 = Xi T2 890 2 := (show Xi T9 890 2 = Xi U8 890 2 from w119.x _ _ rfl).trans ( (show Xi U8 890 2 = Xi T7 890 2 from by rw [eU8]; exact Xi_ne (by omega)).trans ((show Xi T7 890 2 = Xi T2 890 2 from w101.x _ _ rfl)))
            have w131 : 0 ≤ Xi T2 890 2 ∧ Xi T2 890 2 ≤ 20 := hHT2.c _ _
            refine l_callV rfl rfl rfl (t_bo_putInOrder hHT9 _) ?_
            rintro _ T10 ⟨hHT10, w134, rfl, w132⟩
            have hFT10 : FR md_rs_read__2 S T10 := FR.tr hFT9 w134 rfl
            show Rl _ _ _ _ _ [] _ _
            have W261 : WI T10 := WI_FR hHT9 (by assumption : FR md_bo_putInOrder T9 T10) rfl rfl rfl rfl rfl rfl rfl rfl rfl W254
            have o261 : ORD T10 := by assumption
            refine l_iload_n rfl rfl ?_
            refine l_ireturn rfl rfl ?_
            have w135 : Xi T10 0 10 = Xi T2 0 10 := (show Xi T10 0 10 = Xi T9 0 10 from w134.x _ _ rfl).trans ( (show Xi T9 0 10 = Xi U8 0 10 from w119.x _ _ rfl).trans ( (show Xi U8 0 10 = Xi T7 0 10 from by rw [eU8]; exact Xi_ne (by omega)).trans ((show Xi T7 0 10 = Xi T2 0 10 from w101.x _ _ rfl))))
            have w136 : 0 ≤ Xi T2 0 10 ∧ Xi T2 0 10 ≤ 5000 := hHT2.c _ _
            have w137 : Xi T10 876 5 = Xi T2 876 5 := (show Xi T10 876 5 = Xi T9 876 5 from w134.x _ _ rfl).trans ( (show Xi T9 876 5 = Xi U8 876 5 from w119.x _ _ rfl).trans ( (show Xi U8 876 5 = Xi T7 876 5 from by rw [eU8]; exact Xi_ne (by omega)).trans ((show Xi T7 876 5 = Xi T2 876 5 from w101.x _ _ rfl))))
            have w138 : 0 ≤ Xi T2 876 5 ∧ Xi T2 876 5 ≤ 5000 := hHT2.c _ _
            have w139 : Xi T10 876 6 = Xi T2 876 6 := (show Xi T10 876 6 = Xi T9 876 6 from w134.x _ _ rfl).trans ( (show Xi T9 876 6 = Xi U8 876 6 from w119.x _ _ rfl).trans ( (show Xi U8 876 6 = Xi T7 876 6 from by rw [eU8]; exact Xi_ne (by omega)).trans ((show Xi T7 876 6 = Xi T2 876 6 from w101.x _ _ rfl))))
            have w140 : 0 ≤ Xi T2 876 6 ∧ Xi T2 876 6 ≤ 5002 := hHT2.c _ _
            have w141 : Xi T10 876 7 = Xi T2 876 7 := (show Xi T10 876 7 = Xi T9 876 7 from w134.x _ _ rfl).trans ( (show Xi T9 876 7 = Xi U8 876 7 from w119.x _ _ rfl).trans ( (show Xi U8 876 7 = Xi T7 876 7 from by rw [eU8]; exact Xi_ne (by omega)).trans ((show Xi T7 876 7 = Xi T2 876 7 from w101.x _ _ rfl))))
            have w142 : 0 ≤ Xi T2 876 7 ∧ Xi T2 876 7 ≤ 5125 := hHT2.c _ _
            have w143 : Xi T10 876 8 = Xi T7 876 8 := (show Xi T10 876 8 = Xi T9 876 8 from w134.x _ _ rfl).trans ( (show Xi T9 876 8 = Xi U8 876 8 from w119.x _ _ rfl).trans ((show Xi U8 876 8 = Xi T7 876 8 from by rw [eU8]; exact Xi_ne (by omega))))
            have w144 : 0 ≤ Xi T7 876 8 ∧ Xi T7 876 8 ≤ 9 := hHT7.c _ _
            have w145 : Xi T10 890 2 = Xi T2 890 2 := (show Xi T10 890 2 = Xi T9 890 2 from w134.x _ _ rfl).trans ( (show Xi T9 890 2 = Xi U8 890 2 from w119.x _ _ rfl).trans ( (show Xi U8 890 2 = Xi T7 890 2 from by rw [eU8]; exact Xi_ne (by omega)).trans ((show Xi T7 890 2 = Xi T2 890 2 from w101.x _ _ rfl))))
            have w146 : 0 ≤ Xi T2 890 2 ∧ Xi T2 890 2 ≤ 20 := hHT2.c _ _
            exact ⟨hHT10, hFT10, _, rfl, ⟨by omega, by omega⟩, (by first | exact W236 | exact W261), (by first | exact o236 | exact o261), (((w134 0 8 rfl).2.2.trans ((w119 0 8 rfl).2.2.trans ((show U8.2.2 0 8 = T7.2.2 0 8 from by rw [eU8]; rfl).trans ((w101 0 8 rfl).2.2.trans h08_203))))), (((w134 0 9 rfl).2.2.trans ((w119 0 9 rfl).2.2.trans ((show U8.2.2 0 9 = T7.2.2 0 9 from by rw [eU8]; rfl).trans ((w101 0 9 rfl).2.2.trans h09_203))))), (((w134 20 1 rfl).2.2.trans ((w119 20 1 rfl).2.2.trans ((show U8.2.2 20 1 = T7.2.2 20 1 from by rw [eU8]; rfl).trans ((w101 20 1 rfl).2.2.trans h20_203))))), (((w134 876 4 rfl).2.2.trans ((w119 876 4 rfl).2.2.trans ((show U8.2.2 876 4 = T7.2.2 876 4 from by rw [eU8]; rfl).trans ((w101 876 4 rfl).2.2.trans h76_203))))), (by omega)⟩
          · refine l_aload_n rfl rfl ?_
            have w147 : Xi U8 0 10 = Xi T2 0 10 := (show Xi U8 0 10 = Xi T7 0 10 from by rw [eU8]; exact Xi_ne (by omega)).trans ((show Xi T7 0 10 = Xi T2 0 10 from w101.x _ _ rfl))
            have w148 : 0 ≤ Xi T2 0 10 ∧ Xi T2 0 10 ≤ 5000 := hHT2.c _ _
            have w149 : Xi U8 876 5 = Xi T2 876 5 := (show Xi U8 876 5 = Xi T7 876 5 from by rw [eU8]; exact Xi_ne (by omega)).trans ((show Xi T7 876 5 = Xi T2 876 5 from w101.x _ _ rfl))
            have w150 : 0 ≤ Xi T2 876 5 ∧ Xi T2 876 5 ≤ 5000 := hHT2.c _ _
            have w151 : Xi U8 876 6 = Xi T2 876 6 := (show Xi U8 876 6 = Xi T7 876 6 from by rw [eU8]; exact Xi_ne (by omega)).trans ((show Xi T7 876 6 = Xi T2 876 6 from w101.x _ _ rfl))
            have w152 : 0 ≤ Xi T2 876 6 ∧ Xi T2 876 6 ≤ 5002 := hHT2.c _ _
            have w153 : Xi U8 876 7 = Xi T2 876 7 := (show Xi U8 876 7 = Xi T7 876 7 from by rw [eU8]; exact Xi_ne (by omega)).trans ((show Xi T7 876 7 = Xi T2 876 7 from w101.x _ _ rfl))
            have w154 : 0 ≤ Xi T2 876 7 ∧ Xi T2 876 7 ≤ 5125 := hHT2.c _ _
            have w155 : Xi U8 876 8 = Xi T7 876 8 := (show Xi U8 876 8 = Xi T7 876 8 from by rw [eU8]; exact Xi_ne (by omega))
            have w156 : 0 ≤ Xi T7 876 8 ∧ Xi T7 876 8 ≤ 9 := hHT7.c _ _
            have w157 : Xi U8 890 2 = Xi T2 890 2 := (show Xi U8 890 2 = Xi T7 890 2 from by rw [eU8]; exact Xi_ne (by omega)).trans ((show Xi T7 890 2 = Xi T2 890 2 from w101.x _ _ rfl))
            have w158 : 0 ≤ Xi T2 890 2 ∧ Xi T2 890 2 ≤ 20 := hHT2.c _ _
            refine l_callV rfl rfl rfl (t_rs_startAgain hHU8 _) ?_
            rintro _ T11 ⟨hHT11, w162, rfl, w159, w160⟩
            have hFT11 : FR md_rs_read__2 S T11 := FR.tr hFU8 w162 rfl
            show Rl _ _ _ _ _ [] _ _
            have W236 : WI T11 := by assumption
            have o236 : ORD T11 := fun i hi => by omega
            refine l_bipush rfl rfl ?_
            refine l_aload_n rfl rfl ?_
            refine l_gfr rfl rfl rfl rfl rfl (hHT11.r 0 4 876 rfl) ?_
            refine l_gfi rfl rfl rfl rfl rfl ?_
            have w163 : 0 ≤ (Xi T11 876 9) ∧ (Xi T11 876 9) ≤ 5000 := hHT11.c _ _
            refine l_isub rfl ?_
            refine l_ireturn rfl rfl ?_
            have w164 : Xi T11 0 10 = Xi T2 0 10 := (show Xi T11 0 10 = Xi U8 0 10 from w162.x _ _ rfl).trans ( (show Xi U8 0 10 = Xi T7 0 10 from by rw [eU8]; exact Xi_ne (by omega)).trans ((show Xi T7 0 10 = Xi T2 0 10 from w101.x _ _ rfl)))
            have w165 : 0 ≤ Xi T2 0 10 ∧ Xi T2 0 10 ≤ 5000 := hHT2.c _ _
            have w166 : Xi T11 876 5 = Xi T2 876 5 := (show Xi T11 876 5 = Xi U8 876 5 from w162.x _ _ rfl).trans ( (show Xi U8 876 5 = Xi T7 876 5 from by rw [eU8]; exact Xi_ne (by omega)).trans ((show Xi T7 876 5 = Xi T2 876 5 from w101.x _ _ rfl)))
            have w167 : 0 ≤ Xi T2 876 5 ∧ Xi T2 876 5 ≤ 5000 := hHT2.c _ _
            have w168 : Xi T11 876 6 = Xi T2 876 6 := (show Xi T11 876 6 = Xi U8 876 6 from w162.x _ _ rfl).trans ( (show Xi U8 876 6 = Xi T7 876 6 from by rw [eU8]; exact Xi_ne (by omega)).trans ((show Xi T7 876 6 = Xi T2 876 6 from w101.x _ _ rfl)))
            have w169 : 0 ≤ Xi T2 876 6 ∧ Xi T2 876 6 ≤ 5002 := hHT2.c _ _
            have w170 : Xi T11 876 7 = Xi T2 876 7 := (show Xi T11 876 7 = Xi U8 876 7 from w162.x _ _ rfl).trans ( (show Xi U8 876 7 = Xi T7 876 7 from by rw [eU8]; exact Xi_ne (by omega)).trans ((show Xi T7 876 7 = Xi T2 876 7 from w101.x _ _ rfl)))
            have w171 : 0 ≤ Xi T2 876 7 ∧ Xi T2 876 7 ≤ 5125 := hHT2.c _ _
            have w172 : Xi T11 876 8 = Xi T7 876 8 := (show Xi T11 876 8 = Xi U8 876 8 from w162.x _ _ rfl).trans ((show Xi U8 876 8 = Xi T7 876 8 from by rw [eU8]; exact Xi_ne (by omega)))
            have w173 : 0 ≤ Xi T7 876 8 ∧ Xi T7 876 8 ≤ 9 := hHT7.c _ _
            have w174 : Xi T11 890 2 = Xi T2 890 2 := (show Xi T11 890 2 = Xi U8 890 2 from w162.x _ _ rfl).trans ( (show Xi U8 890 2 = Xi T7 890 2 from by rw [eU8]; exact Xi_ne (by omega)).trans ((show Xi T7 890 2 = Xi T2 890 2 from w101.x _ _ rfl)))
            have w175 : 0 ≤ Xi T2 890 2 ∧ Xi T2 890 2 ≤ 20 := hHT2.c _ _
            exact ⟨hHT11, hFT11, _, rfl, ⟨by omega, by omega⟩, (by first | exact W236 | exact W261), (by first | exact o236 | exact o261), (((w162 0 8 rfl).2.2.trans ((show U8.2.2 0 8 = T7.2.2 0 8 from by rw [eU8]; rfl).trans ((w101 0 8 rfl).2.2.trans h08_203)))), (((w162 0 9 rfl).2.2.trans ((show U8.2.2 0 9 = T7.2.2 0 9 from by rw [eU8]; rfl).trans ((w101 0 9 rfl).2.2.trans h09_203)))), (((w162 20 1 rfl).2.2.trans ((show U8.2.2 20 1 = T7.2.2 20 1 from by rw [eU8]; rfl).trans ((w101 20 1 rfl).2.2.trans h20_203)))), (((w162 876 4 rfl).2.2.trans ((show U8.2.2 876 4 = T7.2.2 876 4 from by rw [eU8]; rfl).trans ((w101 876 4 rfl).2.2.trans h76_203)))), (by omega)⟩
      refine l_iload rfl rfl ?_
      refine l_iload_n rfl rfl ?_
      refine l_icmp_ge rfl rfl (by unfold rg; omega) (by unfold rg; omega) (fun w176 => ?_) (fun w177 => ?_)
      · have w178 : 0 ≤ Xi T1 0 10 ∧ Xi T1 0 10 ≤ 5000 := hHT1.c _ _
        have w179 : 0 ≤ Xi T1 876 5 ∧ Xi T1 876 5 ≤ 5000 := hHT1.c _ _
        have w180 : 0 ≤ Xi T1 876 6 ∧ Xi T1 876 6 ≤ 5002 := hHT1.c _ _
        have w181 : 0 ≤ Xi T1 876 7 ∧ Xi T1 876 7 ≤ 5125 := hHT1.c _ _
        have w182 : 0 ≤ Xi T1 876 8 ∧ Xi T1 876 8 ≤ 9 := hHT1.c _ _
        have w183 : 0 ≤ Xi T1 890 2 ∧ Xi T1 890 2 ≤ 20 := hHT1.c _ _
        exact Rl_weak (C203 T1 hHT1 hFT1 (v3) (⟨by omega, by omega⟩) (h76_69) (h20_69) (h08_69) (h09_69) (hW69) (by omega)) (And.intro rfl (And.intro rfl (True.intro)))
      · refine l_iload_n rfl rfl ?_
        refine l_iload_n rfl rfl ?_
        refine l_icmp_ge rfl rfl (by unfold rg; omega) (by unfold rg; omega) (fun w184 => ?_) (fun w185 => ?_)
        · have w186 : 0 ≤ Xi T1 0 10 ∧ Xi T1 0 10 ≤ 5000 := hHT1.c _ _
          have w187 : 0 ≤ Xi T1 876 5 ∧ Xi T1 876 5 ≤ 5000 := hHT1.c _ _
          have w188 : 0 ≤ Xi T1 876 6 ∧ Xi T1 876 6 ≤ 5002 := hHT1.c _ _
          have w189 : 0 ≤ Xi T1 876 7 ∧ Xi T1 876 7 ≤ 5125 := hHT1.c _ _
          have w190 : 0 ≤ Xi T1 876 8 ∧ Xi T1 876 8 ≤ 9 := hHT1.c _ _
          have w191 : 0 ≤ Xi T1 890 2 ∧ Xi T1 890 2 ≤ 20 := hHT1.c _ _
          exact Rl_weak (C203 T1 hHT1 hFT1 (v3) (⟨by omega, by omega⟩) (h76_69) (h20_69) (h08_69) (h09_69) (hW69) (by omega)) (And.intro rfl (And.intro rfl (True.intro)))
        · refine l_aload_n rfl rfl ?_
          refine l_gfr rfl rfl rfl rfl rfl (hHT1.r 0 4 876 rfl) ?_
          refine l_gfi rfl rfl rfl rfl rfl ?_
          refine l_if_ne rfl rfl (by unfold rg; omega) (fun w192 => ?_) (fun w193 => ?_)
          · have w194 : 0 ≤ Xi T1 0 10 ∧ Xi T1 0 10 ≤ 5000 := hHT1.c _ _
            have w195 : 0 ≤ Xi T1 876 5 ∧ Xi T1 876 5 ≤ 5000 := hHT1.c _ _
            have w196 : 0 ≤ Xi T1 876 6 ∧ Xi T1 876 6 ≤ 5002 := hHT1.c _ _
            have w197 : 0 ≤ Xi T1 876 7 ∧ Xi T1 876 7 ≤ 5125 := hHT1.c _ _
            have w198 : 0 ≤ Xi T1 876 8 ∧ Xi T1 876 8 ≤ 9 := hHT1.c _ _
            have w199 : 0 ≤ Xi T1 890 2 ∧ Xi T1 890 2 ≤ 20 := hHT1.c _ _
            exact Rl_weak (C203 T1 hHT1 hFT1 (v3) (⟨by omega, by omega⟩) (h76_69) (h20_69) (h08_69) (h09_69) (hW69) (by omega)) (And.intro rfl (And.intro rfl (True.intro)))
          · refine l_iinc rfl rfl rfl rfl ?_
            refine l_aload_n rfl rfl ?_
            refine l_gfr rfl rfl rfl rfl rfl (hHT1.r 0 4 876 rfl) ?_
            refine l_aload_n rfl rfl ?_
            refine l_gfr rfl rfl rfl rfl rfl (hHT1.r 0 4 876 rfl) ?_
            refine l_iload rfl rfl ?_
            have w200 : 0 ≤ Xi T1 0 10 ∧ Xi T1 0 10 ≤ 5000 := hHT1.c _ _
            have w201 : 0 ≤ Xi T1 876 5 ∧ Xi T1 876 5 ≤ 5000 := hHT1.c _ _
            have w202 : 0 ≤ Xi T1 876 6 ∧ Xi T1 876 6 ≤ 5002 := hHT1.c _ _
            have w203 : 0 ≤ Xi T1 876 7 ∧ Xi T1 876 7 ≤ 5125 := hHT1.c _ _
            have w204 : 0 ≤ Xi T1 876 8 ∧ Xi T1 876 8 ≤ 9 := hHT1.c _ _
            have w205 : 0 ≤ Xi T1 890 2 ∧ Xi T1 890 2 ≤ 20 := hHT1.c _ _
            refine l_callV rfl rfl rfl (t_to_takeSentence__2 hHT1 ts v4 ⟨by omega, by omega⟩ h76_69 htp (by first | assumption | omega) _) ?_
            rintro _ T12 ⟨hHT12, w210, z209, rfl, w209, w206, w207, hc103, hn103, hm103, w208⟩
            have hFT12 : FR md_rs_read__2 S T12 := FR.tr hFT1 w210 rfl
            show Rl _ _ _ _ _ [iv z209, .ref 876] _ _
            have W103 : WI T12 := WI_FR hHT1 (by assumption : FR md_to_takeSentence__2 T1 T12) rfl rfl rfl rfl rfl rfl rfl rfl rfl (hW69 (by omega))
            have n103 : ND T12 (Xi T12 876 7 - 1) := by assumption
            have t103 : TOK T12 := by assumption
            have w211 : Xi T12 0 10 = Xi T1 0 10 := (show Xi T12 0 10 = Xi T1 0 10 from w210.x _ _ rfl)
            have w212 : 0 ≤ Xi T1 0 10 ∧ Xi T1 0 10 ≤ 5000 := hHT1.c _ _
            have w213 : Xi T12 876 5 = Xi T1 876 5 := (show Xi T12 876 5 = Xi T1 876 5 from w210.x _ _ rfl)
            have w214 : 0 ≤ Xi T1 876 5 ∧ Xi T1 876 5 ≤ 5000 := hHT1.c _ _
            have w215 : 0 ≤ Xi T12 876 6 ∧ Xi T12 876 6 ≤ 5002 := hHT12.c _ _
            have w216 : 0 ≤ Xi T12 876 7 ∧ Xi T12 876 7 ≤ 5125 := hHT12.c _ _
            have w217 : Xi T12 876 8 = Xi T1 876 8 := (show Xi T12 876 8 = Xi T1 876 8 from w210.x _ _ rfl)
            have w218 : 0 ≤ Xi T1 876 8 ∧ Xi T1 876 8 ≤ 9 := hHT1.c _ _
            have w219 : Xi T12 890 2 = Xi T1 890 2 := (show Xi T12 890 2 = Xi T1 890 2 from w210.x _ _ rfl)
            have w220 : 0 ≤ Xi T1 890 2 ∧ Xi T1 890 2 ≤ 20 := hHT1.c _ _
            refine l_callV rfl rfl rfl (t_to_skip hHT12 ts z209 ⟨by omega, by omega⟩ ((w210 876 4 rfl).2.2.trans h76_69) htp (by first | assumption | omega) _) ?_
            rintro _ _ ⟨rfl, z222, rfl, w222, w221⟩
            show Rl _ _ _ _ _ [iv z222] _ _
            refine l_istore rfl rfl rfl ?_
            refine l_aload_n rfl rfl ?_
            refine l_gfr rfl rfl rfl rfl rfl (hHT12.r 0 4 876 rfl) ?_
            have w223 : Xi T12 0 10 = Xi T1 0 10 := (show Xi T12 0 10 = Xi T1 0 10 from w210.x _ _ rfl)
            have w224 : 0 ≤ Xi T1 0 10 ∧ Xi T1 0 10 ≤ 5000 := hHT1.c _ _
            have w225 : Xi T12 876 5 = Xi T1 876 5 := (show Xi T12 876 5 = Xi T1 876 5 from w210.x _ _ rfl)
            have w226 : 0 ≤ Xi T1 876 5 ∧ Xi T1 876 5 ≤ 5000 := hHT1.c _ _
            have w227 : 0 ≤ Xi T12 876 6 ∧ Xi T12 876 6 ≤ 5002 := hHT12.c _ _
            have w228 : 0 ≤ Xi T12 876 7 ∧ Xi T12 876 7 ≤ 5125 := hHT12.c _ _
            have w229 : Xi T12 876 8 = Xi T1 876 8 := (show Xi T12 876 8 = Xi T1 876 8 from w210.x _ _ rfl)
            have w230 : 0 ≤ Xi T1 876 8 ∧ Xi T1 876 8 ≤ 9 := hHT1.c _ _
            have w231 : Xi T12 890 2 = Xi T1 890 2 := (show Xi T12 890 2 = Xi T1 890 2 from w210.x _ _ rfl)
            have w232 : 0 ≤ Xi T1 890 2 ∧ Xi T1 890 2 ≤ 20 := hHT1.c _ _
            refine l_callV rfl rfl rfl (t_to_endsBadly hHT12 _) ?_
            rintro _ _ ⟨rfl, z233, rfl, w233⟩
            show Rl _ _ _ _ _ [iv z233] _ _
            refine l_if_eq rfl rfl (by unfold rg; omega) (fun w234 => ?_) (fun w235 => ?_)
            · refine l_aload_n rfl rfl ?_
              refine l_gfr rfl rfl rfl rfl rfl (hHT12.r 0 5 890 rfl) ?_
              have w236 : Xi T12 0 10 = Xi T1 0 10 := (show Xi T12 0 10 = Xi T1 0 10 from w210.x _ _ rfl)
              have w237 : 0 ≤ Xi T1 0 10 ∧ Xi T1 0 10 ≤ 5000 := hHT1.c _ _
              have w238 : Xi T12 876 5 = Xi T1 876 5 := (show Xi T12 876 5 = Xi T1 876 5 from w210.x _ _ rfl)
              have w239 : 0 ≤ Xi T1 876 5 ∧ Xi T1 876 5 ≤ 5000 := hHT1.c _ _
              have w240 : 0 ≤ Xi T12 876 6 ∧ Xi T12 876 6 ≤ 5002 := hHT12.c _ _
              have w241 : 0 ≤ Xi T12 876 7 ∧ Xi T12 876 7 ≤ 5125 := hHT12.c _ _
              have w242 : Xi T12 876 8 = Xi T1 876 8 := (show Xi T12 876 8 = Xi T1 876 8 from w210.x _ _ rfl)
              have w243 : 0 ≤ Xi T1 876 8 ∧ Xi T1 876 8 ≤ 9 := hHT1.c _ _
              have w244 : Xi T12 890 2 = Xi T1 890 2 := (show Xi T12 890 2 = Xi T1 890 2 from w210.x _ _ rfl)
              have w245 : 0 ≤ Xi T1 890 2 ∧ Xi T1 890 2 ≤ 20 := hHT1.c _ _
              refine l_callV rfl rfl rfl (t_gr_check__2 hHT12 _) ?_
              rintro _ T13 ⟨hHT13, w247, z246, rfl, w246, hp0_144, hp1_144, hp3_144, hq0_144, hq1_144⟩
              have hFT13 : FR md_rs_read__2 S T13 := FR.tr hFT12 w247 rfl
              show Rl _ _ _ _ _ [iv z246] _ _
              have f144 : FR md_gr_check__2 T12 T13 := by assumption
              have W144 : WI T13 := WI_FR hHT12 f144 rfl rfl rfl rfl rfl rfl rfl rfl rfl W103
              have t144 : TOK T13 := TOK_FR f144 rfl rfl rfl t103
              have y144 : ∀ j, Xi T13 877 j = Xi T12 877 j := fun j => (f144.cx 877 rfl j).1
              have r144 : Xi T13 876 7 = Xi T12 876 7 ∧ Xi T13 876 6 = Xi T12 876 6 := ⟨f144.x 876 7 rfl, f144.x 876 6 rfl⟩
              have c6_144 : Xi T13 876 6 = Xi T13 876 7 := by rw [r144.1, r144.2]; exact hc103
              have m144 : 1 ≤ Xi T13 876 7 := by rw [r144.1]; exact hm103
              have s144 : SRX T13 ∧ txr T13 = ts := srx_of ((w247 20 1 rfl).2.2.trans ((w210 20 1 rfl).2.2.trans h20_69)) htp
              have a144 : z246 = 1 → Xi T13 890 2 = 0 → Xi T13 877 (0 : Int).toNat = 102 ∧ 0 < Xi T13 876 7 := fun q e => ⟨by rw [y144]; exact (by assumption : z246 = 1 → Xi T13 890 2 = 0 → Xi T12 877 (0 : Int).toNat = 102) q e, by have t := (by assumption : z246 = 1 → Xi T13 890 2 = 0 → 0 < Xi T12 876 7) q e; omega⟩
              have b144 : z246 = 1 → Xi T13 890 2 = 1 → Xi T13 877 (1 : Int).toNat = 102 ∧ 1 < Xi T13 876 7 := fun q e => ⟨by rw [y144]; exact (by assumption : z246 = 1 → Xi T13 890 2 = 1 → Xi T12 877 (1 : Int).toNat = 102) q e, by have t := (by assumption : z246 = 1 → Xi T13 890 2 = 1 → 1 < Xi T12 876 7) q e; omega⟩
              have c144 : z246 = 1 → 3 ≤ Xi T13 890 2 → Xi T13 890 2 ≤ 6 → SAY T13 (Xi T13 876 6) ∧ Xi T13 877 (Xi T13 876 6 - 1).toNat = 103 := fun q e1 e2 => dot_end (n := Xi T13 876 7) m144 (nd_f f144 rfl n103 (by rw [r144.1]; exact Int.le_refl _)) (by have t := (by assumption : z246 = 1 → 3 ≤ Xi T13 890 2 → Xi T13 890 2 ≤ 6 → SAY T13 (Xi T13 890 1) ∧ 1 ≤ Xi T13 890 1 ∧ Xi T13 890 1 ≤ Xi T12 876 7 ∧ Xi T13 877 (Xi T13 890 1 - 1).toNat = 103) q e1 e2; exact ⟨t.1, t.2.1, by rw [r144.1]; exact t.2.2.1, t.2.2.2⟩) c6_144
              clear hp0_144 hp1_144 hp3_144 hq0_144 hq1_144
              refine l_if_ne rfl rfl (by unfold rg; omega) (fun w248 => ?_) (fun w249 => ?_)
              · refine l_aload_n rfl rfl ?_
                refine l_gfr rfl rfl rfl rfl rfl (hHT13.r 0 5 890 rfl) ?_
                refine l_gfi rfl rfl rfl rfl rfl ?_
                have w250 : 0 ≤ (Xi T13 890 2) ∧ (Xi T13 890 2) ≤ 20 := hHT13.c _ _
                refine l_bipush rfl rfl ?_
                refine l_icmp_ge rfl rfl (by unfold rg; omega) (by unfold rg; omega) (fun w251 => ?_) (fun w252 => ?_)
                · refine l_aload_n rfl rfl ?_
                  refine l_gfr rfl rfl rfl rfl rfl (hHT13.r 0 6 891 rfl) ?_
                  have w253 : Xi T13 0 10 = Xi T1 0 10 := (show Xi T13 0 10 = Xi T12 0 10 from w247.x _ _ rfl).trans ((show Xi T12 0 10 = Xi T1 0 10 from w210.x _ _ rfl))
                  have w254 : 0 ≤ Xi T1 0 10 ∧ Xi T1 0 10 ≤ 5000 := hHT1.c _ _
                  have w255 : Xi T13 876 5 = Xi T1 876 5 := (show Xi T13 876 5 = Xi T12 876 5 from w247.x _ _ rfl).trans ((show Xi T12 876 5 = Xi T1 876 5 from w210.x _ _ rfl))
                  have w256 : 0 ≤ Xi T1 876 5 ∧ Xi T1 876 5 ≤ 5000 := hHT1.c _ _
                  have w257 : Xi T13 876 6 = Xi T12 876 6 := (show Xi T13 876 6 = Xi T12 876 6 from w247.x _ _ rfl)
                  have w258 : 0 ≤ Xi T12 876 6 ∧ Xi T12 876 6 ≤ 5002 := hHT12.c _ _
                  have w259 : Xi T13 876 7 = Xi T12 876 7 := (show Xi T13 876 7 = Xi T12 876 7 from w247.x _ _ rfl)
                  have w260 : 0 ≤ Xi T12 876 7 ∧ Xi T12 876 7 ≤ 5125 := hHT12.c _ _
                  have w261 : Xi T13 876 8 = Xi T1 876 8 := (show Xi T13 876 8 = Xi T12 876 8 from w247.x _ _ rfl).trans ((show Xi T12 876 8 = Xi T1 876 8 from w210.x _ _ rfl))
                  have w262 : 0 ≤ Xi T1 876 8 ∧ Xi T1 876 8 ≤ 9 := hHT1.c _ _
                  have w263 : 0 ≤ Xi T13 890 2 ∧ Xi T13 890 2 ≤ 20 := hHT13.c _ _
                  refine l_callV rfl rfl rfl (t_re_tellSentence hHT13 (W144) (t144) (s144.1) _) ?_
                  rintro _ T14 ⟨hHT14, w267, z266, rfl, w266, w264, w265⟩
                  have hFT14 : FR md_rs_read__2 S T14 := FR.tr hFT13 w267 rfl
                  show Rl _ _ _ _ _ [iv z266] _ _
                  have W196 : Xi T14 876 8 = 0 → WI T14 := fun q => (by assumption : z266 = 1 → WI T14) (by omega)
                  refine l_pop rfl rfl ?_
                  refine l_goto rfl rfl ?_
                  have w268 : Xi T14 0 10 = Xi T1 0 10 := (show Xi T14 0 10 = Xi T13 0 10 from w267.x _ _ rfl).trans ( (show Xi T13 0 10 = Xi T12 0 10 from w247.x _ _ rfl).trans ((show Xi T12 0 10 = Xi T1 0 10 from w210.x _ _ rfl)))
                  have w269 : 0 ≤ Xi T1 0 10 ∧ Xi T1 0 10 ≤ 5000 := hHT1.c _ _
                  have w270 : Xi T14 876 5 = Xi T1 876 5 := (show Xi T14 876 5 = Xi T13 876 5 from w267.x _ _ rfl).trans ( (show Xi T13 876 5 = Xi T12 876 5 from w247.x _ _ rfl).trans ((show Xi T12 876 5 = Xi T1 876 5 from w210.x _ _ rfl)))
                  have w271 : 0 ≤ Xi T1 876 5 ∧ Xi T1 876 5 ≤ 5000 := hHT1.c _ _
                  have w272 : Xi T14 876 6 = Xi T12 876 6 := (show Xi T14 876 6 = Xi T13 876 6 from w267.x _ _ rfl).trans ((show Xi T13 876 6 = Xi T12 876 6 from w247.x _ _ rfl))
                  have w273 : 0 ≤ Xi T12 876 6 ∧ Xi T12 876 6 ≤ 5002 := hHT12.c _ _
                  have w274 : Xi T14 876 7 = Xi T12 876 7 := (show Xi T14 876 7 = Xi T13 876 7 from w267.x _ _ rfl).trans ((show Xi T13 876 7 = Xi T12 876 7 from w247.x _ _ rfl))
                  have w275 : 0 ≤ Xi T12 876 7 ∧ Xi T12 876 7 ≤ 5125 := hHT12.c _ _
                  have w276 : 0 ≤ Xi T14 876 8 ∧ Xi T14 876 8 ≤ 9 := hHT14.c _ _
                  have w277 : Xi T14 890 2 = Xi T13 890 2 := (show Xi T14 890 2 = Xi T13 890 2 from w267.x _ _ rfl)
                  have w278 : 0 ≤ Xi T13 890 2 ∧ Xi T13 890 2 ≤ 20 := hHT13.c _ _
                  exact Rl_weak (ih69 _ (by omega) T14 hHT14 hFT14 (v1) ((v3 + 1)) (z222) (⟨by omega, by omega⟩) (⟨by omega, by omega⟩) (⟨by omega, by omega⟩) (((w267 876 4 rfl).2.2.trans ((w247 876 4 rfl).2.2.trans ((w210 876 4 rfl).2.2.trans h76_69)))) (((w267 20 1 rfl).2.2.trans ((w247 20 1 rfl).2.2.trans ((w210 20 1 rfl).2.2.trans h20_69)))) (((w267 0 8 rfl).2.2.trans ((w247 0 8 rfl).2.2.trans ((w210 0 8 rfl).2.2.trans h08_69)))) (((w267 0 9 rfl).2.2.trans ((w247 0 9 rfl).2.2.trans ((w210 0 9 rfl).2.2.trans h09_69)))) (by omega) (by omega) (by first | exact W133 | exact W162 | exact W185 | exact W196 | exact fun _ => W54) (by omega) rfl) (And.intro rfl (And.intro rfl (And.intro rfl (And.intro rfl (True.intro)))))
                · refine l_aload_n rfl rfl ?_
                  refine l_gfr rfl rfl rfl rfl rfl (hHT13.r 0 6 891 rfl) ?_
                  have w279 : Xi T13 0 10 = Xi T1 0 10 := (show Xi T13 0 10 = Xi T12 0 10 from w247.x _ _ rfl).trans ((show Xi T12 0 10 = Xi T1 0 10 from w210.x _ _ rfl))
                  have w280 : 0 ≤ Xi T1 0 10 ∧ Xi T1 0 10 ≤ 5000 := hHT1.c _ _
                  have w281 : Xi T13 876 5 = Xi T1 876 5 := (show Xi T13 876 5 = Xi T12 876 5 from w247.x _ _ rfl).trans ((show Xi T12 876 5 = Xi T1 876 5 from w210.x _ _ rfl))
                  have w282 : 0 ≤ Xi T1 876 5 ∧ Xi T1 876 5 ≤ 5000 := hHT1.c _ _
                  have w283 : Xi T13 876 6 = Xi T12 876 6 := (show Xi T13 876 6 = Xi T12 876 6 from w247.x _ _ rfl)
                  have w284 : 0 ≤ Xi T12 876 6 ∧ Xi T12 876 6 ≤ 5002 := hHT12.c _ _
                  have w285 : Xi T13 876 7 = Xi T12 876 7 := (show Xi T13 876 7 = Xi T12 876 7 from w247.x _ _ rfl)
                  have w286 : 0 ≤ Xi T12 876 7 ∧ Xi T12 876 7 ≤ 5125 := hHT12.c _ _
                  have w287 : Xi T13 876 8 = Xi T1 876 8 := (show Xi T13 876 8 = Xi T12 876 8 from w247.x _ _ rfl).trans ((show Xi T12 876 8 = Xi T1 876 8 from w210.x _ _ rfl))
                  have w288 : 0 ≤ Xi T1 876 8 ∧ Xi T1 876 8 ≤ 9 := hHT1.c _ _
                  have w289 : 0 ≤ Xi T13 890 2 ∧ Xi T13 890 2 ≤ 20 := hHT13.c _ _
                  refine l_callV rfl rfl rfl (t_re_beginSentence hHT13 ts ((w247 876 4 rfl).2.2.trans ((w210 876 4 rfl).2.2.trans h76_69)) htp (W144) (t144) (s144.1) (s144.2.symm) (by first | assumption | omega) (a144 (by omega)) (b144 (by omega)) (fun e1 e2 => (c144 (by omega) e1 e2).1) (fun e1 e2 => (c144 (by omega) e1 e2).2) (by first | assumption | omega) (by first | assumption | omega) _) ?_
                  rintro _ T15 ⟨hHT15, w293, z292, rfl, w292, w290, w291⟩
                  have hFT15 : FR md_rs_read__2 S T15 := FR.tr hFT13 w293 rfl
                  show Rl _ _ _ _ _ [iv z292] _ _
                  have W185 : Xi T15 876 8 = 0 → WI T15 := fun q => (by assumption : z292 = 1 → WI T15) (by omega)
                  refine l_pop rfl rfl ?_
                  refine l_goto rfl rfl ?_
                  have w294 : Xi T15 0 10 = Xi T1 0 10 := (show Xi T15 0 10 = Xi T13 0 10 from w293.x _ _ rfl).trans ( (show Xi T13 0 10 = Xi T12 0 10 from w247.x _ _ rfl).trans ((show Xi T12 0 10 = Xi T1 0 10 from w210.x _ _ rfl)))
                  have w295 : 0 ≤ Xi T1 0 10 ∧ Xi T1 0 10 ≤ 5000 := hHT1.c _ _
                  have w296 : Xi T15 876 5 = Xi T1 876 5 := (show Xi T15 876 5 = Xi T13 876 5 from w293.x _ _ rfl).trans ( (show Xi T13 876 5 = Xi T12 876 5 from w247.x _ _ rfl).trans ((show Xi T12 876 5 = Xi T1 876 5 from w210.x _ _ rfl)))
                  have w297 : 0 ≤ Xi T1 876 5 ∧ Xi T1 876 5 ≤ 5000 := hHT1.c _ _
                  have w298 : Xi T15 876 6 = Xi T12 876 6 := (show Xi T15 876 6 = Xi T13 876 6 from w293.x _ _ rfl).trans ((show Xi T13 876 6 = Xi T12 876 6 from w247.x _ _ rfl))
                  have w299 : 0 ≤ Xi T12 876 6 ∧ Xi T12 876 6 ≤ 5002 := hHT12.c _ _
                  have w300 : 0 ≤ Xi T15 876 7 ∧ Xi T15 876 7 ≤ 5125 := hHT15.c _ _
                  have w301 : 0 ≤ Xi T15 876 8 ∧ Xi T15 876 8 ≤ 9 := hHT15.c _ _
                  have w302 : Xi T15 890 2 = Xi T13 890 2 := (show Xi T15 890 2 = Xi T13 890 2 from w293.x _ _ rfl)
                  have w303 : 0 ≤ Xi T13 890 2 ∧ Xi T13 890 2 ≤ 20 := hHT13.c _ _
                  exact Rl_weak (ih69 _ (by omega) T15 hHT15 hFT15 (v1) ((v3 + 1)) (z222) (⟨by omega, by omega⟩) (⟨by omega, by omega⟩) (⟨by omega, by omega⟩) (((w293 876 4 rfl).2.2.trans ((w247 876 4 rfl).2.2.trans ((w210 876 4 rfl).2.2.trans h76_69)))) (((w293 20 1 rfl).2.2.trans ((w247 20 1 rfl).2.2.trans ((w210 20 1 rfl).2.2.trans h20_69)))) (((w293 0 8 rfl).2.2.trans ((w247 0 8 rfl).2.2.trans ((w210 0 8 rfl).2.2.trans h08_69)))) (((w293 0 9 rfl).2.2.trans ((w247 0 9 rfl).2.2.trans ((w210 0 9 rfl).2.2.trans h09_69)))) (by omega) (by omega) (by first | exact W133 | exact W162 | exact W185 | exact W196 | exact fun _ => W54) (by omega) rfl) (And.intro rfl (And.intro rfl (And.intro rfl (And.intro rfl (True.intro)))))
              · refine l_aload_n rfl rfl ?_
                refine l_gfr rfl rfl rfl rfl rfl (hHT13.r 0 4 876 rfl) ?_
                refine l_iconst rfl ?_
                refine l_aload_n rfl rfl ?_
                refine l_gfr rfl rfl rfl rfl rfl (hHT13.r 0 5 890 rfl) ?_
                refine l_gfi rfl rfl rfl rfl rfl ?_
                have w304 : 0 ≤ (Xi T13 890 1) ∧ (Xi T13 890 1) ≤ 5126 := hHT13.c _ _
                have w305 : Xi T13 0 10 = Xi T1 0 10 := (show Xi T13 0 10 = Xi T12 0 10 from w247.x _ _ rfl).trans ((show Xi T12 0 10 = Xi T1 0 10 from w210.x _ _ rfl))
                have w306 : 0 ≤ Xi T1 0 10 ∧ Xi T1 0 10 ≤ 5000 := hHT1.c _ _
                have w307 : Xi T13 876 5 = Xi T1 876 5 := (show Xi T13 876 5 = Xi T12 876 5 from w247.x _ _ rfl).trans ((show Xi T12 876 5 = Xi T1 876 5 from w210.x _ _ rfl))
                have w308 : 0 ≤ Xi T1 876 5 ∧ Xi T1 876 5 ≤ 5000 := hHT1.c _ _
                have w309 : Xi T13 876 6 = Xi T12 876 6 := (show Xi T13 876 6 = Xi T12 876 6 from w247.x _ _ rfl)
                have w310 : 0 ≤ Xi T12 876 6 ∧ Xi T12 876 6 ≤ 5002 := hHT12.c _ _
                have w311 : Xi T13 876 7 = Xi T12 876 7 := (show Xi T13 876 7 = Xi T12 876 7 from w247.x _ _ rfl)
                have w312 : 0 ≤ Xi T12 876 7 ∧ Xi T12 876 7 ≤ 5125 := hHT12.c _ _
                have w313 : Xi T13 876 8 = Xi T1 876 8 := (show Xi T13 876 8 = Xi T12 876 8 from w247.x _ _ rfl).trans ((show Xi T12 876 8 = Xi T1 876 8 from w210.x _ _ rfl))
                have w314 : 0 ≤ Xi T1 876 8 ∧ Xi T1 876 8 ≤ 9 := hHT1.c _ _
                have w315 : 0 ≤ Xi T13 890 2 ∧ Xi T13 890 2 ≤ 20 := hHT13.c _ _
                refine l_callV rfl rfl rfl (t_to_wrong hHT13 2 (Xi T13 890 1) ⟨by omega, by omega⟩ ⟨by omega, by omega⟩ _) ?_
                rintro _ T16 ⟨hHT16, w319, z318, rfl, w318, w316, w317⟩
                have hFT16 : FR md_rs_read__2 S T16 := FR.tr hFT13 w319 rfl
                show Rl _ _ _ _ _ [iv z318] _ _
                have W162 : Xi T16 876 8 = 0 → WI T16 := fun q => by omega
                refine l_pop rfl rfl ?_
                refine l_goto rfl rfl ?_
                have w320 : Xi T16 0 10 = Xi T1 0 10 := (show Xi T16 0 10 = Xi T13 0 10 from w319.x _ _ rfl).trans ( (show Xi T13 0 10 = Xi T12 0 10 from w247.x _ _ rfl).trans ((show Xi T12 0 10 = Xi T1 0 10 from w210.x _ _ rfl)))
                have w321 : 0 ≤ Xi T1 0 10 ∧ Xi T1 0 10 ≤ 5000 := hHT1.c _ _
                have w322 : Xi T16 876 5 = Xi T1 876 5 := (show Xi T16 876 5 = Xi T13 876 5 from w319.x _ _ rfl).trans ( (show Xi T13 876 5 = Xi T12 876 5 from w247.x _ _ rfl).trans ((show Xi T12 876 5 = Xi T1 876 5 from w210.x _ _ rfl)))
                have w323 : 0 ≤ Xi T1 876 5 ∧ Xi T1 876 5 ≤ 5000 := hHT1.c _ _
                have w324 : Xi T16 876 6 = Xi T12 876 6 := (show Xi T16 876 6 = Xi T13 876 6 from w319.x _ _ rfl).trans ((show Xi T13 876 6 = Xi T12 876 6 from w247.x _ _ rfl))
                have w325 : 0 ≤ Xi T12 876 6 ∧ Xi T12 876 6 ≤ 5002 := hHT12.c _ _
                have w326 : Xi T16 876 7 = Xi T12 876 7 := (show Xi T16 876 7 = Xi T13 876 7 from w319.x _ _ rfl).trans ((show Xi T13 876 7 = Xi T12 876 7 from w247.x _ _ rfl))
                have w327 : 0 ≤ Xi T12 876 7 ∧ Xi T12 876 7 ≤ 5125 := hHT12.c _ _
                have w328 : 0 ≤ Xi T16 876 8 ∧ Xi T16 876 8 ≤ 9 := hHT16.c _ _
                have w329 : Xi T16 890 2 = Xi T13 890 2 := (show Xi T16 890 2 = Xi T13 890 2 from w319.x _ _ rfl)
                have w330 : 0 ≤ Xi T13 890 2 ∧ Xi T13 890 2 ≤ 20 := hHT13.c _ _
                exact Rl_weak (ih69 _ (by omega) T16 hHT16 hFT16 (v1) ((v3 + 1)) (z222) (⟨by omega, by omega⟩) (⟨by omega, by omega⟩) (⟨by omega, by omega⟩) (((w319 876 4 rfl).2.2.trans ((w247 876 4 rfl).2.2.trans ((w210 876 4 rfl).2.2.trans h76_69)))) (((w319 20 1 rfl).2.2.trans ((w247 20 1 rfl).2.2.trans ((w210 20 1 rfl).2.2.trans h20_69)))) (((w319 0 8 rfl).2.2.trans ((w247 0 8 rfl).2.2.trans ((w210 0 8 rfl).2.2.trans h08_69)))) (((w319 0 9 rfl).2.2.trans ((w247 0 9 rfl).2.2.trans ((w210 0 9 rfl).2.2.trans h09_69)))) (by omega) (by omega) (by first | exact W133 | exact W162 | exact W185 | exact W196 | exact fun _ => W54) (by omega) rfl) (And.intro rfl (And.intro rfl (And.intro rfl (And.intro rfl (True.intro)))))
            · refine l_aload_n rfl rfl ?_
              refine l_gfr rfl rfl rfl rfl rfl (hHT12.r 0 4 876 rfl) ?_
              refine l_iconst rfl ?_
              refine l_aload_n rfl rfl ?_
              refine l_gfr rfl rfl rfl rfl rfl (hHT12.r 0 4 876 rfl) ?_
              have w331 : Xi T12 0 10 = Xi T1 0 10 := (show Xi T12 0 10 = Xi T1 0 10 from w210.x _ _ rfl)
              have w332 : 0 ≤ Xi T1 0 10 ∧ Xi T1 0 10 ≤ 5000 := hHT1.c _ _
              have w333 : Xi T12 876 5 = Xi T1 876 5 := (show Xi T12 876 5 = Xi T1 876 5 from w210.x _ _ rfl)
              have w334 : 0 ≤ Xi T1 876 5 ∧ Xi T1 876 5 ≤ 5000 := hHT1.c _ _
              have w335 : 0 ≤ Xi T12 876 6 ∧ Xi T12 876 6 ≤ 5002 := hHT12.c _ _
              have w336 : 0 ≤ Xi T12 876 7 ∧ Xi T12 876 7 ≤ 5125 := hHT12.c _ _
              have w337 : Xi T12 876 8 = Xi T1 876 8 := (show Xi T12 876 8 = Xi T1 876 8 from w210.x _ _ rfl)
              have w338 : 0 ≤ Xi T1 876 8 ∧ Xi T1 876 8 ≤ 9 := hHT1.c _ _
              have w339 : Xi T12 890 2 = Xi T1 890 2 := (show Xi T12 890 2 = Xi T1 890 2 from w210.x _ _ rfl)
              have w340 : 0 ≤ Xi T1 890 2 ∧ Xi T1 890 2 ≤ 20 := hHT1.c _ _
              refine l_callV rfl rfl rfl (t_to_lastRow hHT12 _) ?_
              rintro _ _ ⟨rfl, z342, rfl, w342, w341⟩
              show Rl _ _ _ _ _ [iv z342, iv 1, .ref 876] _ _
              have w343 : Xi T12 0 10 = Xi T1 0 10 := (show Xi T12 0 10 = Xi T1 0 10 from w210.x _ _ rfl)
              have w344 : 0 ≤ Xi T1 0 10 ∧ Xi T1 0 10 ≤ 5000 := hHT1.c _ _
              have w345 : Xi T12 876 5 = Xi T1 876 5 := (show Xi T12 876 5 = Xi T1 876 5 from w210.x _ _ rfl)
              have w346 : 0 ≤ Xi T1 876 5 ∧ Xi T1 876 5 ≤ 5000 := hHT1.c _ _
              have w347 : 0 ≤ Xi T12 876 6 ∧ Xi T12 876 6 ≤ 5002 := hHT12.c _ _
              have w348 : 0 ≤ Xi T12 876 7 ∧ Xi T12 876 7 ≤ 5125 := hHT12.c _ _
              have w349 : Xi T12 876 8 = Xi T1 876 8 := (show Xi T12 876 8 = Xi T1 876 8 from w210.x _ _ rfl)
              have w350 : 0 ≤ Xi T1 876 8 ∧ Xi T1 876 8 ≤ 9 := hHT1.c _ _
              have w351 : Xi T12 890 2 = Xi T1 890 2 := (show Xi T12 890 2 = Xi T1 890 2 from w210.x _ _ rfl)
              have w352 : 0 ≤ Xi T1 890 2 ∧ Xi T1 890 2 ≤ 20 := hHT1.c _ _
              refine l_callV rfl rfl rfl (t_to_wrong hHT12 1 z342 ⟨by omega, by omega⟩ ⟨by omega, by omega⟩ _) ?_
              rintro _ T17 ⟨hHT17, w356, z355, rfl, w355, w353, w354⟩
              have hFT17 : FR md_rs_read__2 S T17 := FR.tr hFT12 w356 rfl
              show Rl _ _ _ _ _ [iv z355] _ _
              have W133 : Xi T17 876 8 = 0 → WI T17 := fun q => by omega
              refine l_pop rfl rfl ?_
              refine l_goto rfl rfl ?_
              have w357 : Xi T17 0 10 = Xi T1 0 10 := (show Xi T17 0 10 = Xi T12 0 10 from w356.x _ _ rfl).trans ((show Xi T12 0 10 = Xi T1 0 10 from w210.x _ _ rfl))
              have w358 : 0 ≤ Xi T1 0 10 ∧ Xi T1 0 10 ≤ 5000 := hHT1.c _ _
              have w359 : Xi T17 876 5 = Xi T1 876 5 := (show Xi T17 876 5 = Xi T12 876 5 from w356.x _ _ rfl).trans ((show Xi T12 876 5 = Xi T1 876 5 from w210.x _ _ rfl))
              have w360 : 0 ≤ Xi T1 876 5 ∧ Xi T1 876 5 ≤ 5000 := hHT1.c _ _
              have w361 : Xi T17 876 6 = Xi T12 876 6 := (show Xi T17 876 6 = Xi T12 876 6 from w356.x _ _ rfl)
              have w362 : 0 ≤ Xi T12 876 6 ∧ Xi T12 876 6 ≤ 5002 := hHT12.c _ _
              have w363 : Xi T17 876 7 = Xi T12 876 7 := (show Xi T17 876 7 = Xi T12 876 7 from w356.x _ _ rfl)
              have w364 : 0 ≤ Xi T12 876 7 ∧ Xi T12 876 7 ≤ 5125 := hHT12.c _ _
              have w365 : 0 ≤ Xi T17 876 8 ∧ Xi T17 876 8 ≤ 9 := hHT17.c _ _
              have w366 : Xi T17 890 2 = Xi T1 890 2 := (show Xi T17 890 2 = Xi T12 890 2 from w356.x _ _ rfl).trans ((show Xi T12 890 2 = Xi T1 890 2 from w210.x _ _ rfl))
              have w367 : 0 ≤ Xi T1 890 2 ∧ Xi T1 890 2 ≤ 20 := hHT1.c _ _
              exact Rl_weak (ih69 _ (by omega) T17 hHT17 hFT17 (v1) ((v3 + 1)) (z222) (⟨by omega, by omega⟩) (⟨by omega, by omega⟩) (⟨by omega, by omega⟩) (((w356 876 4 rfl).2.2.trans ((w210 876 4 rfl).2.2.trans h76_69))) (((w356 20 1 rfl).2.2.trans ((w210 20 1 rfl).2.2.trans h20_69))) (((w356 0 8 rfl).2.2.trans ((w210 0 8 rfl).2.2.trans h08_69))) (((w356 0 9 rfl).2.2.trans ((w210 0 9 rfl).2.2.trans h09_69))) (by omega) (by omega) (by first | exact W133 | exact W162 | exact W185 | exact W196 | exact fun _ => W54) (by omega) rfl) (And.intro rfl (And.intro rfl (And.intro rfl (And.intro rfl (True.intro)))))
  refine l_aload_n rfl rfl ?_
  have w368 : 0 ≤ Xi S 0 10 ∧ Xi S 0 10 ≤ 5000 := hH.c _ _
  have w369 : 0 ≤ Xi S 876 5 ∧ Xi S 876 5 ≤ 5000 := hH.c _ _
  have w370 : 0 ≤ Xi S 876 6 ∧ Xi S 876 6 ≤ 5002 := hH.c _ _
  have w371 : 0 ≤ Xi S 876 7 ∧ Xi S 876 7 ≤ 5125 := hH.c _ _
  have w372 : 0 ≤ Xi S 876 8 ∧ Xi S 876 8 ≤ 9 := hH.c _ _
  have w373 : 0 ≤ Xi S 890 2 ∧ Xi S 890 2 ≤ 20 := hH.c _ _
  refine l_callV rfl rfl rfl (t_rs_wipe hH _) ?_
  rintro _ T18 ⟨hHT18, w376, z375, rfl, w375, w374⟩
  have hFT18 : FR md_rs_read__2 S T18 := FR.tr hF w376 rfl
  show Rl _ _ _ _ _ [iv z375] _ _
  refine l_istore_n rfl rfl rfl ?_
  refine l_aload_n rfl rfl ?_
  refine l_gfr rfl rfl rfl rfl rfl ((w376 0 9 rfl).2.2.trans h9) ?_
  refine l_astore_n rfl rfl rfl ?_
  refine l_aload_n rfl rfl ?_
  refine l_aload_n rfl rfl ?_
  refine l_gfr rfl rfl rfl rfl rfl ((w376 0 8 rfl).2.2.trans h8) ?_
  refine l_pfr rfl rfl rfl rfl ?_
  obtain ⟨U19, eU19⟩ : ∃ T : sS, T = uR T18 0 9 (some ts) := ⟨_, rfl⟩
  rw [← eU19]
  have hHU19 : HI U19 := by rw [eU19]; exact HI_R hHT18 rfl rfl (fun q => absurd q.2 (by decide)) (fun _ => ⟨_, rfl, by first | assumption | (right; assumption) | omega⟩) (fun q => absurd q.1 (by decide)) (fun q => absurd q.1 (by decide)) (fun q => absurd q.1 (by decide))
  have hFU19 : FR md_rs_read__2 S U19 := by rw [eU19]; exact FR.wR hFT18 (mdf_i (r := (0, 1, 9, 10)) (List.mem_of_getElem? (i := 1) rfl) (inR_i (by omega) (by omega) (by omega) (by omega)))
  refine l_aload_n rfl rfl ?_
  refine l_aload_n rfl rfl ?_
  refine l_pfr rfl rfl rfl rfl ?_
  obtain ⟨U20, eU20⟩ : ∃ T : sS, T = uR U19 0 8 (some tq) := ⟨_, rfl⟩
  rw [← eU20]
  have hHU20 : HI U20 := by rw [eU20]; exact HI_R hHU19 rfl rfl (fun _ => ⟨_, rfl, by first | assumption | (right; assumption) | omega⟩) (fun q => absurd q.2 (by decide)) (fun q => absurd q.1 (by decide)) (fun q => absurd q.1 (by decide)) (fun q => absurd q.1 (by decide))
  have hFU20 : FR md_rs_read__2 S U20 := by rw [eU20]; exact FR.wR hFU19 (mdf_i (r := (0, 1, 8, 9)) (List.mem_of_getElem? (i := 0) rfl) (inR_i (by omega) (by omega) (by omega) (by omega)))
  refine l_aload_n rfl rfl ?_
  refine l_gfr rfl rfl rfl rfl rfl (hHU20.r 0 7 900 rfl) ?_
  have w379 : Xi U20 0 10 = Xi T18 0 10 := (show Xi U20 0 10 = Xi U19 0 10 from by rw [eU20]; rfl).trans ((show Xi U19 0 10 = Xi T18 0 10 from by rw [eU19]; rfl))
  have w380 : 0 ≤ Xi T18 0 10 ∧ Xi T18 0 10 ≤ 5000 := hHT18.c _ _
  have w381 : Xi U20 876 5 = Xi S 876 5 := (show Xi U20 876 5 = Xi U19 876 5 from by rw [eU20]; rfl).trans ( (show Xi U19 876 5 = Xi T18 876 5 from by rw [eU19]; rfl).trans ((show Xi T18 876 5 = Xi S 876 5 from w376.x _ _ rfl)))
  have w382 : 0 ≤ Xi S 876 5 ∧ Xi S 876 5 ≤ 5000 := hH.c _ _
  have w383 : Xi U20 876 6 = Xi S 876 6 := (show Xi U20 876 6 = Xi U19 876 6 from by rw [eU20]; rfl).trans ( (show Xi U19 876 6 = Xi T18 876 6 from by rw [eU19]; rfl).trans ((show Xi T18 876 6 = Xi S 876 6 from w376.x _ _ rfl)))
  have w384 : 0 ≤ Xi S 876 6 ∧ Xi S 876 6 ≤ 5002 := hH.c _ _
  have w385 : Xi U20 876 7 = Xi S 876 7 := (show Xi U20 876 7 = Xi U19 876 7 from by rw [eU20]; rfl).trans ( (show Xi U19 876 7 = Xi T18 876 7 from by rw [eU19]; rfl).trans ((show Xi T18 876 7 = Xi S 876 7 from w376.x _ _ rfl)))
  have w386 : 0 ≤ Xi S 876 7 ∧ Xi S 876 7 ≤ 5125 := hH.c _ _
  have w387 : Xi U20 876 8 = Xi S 876 8 := (show Xi U20 876 8 = Xi U19 876 8 from by rw [eU20]; rfl).trans ( (show Xi U19 876 8 = Xi T18 876 8 from by rw [eU19]; rfl).trans ((show Xi T18 876 8 = Xi S 876 8 from w376.x _ _ rfl)))
  have w388 : 0 ≤ Xi S 876 8 ∧ Xi S 876 8 ≤ 9 := hH.c _ _
  have w389 : Xi U20 890 2 = Xi S 890 2 := (show Xi U20 890 2 = Xi U19 890 2 from by rw [eU20]; rfl).trans ( (show Xi U19 890 2 = Xi T18 890 2 from by rw [eU19]; rfl).trans ((show Xi T18 890 2 = Xi S 890 2 from w376.x _ _ rfl)))
  have w390 : 0 ≤ Xi S 890 2 ∧ Xi S 890 2 ≤ 20 := hH.c _ _
  refine l_callV rfl rfl rfl (t_tu_empty hHU20 _) ?_
  rintro _ T21 ⟨hHT21, w392, rfl⟩
  have hFT21 : FR md_rs_read__2 S T21 := FR.tr hFU20 w392 rfl
  show Rl _ _ _ _ _ [] _ _
  refine l_aload_n rfl rfl ?_
  have w393 : Xi T21 0 10 = Xi T18 0 10 := (show Xi T21 0 10 = Xi U20 0 10 from w392.x _ _ rfl).trans ( (show Xi U20 0 10 = Xi U19 0 10 from by rw [eU20]; rfl).trans ((show Xi U19 0 10 = Xi T18 0 10 from by rw [eU19]; rfl)))
  have w394 : 0 ≤ Xi T18 0 10 ∧ Xi T18 0 10 ≤ 5000 := hHT18.c _ _
  have w395 : Xi T21 876 5 = Xi S 876 5 := (show Xi T21 876 5 = Xi U20 876 5 from w392.x _ _ rfl).trans ( (show Xi U20 876 5 = Xi U19 876 5 from by rw [eU20]; rfl).trans ( (show Xi U19 876 5 = Xi T18 876 5 from by rw [eU19]; rfl).trans ((show Xi T18 876 5 = Xi S 876 5 from w376.x _ _ rfl))))
  have w396 : 0 ≤ Xi S 876 5 ∧ Xi S 876 5 ≤ 5000 := hH.c _ _
  have w397 : Xi T21 876 6 = Xi S 876 6 := (show Xi T21 876 6 = Xi U20 876 6 from w392.x _ _ rfl).trans ( (show Xi U20 876 6 = Xi U19 876 6 from by rw [eU20]; rfl).trans ( (show Xi U19 876 6 = Xi T18 876 6 from by rw [eU19]; rfl).trans ((show Xi T18 876 6 = Xi S 876 6 from w376.x _ _ rfl))))
  have w398 : 0 ≤ Xi S 876 6 ∧ Xi S 876 6 ≤ 5002 := hH.c _ _
  have w399 : Xi T21 876 7 = Xi S 876 7 := (show Xi T21 876 7 = Xi U20 876 7 from w392.x _ _ rfl).trans ( (show Xi U20 876 7 = Xi U19 876 7 from by rw [eU20]; rfl).trans ( (show Xi U19 876 7 = Xi T18 876 7 from by rw [eU19]; rfl).trans ((show Xi T18 876 7 = Xi S 876 7 from w376.x _ _ rfl))))
  have w400 : 0 ≤ Xi S 876 7 ∧ Xi S 876 7 ≤ 5125 := hH.c _ _
  have w401 : Xi T21 876 8 = Xi S 876 8 := (show Xi T21 876 8 = Xi U20 876 8 from w392.x _ _ rfl).trans ( (show Xi U20 876 8 = Xi U19 876 8 from by rw [eU20]; rfl).trans ( (show Xi U19 876 8 = Xi T18 876 8 from by rw [eU19]; rfl).trans ((show Xi T18 876 8 = Xi S 876 8 from w376.x _ _ rfl))))
  have w402 : 0 ≤ Xi S 876 8 ∧ Xi S 876 8 ≤ 9 := hH.c _ _
  have w403 : Xi T21 890 2 = Xi S 890 2 := (show Xi T21 890 2 = Xi U20 890 2 from w392.x _ _ rfl).trans ( (show Xi U20 890 2 = Xi U19 890 2 from by rw [eU20]; rfl).trans ( (show Xi U19 890 2 = Xi T18 890 2 from by rw [eU19]; rfl).trans ((show Xi T18 890 2 = Xi S 890 2 from w376.x _ _ rfl))))
  have w404 : 0 ≤ Xi S 890 2 ∧ Xi S 890 2 ≤ 20 := hH.c _ _
  refine l_callV rfl rfl rfl (t_rs_startAgain hHT21 _) ?_
  rintro _ T22 ⟨hHT22, w408, rfl, w405, w406⟩
  have hFT22 : FR md_rs_read__2 S T22 := FR.tr hFT21 w408 rfl
  show Rl _ _ _ _ _ [] _ _
  have W31 : WI T22 := by assumption
  have r31 : Xi T22 246 2 = 0 := by assumption
  refine l_aload_n rfl rfl ?_
  refine l_gfr rfl rfl rfl rfl rfl (hHT22.r 0 1 20 rfl) ?_
  refine l_aload_n rfl rfl ?_
  refine l_gfr rfl rfl rfl rfl rfl ((w408 0 9 rfl).2.2.trans ((w392 0 9 rfl).2.2.trans ((show U20.2.2 0 9 = U19.2.2 0 9 from by rw [eU20]; exact uR_o (by decide)).trans (show U19.2.2 0 9 = some ts from by rw [eU19]; exact uR_s)))) ?_
  refine l_pfr rfl rfl rfl rfl ?_
  obtain ⟨U23, eU23⟩ : ∃ T : sS, T = uR T22 20 1 (some ts) := ⟨_, rfl⟩
  rw [← eU23]
  have hHU23 : HI U23 := by rw [eU23]; exact HI_R hHT22 rfl rfl (fun q => absurd q.1 (by decide)) (fun q => absurd q.1 (by decide)) (fun _ => ⟨_, rfl, by first | assumption | (right; assumption) | omega⟩) (fun q => absurd q.1 (by decide)) (fun q => absurd q.1 (by decide))
  have hFU23 : FR md_rs_read__2 S U23 := by rw [eU23]; exact FR.wR hFT22 (mdf_i (r := (20, 21, 1, 2)) (List.mem_of_getElem? (i := 23) rfl) (inR_i (by omega) (by omega) (by omega) (by omega)))
  have W42 : WI U23 := WI_tx eU23 htp r31 W31
  refine l_aload_n rfl rfl ?_
  refine l_gfr rfl rfl rfl rfl rfl (hHU23.r 0 4 876 rfl) ?_
  refine l_aload_n rfl rfl ?_
  refine l_gfr rfl rfl rfl rfl rfl ((show U23.2.2 0 9 = T22.2.2 0 9 from by rw [eU23]; exact uR_o (by decide)).trans ((w408 0 9 rfl).2.2.trans ((w392 0 9 rfl).2.2.trans ((show U20.2.2 0 9 = U19.2.2 0 9 from by rw [eU20]; exact uR_o (by decide)).trans (show U19.2.2 0 9 = some ts from by rw [eU19]; exact uR_s))))) ?_
  refine l_iload_n rfl rfl ?_
  have w411 : Xi U23 0 10 = Xi T18 0 10 := (show Xi U23 0 10 = Xi T22 0 10 from by rw [eU23]; rfl).trans ( (show Xi T22 0 10 = Xi T21 0 10 from w408.x _ _ rfl).trans ( (show Xi T21 0 10 = Xi U20 0 10 from w392.x _ _ rfl).trans ( (show Xi U20 0 10 = Xi U19 0 10 from by rw [eU20]; rfl).trans ((show Xi U19 0 10 = Xi T18 0 10 from by rw [eU19]; rfl)))))
  have w412 : 0 ≤ Xi T18 0 10 ∧ Xi T18 0 10 ≤ 5000 := hHT18.c _ _
  have w413 : Xi U23 876 5 = Xi S 876 5 := (show Xi U23 876 5 = Xi T22 876 5 from by rw [eU23]; rfl).trans ( (show Xi T22 876 5 = Xi T21 876 5 from w408.x _ _ rfl).trans ( (show Xi T21 876 5 = Xi U20 876 5 from w392.x _ _ rfl).trans ( (show Xi U20 876 5 = Xi U19 876 5 from by rw [eU20]; rfl).trans ( (show Xi U19 876 5 = Xi T18 876 5 from by rw [eU19]; rfl).trans ((show Xi T18 876 5 = Xi S 876 5 from w376.x _ _ rfl))))))
  have w414 : 0 ≤ Xi S 876 5 ∧ Xi S 876 5 ≤ 5000 := hH.c _ _
  have w415 : Xi U23 876 6 = Xi S 876 6 := (show Xi U23 876 6 = Xi T22 876 6 from by rw [eU23]; rfl).trans ( (show Xi T22 876 6 = Xi T21 876 6 from w408.x _ _ rfl).trans ( (show Xi T21 876 6 = Xi U20 876 6 from w392.x _ _ rfl).trans ( (show Xi U20 876 6 = Xi U19 876 6 from by rw [eU20]; rfl).trans ( (show Xi U19 876 6 = Xi T18 876 6 from by rw [eU19]; rfl).trans ((show Xi T18 876 6 = Xi S 876 6 from w376.x _ _ rfl))))))
  have w416 : 0 ≤ Xi S 876 6 ∧ Xi S 876 6 ≤ 5002 := hH.c _ _
  have w417 : Xi U23 876 7 = Xi S 876 7 := (show Xi U23 876 7 = Xi T22 876 7 from by rw [eU23]; rfl).trans ( (show Xi T22 876 7 = Xi T21 876 7 from w408.x _ _ rfl).trans ( (show Xi T21 876 7 = Xi U20 876 7 from w392.x _ _ rfl).trans ( (show Xi U20 876 7 = Xi U19 876 7 from by rw [eU20]; rfl).trans ( (show Xi U19 876 7 = Xi T18 876 7 from by rw [eU19]; rfl).trans ((show Xi T18 876 7 = Xi S 876 7 from w376.x _ _ rfl))))))
  have w418 : 0 ≤ Xi S 876 7 ∧ Xi S 876 7 ≤ 5125 := hH.c _ _
  have w419 : Xi U23 876 8 = Xi S 876 8 := (show Xi U23 876 8 = Xi T22 876 8 from by rw [eU23]; rfl).trans ( (show Xi T22 876 8 = Xi T21 876 8 from w408.x _ _ rfl).trans ( (show Xi T21 876 8 = Xi U20 876 8 from w392.x _ _ rfl).trans ( (show Xi U20 876 8 = Xi U19 876 8 from by rw [eU20]; rfl).trans ( (show Xi U19 876 8 = Xi T18 876 8 from by rw [eU19]; rfl).trans ((show Xi T18 876 8 = Xi S 876 8 from w376.x _ _ rfl))))))
  have w420 : 0 ≤ Xi S 876 8 ∧ Xi S 876 8 ≤ 9 := hH.c _ _
  have w421 : Xi U23 890 2 = Xi S 890 2 := (show Xi U23 890 2 = Xi T22 890 2 from by rw [eU23]; rfl).trans ( (show Xi T22 890 2 = Xi T21 890 2 from w408.x _ _ rfl).trans ( (show Xi T21 890 2 = Xi U20 890 2 from w392.x _ _ rfl).trans ( (show Xi U20 890 2 = Xi U19 890 2 from by rw [eU20]; rfl).trans ( (show Xi U19 890 2 = Xi T18 890 2 from by rw [eU19]; rfl).trans ((show Xi T18 890 2 = Xi S 890 2 from w376.x _ _ rfl))))))
  have w422 : 0 ≤ Xi S 890 2 ∧ Xi S 890 2 ≤ 20 := hH.c _ _
  refine l_callV rfl rfl rfl (t_to_open hHU23 ts z375 htp ⟨by omega, by omega⟩ _) ?_
  rintro _ T24 ⟨hHT24, w426, rfl, w423, w424⟩
  have hFT24 : FR md_rs_read__2 S T24 := FR.tr hFU23 w426 rfl
  show Rl _ _ _ _ _ [] _ _
  have h54 : T24.2.2 876 4 = some ts := by assumption
  have W54 : WI T24 := WI_FR hHU23 (by assumption : FR md_to_open U23 T24) rfl rfl rfl rfl rfl rfl rfl rfl rfl W42
  refine l_iconst rfl ?_
  refine l_istore_n rfl rfl rfl ?_
  refine l_aload_n rfl rfl ?_
  refine l_gfr rfl rfl rfl rfl rfl (hHT24.r 0 4 876 rfl) ?_
  refine l_iconst rfl ?_
  have w427 : Xi T24 0 10 = Xi T18 0 10 := (show Xi T24 0 10 = Xi U23 0 10 from w426.x _ _ rfl).trans ( (show Xi U23 0 10 = Xi T22 0 10 from by rw [eU23]; rfl).trans ( (show Xi T22 0 10 = Xi T21 0 10 from w408.x _ _ rfl).trans ( (show Xi T21 0 10 = Xi U20 0 10 from w392.x _ _ rfl).trans ( (show Xi U20 0 10 = Xi U19 0 10 from by rw [eU20]; rfl).trans ((show Xi U19 0 10 = Xi T18 0 10 from by rw [eU19]; rfl))))))
  have w428 : 0 ≤ Xi T18 0 10 ∧ Xi T18 0 10 ≤ 5000 := hHT18.c _ _
  have w429 : 0 ≤ Xi T24 876 5 ∧ Xi T24 876 5 ≤ 5000 := hHT24.c _ _
  have w430 : Xi T24 876 6 = Xi S 876 6 := (show Xi T24 876 6 = Xi U23 876 6 from w426.x _ _ rfl).trans ( (show Xi U23 876 6 = Xi T22 876 6 from by rw [eU23]; rfl).trans ( (show Xi T22 876 6 = Xi T21 876 6 from w408.x _ _ rfl).trans ( (show Xi T21 876 6 = Xi U20 876 6 from w392.x _ _ rfl).trans ( (show Xi U20 876 6 = Xi U19 876 6 from by rw [eU20]; rfl).trans ( (show Xi U19 876 6 = Xi T18 876 6 from by rw [eU19]; rfl).trans ((show Xi T18 876 6 = Xi S 876 6 from w376.x _ _ rfl)))))))
  have w431 : 0 ≤ Xi S 876 6 ∧ Xi S 876 6 ≤ 5002 := hH.c _ _
  have w432 : Xi T24 876 7 = Xi S 876 7 := (show Xi T24 876 7 = Xi U23 876 7 from w426.x _ _ rfl).trans ( (show Xi U23 876 7 = Xi T22 876 7 from by rw [eU23]; rfl).trans ( (show Xi T22 876 7 = Xi T21 876 7 from w408.x _ _ rfl).trans ( (show Xi T21 876 7 = Xi U20 876 7 from w392.x _ _ rfl).trans ( (show Xi U20 876 7 = Xi U19 876 7 from by rw [eU20]; rfl).trans ( (show Xi U19 876 7 = Xi T18 876 7 from by rw [eU19]; rfl).trans ((show Xi T18 876 7 = Xi S 876 7 from w376.x _ _ rfl)))))))
  have w433 : 0 ≤ Xi S 876 7 ∧ Xi S 876 7 ≤ 5125 := hH.c _ _
  have w434 : 0 ≤ Xi T24 876 8 ∧ Xi T24 876 8 ≤ 9 := hHT24.c _ _
  have w435 : Xi T24 890 2 = Xi S 890 2 := (show Xi T24 890 2 = Xi U23 890 2 from w426.x _ _ rfl).trans ( (show Xi U23 890 2 = Xi T22 890 2 from by rw [eU23]; rfl).trans ( (show Xi T22 890 2 = Xi T21 890 2 from w408.x _ _ rfl).trans ( (show Xi T21 890 2 = Xi U20 890 2 from w392.x _ _ rfl).trans ( (show Xi U20 890 2 = Xi U19 890 2 from by rw [eU20]; rfl).trans ( (show Xi U19 890 2 = Xi T18 890 2 from by rw [eU19]; rfl).trans ((show Xi T18 890 2 = Xi S 890 2 from w376.x _ _ rfl)))))))
  have w436 : 0 ≤ Xi S 890 2 ∧ Xi S 890 2 ≤ 20 := hH.c _ _
  refine l_callV rfl rfl rfl (t_to_skip hHT24 ts 0 ⟨by omega, by omega⟩ h54 htp (by first | assumption | omega) _) ?_
  rintro _ _ ⟨rfl, z438, rfl, w438, w437⟩
  show Rl _ _ _ _ _ [iv z438] _ _
  refine l_istore rfl rfl rfl ?_
  have w439 : Xi T24 0 10 = Xi T18 0 10 := (show Xi T24 0 10 = Xi U23 0 10 from w426.x _ _ rfl).trans ( (show Xi U23 0 10 = Xi T22 0 10 from by rw [eU23]; rfl).trans ( (show Xi T22 0 10 = Xi T21 0 10 from w408.x _ _ rfl).trans ( (show Xi T21 0 10 = Xi U20 0 10 from w392.x _ _ rfl).trans ( (show Xi U20 0 10 = Xi U19 0 10 from by rw [eU20]; rfl).trans ((show Xi U19 0 10 = Xi T18 0 10 from by rw [eU19]; rfl))))))
  have w440 : 0 ≤ Xi T18 0 10 ∧ Xi T18 0 10 ≤ 5000 := hHT18.c _ _
  have w441 : 0 ≤ Xi T24 876 5 ∧ Xi T24 876 5 ≤ 5000 := hHT24.c _ _
  have w442 : Xi T24 876 6 = Xi S 876 6 := (show Xi T24 876 6 = Xi U23 876 6 from w426.x _ _ rfl).trans ( (show Xi U23 876 6 = Xi T22 876 6 from by rw [eU23]; rfl).trans ( (show Xi T22 876 6 = Xi T21 876 6 from w408.x _ _ rfl).trans ( (show Xi T21 876 6 = Xi U20 876 6 from w392.x _ _ rfl).trans ( (show Xi U20 876 6 = Xi U19 876 6 from by rw [eU20]; rfl).trans ( (show Xi U19 876 6 = Xi T18 876 6 from by rw [eU19]; rfl).trans ((show Xi T18 876 6 = Xi S 876 6 from w376.x _ _ rfl)))))))
  have w443 : 0 ≤ Xi S 876 6 ∧ Xi S 876 6 ≤ 5002 := hH.c _ _
  have w444 : Xi T24 876 7 = Xi S 876 7 := (show Xi T24 876 7 = Xi U23 876 7 from w426.x _ _ rfl).trans ( (show Xi U23 876 7 = Xi T22 876 7 from by rw [eU23]; rfl).trans ( (show Xi T22 876 7 = Xi T21 876 7 from w408.x _ _ rfl).trans ( (show Xi T21 876 7 = Xi U20 876 7 from w392.x _ _ rfl).trans ( (show Xi U20 876 7 = Xi U19 876 7 from by rw [eU20]; rfl).trans ( (show Xi U19 876 7 = Xi T18 876 7 from by rw [eU19]; rfl).trans ((show Xi T18 876 7 = Xi S 876 7 from w376.x _ _ rfl)))))))
  have w445 : 0 ≤ Xi S 876 7 ∧ Xi S 876 7 ≤ 5125 := hH.c _ _
  have w446 : 0 ≤ Xi T24 876 8 ∧ Xi T24 876 8 ≤ 9 := hHT24.c _ _
  have w447 : Xi T24 890 2 = Xi S 890 2 := (show Xi T24 890 2 = Xi U23 890 2 from w426.x _ _ rfl).trans ( (show Xi U23 890 2 = Xi T22 890 2 from by rw [eU23]; rfl).trans ( (show Xi T22 890 2 = Xi T21 890 2 from w408.x _ _ rfl).trans ( (show Xi T21 890 2 = Xi U20 890 2 from w392.x _ _ rfl).trans ( (show Xi U20 890 2 = Xi U19 890 2 from by rw [eU20]; rfl).trans ( (show Xi U19 890 2 = Xi T18 890 2 from by rw [eU19]; rfl).trans ((show Xi T18 890 2 = Xi S 890 2 from w376.x _ _ rfl)))))))
  have w448 : 0 ≤ Xi S 890 2 ∧ Xi S 890 2 ≤ 20 := hH.c _ _
  exact Rl_weak (C69 _ T24 hHT24 hFT24 (z375) (0) (z438) (⟨by omega, by omega⟩) (⟨by omega, by omega⟩) (⟨by omega, by omega⟩) (h54) (((w426 20 1 rfl).2.2.trans (show U23.2.2 20 1 = some ts from by rw [eU23]; exact uR_s))) (((w426 0 8 rfl).2.2.trans ((show U23.2.2 0 8 = T22.2.2 0 8 from by rw [eU23]; exact uR_o (by decide)).trans ((w408 0 8 rfl).2.2.trans ((w392 0 8 rfl).2.2.trans (show U20.2.2 0 8 = some tq from by rw [eU20]; exact uR_s)))))) (((w426 0 9 rfl).2.2.trans ((show U23.2.2 0 9 = T22.2.2 0 9 from by rw [eU23]; exact uR_o (by decide)).trans ((w408 0 9 rfl).2.2.trans ((w392 0 9 rfl).2.2.trans ((show U20.2.2 0 9 = U19.2.2 0 9 from by rw [eU20]; exact uR_o (by decide)).trans (show U19.2.2 0 9 = some ts from by rw [eU19]; exact uR_s))))))) (by omega) (by omega) (by first | exact W133 | exact W162 | exact W185 | exact W196 | exact fun _ => W54) (by omega) rfl) (And.intro rfl (And.intro rfl (And.intro rfl (And.intro rfl (True.intro)))))
def md_rs_command__2 : List rec := [(0, 1, 10, 11), (22, 23, 0, 100000), (23, 24, 0, 100000), (25, 65, 0, 100000), (66, 106, 0, 100000), (107, 147, 0, 100000), (148, 188, 0, 100000), (189, 195, 0, 100000), (882, 883, 12, 13), (882, 883, 13, 14), (889, 890, 0, 100000), (900, 901, 4, 5), (900, 901, 5, 6), (900, 901, 6, 7), (901, 902, 0, 100000)]
abbrev Q_rs_command__2 (S : sS) : pst := fun r S1 => HI S1 ∧ FR md_rs_command__2 S S1 ∧ (∃ z : Int, r = some (iv z) ∧ (-2 ≤ z ∧ z ≤ 5) ∧ (TX S1) ∧ (Xi S1 0 10 = 0))
set_option maxRecDepth 100000 in
theorem t_rs_command__2 {S : sS} (hH : HI S) (hX : TX S) (hD : DEF S) (hR : RUL S) (hO : ORD S) (hA : AK S) (hL : LEX S) (hC : CMD S) (d : Nat) : Mt lay0 (d + 58) m_rs_command [.ref 0] S (Q_rs_command__2 S) := by
  refine Mt_R rfl rfl ?_
  have hF : FR md_rs_command__2 S S := FR.rf
  have w1 : 0 ≤ Xi S 0 10 ∧ Xi S 0 10 ≤ 5000 := hH.c _ _
  have C25 : ∀ (n25 : Nat) (T1 : sS) (_ : HI T1) (_ : FR md_rs_command__2 S T1) (v2 : Int), (0 ≤ v2 ∧ v2 ≤ 20) → (TX T1) → (DEF T1) → (RUL T1) → (ORD T1) → (AK T1) → (LEX T1) → (CMD T1) → (Xi T1 0 10 = 0) → n25 = (21 - v2).toNat → Rl lay0 (d + 57) m_rs_command 25 [(0, .ref 0), (2, iv v2)] [] T1 (Q_rs_command__2 S) := by
    intro n25
    induction n25 using Nat.strongRecOn with
    | ind n25 ih25 =>
      intro T1 hHT1 hFT1 v2 w2 hX25 hD25 hR25 hO25 hA25 hL25 hC25 w3 hm25
      have w4 : 0 ≤ Xi T1 0 10 ∧ Xi T1 0 10 ≤ 5000 := hHT1.c _ _
      refine l_iload_n rfl rfl ?_
      refine l_aload_n rfl rfl ?_
      refine l_gfr rfl rfl rfl rfl rfl (hHT1.r 0 3 882 rfl) ?_
      refine l_gfi rfl rfl rfl rfl rfl ?_
      have w5 : 0 ≤ (Xi T1 882 3) ∧ (Xi T1 882 3) ≤ 20 := hHT1.c _ _
      refine l_icmp_ge rfl rfl (by unfold rg; omega) (by unfold rg; omega) (fun w6 => ?_) (fun w7 => ?_)
      · refine l_bipush rfl rfl ?_
        refine l_ireturn rfl rfl ?_
        have w8 : 0 ≤ Xi T1 0 10 ∧ Xi T1 0 10 ≤ 5000 := hHT1.c _ _
        exact ⟨hHT1, hFT1, _, rfl, ⟨by omega, by omega⟩, (by first | assumption | exact (by first | assumption | exact (by assumption : WI T1).2.1 : TX T1)), (by omega)⟩
      · refine l_aload_n rfl rfl ?_
        refine l_gfr rfl rfl rfl rfl rfl (hHT1.r 0 3 882 rfl) ?_
        refine l_iload_n rfl rfl ?_
        have w9 : 0 ≤ Xi T1 0 10 ∧ Xi T1 0 10 ≤ 5000 := hHT1.c _ _
        refine l_callV rfl rfl rfl (t_co_fits hHT1 v2 ⟨by omega, by omega⟩ (by first | assumption | exact (LEX_FR hFT1 rfl rfl (by assumption : LEX S))) _) ?_
        rintro _ T2 ⟨hHT2, w12, z11, rfl, w11, w10⟩
        have hFT2 : FR md_rs_command__2 S T2 := FR.tr hFT1 w12 rfl
        show Rl _ _ _ _ _ [iv z11] _ _
        have hcm := (by assumption : CMD T1) v2.toNat (by omega)
        have h19 : ∀ j, Xi T2 19 j = Xi T1 19 j := fun j => ((by assumption : FR md_co_fits T1 T2).cx 19 rfl j).1
        have h883 : ∀ j, Xi T2 883 j = Xi T1 883 j := fun j => ((by assumption : FR md_co_fits T1 T2).cx 883 rfl j).1
        rw [← h883, ← h19] at hcm
        refine l_if_eq rfl rfl (by unfold rg; omega) (fun w13 => ?_) (fun w14 => ?_)
        · refine l_iinc rfl rfl rfl rfl ?_
          refine l_goto rfl rfl ?_
          have w15 : Xi T2 0 10 = Xi T1 0 10 := (show Xi T2 0 10 = Xi T1 0 10 from w12.x _ _ rfl)
          have w16 : 0 ≤ Xi T1 0 10 ∧ Xi T1 0 10 ≤ 5000 := hHT1.c _ _
          exact Rl_weak (ih25 _ (by omega) T2 hHT2 hFT2 ((v2 + 1)) (by omega) (by first | assumption | exact (TX_FR w12 rfl (by first | assumption | exact (by assumption : WI T1).2.1 : TX T1))) (by first | assumption | exact (DEF_FR hH hFT2 rfl rfl (by assumption : DEF S))) (by first | assumption | exact (RUL_FR hH hFT2 rfl rfl (by assumption : RUL S))) (by first | assumption | exact (ORD_FR hFT2 rfl (by assumption : ORD S))) (by first | assumption | exact (AK_FR hFT2 rfl (by assumption : AK S))) (by first | assumption | exact (LEX_FR hFT2 rfl rfl (by assumption : LEX S))) (by first | assumption | exact (CMD_FR hFT2 rfl (by assumption : CMD S))) (by omega) rfl) (And.intro rfl (And.intro rfl (True.intro)))
        · refine l_aload_n rfl rfl ?_
          refine l_gfr rfl rfl rfl rfl rfl (hHT2.r 0 7 900 rfl) ?_
          refine l_aload_n rfl rfl ?_
          refine l_gfr rfl rfl rfl rfl rfl (hHT2.r 0 3 882 rfl) ?_
          refine l_gfr rfl rfl rfl rfl rfl (hHT2.r 882 4 883 rfl) ?_
          refine l_iload_n rfl rfl ?_
          refine l_iaload (n := 20) rfl rfl (by omega) (by omega) (by unfold rg; omega) ?_
          have w17 : 0 ≤ (Xi T2 883 ((v2).toNat)) ∧ (Xi T2 883 ((v2).toNat)) ≤ 11 := hHT2.c _ _
          refine l_aload_n rfl rfl ?_
          refine l_gfr rfl rfl rfl rfl rfl (hHT2.r 0 3 882 rfl) ?_
          refine l_gfi rfl rfl rfl rfl rfl ?_
          have w18 : -1 ≤ (Xi T2 882 13) ∧ (Xi T2 882 13) ≤ 255 := hHT2.c _ _
          have w19 : Xi T2 0 10 = Xi T1 0 10 := (show Xi T2 0 10 = Xi T1 0 10 from w12.x _ _ rfl)
          have w20 : 0 ≤ Xi T1 0 10 ∧ Xi T1 0 10 ≤ 5000 := hHT1.c _ _
          refine l_callV rfl rfl rfl (t_tu_takeTurn hHT2 (Xi T2 883 ((v2).toNat)) (Xi T2 882 13) ⟨by omega, by omega⟩ ⟨by omega, by omega⟩ (by first | assumption | omega) (by first | assumption | omega) (by first | assumption | exact (TX_FR w12 rfl (by first | assumption | exact (by assumption : WI T1).2.1 : TX T1))) (by first | assumption | exact (DEF_FR hH hFT2 rfl rfl (by assumption : DEF S))) (by first | assumption | exact (RUL_FR hH hFT2 rfl rfl (by assumption : RUL S))) (by first | assumption | exact (ORD_FR hFT2 rfl (by assumption : ORD S))) (by first | assumption | exact (AK_FR hFT2 rfl (by assumption : AK S))) _) ?_
          rintro _ T3 ⟨hHT3, w23, z22, rfl, w22, w21⟩
          have hFT3 : FR md_rs_command__2 S T3 := FR.tr hFT2 w23 rfl
          show Rl _ _ _ _ _ [iv z22] _ _
          refine l_ireturn rfl rfl ?_
          have w24 : Xi T3 0 10 = Xi T1 0 10 := (show Xi T3 0 10 = Xi T2 0 10 from w23.x _ _ rfl).trans ((show Xi T2 0 10 = Xi T1 0 10 from w12.x _ _ rfl))
          have w25 : 0 ≤ Xi T1 0 10 ∧ Xi T1 0 10 ≤ 5000 := hHT1.c _ _
          exact ⟨hHT3, hFT3, _, rfl, ⟨by omega, by omega⟩, (by first | assumption | exact (by first | assumption | exact (by assumption : WI T3).2.1 : TX T3)), (by omega)⟩
  refine l_aload_n rfl rfl ?_
  have w26 : 0 ≤ Xi S 0 10 ∧ Xi S 0 10 ≤ 5000 := hH.c _ _
  refine l_callV rfl rfl rfl (t_rs_wipe hH _) ?_
  rintro _ T4 ⟨hHT4, w29, z28, rfl, w28, w27⟩
  have hFT4 : FR md_rs_command__2 S T4 := FR.tr hF w29 rfl
  show Rl _ _ _ _ _ [iv z28] _ _
  refine l_istore_n rfl rfl rfl ?_
  refine l_aload_n rfl rfl ?_
  refine l_gfr rfl rfl rfl rfl rfl (hHT4.r 0 3 882 rfl) ?_
  refine l_aload_n rfl rfl ?_
  obtain ⟨tw30, w30, w30b⟩ := hHT4.1.2.2.1
  refine l_gfr rfl rfl rfl rfl rfl w30 ?_
  refine l_iload_n rfl rfl ?_
  have w31 : 0 ≤ Xi T4 0 10 ∧ Xi T4 0 10 ≤ 5000 := hHT4.c _ _
  refine l_callV rfl rfl rfl (t_co_takeTyped hHT4 tw30 z28 w30b ⟨by omega, by omega⟩ _) ?_
  rintro _ T5 ⟨hHT5, w33, z32, rfl, w32⟩
  have hFT5 : FR md_rs_command__2 S T5 := FR.tr hFT4 w33 rfl
  show Rl _ _ _ _ _ [iv z32] _ _
  refine l_if_ne rfl rfl (by unfold rg; omega) (fun w34 => ?_) (fun w35 => ?_)
  · refine l_iconst rfl ?_
    refine l_istore_n rfl rfl rfl ?_
    have w36 : Xi T5 0 10 = Xi T4 0 10 := (show Xi T5 0 10 = Xi T4 0 10 from w33.x _ _ rfl)
    have w37 : 0 ≤ Xi T4 0 10 ∧ Xi T4 0 10 ≤ 5000 := hHT4.c _ _
    exact Rl_weak (C25 _ T5 hHT5 hFT5 (0) (by omega) (by first | assumption | exact (TX_FR w33 rfl (TX_FR w29 rfl (by first | assumption | exact (by assumption : WI S).2.1 : TX S)))) (by first | assumption | exact (DEF_FR hH hFT5 rfl rfl (by assumption : DEF S))) (by first | assumption | exact (RUL_FR hH hFT5 rfl rfl (by assumption : RUL S))) (by first | assumption | exact (ORD_FR hFT5 rfl (by assumption : ORD S))) (by first | assumption | exact (AK_FR hFT5 rfl (by assumption : AK S))) (by first | assumption | exact (LEX_FR hFT5 rfl rfl (by assumption : LEX S))) (by first | assumption | exact (CMD_FR hFT5 rfl (by assumption : CMD S))) (by omega) rfl) (And.intro rfl (And.intro rfl (True.intro)))
  · refine l_bipush rfl rfl ?_
    refine l_ireturn rfl rfl ?_
    have w38 : Xi T5 0 10 = Xi T4 0 10 := (show Xi T5 0 10 = Xi T4 0 10 from w33.x _ _ rfl)
    have w39 : 0 ≤ Xi T4 0 10 ∧ Xi T4 0 10 ≤ 5000 := hHT4.c _ _
    exact ⟨hHT5, hFT5, _, rfl, ⟨by omega, by omega⟩, (by first | assumption | exact (TX_FR w33 rfl (TX_FR w29 rfl (by first | assumption | exact (by assumption : WI S).2.1 : TX S)))), (by omega)⟩
def md_mo_read__2 : List rec := [(904, 905, 1, 2), (904, 905, 3, 4), (904, 905, 8, 9), (904, 905, 15, 16), (904, 905, 16, 17), (904, 905, 18, 19), (904, 905, 19, 20), (904, 905, 23, 24), (904, 905, 30, 31), (904, 905, 32, 33), (904, 905, 41, 42), (904, 905, 47, 48), (904, 905, 49, 50), (904, 905, 51, 52), (904, 905, 55, 56), (904, 905, 60, 61), (904, 905, 61, 62), (904, 905, 62, 63), (904, 905, 63, 64), (904, 905, 64, 65), (904, 905, 65, 66), (904, 905, 66, 67), (904, 905, 69, 70), (904, 905, 70, 71), (904, 905, 71, 72), (904, 905, 72, 73), (904, 905, 73, 74), (904, 905, 74, 75), (904, 905, 75, 76), (904, 905, 76, 77), (904, 905, 77, 78), (904, 905, 78, 79), (904, 905, 79, 80), (904, 905, 80, 81), (904, 905, 81, 82), (904, 905, 93, 94), (904, 905, 94, 95), (904, 905, 98, 99), (904, 905, 99, 100), (904, 905, 100, 101), (904, 905, 101, 102), (904, 905, 102, 103), (904, 905, 103, 104), (904, 905, 104, 105), (904, 905, 105, 106), (904, 905, 106, 107), (904, 905, 108, 109), (904, 905, 109, 110), (904, 905, 110, 111), (904, 905, 112, 113), (904, 905, 113, 114), (904, 905, 115, 116), (904, 905, 116, 117), (904, 905, 117, 118), (904, 905, 125, 126), (904, 905, 128, 129), (904, 905, 129, 130), (904, 905, 130, 131), (904, 905, 142, 143), (904, 905, 144, 145), (904, 905, 146, 147), (904, 905, 147, 148), (904, 905, 150, 151), (904, 905, 151, 152), (904, 905, 153, 154), (904, 905, 154, 155), (904, 905, 156, 157), (904, 905, 157, 158), (904, 905, 158, 159), (904, 905, 160, 161), (906, 907, 0, 100000), (907, 908, 0, 100000), (908, 909, 0, 100000), (909, 910, 0, 100000), (910, 911, 0, 100000), (912, 913, 0, 100000), (913, 914, 0, 100000), (914, 915, 0, 100000), (915, 916, 0, 100000), (916, 917, 0, 100000), (917, 918, 0, 100000), (918, 919, 0, 100000), (919, 920, 0, 100000), (920, 921, 0, 100000), (921, 922, 0, 100000), (922, 923, 0, 100000), (923, 924, 0, 100000), (924, 925, 0, 100000), (925, 926, 0, 100000), (926, 927, 0, 100000), (927, 928, 0, 100000), (928, 929, 0, 100000), (929, 930, 0, 100000), (930, 931, 0, 100000), (931, 932, 0, 100000), (932, 933, 0, 100000), (933, 934, 0, 100000), (934, 935, 0, 100000), (935, 936, 0, 100000), (936, 937, 0, 100000), (937, 938, 0, 100000), (938, 939, 0, 100000), (939, 940, 0, 100000), (940, 941, 0, 100000), (941, 942, 0, 100000), (942, 943, 0, 100000), (943, 944, 0, 100000), (944, 945, 0, 100000), (945, 946, 0, 100000), (946, 947, 0, 100000), (947, 948, 0, 100000), (948, 949, 0, 100000), (949, 950, 0, 100000), (950, 951, 0, 100000), (951, 952, 0, 100000), (952, 953, 0, 100000), (953, 954, 0, 100000), (954, 955, 0, 100000), (955, 956, 0, 100000), (956, 957, 0, 100000), (957, 958, 0, 100000), (958, 959, 0, 100000), (959, 960, 0, 100000), (960, 961, 0, 100000), (961, 962, 0, 100000), (962, 963, 0, 100000), (963, 964, 0, 100000), (964, 965, 0, 100000), (965, 966, 0, 100000), (966, 967, 0, 100000), (967, 968, 0, 100000), (968, 969, 0, 100000), (969, 970, 0, 100000), (970, 971, 0, 100000), (971, 972, 0, 100000), (972, 973, 0, 100000), (973, 974, 0, 100000), (974, 975, 0, 100000), (975, 976, 0, 100000), (976, 977, 0, 100000), (977, 978, 0, 100000), (978, 979, 0, 100000), (979, 980, 0, 100000), (980, 981, 0, 100000), (981, 982, 0, 100000), (982, 983, 0, 100000), (983, 984, 0, 100000), (984, 985, 0, 100000), (985, 986, 0, 100000), (986, 987, 0, 100000), (987, 988, 0, 100000), (988, 989, 0, 100000), (989, 990, 0, 100000), (990, 991, 0, 100000), (991, 992, 0, 100000), (992, 993, 0, 100000), (993, 994, 0, 100000), (994, 995, 0, 100000)]
abbrev Q_mo_read__2 (S : sS) : pst := fun r S1 => HI S1 ∧ FR md_mo_read__2 S S1 ∧ (∃ z : Int, r = some (iv z) ∧ (-5010 ≤ z ∧ z ≤ 5001) ∧ (TIX S1) ∧ (PF S1) ∧ (BDA S1) ∧ (Xi S1 904 1 = 0))
set_option maxRecDepth 100000 in
set_option maxHeartbeats 4000000 in
theorem c63_mo_read__2 {S : sS} (hH : HI S) (hB : ABV S) (hW : WYM S) (hK : KWM S) (hPF : PF S) (hBDA : BDA S) (d : Nat) : ∀ (n63 : Nat) (T1 : sS) (_ : HI T1) (_ : FR md_mo_read__2 S T1) (v1 : Int), (0 ≤ v1 ∧ v1 ≤ 24) → (TXM T1) → (WYM T1) → (LXM T1) → (LCN T1) → (ABV T1) → (DCM T1) → (VTM T1) → (VCN T1) → (WYD T1) → (RDT T1) → (AKR T1) → (Xi T1 904 60 < Xi T1 904 19) → (2 ≤ Xi T1 904 16) → (v1 ≤ Xi T1 904 19) → (PF T1) → (BDA T1) → (Xi T1 904 1 = 0) → n63 = (25 - v1).toNat → Rl lay0 (d + 14) m_mo_read 63 [(0, .ref 904), (1, iv v1)] [] T1 (Q_mo_read__2 S) := by
  have hF : FR md_mo_read__2 S S := FR.rf
  have w1 : 0 ≤ Xi S 904 1 ∧ Xi S 904 1 ≤ 5000 := hH.c _ _
  have w2 : 0 ≤ Xi S 904 16 ∧ Xi S 904 16 ≤ 16 := hH.c _ _
  have w3 : 0 ≤ Xi S 904 19 ∧ Xi S 904 19 ≤ 24 := hH.c _ _
  have w4 : -1 ≤ Xi S 904 60 ∧ Xi S 904 60 ≤ 23 := hH.c _ _
  have hc1 : 0 ≤ Xi S 904 1 ∧ Xi S 904 1 ≤ 5000 := hH.c _ _
  intro n63
  induction n63 using Nat.strongRecOn with
  | ind n63 ih63 =>
    intro T1 hHT1 hFT1 v1 w5 TXM63 WYM63 LXM63 LCN63 ABV63 DCM63 VTM63 VCN63 WYD63 RDT63 AKR63 w6 w7 w8 PF63 BD63 w9 hm63
    have w10 : 0 ≤ Xi T1 904 1 ∧ Xi T1 904 1 ≤ 5000 := hHT1.c _ _
    have w11 : 0 ≤ Xi T1 904 16 ∧ Xi T1 904 16 ≤ 16 := hHT1.c _ _
    have w12 : 0 ≤ Xi T1 904 19 ∧ Xi T1 904 19 ≤ 24 := hHT1.c _ _
    have w13 : -1 ≤ Xi T1 904 60 ∧ Xi T1 904 60 ≤ 23 := hHT1.c _ _
    refine l_iload_n rfl rfl ?_
    refine l_aload_n rfl rfl ?_
    refine l_gfi rfl rfl rfl rfl rfl ?_
    refine l_icmp_ge rfl rfl (by unfold rg; omega) (by unfold rg; omega) (fun w14 => ?_) (fun w15 => ?_)
    · refine l_aload_n rfl rfl ?_
      refine l_gfi rfl rfl rfl rfl rfl ?_
      have w16 : 0 ≤ (Xi T1 904 61) ∧ (Xi T1 904 61) ≤ 5001 := hHT1.c _ _
      refine l_ireturn rfl rfl ?_
      have w17 : 0 ≤ Xi T1 904 1 ∧ Xi T1 904 1 ≤ 5000 := hHT1.c _ _
      have w18 : 0 ≤ Xi T1 904 16 ∧ Xi T1 904 16 ≤ 16 := hHT1.c _ _
      have w19 : 0 ≤ Xi T1 904 19 ∧ Xi T1 904 19 ≤ 24 := hHT1.c _ _
      have w20 : -1 ≤ Xi T1 904 60 ∧ Xi T1 904 60 ≤ 23 := hHT1.c _ _
      have w21 : 0 ≤ Xi T1 904 61 ∧ Xi T1 904 61 ≤ 5001 := hHT1.c _ _
      have w22 : 0 ≤ Xi T1 904 62 ∧ Xi T1 904 62 ≤ 9 := hHT1.c _ _
      have w23 : 0 ≤ Xi T1 904 63 ∧ Xi T1 904 63 ≤ 5000 := hHT1.c _ _
      exact ⟨hHT1, hFT1, _, rfl, ⟨by omega, by omega⟩, (by first | exact I50 | exact (⟨by first | assumption | exact (by assumption : TXM T1), by first | assumption | exact (by assumption : WYM T1), by first | assumption | exact (by assumption : LXM T1), by first | assumption | exact (by assumption : LCN T1), by first | assumption | exact (by assumption : ABV T1), by first | assumption | exact (by assumption : DCM T1), by first | assumption | exact (by assumption : VTM T1), by first | assumption | exact (by assumption : VCN T1), by first | assumption | exact (by assumption : WYD T1), by first | assumption | exact (by assumption : RDT T1), by first | assumption | exact (by assumption : AKR T1), by omega, by omega⟩)), (by first | assumption | exact (by assumption : PF T1)), (by first | assumption | exact (by assumption : BDA T1)), (by omega)⟩
    · refine l_aload_n rfl rfl ?_
      refine l_gfr rfl rfl rfl rfl rfl (hHT1.r 904 21 919 rfl) ?_
      refine l_iconst rfl ?_
      refine l_iaload (n := 24) rfl rfl (by omega) (by omega) (by unfold rg; omega) ?_
      have w24 : 0 ≤ (Xi T1 919 ((0 : Int).toNat)) ∧ (Xi T1 919 ((0 : Int).toNat)) ≤ 5 := hHT1.c _ _
      have w25 : (Xi T1 919 ((0 : Int).toNat)) = Xi T1 919 0 := rfl
      refine l_if_ne rfl rfl (by unfold rg; omega) (fun w26 => ?_) (fun w27 => ?_)
      · refine l_aload_n rfl rfl ?_
        refine l_gfi rfl rfl rfl rfl rfl ?_
        have w28 : 0 ≤ (Xi T1 904 61) ∧ (Xi T1 904 61) ≤ 5001 := hHT1.c _ _
        refine l_ireturn rfl rfl ?_
        have w29 : 0 ≤ Xi T1 904 1 ∧ Xi T1 904 1 ≤ 5000 := hHT1.c _ _
        have w30 : 0 ≤ Xi T1 904 16 ∧ Xi T1 904 16 ≤ 16 := hHT1.c _ _
        have w31 : 0 ≤ Xi T1 904 19 ∧ Xi T1 904 19 ≤ 24 := hHT1.c _ _
        have w32 : -1 ≤ Xi T1 904 60 ∧ Xi T1 904 60 ≤ 23 := hHT1.c _ _
        have w33 : 0 ≤ Xi T1 904 61 ∧ Xi T1 904 61 ≤ 5001 := hHT1.c _ _
        have w34 : 0 ≤ Xi T1 904 62 ∧ Xi T1 904 62 ≤ 9 := hHT1.c _ _
        have w35 : 0 ≤ Xi T1 904 63 ∧ Xi T1 904 63 ≤ 5000 := hHT1.c _ _
        exact ⟨hHT1, hFT1, _, rfl, ⟨by omega, by omega⟩, (by first | exact I50 | exact (⟨by first | assumption | exact (by assumption : TXM T1), by first | assumption | exact (by assumption : WYM T1), by first | assumption | exact (by assumption : LXM T1), by first | assumption | exact (by assumption : LCN T1), by first | assumption | exact (by assumption : ABV T1), by first | assumption | exact (by assumption : DCM T1), by first | assumption | exact (by assumption : VTM T1), by first | assumption | exact (by assumption : VCN T1), by first | assumption | exact (by assumption : WYD T1), by first | assumption | exact (by assumption : RDT T1), by first | assumption | exact (by assumption : AKR T1), by omega, by omega⟩)), (by first | assumption | exact (by assumption : PF T1)), (by first | assumption | exact (by assumption : BDA T1)), (by omega)⟩
      · refine l_aload_n rfl rfl ?_
        refine l_aload_n rfl rfl ?_
        refine l_gfr rfl rfl rfl rfl rfl (hHT1.r 904 20 918 rfl) ?_
        refine l_iload_n rfl rfl ?_
        refine l_iaload (n := 24) rfl rfl (by omega) (by omega) (by unfold rg; omega) ?_
        have w36 : 0 ≤ (Xi T1 918 ((v1).toNat)) ∧ (Xi T1 918 ((v1).toNat)) ≤ 15 := hHT1.c _ _
        refine l_iconst rfl ?_
        have w37 : 0 ≤ Xi T1 904 1 ∧ Xi T1 904 1 ≤ 5000 := hHT1.c _ _
        have w38 : 0 ≤ Xi T1 904 16 ∧ Xi T1 904 16 ≤ 16 := hHT1.c _ _
        have w39 : 0 ≤ Xi T1 904 19 ∧ Xi T1 904 19 ≤ 24 := hHT1.c _ _
        have w40 : -1 ≤ Xi T1 904 60 ∧ Xi T1 904 60 ≤ 23 := hHT1.c _ _
        have w41 : 0 ≤ Xi T1 904 61 ∧ Xi T1 904 61 ≤ 5001 := hHT1.c _ _
        have w42 : 0 ≤ Xi T1 904 62 ∧ Xi T1 904 62 ≤ 9 := hHT1.c _ _
        have w43 : 0 ≤ Xi T1 904 63 ∧ Xi T1 904 63 ≤ 5000 := hHT1.c _ _
        refine l_callV rfl rfl rfl (t_mo_isBelow hHT1 (Xi T1 918 ((v1).toNat)) 1 ⟨by omega, by omega⟩ ⟨by omega, by omega⟩ (by first | assumption | exact (by assumption : ABV T1)) _) ?_
        rintro _ _ ⟨rfl, z45, rfl, w45, w44⟩
        show Rl _ _ _ _ _ [iv z45] _ _
        refine l_if_eq rfl rfl (by unfold rg; omega) (fun w46 => ?_) (fun w47 => ?_)
        · refine l_iinc rfl rfl rfl rfl ?_
          refine l_goto rfl rfl ?_
          have w48 : 0 ≤ Xi T1 904 1 ∧ Xi T1 904 1 ≤ 5000 := hHT1.c _ _
          have w49 : 0 ≤ Xi T1 904 16 ∧ Xi T1 904 16 ≤ 16 := hHT1.c _ _
          have w50 : 0 ≤ Xi T1 904 19 ∧ Xi T1 904 19 ≤ 24 := hHT1.c _ _
          have w51 : -1 ≤ Xi T1 904 60 ∧ Xi T1 904 60 ≤ 23 := hHT1.c _ _
          have w52 : 0 ≤ Xi T1 904 61 ∧ Xi T1 904 61 ≤ 5001 := hHT1.c _ _
          have w53 : 0 ≤ Xi T1 904 62 ∧ Xi T1 904 62 ≤ 9 := hHT1.c _ _
          have w54 : 0 ≤ Xi T1 904 63 ∧ Xi T1 904 63 ≤ 5000 := hHT1.c _ _
          exact Rl_weak (ih63 _ (by omega) T1 hHT1 hFT1 ((v1 + 1)) (by omega) (by first | assumption | exact (by assumption : TXM T1)) (by first | assumption | exact (by assumption : WYM T1)) (by first | assumption | exact (by assumption : LXM T1)) (by first | assumption | exact (by assumption : LCN T1)) (by first | assumption | exact (by assumption : ABV T1)) (by first | assumption | exact (by assumption : DCM T1)) (by first | assumption | exact (by assumption : VTM T1)) (by first | assumption | exact (by assumption : VCN T1)) (by first | assumption | exact (by assumption : WYD T1)) (by first | assumption | exact (by assumption : RDT T1)) (by first | assumption | exact (by assumption : AKR T1)) (by omega) (by omega) (by omega) (by first | assumption | exact (by assumption : PF T1)) (by first | assumption | exact (by assumption : BDA T1)) (by omega) rfl) (And.intro rfl (And.intro rfl (True.intro)))
        · refine l_aload_n rfl rfl ?_
          refine l_gfr rfl rfl rfl rfl rfl (hHT1.r 904 21 919 rfl) ?_
          refine l_iconst rfl ?_
          refine l_iconst rfl ?_
          refine l_iastore (n := 24) rfl rfl (by omega) (by omega) (by unfold rg; omega) ?_
          obtain ⟨U2, eU2⟩ : ∃ T : sS, T = uI T1 919 ((0 : Int).toNat) (Int32.ofInt 1) := ⟨_, rfl⟩
          rw [← eU2]
          have hHU2 : HI U2 := by rw [eU2]; exact HI_w hHT1 (show 0 ≤ 1 by omega) (show 1 ≤ 5 by omega)
          have hFU2 : FR md_mo_read__2 S U2 := by rw [eU2]; exact FR.wI hFT1 (mdf_i (r := (919, 920, 0, 100000)) (List.mem_of_getElem? (i := 82) rfl) (inR_i (by omega) (by omega) (by omega) (by omega)))
          have w55 : Xi U2 919 ((0 : Int).toNat) = 1 := by rw [eU2]; exact Xi_same (by unfold rg; omega)
          refine l_aload_n rfl rfl ?_
          refine l_gfr rfl rfl rfl rfl rfl (hHU2.r 904 22 920 rfl) ?_
          refine l_iconst rfl ?_
          refine l_iload_n rfl rfl ?_
          refine l_iastore (n := 24) rfl rfl (by omega) (by omega) (by unfold rg; omega) ?_
          obtain ⟨U3, eU3⟩ : ∃ T : sS, T = uI U2 920 ((0 : Int).toNat) (Int32.ofInt v1) := ⟨_, rfl⟩
          rw [← eU3]
          have hHU3 : HI U3 := by rw [eU3]; exact HI_w hHU2 (show -1 ≤ v1 by omega) (show v1 ≤ 23 by omega)
          have hFU3 : FR md_mo_read__2 S U3 := by rw [eU3]; exact FR.wI hFU2 (mdf_i (r := (920, 921, 0, 100000)) (List.mem_of_getElem? (i := 83) rfl) (inR_i (by omega) (by omega) (by omega) (by omega)))
          have w56 : Xi U3 920 ((0 : Int).toNat) = v1 := by rw [eU3]; exact Xi_same (by unfold rg; omega)
          have W107 : WYM U3 := wym_w eU2 eU3 (fun _ => by rw [eU3]; first | (rw [Xi_same (by unfold rg; omega)]; omega) | omega) WYM63
          refine l_iinc rfl rfl rfl rfl ?_
          refine l_goto rfl rfl ?_
          have w57 : Xi U3 904 1 = Xi T1 904 1 := (show Xi U3 904 1 = Xi U2 904 1 from by rw [eU3]; exact Xi_ne (by omega)).trans ((show Xi U2 904 1 = Xi T1 904 1 from by rw [eU2]; exact Xi_ne (by omega)))
          have w58 : 0 ≤ Xi T1 904 1 ∧ Xi T1 904 1 ≤ 5000 := hHT1.c _ _
          have w59 : Xi U3 904 16 = Xi T1 904 16 := (show Xi U3 904 16 = Xi U2 904 16 from by rw [eU3]; exact Xi_ne (by omega)).trans ((show Xi U2 904 16 = Xi T1 904 16 from by rw [eU2]; exact Xi_ne (by omega)))
          have w60 : 0 ≤ Xi T1 904 16 ∧ Xi T1 904 16 ≤ 16 := hHT1.c _ _
          have w61 : Xi U3 904 19 = Xi T1 904 19 := (show Xi U3 904 19 = Xi U2 904 19 from by rw [eU3]; exact Xi_ne (by omega)).trans ((show Xi U2 904 19 = Xi T1 904 19 from by rw [eU2]; exact Xi_ne (by omega)))
          have w62 : 0 ≤ Xi T1 904 19 ∧ Xi T1 904 19 ≤ 24 := hHT1.c _ _
          have w63 : Xi U3 904 60 = Xi T1 904 60 := (show Xi U3 904 60 = Xi U2 904 60 from by rw [eU3]; exact Xi_ne (by omega)).trans ((show Xi U2 904 60 = Xi T1 904 60 from by rw [eU2]; exact Xi_ne (by omega)))
          have w64 : -1 ≤ Xi T1 904 60 ∧ Xi T1 904 60 ≤ 23 := hHT1.c _ _
          have w65 : Xi U3 904 61 = Xi T1 904 61 := (show Xi U3 904 61 = Xi U2 904 61 from by rw [eU3]; exact Xi_ne (by omega)).trans ((show Xi U2 904 61 = Xi T1 904 61 from by rw [eU2]; exact Xi_ne (by omega)))
          have w66 : 0 ≤ Xi T1 904 61 ∧ Xi T1 904 61 ≤ 5001 := hHT1.c _ _
          have w67 : Xi U3 904 62 = Xi T1 904 62 := (show Xi U3 904 62 = Xi U2 904 62 from by rw [eU3]; exact Xi_ne (by omega)).trans ((show Xi U2 904 62 = Xi T1 904 62 from by rw [eU2]; exact Xi_ne (by omega)))
          have w68 : 0 ≤ Xi T1 904 62 ∧ Xi T1 904 62 ≤ 9 := hHT1.c _ _
          have w69 : Xi U3 904 63 = Xi T1 904 63 := (show Xi U3 904 63 = Xi U2 904 63 from by rw [eU3]; exact Xi_ne (by omega)).trans ((show Xi U2 904 63 = Xi T1 904 63 from by rw [eU2]; exact Xi_ne (by omega)))
          have w70 : 0 ≤ Xi T1 904 63 ∧ Xi T1 904 63 ≤ 5000 := hHT1.c _ _
          exact Rl_weak (ih63 _ (by omega) U3 hHU3 hFU3 ((v1 + 1)) (by omega) (by first | assumption | exact (TXM_FR (FR_e eU3) rfl (TXM_FR (FR_e eU2) rfl (by assumption : TXM T1)))) (by first | assumption | exact (by assumption : WYM U3)) (by first | assumption | exact (LXM_FR (FR_e eU3) rfl (LXM_FR (FR_e eU2) rfl (by assumption : LXM T1)))) (by first | assumption | exact (LCN_FR (FR_e eU3) rfl (LCN_FR (FR_e eU2) rfl (by assumption : LCN T1)))) (by first | assumption | exact (ABV_FR (FR_e eU3) rfl (ABV_FR (FR_e eU2) rfl (by assumption : ABV T1)))) (by first | assumption | exact (DCM_FR (FR_e eU3) rfl (DCM_FR (FR_e eU2) rfl (by assumption : DCM T1)))) (by first | assumption | exact (VTM_FR (FR_e eU3) rfl (VTM_FR (FR_e eU2) rfl (by assumption : VTM T1)))) (by first | assumption | exact (VCN_FR (FR_e eU3) rfl (VCN_FR (FR_e eU2) rfl (by assumption : VCN T1)))) (by first | assumption | exact (WYD_FR (FR_e eU3) rfl (WYD_FR (FR_e eU2) rfl (by assumption : WYD T1)))) (by first | assumption | exact (RDT_FR hHU2 (FR_e eU3) rfl rfl rfl (RDT_FR hHT1 (FR_e eU2) rfl rfl rfl (by assumption : RDT T1)))) (by first | assumption | exact (AKR_FR (FR_e eU3) rfl (AKR_FR (FR_e eU2) rfl (by assumption : AKR T1)))) (by omega) (by omega) (by omega) (by first | assumption | exact (PF_FR (FR_e eU3) rfl (PF_FR (FR_e eU2) rfl (by assumption : PF T1)))) (by first | assumption | exact (BDA_FR (FR_e eU3) rfl (BDA_FR (FR_e eU2) rfl (by assumption : BDA T1)))) (by omega) rfl) (And.intro rfl (And.intro rfl (True.intro)))
set_option maxRecDepth 100000 in
set_option maxHeartbeats 4000000 in
theorem t_mo_read__2 {S : sS} (hH : HI S) (hB : ABV S) (hW : WYM S) (hK : KWM S) (hPF : PF S) (hBDA : BDA S) (d : Nat) : Mt lay0 (d + 15) m_mo_read [.ref 904] S (Q_mo_read__2 S) := by
  refine Mt_R rfl rfl ?_
  have C63 := c63_mo_read__2 hH hB hW hK hPF hBDA d 
  have hF : FR md_mo_read__2 S S := FR.rf
  have w1 : 0 ≤ Xi S 904 1 ∧ Xi S 904 1 ≤ 5000 := hH.c _ _
  have w2 : 0 ≤ Xi S 904 16 ∧ Xi S 904 16 ≤ 16 := hH.c _ _
  have w3 : 0 ≤ Xi S 904 19 ∧ Xi S 904 19 ≤ 24 := hH.c _ _
  have w4 : -1 ≤ Xi S 904 60 ∧ Xi S 904 60 ≤ 23 := hH.c _ _
  have hc1 : 0 ≤ Xi S 904 1 ∧ Xi S 904 1 ≤ 5000 := hH.c _ _
  refine l_aload_n rfl rfl ?_
  refine l_aload_n rfl rfl ?_
  refine l_gfi rfl rfl rfl rfl rfl ?_
  refine l_pfi rfl rfl rfl rfl ?_
  obtain ⟨U4, eU4⟩ : ∃ T : sS, T = uI S 904 3 (Int32.ofInt (Xi S 904 1)) := ⟨_, rfl⟩
  rw [← eU4]
  have hHU4 : HI U4 := by rw [eU4]; exact HI_w hH (show 0 ≤ (Xi S 904 1) by omega) (show (Xi S 904 1) ≤ 5000 by omega)
  have hFU4 : FR md_mo_read__2 S U4 := by rw [eU4]; exact FR.wI hF (mdf_i (r := (904, 905, 3, 4)) (List.mem_of_getElem? (i := 1) rfl) (inR_i (by omega) (by omega) (by omega) (by omega)))
  have w71 : Xi U4 904 3 = (Xi S 904 1) := by rw [eU4]; exact Xi_same (by unfold rg; omega)
  refine l_aload_n rfl rfl ?_
  refine l_gfr rfl rfl rfl rfl rfl (hHU4.r 904 0 905 rfl) ?_
  refine l_iconst rfl ?_
  refine l_aload_n rfl rfl ?_
  refine l_gfr rfl rfl rfl rfl rfl (hHU4.r 904 2 906 rfl) ?_
  refine l_iconst rfl ?_
  refine l_aload_n rfl rfl ?_
  refine l_gfi rfl rfl rfl rfl rfl ?_
  have w72 : (Xi U4 904 1) = (Xi S 904 1) := (show Xi U4 904 1 = Xi S 904 1 from by rw [eU4]; exact Xi_ne (by omega))
  rw [w72]
  refine l_acp rfl rfl rfl (acpB (A := 5000) (B := 5000) rfl rfl (by omega) (by omega) (by omega) (by omega) (by omega) (by omega) (by omega) (fun j => hHU4.c 905 j)) ?_
  obtain ⟨T5, eT5⟩ : ∃ T : sS, T = cpI U4 905 906 (0 : Int).toNat (0 : Int).toNat ((Xi S 904 1) : Int).toNat := ⟨_, rfl⟩
  rw [← eT5]
  have hHT5 : HI T5 := by rw [eT5]; exact HI_cpI hHU4 (fun j _ _ => hHU4.c 905 _)
  have w73 : FR [(906, 907, 0, 100000)] U4 T5 := by rw [eT5]; exact FR_cpI (by omega)
  have hFT5 : FR md_mo_read__2 S T5 := FR.tr hFU4 w73 rfl
  refine l_aload_n rfl rfl ?_
  refine l_iconst rfl ?_
  refine l_pfi rfl rfl rfl rfl ?_
  obtain ⟨U6, eU6⟩ : ∃ T : sS, T = uI T5 904 1 (Int32.ofInt 0) := ⟨_, rfl⟩
  rw [← eU6]
  have hHU6 : HI U6 := by rw [eU6]; exact HI_w hHT5 (show 0 ≤ 0 by omega) (show 0 ≤ 5000 by omega)
  have hFU6 : FR md_mo_read__2 S U6 := by rw [eU6]; exact FR.wI hFT5 (mdf_i (r := (904, 905, 1, 2)) (List.mem_of_getElem? (i := 0) rfl) (inR_i (by omega) (by omega) (by omega) (by omega)))
  have w74 : Xi U6 904 1 = 0 := by rw [eU6]; exact Xi_same (by unfold rg; omega)
  refine l_aload_n rfl rfl ?_
  have w75 : 0 ≤ Xi U6 904 1 ∧ Xi U6 904 1 ≤ 5000 := hHU6.c _ _
  have w76 : Xi U6 904 16 = Xi S 904 16 := (show Xi U6 904 16 = Xi T5 904 16 from by rw [eU6]; exact Xi_ne (by omega)).trans ( (show Xi T5 904 16 = Xi U4 904 16 from w73.x _ _ rfl).trans ((show Xi U4 904 16 = Xi S 904 16 from by rw [eU4]; exact Xi_ne (by omega))))
  have w77 : 0 ≤ Xi S 904 16 ∧ Xi S 904 16 ≤ 16 := hH.c _ _
  have w78 : Xi U6 904 19 = Xi S 904 19 := (show Xi U6 904 19 = Xi T5 904 19 from by rw [eU6]; exact Xi_ne (by omega)).trans ( (show Xi T5 904 19 = Xi U4 904 19 from w73.x _ _ rfl).trans ((show Xi U4 904 19 = Xi S 904 19 from by rw [eU4]; exact Xi_ne (by omega))))
  have w79 : 0 ≤ Xi S 904 19 ∧ Xi S 904 19 ≤ 24 := hH.c _ _
  have w80 : Xi U6 904 60 = Xi S 904 60 := (show Xi U6 904 60 = Xi T5 904 60 from by rw [eU6]; exact Xi_ne (by omega)).trans ( (show Xi T5 904 60 = Xi U4 904 60 from w73.x _ _ rfl).trans ((show Xi U4 904 60 = Xi S 904 60 from by rw [eU4]; exact Xi_ne (by omega))))
  have w81 : -1 ≤ Xi S 904 60 ∧ Xi S 904 60 ≤ 23 := hH.c _ _
  have w82 : Xi U6 904 61 = Xi S 904 61 := (show Xi U6 904 61 = Xi T5 904 61 from by rw [eU6]; exact Xi_ne (by omega)).trans ( (show Xi T5 904 61 = Xi U4 904 61 from w73.x _ _ rfl).trans ((show Xi U4 904 61 = Xi S 904 61 from by rw [eU4]; exact Xi_ne (by omega))))
  have w83 : 0 ≤ Xi S 904 61 ∧ Xi S 904 61 ≤ 5001 := hH.c _ _
  have w84 : Xi U6 904 62 = Xi S 904 62 := (show Xi U6 904 62 = Xi T5 904 62 from by rw [eU6]; exact Xi_ne (by omega)).trans ( (show Xi T5 904 62 = Xi U4 904 62 from w73.x _ _ rfl).trans ((show Xi U4 904 62 = Xi S 904 62 from by rw [eU4]; exact Xi_ne (by omega))))
  have w85 : 0 ≤ Xi S 904 62 ∧ Xi S 904 62 ≤ 9 := hH.c _ _
  have w86 : Xi U6 904 63 = Xi S 904 63 := (show Xi U6 904 63 = Xi T5 904 63 from by rw [eU6]; exact Xi_ne (by omega)).trans ( (show Xi T5 904 63 = Xi U4 904 63 from w73.x _ _ rfl).trans ((show Xi U4 904 63 = Xi S 904 63 from by rw [eU4]; exact Xi_ne (by omega))))
  have w87 : 0 ≤ Xi S 904 63 ∧ Xi S 904 63 ≤ 5000 := hH.c _ _
  refine l_callV rfl rfl rfl (t_mo_cut hHU6 (by first | assumption | exact (KWM_FR hFU6 rfl (by assumption : KWM S))) _) ?_
  rintro _ T7 ⟨hHT7, w89, rfl, tk31_⟩
  have hFT7 : FR md_mo_read__2 S T7 := FR.tr hFU6 w89 rfl
  show Rl _ _ _ _ _ [] _ _
  obtain ⟨n, tk31, tx31⟩ := tk31_
  refine l_aload_n rfl rfl ?_
  have w90 : Xi T7 904 1 = Xi U6 904 1 := (show Xi T7 904 1 = Xi U6 904 1 from w89.x _ _ rfl)
  have w91 : 0 ≤ Xi U6 904 1 ∧ Xi U6 904 1 ≤ 5000 := hHU6.c _ _
  have w92 : Xi T7 904 16 = Xi S 904 16 := (show Xi T7 904 16 = Xi U6 904 16 from w89.x _ _ rfl).trans ( (show Xi U6 904 16 = Xi T5 904 16 from by rw [eU6]; exact Xi_ne (by omega)).trans ( (show Xi T5 904 16 = Xi U4 904 16 from w73.x _ _ rfl).trans ((show Xi U4 904 16 = Xi S 904 16 from by rw [eU4]; exact Xi_ne (by omega)))))
  have w93 : 0 ≤ Xi S 904 16 ∧ Xi S 904 16 ≤ 16 := hH.c _ _
  have w94 : Xi T7 904 19 = Xi S 904 19 := (show Xi T7 904 19 = Xi U6 904 19 from w89.x _ _ rfl).trans ( (show Xi U6 904 19 = Xi T5 904 19 from by rw [eU6]; exact Xi_ne (by omega)).trans ( (show Xi T5 904 19 = Xi U4 904 19 from w73.x _ _ rfl).trans ((show Xi U4 904 19 = Xi S 904 19 from by rw [eU4]; exact Xi_ne (by omega)))))
  have w95 : 0 ≤ Xi S 904 19 ∧ Xi S 904 19 ≤ 24 := hH.c _ _
  have w96 : Xi T7 904 60 = Xi S 904 60 := (show Xi T7 904 60 = Xi U6 904 60 from w89.x _ _ rfl).trans ( (show Xi U6 904 60 = Xi T5 904 60 from by rw [eU6]; exact Xi_ne (by omega)).trans ( (show Xi T5 904 60 = Xi U4 904 60 from w73.x _ _ rfl).trans ((show Xi U4 904 60 = Xi S 904 60 from by rw [eU4]; exact Xi_ne (by omega)))))
  have w97 : -1 ≤ Xi S 904 60 ∧ Xi S 904 60 ≤ 23 := hH.c _ _
  have w98 : Xi T7 904 61 = Xi S 904 61 := (show Xi T7 904 61 = Xi U6 904 61 from w89.x _ _ rfl).trans ( (show Xi U6 904 61 = Xi T5 904 61 from by rw [eU6]; exact Xi_ne (by omega)).trans ( (show Xi T5 904 61 = Xi U4 904 61 from w73.x _ _ rfl).trans ((show Xi U4 904 61 = Xi S 904 61 from by rw [eU4]; exact Xi_ne (by omega)))))
  have w99 : 0 ≤ Xi S 904 61 ∧ Xi S 904 61 ≤ 5001 := hH.c _ _
  have w100 : Xi T7 904 62 = Xi S 904 62 := (show Xi T7 904 62 = Xi U6 904 62 from w89.x _ _ rfl).trans ( (show Xi U6 904 62 = Xi T5 904 62 from by rw [eU6]; exact Xi_ne (by omega)).trans ( (show Xi T5 904 62 = Xi U4 904 62 from w73.x _ _ rfl).trans ((show Xi U4 904 62 = Xi S 904 62 from by rw [eU4]; exact Xi_ne (by omega)))))
  have w101 : 0 ≤ Xi S 904 62 ∧ Xi S 904 62 ≤ 9 := hH.c _ _
  have w102 : Xi T7 904 63 = Xi S 904 63 := (show Xi T7 904 63 = Xi U6 904 63 from w89.x _ _ rfl).trans ( (show Xi U6 904 63 = Xi T5 904 63 from by rw [eU6]; exact Xi_ne (by omega)).trans ( (show Xi T5 904 63 = Xi U4 904 63 from w73.x _ _ rfl).trans ((show Xi U4 904 63 = Xi S 904 63 from by rw [eU4]; exact Xi_ne (by omega)))))
  have w103 : 0 ≤ Xi S 904 63 ∧ Xi S 904 63 ≤ 5000 := hH.c _ _
  refine l_callV rfl rfl rfl (t_mo_begin hHT7 (by first | assumption | exact (ABV_FR w89 rfl (ABV_FR (FR_e eU6) rfl (ABV_FR w73 rfl (ABV_FR (FR_e eU4) rfl (by assumption : ABV S)))))) (by first | assumption | exact (WYM_FR w89 rfl (WYM_FR (FR_e eU6) rfl (WYM_FR w73 rfl (WYM_FR (FR_e eU4) rfl (by assumption : WYM S)))))) _) ?_
  rintro _ T8 ⟨hHT8, w117, rfl, w104, w105, w106, w107, w108, w109, w110, w111, w112, w113, n35, d35, w114, w115⟩
  have hFT8 : FR md_mo_read__2 S T8 := FR.tr hFT7 w117 rfl
  show Rl _ _ _ _ _ [] _ _
  have R35 : RDT T8 := rdt_0 (hHT8.c 904 23).1 n35 d35
  have I35 : TIX T8 := ⟨by first | assumption | exact (by assumption : TXM T8), by first | assumption | exact (by assumption : WYM T8), by first | assumption | exact (by assumption : LXM T8), by first | assumption | exact (by assumption : LCN T8), by first | assumption | exact (by assumption : ABV T8), by first | assumption | exact (by assumption : DCM T8), by first | assumption | exact (by assumption : VTM T8), by first | assumption | exact (by assumption : VCN T8), by first | assumption | exact (by assumption : WYD T8), R35, by first | assumption | exact (by assumption : AKR T8), by omega, by omega⟩
  have tk35 : TK T8 n := TK_FR (by assumption : FR md_mo_begin T7 T8) rfl tk31
  have tx35 : TXK T8 n := TXK_FR (by assumption : FR md_mo_begin T7 T8) rfl tx31
  refine l_aload_n rfl rfl ?_
  have w118 : Xi T8 904 1 = Xi U6 904 1 := (show Xi T8 904 1 = Xi T7 904 1 from w117.x _ _ rfl).trans ((show Xi T7 904 1 = Xi U6 904 1 from w89.x _ _ rfl))
  have w119 : 0 ≤ Xi U6 904 1 ∧ Xi U6 904 1 ≤ 5000 := hHU6.c _ _
  have w120 : 0 ≤ Xi T8 904 16 ∧ Xi T8 904 16 ≤ 16 := hHT8.c _ _
  have w121 : 0 ≤ Xi T8 904 19 ∧ Xi T8 904 19 ≤ 24 := hHT8.c _ _
  have w122 : -1 ≤ Xi T8 904 60 ∧ Xi T8 904 60 ≤ 23 := hHT8.c _ _
  have w123 : Xi T8 904 61 = Xi S 904 61 := (show Xi T8 904 61 = Xi T7 904 61 from w117.x _ _ rfl).trans ( (show Xi T7 904 61 = Xi U6 904 61 from w89.x _ _ rfl).trans ( (show Xi U6 904 61 = Xi T5 904 61 from by rw [eU6]; exact Xi_ne (by omega)).trans ( (show Xi T5 904 61 = Xi U4 904 61 from w73.x _ _ rfl).trans ((show Xi U4 904 61 = Xi S 904 61 from by rw [eU4]; exact Xi_ne (by omega))))))
  have w124 : 0 ≤ Xi S 904 61 ∧ Xi S 904 61 ≤ 5001 := hH.c _ _
  have w125 : Xi T8 904 62 = Xi S 904 62 := (show Xi T8 904 62 = Xi T7 904 62 from w117.x _ _ rfl).trans ( (show Xi T7 904 62 = Xi U6 904 62 from w89.x _ _ rfl).trans ( (show Xi U6 904 62 = Xi T5 904 62 from by rw [eU6]; exact Xi_ne (by omega)).trans ( (show Xi T5 904 62 = Xi U4 904 62 from w73.x _ _ rfl).trans ((show Xi U4 904 62 = Xi S 904 62 from by rw [eU4]; exact Xi_ne (by omega))))))
  have w126 : 0 ≤ Xi S 904 62 ∧ Xi S 904 62 ≤ 9 := hH.c _ _
  have w127 : Xi T8 904 63 = Xi S 904 63 := (show Xi T8 904 63 = Xi T7 904 63 from w117.x _ _ rfl).trans ( (show Xi T7 904 63 = Xi U6 904 63 from w89.x _ _ rfl).trans ( (show Xi U6 904 63 = Xi T5 904 63 from by rw [eU6]; exact Xi_ne (by omega)).trans ( (show Xi T5 904 63 = Xi U4 904 63 from w73.x _ _ rfl).trans ((show Xi U4 904 63 = Xi S 904 63 from by rw [eU4]; exact Xi_ne (by omega))))))
  have w128 : 0 ≤ Xi S 904 63 ∧ Xi S 904 63 ≤ 5000 := hH.c _ _
  refine l_callV rfl rfl rfl (t_mo_readStory hHT8 n (by first | assumption | exact (TK_FR w117 rfl (by assumption : TK T7 _))) (by first | assumption | exact (TXK_FR w117 rfl (by assumption : TXK T7 _))) (by first | assumption | omega) (by first | assumption | exact (PF_FR w117 rfl (PF_FR w89 rfl (PF_FR (FR_e eU6) rfl (PF_FR w73 rfl (PF_FR (FR_e eU4) rfl (by assumption : PF S))))))) (by first | assumption | exact (BDA_FR w117 rfl (BDA_FR w89 rfl (BDA_FR (FR_e eU6) rfl (BDA_FR w73 rfl (BDA_FR (FR_e eU4) rfl (by assumption : BDA S))))))) _) ?_
  rintro _ T9 ⟨hHT9, w134, rfl, t39, w129, w130, w131, w132⟩
  have hFT9 : FR md_mo_read__2 S T9 := FR.tr hFT8 w134 rfl
  show Rl _ _ _ _ _ [] _ _
  refine l_aload_n rfl rfl ?_
  refine l_gfi rfl rfl rfl rfl rfl ?_
  have w135 : 0 ≤ (Xi T9 904 62) ∧ (Xi T9 904 62) ≤ 9 := hHT9.c _ _
  refine l_if_eq rfl rfl (by unfold rg; omega) (fun w136 => ?_) (fun w137 => ?_)
  · refine l_iconst rfl ?_
    have I61 : TIX T9 := t39 (by omega)
    have txm61 : TXM T9 := I61.1
    have wym61 : WYM T9 := I61.2.1
    have lxm61 : LXM T9 := I61.2.2.1
    have lcn61 : LCN T9 := I61.2.2.2.1
    have abv61 : ABV T9 := I61.2.2.2.2.1
    have dcm61 : DCM T9 := I61.2.2.2.2.2.1
    have vtm61 : VTM T9 := I61.2.2.2.2.2.2.1
    have vcn61 : VCN T9 := I61.2.2.2.2.2.2.2.1
    have wyd61 : WYD T9 := I61.2.2.2.2.2.2.2.2.1
    have rdt61 : RDT T9 := I61.2.2.2.2.2.2.2.2.2.1
    have akr61 : AKR T9 := I61.2.2.2.2.2.2.2.2.2.2.1
    have i61a : Xi T9 904 60 < Xi T9 904 19 := I61.2.2.2.2.2.2.2.2.2.2.2.1
    have i61b : 2 ≤ Xi T9 904 16 := I61.2.2.2.2.2.2.2.2.2.2.2.2
    refine l_istore_n rfl rfl rfl ?_
    have w138 : Xi T9 904 1 = Xi U6 904 1 := (show Xi T9 904 1 = Xi T8 904 1 from w134.x _ _ rfl).trans ( (show Xi T8 904 1 = Xi T7 904 1 from w117.x _ _ rfl).trans ((show Xi T7 904 1 = Xi U6 904 1 from w89.x _ _ rfl)))
    have w139 : 0 ≤ Xi U6 904 1 ∧ Xi U6 904 1 ≤ 5000 := hHU6.c _ _
    have w140 : 0 ≤ Xi T9 904 16 ∧ Xi T9 904 16 ≤ 16 := hHT9.c _ _
    have w141 : 0 ≤ Xi T9 904 19 ∧ Xi T9 904 19 ≤ 24 := hHT9.c _ _
    have w142 : -1 ≤ Xi T9 904 60 ∧ Xi T9 904 60 ≤ 23 := hHT9.c _ _
    have w143 : 0 ≤ Xi T9 904 61 ∧ Xi T9 904 61 ≤ 5001 := hHT9.c _ _
    have w144 : 0 ≤ Xi T9 904 62 ∧ Xi T9 904 62 ≤ 9 := hHT9.c _ _
    have w145 : 0 ≤ Xi T9 904 63 ∧ Xi T9 904 63 ≤ 5000 := hHT9.c _ _
    exact Rl_weak (C63 _ T9 hHT9 hFT9 (0) (by omega) (by first | assumption | exact (by assumption : TXM T9)) (by first | assumption | exact (by assumption : WYM T9)) (by first | assumption | exact (by assumption : LXM T9)) (by first | assumption | exact (by assumption : LCN T9)) (by first | assumption | exact (by assumption : ABV T9)) (by first | assumption | exact (by assumption : DCM T9)) (by first | assumption | exact (by assumption : VTM T9)) (by first | assumption | exact (by assumption : VCN T9)) (by first | assumption | exact (by assumption : WYD T9)) (by first | assumption | exact (by assumption : RDT T9)) (by first | assumption | exact (by assumption : AKR T9)) (by omega) (by omega) (by omega) (by first | assumption | exact (by assumption : PF T9)) (by first | assumption | exact (by assumption : BDA T9)) (by omega) rfl) (And.intro rfl (And.intro rfl (True.intro)))
  · refine l_aload_n rfl rfl ?_
    have w146 : Xi T9 904 1 = Xi U6 904 1 := (show Xi T9 904 1 = Xi T8 904 1 from w134.x _ _ rfl).trans ( (show Xi T8 904 1 = Xi T7 904 1 from w117.x _ _ rfl).trans ((show Xi T7 904 1 = Xi U6 904 1 from w89.x _ _ rfl)))
    have w147 : 0 ≤ Xi U6 904 1 ∧ Xi U6 904 1 ≤ 5000 := hHU6.c _ _
    have w148 : 0 ≤ Xi T9 904 16 ∧ Xi T9 904 16 ≤ 16 := hHT9.c _ _
    have w149 : 0 ≤ Xi T9 904 19 ∧ Xi T9 904 19 ≤ 24 := hHT9.c _ _
    have w150 : -1 ≤ Xi T9 904 60 ∧ Xi T9 904 60 ≤ 23 := hHT9.c _ _
    have w151 : 0 ≤ Xi T9 904 61 ∧ Xi T9 904 61 ≤ 5001 := hHT9.c _ _
    have w152 : 0 ≤ Xi T9 904 62 ∧ Xi T9 904 62 ≤ 9 := hHT9.c _ _
    have w153 : 0 ≤ Xi T9 904 63 ∧ Xi T9 904 63 ≤ 5000 := hHT9.c _ _
    refine l_callV rfl rfl rfl (t_mo_begin hHT9 (by first | assumption | exact (by assumption : ABV T9)) (by first | assumption | exact (by assumption : WYM T9)) _) ?_
    rintro _ T10 ⟨hHT10, w167, rfl, w154, w155, w156, w157, w158, w159, w160, w161, w162, w163, n50, d50, w164, w165⟩
    have hFT10 : FR md_mo_read__2 S T10 := FR.tr hFT9 w167 rfl
    show Rl _ _ _ _ _ [] _ _
    have R50 : RDT T10 := rdt_0 (hHT10.c 904 23).1 n50 d50
    have I50 : TIX T10 := ⟨by first | assumption | exact (by assumption : TXM T10), by first | assumption | exact (by assumption : WYM T10), by first | assumption | exact (by assumption : LXM T10), by first | assumption | exact (by assumption : LCN T10), by first | assumption | exact (by assumption : ABV T10), by first | assumption | exact (by assumption : DCM T10), by first | assumption | exact (by assumption : VTM T10), by first | assumption | exact (by assumption : VCN T10), by first | assumption | exact (by assumption : WYD T10), R50, by first | assumption | exact (by assumption : AKR T10), by omega, by omega⟩
    refine l_bipush rfl rfl ?_
    refine l_aload_n rfl rfl ?_
    refine l_gfi rfl rfl rfl rfl rfl ?_
    have w168 : 0 ≤ (Xi T10 904 63) ∧ (Xi T10 904 63) ≤ 5000 := hHT10.c _ _
    refine l_isub rfl ?_
    refine l_ireturn rfl rfl ?_
    have w169 : Xi T10 904 1 = Xi U6 904 1 := (show Xi T10 904 1 = Xi T9 904 1 from w167.x _ _ rfl).trans ( (show Xi T9 904 1 = Xi T8 904 1 from w134.x _ _ rfl).trans ( (show Xi T8 904 1 = Xi T7 904 1 from w117.x _ _ rfl).trans ((show Xi T7 904 1 = Xi U6 904 1 from w89.x _ _ rfl))))
    have w170 : 0 ≤ Xi U6 904 1 ∧ Xi U6 904 1 ≤ 5000 := hHU6.c _ _
    have w171 : 0 ≤ Xi T10 904 16 ∧ Xi T10 904 16 ≤ 16 := hHT10.c _ _
    have w172 : 0 ≤ Xi T10 904 19 ∧ Xi T10 904 19 ≤ 24 := hHT10.c _ _
    have w173 : -1 ≤ Xi T10 904 60 ∧ Xi T10 904 60 ≤ 23 := hHT10.c _ _
    have w174 : Xi T10 904 61 = Xi T9 904 61 := (show Xi T10 904 61 = Xi T9 904 61 from w167.x _ _ rfl)
    have w175 : 0 ≤ Xi T9 904 61 ∧ Xi T9 904 61 ≤ 5001 := hHT9.c _ _
    have w176 : Xi T10 904 62 = Xi T9 904 62 := (show Xi T10 904 62 = Xi T9 904 62 from w167.x _ _ rfl)
    have w177 : 0 ≤ Xi T9 904 62 ∧ Xi T9 904 62 ≤ 9 := hHT9.c _ _
    have w178 : Xi T10 904 63 = Xi T9 904 63 := (show Xi T10 904 63 = Xi T9 904 63 from w167.x _ _ rfl)
    have w179 : 0 ≤ Xi T9 904 63 ∧ Xi T9 904 63 ≤ 5000 := hHT9.c _ _
    exact ⟨hHT10, hFT10, _, rfl, ⟨by omega, by omega⟩, (by first | exact I50 | exact (⟨by first | assumption | exact (by assumption : TXM T10), by first | assumption | exact (by assumption : WYM T10), by first | assumption | exact (by assumption : LXM T10), by first | assumption | exact (by assumption : LCN T10), by first | assumption | exact (by assumption : ABV T10), by first | assumption | exact (by assumption : DCM T10), by first | assumption | exact (by assumption : VTM T10), by first | assumption | exact (by assumption : VCN T10), by first | assumption | exact (by assumption : WYD T10), by first | assumption | exact (by assumption : RDT T10), by first | assumption | exact (by assumption : AKR T10), by omega, by omega⟩)), (by first | assumption | exact (PF_FR w167 rfl (by assumption : PF T9))), (by first | assumption | exact (BDA_FR w167 rfl (by assumption : BDA T9))), (by omega)⟩
def md_mo_command__2 : List rec := [(904, 905, 1, 2), (904, 905, 154, 155), (904, 905, 156, 157), (904, 905, 158, 159), (904, 905, 160, 161), (904, 905, 161, 162), (904, 905, 162, 163), (904, 905, 164, 165), (904, 905, 165, 166), (919, 920, 0, 100000), (920, 921, 0, 100000), (925, 926, 0, 100000), (930, 931, 0, 100000), (931, 932, 0, 100000), (932, 933, 0, 100000), (940, 941, 0, 100000), (993, 994, 0, 100000), (994, 995, 0, 100000), (995, 996, 0, 100000)]
abbrev Q_mo_command__2 (S : sS) : pst := fun r S1 => HI S1 ∧ FR md_mo_command__2 S S1 ∧ (∃ z : Int, r = some (iv z) ∧ (-2 ≤ z ∧ z ≤ 5) ∧ (TXM S1) ∧ (WYM S1) ∧ (Xi S1 904 1 = 0))
set_option maxRecDepth 100000 in
theorem t_mo_command__2 {S : sS} (hH : HI S) (hX : TXM S) (hD : DEFM S) (hR : RULM S) (hB : ABV S) (hM : LXM S) (hW : WYM S) (hA : AKR S) (d : Nat) : Mt lay0 (d + 58) m_mo_command [.ref 904] S (Q_mo_command__2 S) := by
  refine Mt_R rfl rfl ?_
  have hF : FR md_mo_command__2 S S := FR.rf
  have w1 : 0 ≤ Xi S 904 1 ∧ Xi S 904 1 ≤ 5000 := hH.c _ _
  have C12 : ∀ (n12 : Nat) (T1 : sS) (_ : HI T1) (_ : FR md_mo_command__2 S T1) (v1 : Int) (v2 : Int), (0 ≤ v1 ∧ v1 ≤ 1) → (0 ≤ v2 ∧ v2 ≤ 20) → (TXM T1) → (WYM T1) → (Xi T1 904 1 = 0) → n12 = (21 - v2).toNat → Rl lay0 (d + 57) m_mo_command 12 [(0, .ref 904), (1, iv v1), (2, iv v2)] [] T1 (Q_mo_command__2 S) := by
    intro n12
    induction n12 using Nat.strongRecOn with
    | ind n12 ih12 =>
      intro T1 hHT1 hFT1 v1 v2 w2 w3 hX12 hW12 w4 hm12
      have w5 : 0 ≤ Xi T1 904 1 ∧ Xi T1 904 1 ≤ 5000 := hHT1.c _ _
      refine l_iload_n rfl rfl ?_
      refine l_aload_n rfl rfl ?_
      refine l_gfi rfl rfl rfl rfl rfl ?_
      have w6 : 0 ≤ (Xi T1 904 55) ∧ (Xi T1 904 55) ≤ 20 := hHT1.c _ _
      refine l_icmp_ge rfl rfl (by unfold rg; omega) (by unfold rg; omega) (fun w7 => ?_) (fun w8 => ?_)
      · refine l_bipush rfl rfl ?_
        refine l_ireturn rfl rfl ?_
        have w9 : 0 ≤ Xi T1 904 1 ∧ Xi T1 904 1 ≤ 5000 := hHT1.c _ _
        exact ⟨hHT1, hFT1, _, rfl, ⟨by omega, by omega⟩, (by first | assumption | exact (by assumption : TXM T1)), (by first | assumption | exact (by assumption : WYM T1)), (by omega)⟩
      · refine l_iload_n rfl rfl ?_
        refine l_if_eq rfl rfl (by unfold rg; omega) (fun w10 => ?_) (fun w11 => ?_)
        · refine l_bipush rfl rfl ?_
          refine l_ireturn rfl rfl ?_
          have w12 : 0 ≤ Xi T1 904 1 ∧ Xi T1 904 1 ≤ 5000 := hHT1.c _ _
          exact ⟨hHT1, hFT1, _, rfl, ⟨by omega, by omega⟩, (by first | assumption | exact (by assumption : TXM T1)), (by first | assumption | exact (by assumption : WYM T1)), (by omega)⟩
        · refine l_aload_n rfl rfl ?_
          refine l_iload_n rfl rfl ?_
          have w13 : 0 ≤ Xi T1 904 1 ∧ Xi T1 904 1 ≤ 5000 := hHT1.c _ _
          refine l_callV rfl rfl rfl (t_mo_fitsCommand hHT1 v2 ⟨by omega, by omega⟩ (by first | assumption | exact (LXM_FR hFT1 rfl (by assumption : LXM S))) (by first | assumption | exact (ABV_FR hFT1 rfl (by assumption : ABV S))) _) ?_
          rintro _ T2 ⟨hHT2, w15, z14, rfl, w14⟩
          have hFT2 : FR md_mo_command__2 S T2 := FR.tr hFT1 w15 rfl
          show Rl _ _ _ _ _ [iv z14] _ _
          refine l_if_eq rfl rfl (by unfold rg; omega) (fun w16 => ?_) (fun w17 => ?_)
          · refine l_iinc rfl rfl rfl rfl ?_
            refine l_goto rfl rfl ?_
            have w18 : Xi T2 904 1 = Xi T1 904 1 := (show Xi T2 904 1 = Xi T1 904 1 from w15.x _ _ rfl)
            have w19 : 0 ≤ Xi T1 904 1 ∧ Xi T1 904 1 ≤ 5000 := hHT1.c _ _
            exact Rl_weak (ih12 _ (by omega) T2 hHT2 hFT2 (v1) ((v2 + 1)) (by omega) (by omega) (by first | assumption | exact (TXM_FR w15 rfl (by assumption : TXM T1))) (by first | assumption | exact (WYM_FR w15 rfl (by assumption : WYM T1))) (by omega) rfl) (And.intro rfl (And.intro rfl (And.intro rfl (True.intro))))
          · refine l_aload_n rfl rfl ?_
            refine l_aload_n rfl rfl ?_
            refine l_gfr rfl rfl rfl rfl rfl (hHT2.r 904 56 946 rfl) ?_
            refine l_iload_n rfl rfl ?_
            refine l_iaload (n := 20) rfl rfl (by omega) (by omega) (by unfold rg; omega) ?_
            have w20 : 0 ≤ (Xi T2 946 ((v2).toNat)) ∧ (Xi T2 946 ((v2).toNat)) ≤ 11 := hHT2.c _ _
            refine l_aload_n rfl rfl ?_
            refine l_gfi rfl rfl rfl rfl rfl ?_
            have w21 : -1 ≤ (Xi T2 904 165) ∧ (Xi T2 904 165) ≤ 23 := hHT2.c _ _
            have w22 : Xi T2 904 1 = Xi T1 904 1 := (show Xi T2 904 1 = Xi T1 904 1 from w15.x _ _ rfl)
            have w23 : 0 ≤ Xi T1 904 1 ∧ Xi T1 904 1 ≤ 5000 := hHT1.c _ _
            refine l_callV rfl rfl rfl (t_mo_act hHT2 (Xi T2 946 ((v2).toNat)) (Xi T2 904 165) ⟨by omega, by omega⟩ ⟨by omega, by omega⟩ (by first | assumption | exact (TXM_FR w15 rfl (by assumption : TXM T1))) (by first | assumption | exact (DEFM_FR hFT2 rfl (by assumption : DEFM S))) (by first | assumption | exact (RULM_FR hFT2 rfl (by assumption : RULM S))) (by first | assumption | exact (ABV_FR hFT2 rfl (by assumption : ABV S))) (by first | assumption | exact (LXM_FR hFT2 rfl (by assumption : LXM S))) (by first | assumption | exact (WYM_FR w15 rfl (by assumption : WYM T1))) (by first | assumption | exact (AKR_FR hFT2 rfl (by assumption : AKR S))) _) ?_
            rintro _ T3 ⟨hHT3, w27, z26, rfl, w26, w24, w25⟩
            have hFT3 : FR md_mo_command__2 S T3 := FR.tr hFT2 w27 rfl
            show Rl _ _ _ _ _ [iv z26] _ _
            refine l_ireturn rfl rfl ?_
            have w28 : Xi T3 904 1 = Xi T1 904 1 := (show Xi T3 904 1 = Xi T2 904 1 from w27.x _ _ rfl).trans ((show Xi T2 904 1 = Xi T1 904 1 from w15.x _ _ rfl))
            have w29 : 0 ≤ Xi T1 904 1 ∧ Xi T1 904 1 ≤ 5000 := hHT1.c _ _
            exact ⟨hHT3, hFT3, _, rfl, ⟨by omega, by omega⟩, (by first | assumption | exact (by assumption : TXM T3)), (by first | assumption | exact (by assumption : WYM T3)), (by omega)⟩
  refine l_aload_n rfl rfl ?_
  have w30 : 0 ≤ Xi S 904 1 ∧ Xi S 904 1 ≤ 5000 := hH.c _ _
  refine l_callV rfl rfl rfl (t_mo_isSaid hH _) ?_
  rintro _ T4 ⟨hHT4, w32, z31, rfl, w31⟩
  have hFT4 : FR md_mo_command__2 S T4 := FR.tr hF w32 rfl
  show Rl _ _ _ _ _ [iv z31] _ _
  refine l_istore_n rfl rfl rfl ?_
  refine l_aload_n rfl rfl ?_
  refine l_iconst rfl ?_
  refine l_pfi rfl rfl rfl rfl ?_
  obtain ⟨U5, eU5⟩ : ∃ T : sS, T = uI T4 904 1 (Int32.ofInt 0) := ⟨_, rfl⟩
  rw [← eU5]
  have hHU5 : HI U5 := by rw [eU5]; exact HI_w hHT4 (show 0 ≤ 0 by omega) (show 0 ≤ 5000 by omega)
  have hFU5 : FR md_mo_command__2 S U5 := by rw [eU5]; exact FR.wI hFT4 (mdf_i (r := (904, 905, 1, 2)) (List.mem_of_getElem? (i := 0) rfl) (inR_i (by omega) (by omega) (by omega) (by omega)))
  have w33 : Xi U5 904 1 = 0 := by rw [eU5]; exact Xi_same (by unfold rg; omega)
  refine l_iconst rfl ?_
  refine l_istore_n rfl rfl rfl ?_
  have w34 : 0 ≤ Xi U5 904 1 ∧ Xi U5 904 1 ≤ 5000 := hHU5.c _ _
  exact Rl_weak (C12 _ U5 hHU5 hFU5 (z31) (0) (by omega) (by omega) (by first | assumption | exact (TXM_FR (FR_e eU5) rfl (TXM_FR w32 rfl (by assumption : TXM S)))) (by first | assumption | exact (WYM_FR (FR_e eU5) rfl (WYM_FR w32 rfl (by assumption : WYM S)))) (by omega) rfl) (And.intro rfl (And.intro rfl (And.intro rfl (True.intro))))

