/-! SAFETY of methods: printed by wip/safe (vc.py, decl.py) -/
def md_re_tellRelation : List rec := [(1, 2, 3, 4), (2, 3, 0, 100000), (3, 4, 0, 100000), (4, 5, 0, 100000), (5, 6, 0, 100000), (14, 15, 0, 100000), (15, 16, 0, 100000), (16, 17, 0, 100000), (17, 18, 0, 100000), (876, 877, 8, 9), (876, 877, 9, 10), (891, 892, 9, 10), (892, 893, 0, 100000), (893, 894, 0, 100000)]
abbrev Q_re_tellRelation (S : sS) : pst := fun r S1 => HI S1 ∧ FR md_re_tellRelation S S1 ∧ (∃ z : Int, r = some (iv z) ∧ (0 ≤ z ∧ z ≤ 1) ∧ (z = 1 → WI S1) ∧ (z = 0 → Xi S1 876 8 ≠ 0))
set_option maxRecDepth 100000 in
theorem t_re_tellRelation {S : sS} (hH : HI S) (hW : WI S) (hn0 : Xi S 891 9 = 0) (d : Nat) : Mt lay0 (d + 4) m_re_tellRelation [.ref 891] S (Q_re_tellRelation S) := by
  refine Mt_R rfl rfl ?_
  have hF : FR md_re_tellRelation S S := FR.rf
  have w1 : 0 ≤ Xi S 891 9 ∧ Xi S 891 9 ≤ 24 := hH.c _ _
  have hL := hW.1
  have hX := hW.2.1
  refine l_aload_n rfl rfl ?_
  refine l_gfr rfl rfl rfl rfl rfl (hH.r 891 0 876 rfl) ?_
  refine l_iconst rfl ?_
  have w2 : 0 ≤ Xi S 5 6 ∧ Xi S 5 6 ≤ 6 := hH.c _ _
  have w3 : 0 ≤ Xi S 876 7 ∧ Xi S 876 7 ≤ 5125 := hH.c _ _
  refine l_callV rfl rfl rfl (t_to_behindArt hH 0 ⟨by omega, by omega⟩ _) ?_
  rintro _ _ ⟨rfl, z5, rfl, w5, w4⟩
  show Rl _ _ _ _ _ [iv z5] _ _
  refine l_istore_n rfl rfl rfl ?_
  refine l_aload_n rfl rfl ?_
  refine l_gfr rfl rfl rfl rfl rfl (hH.r 891 1 890 rfl) ?_
  refine l_gfi rfl rfl rfl rfl rfl ?_
  have w6 : -1 ≤ (Xi S 890 3) ∧ (Xi S 890 3) ≤ 5124 := hH.c _ _
  refine l_iconst rfl ?_
  refine l_iadd rfl ?_
  refine l_istore_n rfl rfl rfl ?_
  refine l_aload_n rfl rfl ?_
  refine l_gfr rfl rfl rfl rfl rfl (hH.r 891 0 876 rfl) ?_
  refine l_iload_n rfl rfl ?_
  have w7 : 0 ≤ Xi S 5 6 ∧ Xi S 5 6 ≤ 6 := hH.c _ _
  have w8 : 0 ≤ Xi S 876 7 ∧ Xi S 876 7 ≤ 5125 := hH.c _ _
  refine l_callV rfl rfl rfl (t_to_runEnd hH ((Xi S 890 3) + 2) ⟨by omega, by omega⟩ _) ?_
  rintro _ _ ⟨rfl, z16, rfl, w16, w9, w10, w11, w12, w13, w14, w15⟩
  clear w11 w12 w13 w14
  show Rl _ _ _ _ _ [iv z16] _ _
  refine l_istore_n rfl rfl rfl ?_
  refine l_iload_n rfl rfl ?_
  refine l_iconst rfl ?_
  refine l_iadd rfl ?_
  refine l_istore rfl rfl rfl ?_
  refine l_aload_n rfl rfl ?_
  refine l_iload_n rfl rfl ?_
  refine l_aload_n rfl rfl ?_
  refine l_gfr rfl rfl rfl rfl rfl (hH.r 891 0 876 rfl) ?_
  refine l_iload_n rfl rfl ?_
  have w17 : 0 ≤ Xi S 5 6 ∧ Xi S 5 6 ≤ 6 := hH.c _ _
  have w18 : 0 ≤ Xi S 876 7 ∧ Xi S 876 7 ≤ 5125 := hH.c _ _
  refine l_callV rfl rfl rfl (t_to_runEnd hH z5 ⟨by omega, by omega⟩ _) ?_
  rintro _ _ ⟨rfl, z26, rfl, w26, w19, w20, w21, w22, w23, w24, w25⟩
  clear w21 w22 w23 w24
  show Rl _ _ _ _ _ [iv z26, iv z5, .ref 891] _ _
  refine l_aload_n rfl rfl ?_
  refine l_gfr rfl rfl rfl rfl rfl (hH.r 891 2 1 rfl) ?_
  refine l_bipush rfl rfl ?_
  have w27 : 0 ≤ Xi S 5 6 ∧ Xi S 5 6 ≤ 6 := hH.c _ _
  refine l_callV rfl rfl rfl (t_vo_countOf hH 6 ⟨by omega, by omega⟩ _) ?_
  rintro _ _ ⟨rfl, z31, rfl, w31, w28, w29, w30⟩
  have w32 : z31 = Xi S 5 6 ∧ 0 ≤ Xi S 5 6 ∧ Xi S 5 6 ≤ 6 := ⟨(w28 (by omega) (by omega)).1, hH.c 5 6⟩
  clear w28 w29 w30
  show Rl _ _ _ _ _ [iv z31, iv z26, iv z5, .ref 891] _ _
  refine l_bipush rfl rfl ?_
  have w33 : 0 ≤ Xi S 5 6 ∧ Xi S 5 6 ≤ 6 := hH.c _ _
  have w34 : 0 ≤ Xi S 891 9 ∧ Xi S 891 9 ≤ 24 := hH.c _ _
  refine l_callV rfl rfl rfl (t_re_takeNew hH z5 z26 z31 6 ⟨by omega, by omega⟩ ⟨by omega, by omega⟩ ⟨by omega, by omega⟩ ⟨by omega, by omega⟩ (by first | assumption | exact (by assumption : LEX S)) _) ?_
  rintro _ T1 ⟨hHT1, w41, z40, rfl, w40, w35, w36, w37, w38, w39⟩
  have hFT1 : FR md_re_tellRelation S T1 := FR.tr hF w41 rfl
  show Rl _ _ _ _ _ [iv z40] _ _
  refine l_if_ne rfl rfl (by unfold rg; omega) (fun w42 => ?_) (fun w43 => ?_)
  · refine l_aload_n rfl rfl ?_
    refine l_iload_n rfl rfl ?_
    have w44 : Xi T1 5 6 = Xi S 5 6 := (show Xi T1 5 6 = Xi S 5 6 from w41.x _ _ rfl)
    have w45 : 0 ≤ Xi S 5 6 ∧ Xi S 5 6 ≤ 6 := hH.c _ _
    refine l_callV rfl rfl rfl (t_re_kindMeant hHT1 ((Xi S 890 3) + 2) ⟨by omega, by omega⟩ (by first | assumption | exact (LEX_FR w41 rfl rfl (by assumption : LEX S))) _) ?_
    rintro _ _ ⟨rfl, z46, rfl, w46⟩
    show Rl _ _ _ _ _ [iv z46] _ _
    refine l_istore rfl rfl rfl ?_
    refine l_iload rfl rfl ?_
    refine l_iconst rfl ?_
    refine l_icmp_ne rfl rfl (by unfold rg; omega) (by unfold rg; omega) (fun w47 => ?_) (fun w48 => ?_)
    · refine l_aload_n rfl rfl ?_
      refine l_iload rfl rfl ?_
      have w49 : Xi T1 5 6 = Xi S 5 6 := (show Xi T1 5 6 = Xi S 5 6 from w41.x _ _ rfl)
      have w50 : 0 ≤ Xi S 5 6 ∧ Xi S 5 6 ≤ 6 := hH.c _ _
      refine l_callV rfl rfl rfl (t_re_kindMeant hHT1 (z16 + 2) ⟨by omega, by omega⟩ (by first | assumption | exact (LEX_FR w41 rfl rfl (by assumption : LEX S))) _) ?_
      rintro _ _ ⟨rfl, z51, rfl, w51⟩
      show Rl _ _ _ _ _ [iv z51] _ _
      refine l_istore rfl rfl rfl ?_
      refine l_iload rfl rfl ?_
      refine l_iconst rfl ?_
      refine l_icmp_ne rfl rfl (by unfold rg; omega) (by unfold rg; omega) (fun w52 => ?_) (fun w53 => ?_)
      · refine l_aload_n rfl rfl ?_
        refine l_gfr rfl rfl rfl rfl rfl (hHT1.r 891 2 1 rfl) ?_
        refine l_bipush rfl rfl ?_
        refine l_aload_n rfl rfl ?_
        refine l_gfr rfl rfl rfl rfl rfl (hHT1.r 891 0 876 rfl) ?_
        refine l_gfr rfl rfl rfl rfl rfl (hHT1.r 876 2 879 rfl) ?_
        refine l_iload_n rfl rfl ?_
        refine l_aload_n rfl rfl ?_
        refine l_gfr rfl rfl rfl rfl rfl (hHT1.r 891 0 876 rfl) ?_
        refine l_iload_n rfl rfl ?_
        have w54 : Xi T1 5 6 = Xi S 5 6 := (show Xi T1 5 6 = Xi S 5 6 from w41.x _ _ rfl)
        have w55 : 0 ≤ Xi S 5 6 ∧ Xi S 5 6 ≤ 6 := hH.c _ _
        have w56 : Xi T1 876 7 = Xi S 876 7 := (show Xi T1 876 7 = Xi S 876 7 from w41.x _ _ rfl)
        have w57 : 0 ≤ Xi S 876 7 ∧ Xi S 876 7 ≤ 5125 := hH.c _ _
        refine l_callV rfl rfl rfl (t_to_runEnd hHT1 z5 ⟨by omega, by omega⟩ _) ?_
        rintro _ _ ⟨rfl, z65, rfl, w65, w58, w59, w60, w61, w62, w63, w64⟩
        clear w60 w61 w62 w63
        show Rl _ _ _ _ _ [iv z65, iv z5, .ref 879, iv 6, .ref 1] _ _
        have hWp : WI T1 := (WI_FR hH w41 rfl rfl rfl rfl rfl rfl rfl rfl rfl (by assumption : WI S))
        have hHp := hHT1
        have w66 : Xi T1 5 6 = Xi S 5 6 := (show Xi T1 5 6 = Xi S 5 6 from w41.x _ _ rfl)
        have w67 : 0 ≤ Xi S 5 6 ∧ Xi S 5 6 ≤ 6 := hH.c _ _
        refine l_callV rfl rfl rfl (t_vo_tellNew hHT1 6 879 5130 z5 z65 ⟨by omega, by omega⟩ rfl ⟨by omega, by omega⟩ ⟨by omega, by omega⟩ ⟨by omega, by omega⟩ (by first | assumption | exact (LEX_FR w41 rfl rfl (by assumption : LEX S))) (show Xi T1 5 6 + 1 ≤ 6 by first | omega | (have hz : Xi T1 5 6 = Xi T1 5 (6 : Int).toNat := rfl; omega)) (by first | assumption | omega) _) ?_
        rintro _ T2 ⟨hHT2, w74, z73, rfl, w73, w68, w69, w70, w71, w72⟩
        have hFT2 : FR md_re_tellRelation S T2 := FR.tr hFT1 w74 rfl
        show Rl _ _ _ _ _ [iv z73] _ _
        have hz6 : z73 = Xi T1 5 6 := by have t := (by assumption : z73 = Xi T1 5 (6 : Int).toNat); exact t
        have hc6 : Xi T2 5 6 = Xi T1 5 6 + 1 := by have t := (by assumption : Xi T2 5 (6 : Int).toNat = Xi T1 5 (6 : Int).toNat + 1); exact t
        have hWt : WI T2 := WI_tn (s := 6) hHp (by assumption : FR md_vo_tellNew T1 T2) (by assumption) (by assumption) (by assumption) (by decide) (by decide) hWp
        refine l_istore rfl rfl rfl ?_
        refine l_aload_n rfl rfl ?_
        refine l_gfr rfl rfl rfl rfl rfl (hHT2.r 891 2 1 rfl) ?_
        refine l_gfr rfl rfl rfl rfl rfl (hHT2.r 1 13 14 rfl) ?_
        refine l_iload rfl rfl ?_
        refine l_iload rfl rfl ?_
        refine l_iastore (n := 6) rfl rfl (by omega) (by omega) (by unfold rg; omega) ?_
        obtain ⟨U3, eU3⟩ : ∃ T : sS, T = uI T2 14 ((z73).toNat) (Int32.ofInt z46) := ⟨_, rfl⟩
        rw [← eU3]
        have hHU3 : HI U3 := by rw [eU3]; exact HI_w hHT2 (show 0 ≤ z46 by omega) (show z46 ≤ 15 by omega)
        have hFU3 : FR md_re_tellRelation S U3 := by rw [eU3]; exact FR.wI hFT2 (mdf_i (r := (14, 15, 0, 100000)) (List.mem_of_getElem? (i := 5) rfl) (inR_i (by omega) (by omega) (by omega) (by omega)))
        have w75 : Xi U3 14 ((z73).toNat) = z46 := by rw [eU3]; exact Xi_same (by unfold rg; omega)
        refine l_aload_n rfl rfl ?_
        refine l_gfr rfl rfl rfl rfl rfl (hHU3.r 891 2 1 rfl) ?_
        refine l_gfr rfl rfl rfl rfl rfl (hHU3.r 1 14 15 rfl) ?_
        refine l_iload rfl rfl ?_
        refine l_iload rfl rfl ?_
        refine l_iastore (n := 6) rfl rfl (by omega) (by omega) (by unfold rg; omega) ?_
        obtain ⟨U4, eU4⟩ : ∃ T : sS, T = uI U3 15 ((z73).toNat) (Int32.ofInt z51) := ⟨_, rfl⟩
        rw [← eU4]
        have hHU4 : HI U4 := by rw [eU4]; exact HI_w hHU3 (show 0 ≤ z51 by omega) (show z51 ≤ 15 by omega)
        have hFU4 : FR md_re_tellRelation S U4 := by rw [eU4]; exact FR.wI hFU3 (mdf_i (r := (15, 16, 0, 100000)) (List.mem_of_getElem? (i := 6) rfl) (inR_i (by omega) (by omega) (by omega) (by omega)))
        have w76 : Xi U4 15 ((z73).toNat) = z51 := by rw [eU4]; exact Xi_same (by unfold rg; omega)
        refine l_aload_n rfl rfl ?_
        refine l_gfr rfl rfl rfl rfl rfl (hHU4.r 891 2 1 rfl) ?_
        refine l_gfr rfl rfl rfl rfl rfl (hHU4.r 1 15 16 rfl) ?_
        refine l_iload rfl rfl ?_
        refine l_aload_n rfl rfl ?_
        refine l_gfr rfl rfl rfl rfl rfl (hHU4.r 891 0 876 rfl) ?_
        refine l_iload_n rfl rfl ?_
        refine l_iconst rfl ?_
        refine l_isub rfl ?_
        have w77 : Xi U4 5 6 = Xi T2 5 6 := (show Xi U4 5 6 = Xi U3 5 6 from by rw [eU4]; exact Xi_ne (by omega)).trans ((show Xi U3 5 6 = Xi T2 5 6 from by rw [eU3]; exact Xi_ne (by omega)))
        have w78 : 0 ≤ Xi T2 5 6 ∧ Xi T2 5 6 ≤ 6 := hHT2.c _ _
        have w79 : Xi U4 876 7 = Xi S 876 7 := (show Xi U4 876 7 = Xi U3 876 7 from by rw [eU4]; exact Xi_ne (by omega)).trans ( (show Xi U3 876 7 = Xi T2 876 7 from by rw [eU3]; exact Xi_ne (by omega)).trans ( (show Xi T2 876 7 = Xi T1 876 7 from w74.x _ _ rfl).trans ((show Xi T1 876 7 = Xi S 876 7 from w41.x _ _ rfl))))
        have w80 : 0 ≤ Xi S 876 7 ∧ Xi S 876 7 ≤ 5125 := hH.c _ _
        refine l_callV rfl rfl rfl (t_to_typeAt hHU4 (((Xi S 890 3) + 2) - 1) ⟨by omega, by omega⟩ _) ?_
        rintro _ _ ⟨rfl, z84, rfl, w84, w81, w82, w83⟩
        clear w82 w83
        show Rl _ _ _ _ _ [iv z84, iv z73, .ref 16] _ _
        refine l_bipush rfl rfl ?_
        refine l_icmp_ne rfl rfl (by unfold rg; omega) (by unfold rg; omega) (fun w85 => ?_) (fun w86 => ?_)
        · refine l_iconst rfl ?_
          refine l_bastoreZ1 (n := 6) rfl rfl (by omega) (by omega) (by unfold rg; omega) ⟨by omega, by omega⟩ ?_
          obtain ⟨U5, eU5⟩ : ∃ T : sS, T = uI U4 16 ((z73).toNat) (Int32.ofInt 0) := ⟨_, rfl⟩
          rw [← eU5]
          have hHU5 : HI U5 := by rw [eU5]; exact HI_w hHU4 (show 0 ≤ 0 by omega) (show 0 ≤ 1 by omega)
          have hFU5 : FR md_re_tellRelation S U5 := by rw [eU5]; exact FR.wI hFU4 (mdf_i (r := (16, 17, 0, 100000)) (List.mem_of_getElem? (i := 7) rfl) (inR_i (by omega) (by omega) (by omega) (by omega)))
          have w87 : Xi U5 16 ((z73).toNat) = 0 := by rw [eU5]; exact Xi_same (by unfold rg; omega)
          refine l_aload_n rfl rfl ?_
          refine l_gfr rfl rfl rfl rfl rfl (hHU5.r 891 2 1 rfl) ?_
          refine l_gfr rfl rfl rfl rfl rfl (hHU5.r 1 16 17 rfl) ?_
          refine l_iload rfl rfl ?_
          refine l_aload_n rfl rfl ?_
          refine l_gfr rfl rfl rfl rfl rfl (hHU5.r 891 0 876 rfl) ?_
          refine l_iload rfl rfl ?_
          refine l_iconst rfl ?_
          refine l_isub rfl ?_
          have w88 : Xi U5 5 6 = Xi T2 5 6 := (show Xi U5 5 6 = Xi U4 5 6 from by rw [eU5]; exact Xi_ne (by omega)).trans ( (show Xi U4 5 6 = Xi U3 5 6 from by rw [eU4]; exact Xi_ne (by omega)).trans ((show Xi U3 5 6 = Xi T2 5 6 from by rw [eU3]; exact Xi_ne (by omega))))
          have w89 : 0 ≤ Xi T2 5 6 ∧ Xi T2 5 6 ≤ 6 := hHT2.c _ _
          have w90 : Xi U5 876 7 = Xi S 876 7 := (show Xi U5 876 7 = Xi U4 876 7 from by rw [eU5]; exact Xi_ne (by omega)).trans ( (show Xi U4 876 7 = Xi U3 876 7 from by rw [eU4]; exact Xi_ne (by omega)).trans ( (show Xi U3 876 7 = Xi T2 876 7 from by rw [eU3]; exact Xi_ne (by omega)).trans ( (show Xi T2 876 7 = Xi T1 876 7 from w74.x _ _ rfl).trans ((show Xi T1 876 7 = Xi S 876 7 from w41.x _ _ rfl)))))
          have w91 : 0 ≤ Xi S 876 7 ∧ Xi S 876 7 ≤ 5125 := hH.c _ _
          refine l_callV rfl rfl rfl (t_to_typeAt hHU5 ((z16 + 2) - 1) ⟨by omega, by omega⟩ _) ?_
          rintro _ _ ⟨rfl, z95, rfl, w95, w92, w93, w94⟩
          clear w93 w94
          show Rl _ _ _ _ _ [iv z95, iv z73, .ref 17] _ _
          refine l_bipush rfl rfl ?_
          refine l_icmp_ne rfl rfl (by unfold rg; omega) (by unfold rg; omega) (fun w96 => ?_) (fun w97 => ?_)
          · refine l_iconst rfl ?_
            refine l_bastoreZ1 (n := 6) rfl rfl (by omega) (by omega) (by unfold rg; omega) ⟨by omega, by omega⟩ ?_
            obtain ⟨U6, eU6⟩ : ∃ T : sS, T = uI U5 17 ((z73).toNat) (Int32.ofInt 0) := ⟨_, rfl⟩
            rw [← eU6]
            have hHU6 : HI U6 := by rw [eU6]; exact HI_w hHU5 (show 0 ≤ 0 by omega) (show 0 ≤ 1 by omega)
            have hFU6 : FR md_re_tellRelation S U6 := by rw [eU6]; exact FR.wI hFU5 (mdf_i (r := (17, 18, 0, 100000)) (List.mem_of_getElem? (i := 8) rfl) (inR_i (by omega) (by omega) (by omega) (by omega)))
            have w98 : Xi U6 17 ((z73).toNat) = 0 := by rw [eU6]; exact Xi_same (by unfold rg; omega)
            refine l_iconst rfl ?_
            refine l_ireturn rfl rfl ?_
            have w99 : Xi U6 5 6 = Xi T2 5 6 := (show Xi U6 5 6 = Xi U5 5 6 from by rw [eU6]; exact Xi_ne (by omega)).trans ( (show Xi U5 5 6 = Xi U4 5 6 from by rw [eU5]; exact Xi_ne (by omega)).trans ( (show Xi U4 5 6 = Xi U3 5 6 from by rw [eU4]; exact Xi_ne (by omega)).trans ((show Xi U3 5 6 = Xi T2 5 6 from by rw [eU3]; exact Xi_ne (by omega)))))
            have w100 : 0 ≤ Xi T2 5 6 ∧ Xi T2 5 6 ≤ 6 := hHT2.c _ _
            have w101 : Xi U6 876 8 = Xi T1 876 8 := (show Xi U6 876 8 = Xi U5 876 8 from by rw [eU6]; exact Xi_ne (by omega)).trans ( (show Xi U5 876 8 = Xi U4 876 8 from by rw [eU5]; exact Xi_ne (by omega)).trans ( (show Xi U4 876 8 = Xi U3 876 8 from by rw [eU4]; exact Xi_ne (by omega)).trans ( (show Xi U3 876 8 = Xi T2 876 8 from by rw [eU3]; exact Xi_ne (by omega)).trans ((show Xi T2 876 8 = Xi T1 876 8 from w74.x _ _ rfl)))))
            have w102 : 0 ≤ Xi T1 876 8 ∧ Xi T1 876 8 ≤ 9 := hHT1.c _ _
            exact ⟨hHU6, hFU6, _, rfl, ⟨by omega, by omega⟩, (by first | (intro hz; omega) | (intro _; assumption) | (intro _; exact (WI_FR hHU5 (FR_e eU6) rfl rfl rfl rfl rfl rfl rfl rfl rfl (WI_FR hHU4 (FR_e eU5) rfl rfl rfl rfl rfl rfl rfl rfl rfl (WI_FR hHU3 (FR_e eU4) rfl rfl rfl rfl rfl rfl rfl rfl rfl (WI_FR hHT2 (FR_e eU3) rfl rfl rfl rfl rfl rfl rfl rfl rfl (by assumption : WI T2))))))), (by omega)⟩
          · refine l_iconst rfl ?_
            refine l_goto rfl rfl ?_
            refine l_bastoreZ1 (n := 6) rfl rfl (by omega) (by omega) (by unfold rg; omega) ⟨by omega, by omega⟩ ?_
            obtain ⟨U7, eU7⟩ : ∃ T : sS, T = uI U5 17 ((z73).toNat) (Int32.ofInt 1) := ⟨_, rfl⟩
            rw [← eU7]
            have hHU7 : HI U7 := by rw [eU7]; exact HI_w hHU5 (show 0 ≤ 1 by omega) (show 1 ≤ 1 by omega)
            have hFU7 : FR md_re_tellRelation S U7 := by rw [eU7]; exact FR.wI hFU5 (mdf_i (r := (17, 18, 0, 100000)) (List.mem_of_getElem? (i := 8) rfl) (inR_i (by omega) (by omega) (by omega) (by omega)))
            have w103 : Xi U7 17 ((z73).toNat) = 1 := by rw [eU7]; exact Xi_same (by unfold rg; omega)
            refine l_iconst rfl ?_
            refine l_ireturn rfl rfl ?_
            have w104 : Xi U7 5 6 = Xi T2 5 6 := (show Xi U7 5 6 = Xi U5 5 6 from by rw [eU7]; exact Xi_ne (by omega)).trans ( (show Xi U5 5 6 = Xi U4 5 6 from by rw [eU5]; exact Xi_ne (by omega)).trans ( (show Xi U4 5 6 = Xi U3 5 6 from by rw [eU4]; exact Xi_ne (by omega)).trans ((show Xi U3 5 6 = Xi T2 5 6 from by rw [eU3]; exact Xi_ne (by omega)))))
            have w105 : 0 ≤ Xi T2 5 6 ∧ Xi T2 5 6 ≤ 6 := hHT2.c _ _
            have w106 : Xi U7 876 8 = Xi T1 876 8 := (show Xi U7 876 8 = Xi U5 876 8 from by rw [eU7]; exact Xi_ne (by omega)).trans ( (show Xi U5 876 8 = Xi U4 876 8 from by rw [eU5]; exact Xi_ne (by omega)).trans ( (show Xi U4 876 8 = Xi U3 876 8 from by rw [eU4]; exact Xi_ne (by omega)).trans ( (show Xi U3 876 8 = Xi T2 876 8 from by rw [eU3]; exact Xi_ne (by omega)).trans ((show Xi T2 876 8 = Xi T1 876 8 from w74.x _ _ rfl)))))
            have w107 : 0 ≤ Xi T1 876 8 ∧ Xi T1 876 8 ≤ 9 := hHT1.c _ _
            exact ⟨hHU7, hFU7, _, rfl, ⟨by omega, by omega⟩, (by first | (intro hz; omega) | (intro _; assumption) | (intro _; exact (WI_FR hHU5 (FR_e eU7) rfl rfl rfl rfl rfl rfl rfl rfl rfl (WI_FR hHU4 (FR_e eU5) rfl rfl rfl rfl rfl rfl rfl rfl rfl (WI_FR hHU3 (FR_e eU4) rfl rfl rfl rfl rfl rfl rfl rfl rfl (WI_FR hHT2 (FR_e eU3) rfl rfl rfl rfl rfl rfl rfl rfl rfl (by assumption : WI T2))))))), (by omega)⟩
        · refine l_iconst rfl ?_
          refine l_goto rfl rfl ?_
          refine l_bastoreZ1 (n := 6) rfl rfl (by omega) (by omega) (by unfold rg; omega) ⟨by omega, by omega⟩ ?_
          obtain ⟨U8, eU8⟩ : ∃ T : sS, T = uI U4 16 ((z73).toNat) (Int32.ofInt 1) := ⟨_, rfl⟩
          rw [← eU8]
          have hHU8 : HI U8 := by rw [eU8]; exact HI_w hHU4 (show 0 ≤ 1 by omega) (show 1 ≤ 1 by omega)
          have hFU8 : FR md_re_tellRelation S U8 := by rw [eU8]; exact FR.wI hFU4 (mdf_i (r := (16, 17, 0, 100000)) (List.mem_of_getElem? (i := 7) rfl) (inR_i (by omega) (by omega) (by omega) (by omega)))
          have w108 : Xi U8 16 ((z73).toNat) = 1 := by rw [eU8]; exact Xi_same (by unfold rg; omega)
          refine l_aload_n rfl rfl ?_
          refine l_gfr rfl rfl rfl rfl rfl (hHU8.r 891 2 1 rfl) ?_
          refine l_gfr rfl rfl rfl rfl rfl (hHU8.r 1 16 17 rfl) ?_
          refine l_iload rfl rfl ?_
          refine l_aload_n rfl rfl ?_
          refine l_gfr rfl rfl rfl rfl rfl (hHU8.r 891 0 876 rfl) ?_
          refine l_iload rfl rfl ?_
          refine l_iconst rfl ?_
          refine l_isub rfl ?_
          have w109 : Xi U8 5 6 = Xi T2 5 6 := (show Xi U8 5 6 = Xi U4 5 6 from by rw [eU8]; exact Xi_ne (by omega)).trans ( (show Xi U4 5 6 = Xi U3 5 6 from by rw [eU4]; exact Xi_ne (by omega)).trans ((show Xi U3 5 6 = Xi T2 5 6 from by rw [eU3]; exact Xi_ne (by omega))))
          have w110 : 0 ≤ Xi T2 5 6 ∧ Xi T2 5 6 ≤ 6 := hHT2.c _ _
          have w111 : Xi U8 876 7 = Xi S 876 7 := (show Xi U8 876 7 = Xi U4 876 7 from by rw [eU8]; exact Xi_ne (by omega)).trans ( (show Xi U4 876 7 = Xi U3 876 7 from by rw [eU4]; exact Xi_ne (by omega)).trans ( (show Xi U3 876 7 = Xi T2 876 7 from by rw [eU3]; exact Xi_ne (by omega)).trans ( (show Xi T2 876 7 = Xi T1 876 7 from w74.x _ _ rfl).trans ((show Xi T1 876 7 = Xi S 876 7 from w41.x _ _ rfl)))))
          have w112 : 0 ≤ Xi S 876 7 ∧ Xi S 876 7 ≤ 5125 := hH.c _ _
          refine l_callV rfl rfl rfl (t_to_typeAt hHU8 ((z16 + 2) - 1) ⟨by omega, by omega⟩ _) ?_
          rintro _ _ ⟨rfl, z116, rfl, w116, w113, w114, w115⟩
          clear w114 w115
          show Rl _ _ _ _ _ [iv z116, iv z73, .ref 17] _ _
          refine l_bipush rfl rfl ?_
          refine l_icmp_ne rfl rfl (by unfold rg; omega) (by unfold rg; omega) (fun w117 => ?_) (fun w118 => ?_)
          · refine l_iconst rfl ?_
            refine l_bastoreZ1 (n := 6) rfl rfl (by omega) (by omega) (by unfold rg; omega) ⟨by omega, by omega⟩ ?_
            obtain ⟨U9, eU9⟩ : ∃ T : sS, T = uI U8 17 ((z73).toNat) (Int32.ofInt 0) := ⟨_, rfl⟩
            rw [← eU9]
            have hHU9 : HI U9 := by rw [eU9]; exact HI_w hHU8 (show 0 ≤ 0 by omega) (show 0 ≤ 1 by omega)
            have hFU9 : FR md_re_tellRelation S U9 := by rw [eU9]; exact FR.wI hFU8 (mdf_i (r := (17, 18, 0, 100000)) (List.mem_of_getElem? (i := 8) rfl) (inR_i (by omega) (by omega) (by omega) (by omega)))
            have w119 : Xi U9 17 ((z73).toNat) = 0 := by rw [eU9]; exact Xi_same (by unfold rg; omega)
            refine l_iconst rfl ?_
            refine l_ireturn rfl rfl ?_
            have w120 : Xi U9 5 6 = Xi T2 5 6 := (show Xi U9 5 6 = Xi U8 5 6 from by rw [eU9]; exact Xi_ne (by omega)).trans ( (show Xi U8 5 6 = Xi U4 5 6 from by rw [eU8]; exact Xi_ne (by omega)).trans ( (show Xi U4 5 6 = Xi U3 5 6 from by rw [eU4]; exact Xi_ne (by omega)).trans ((show Xi U3 5 6 = Xi T2 5 6 from by rw [eU3]; exact Xi_ne (by omega)))))
            have w121 : 0 ≤ Xi T2 5 6 ∧ Xi T2 5 6 ≤ 6 := hHT2.c _ _
            have w122 : Xi U9 876 8 = Xi T1 876 8 := (show Xi U9 876 8 = Xi U8 876 8 from by rw [eU9]; exact Xi_ne (by omega)).trans ( (show Xi U8 876 8 = Xi U4 876 8 from by rw [eU8]; exact Xi_ne (by omega)).trans ( (show Xi U4 876 8 = Xi U3 876 8 from by rw [eU4]; exact Xi_ne (by omega)).trans ( (show Xi U3 876 8 = Xi T2 876 8 from by rw [eU3]; exact Xi_ne (by omega)).trans ((show Xi T2 876 8 = Xi T1 876 8 from w74.x _ _ rfl)))))
            have w123 : 0 ≤ Xi T1 876 8 ∧ Xi T1 876 8 ≤ 9 := hHT1.c _ _
            exact ⟨hHU9, hFU9, _, rfl, ⟨by omega, by omega⟩, (by first | (intro hz; omega) | (intro _; assumption) | (intro _; exact (WI_FR hHU8 (FR_e eU9) rfl rfl rfl rfl rfl rfl rfl rfl rfl (WI_FR hHU4 (FR_e eU8) rfl rfl rfl rfl rfl rfl rfl rfl rfl (WI_FR hHU3 (FR_e eU4) rfl rfl rfl rfl rfl rfl rfl rfl rfl (WI_FR hHT2 (FR_e eU3) rfl rfl rfl rfl rfl rfl rfl rfl rfl (by assumption : WI T2))))))), (by omega)⟩
          · refine l_iconst rfl ?_
            refine l_goto rfl rfl ?_
            refine l_bastoreZ1 (n := 6) rfl rfl (by omega) (by omega) (by unfold rg; omega) ⟨by omega, by omega⟩ ?_
            obtain ⟨U10, eU10⟩ : ∃ T : sS, T = uI U8 17 ((z73).toNat) (Int32.ofInt 1) := ⟨_, rfl⟩
            rw [← eU10]
            have hHU10 : HI U10 := by rw [eU10]; exact HI_w hHU8 (show 0 ≤ 1 by omega) (show 1 ≤ 1 by omega)
            have hFU10 : FR md_re_tellRelation S U10 := by rw [eU10]; exact FR.wI hFU8 (mdf_i (r := (17, 18, 0, 100000)) (List.mem_of_getElem? (i := 8) rfl) (inR_i (by omega) (by omega) (by omega) (by omega)))
            have w124 : Xi U10 17 ((z73).toNat) = 1 := by rw [eU10]; exact Xi_same (by unfold rg; omega)
            refine l_iconst rfl ?_
            refine l_ireturn rfl rfl ?_
            have w125 : Xi U10 5 6 = Xi T2 5 6 := (show Xi U10 5 6 = Xi U8 5 6 from by rw [eU10]; exact Xi_ne (by omega)).trans ( (show Xi U8 5 6 = Xi U4 5 6 from by rw [eU8]; exact Xi_ne (by omega)).trans ( (show Xi U4 5 6 = Xi U3 5 6 from by rw [eU4]; exact Xi_ne (by omega)).trans ((show Xi U3 5 6 = Xi T2 5 6 from by rw [eU3]; exact Xi_ne (by omega)))))
            have w126 : 0 ≤ Xi T2 5 6 ∧ Xi T2 5 6 ≤ 6 := hHT2.c _ _
            have w127 : Xi U10 876 8 = Xi T1 876 8 := (show Xi U10 876 8 = Xi U8 876 8 from by rw [eU10]; exact Xi_ne (by omega)).trans ( (show Xi U8 876 8 = Xi U4 876 8 from by rw [eU8]; exact Xi_ne (by omega)).trans ( (show Xi U4 876 8 = Xi U3 876 8 from by rw [eU4]; exact Xi_ne (by omega)).trans ( (show Xi U3 876 8 = Xi T2 876 8 from by rw [eU3]; exact Xi_ne (by omega)).trans ((show Xi T2 876 8 = Xi T1 876 8 from w74.x _ _ rfl)))))
            have w128 : 0 ≤ Xi T1 876 8 ∧ Xi T1 876 8 ≤ 9 := hHT1.c _ _
            exact ⟨hHU10, hFU10, _, rfl, ⟨by omega, by omega⟩, (by first | (intro hz; omega) | (intro _; assumption) | (intro _; exact (WI_FR hHU8 (FR_e eU10) rfl rfl rfl rfl rfl rfl rfl rfl rfl (WI_FR hHU4 (FR_e eU8) rfl rfl rfl rfl rfl rfl rfl rfl rfl (WI_FR hHU3 (FR_e eU4) rfl rfl rfl rfl rfl rfl rfl rfl rfl (WI_FR hHT2 (FR_e eU3) rfl rfl rfl rfl rfl rfl rfl rfl rfl (by assumption : WI T2))))))), (by omega)⟩
      · refine l_aload_n rfl rfl ?_
        refine l_gfr rfl rfl rfl rfl rfl (hHT1.r 891 0 876 rfl) ?_
        refine l_iconst rfl ?_
        refine l_iload rfl rfl ?_
        have w129 : Xi T1 5 6 = Xi S 5 6 := (show Xi T1 5 6 = Xi S 5 6 from w41.x _ _ rfl)
        have w130 : 0 ≤ Xi S 5 6 ∧ Xi S 5 6 ≤ 6 := hH.c _ _
        refine l_callV rfl rfl rfl (t_to_wrong hHT1 4 (z16 + 2) ⟨by omega, by omega⟩ ⟨by omega, by omega⟩ _) ?_
        rintro _ T11 ⟨hHT11, w134, z133, rfl, w133, w131, w132⟩
        have hFT11 : FR md_re_tellRelation S T11 := FR.tr hFT1 w134 rfl
        show Rl _ _ _ _ _ [iv z133] _ _
        refine l_ireturn rfl (retI_z (by omega)) ?_
        have w135 : Xi T11 5 6 = Xi S 5 6 := (show Xi T11 5 6 = Xi T1 5 6 from w134.x _ _ rfl).trans ((show Xi T1 5 6 = Xi S 5 6 from w41.x _ _ rfl))
        have w136 : 0 ≤ Xi S 5 6 ∧ Xi S 5 6 ≤ 6 := hH.c _ _
        have w137 : 0 ≤ Xi T11 876 8 ∧ Xi T11 876 8 ≤ 9 := hHT11.c _ _
        exact ⟨hHT11, hFT11, _, rfl, ⟨by omega, by omega⟩, (by first | (intro hz; omega) | (intro _; assumption) | (intro _; exact (WI_FR hHT1 w134 rfl rfl rfl rfl rfl rfl rfl rfl rfl (WI_FR hH w41 rfl rfl rfl rfl rfl rfl rfl rfl rfl (by assumption : WI S))))), (by omega)⟩
    · refine l_aload_n rfl rfl ?_
      refine l_gfr rfl rfl rfl rfl rfl (hHT1.r 891 0 876 rfl) ?_
      refine l_iconst rfl ?_
      refine l_iload_n rfl rfl ?_
      have w138 : Xi T1 5 6 = Xi S 5 6 := (show Xi T1 5 6 = Xi S 5 6 from w41.x _ _ rfl)
      have w139 : 0 ≤ Xi S 5 6 ∧ Xi S 5 6 ≤ 6 := hH.c _ _
      refine l_callV rfl rfl rfl (t_to_wrong hHT1 4 ((Xi S 890 3) + 2) ⟨by omega, by omega⟩ ⟨by omega, by omega⟩ _) ?_
      rintro _ T12 ⟨hHT12, w143, z142, rfl, w142, w140, w141⟩
      have hFT12 : FR md_re_tellRelation S T12 := FR.tr hFT1 w143 rfl
      show Rl _ _ _ _ _ [iv z142] _ _
      refine l_ireturn rfl (retI_z (by omega)) ?_
      have w144 : Xi T12 5 6 = Xi S 5 6 := (show Xi T12 5 6 = Xi T1 5 6 from w143.x _ _ rfl).trans ((show Xi T1 5 6 = Xi S 5 6 from w41.x _ _ rfl))
      have w145 : 0 ≤ Xi S 5 6 ∧ Xi S 5 6 ≤ 6 := hH.c _ _
      have w146 : 0 ≤ Xi T12 876 8 ∧ Xi T12 876 8 ≤ 9 := hHT12.c _ _
      exact ⟨hHT12, hFT12, _, rfl, ⟨by omega, by omega⟩, (by first | (intro hz; omega) | (intro _; assumption) | (intro _; exact (WI_FR hHT1 w143 rfl rfl rfl rfl rfl rfl rfl rfl rfl (WI_FR hH w41 rfl rfl rfl rfl rfl rfl rfl rfl rfl (by assumption : WI S))))), (by omega)⟩
  · refine l_iconst rfl ?_
    refine l_ireturn rfl rfl ?_
    have w147 : Xi T1 5 6 = Xi S 5 6 := (show Xi T1 5 6 = Xi S 5 6 from w41.x _ _ rfl)
    have w148 : 0 ≤ Xi S 5 6 ∧ Xi S 5 6 ≤ 6 := hH.c _ _
    have w149 : 0 ≤ Xi T1 876 8 ∧ Xi T1 876 8 ≤ 9 := hHT1.c _ _
    exact ⟨hHT1, hFT1, _, rfl, ⟨by omega, by omega⟩, (by first | (intro hz; omega) | (intro _; assumption) | (intro _; exact (WI_FR hH w41 rfl rfl rfl rfl rfl rfl rfl rfl rfl (by assumption : WI S)))), (by omega)⟩
def md_re_relateAll : List rec := [(189, 195, 0, 100000)]
abbrev Q_re_relateAll (S : sS) (rl : Int) (verb : Int) (end_ : Int) : pst := fun r S1 => HI S1 ∧ FR md_re_relateAll S S1 ∧ (∃ z : Int, r = some (iv z) ∧ (0 ≤ z ∧ z ≤ 1))
set_option maxRecDepth 100000 in
theorem t_re_relateAll {S : sS} (hH : HI S) (rl : Int) (verb : Int) (end_ : Int) (hrl : 0 ≤ rl ∧ rl ≤ 5) (hverb : 0 ≤ verb ∧ verb ≤ 5125) (hend_ : 0 ≤ end_ ∧ end_ ≤ 5125) (hL : LEX S) (d : Nat) : Mt lay0 (d + 3) m_re_relateAll [.ref 891, iv rl, iv verb, iv end_] S (Q_re_relateAll S rl verb end_) := by
  refine Mt_R rfl rfl ?_
  have hF : FR md_re_relateAll S S := FR.rf
  have C3 : ∀ (n3 : Nat) (T1 : sS) (_ : HI T1) (_ : FR md_re_relateAll S T1) (v4 : Int), (0 ≤ v4 ∧ v4 ≤ 5125) → n3 = (5126 - v4).toNat → Rl lay0 (d + 2) m_re_relateAll 3 [(0, .ref 891), (1, iv rl), (2, iv verb), (3, iv end_), (4, iv v4)] [] T1 (Q_re_relateAll S rl verb end_) := by
    intro n3
    induction n3 using Nat.strongRecOn with
    | ind n3 ih3 =>
      intro T1 hHT1 hFT1 v4 w1 hm3
      have w2 : Xi T1 876 7 = Xi S 876 7 := hFT1.x _ _ rfl
      have C53 : ∀ (n53 : Nat) (T2 : sS) (_ : HI T2) (_ : FR md_re_relateAll S T2) (v4 : Int) (v5 : Int) (v6 : Int), (0 ≤ v4 ∧ v4 ≤ 5125) → (-1 ≤ v5 ∧ v5 ≤ 23) → (2 ≤ v6 ∧ v6 ≤ 5126) → (v4 < verb) → ((5126 - v4).toNat ≤ n3) → n53 = (5127 - v6).toNat → Rl lay0 (d + 2) m_re_relateAll 53 [(0, .ref 891), (1, iv rl), (2, iv verb), (3, iv end_), (4, iv v4), (5, iv v5), (6, iv v6)] [] T2 (Q_re_relateAll S rl verb end_) := by
        intro n53
        induction n53 using Nat.strongRecOn with
        | ind n53 ih53 =>
          intro T2 hHT2 hFT2 v4 v5 v6 w3 w4 w5 w6 w7 hm53
          have w8 : Xi T2 876 7 = Xi S 876 7 := hFT2.x _ _ rfl
          refine l_iload rfl rfl ?_
          refine l_iload_n rfl rfl ?_
          refine l_icmp_ge rfl rfl (by unfold rg; omega) (by unfold rg; omega) (fun w9 => ?_) (fun w10 => ?_)
          · refine l_iinc rfl rfl rfl rfl ?_
            refine l_goto rfl rfl ?_
            exact Rl_weak (ih3 _ (by omega) T2 hHT2 hFT2 ((v4 + 1)) (by omega) rfl) (And.intro rfl (And.intro rfl (And.intro rfl (And.intro rfl (And.intro rfl (True.intro))))))
          · refine l_iload rfl rfl ?_
            refine l_iconst rfl ?_
            refine l_icmp_eq rfl rfl (by unfold rg; omega) (by unfold rg; omega) (fun w11 => ?_) (fun w12 => ?_)
            · refine l_iinc rfl rfl rfl rfl ?_
              refine l_goto rfl rfl ?_
              exact Rl_weak (ih3 _ (by omega) T2 hHT2 hFT2 ((v4 + 1)) (by omega) rfl) (And.intro rfl (And.intro rfl (And.intro rfl (And.intro rfl (And.intro rfl (True.intro))))))
            · refine l_aload_n rfl rfl ?_
              refine l_gfr rfl rfl rfl rfl rfl (hHT2.r 891 0 876 rfl) ?_
              refine l_iload rfl rfl ?_
              refine l_iload_n rfl rfl ?_
              refine l_iconst rfl ?_
              refine l_iadd rfl ?_
              have w13 : 0 ≤ Xi T2 876 7 ∧ Xi T2 876 7 ≤ 5125 := hHT2.c _ _
              refine l_callV rfl rfl rfl (t_to_beginsRun hHT2 v6 (verb + 1) ⟨by omega, by omega⟩ ⟨by omega, by omega⟩ _) ?_
              rintro _ _ ⟨rfl, z16, rfl, w16, w14, w15⟩
              show Rl _ _ _ _ _ [iv z16] _ _
              refine l_if_eq rfl rfl (by unfold rg; omega) (fun w17 => ?_) (fun w18 => ?_)
              · refine l_iconst rfl ?_
                refine l_istore rfl rfl rfl ?_
                refine l_iload rfl rfl ?_
                refine l_iconst rfl ?_
                refine l_icmp_eq rfl rfl (by unfold rg; omega) (by unfold rg; omega) (fun w19 => ?_) (fun w20 => absurd w20 (by omega))
                · refine l_iinc rfl rfl rfl rfl ?_
                  refine l_goto rfl rfl ?_
                  exact Rl_weak (ih53 _ (by omega) T2 hHT2 hFT2 (v4) (v5) ((v6 + 1)) (by omega) (by omega) (by omega) (by omega) (by omega) rfl) (And.intro rfl (And.intro rfl (And.intro rfl (And.intro rfl (And.intro rfl (And.intro rfl (And.intro rfl (True.intro))))))))
              · refine l_aload_n rfl rfl ?_
                refine l_gfr rfl rfl rfl rfl rfl (hHT2.r 891 4 895 rfl) ?_
                refine l_iconst rfl ?_
                refine l_iload rfl rfl ?_
                refine l_aload_n rfl rfl ?_
                refine l_gfr rfl rfl rfl rfl rfl (hHT2.r 891 0 876 rfl) ?_
                refine l_iload rfl rfl ?_
                have w21 : 0 ≤ Xi T2 876 7 ∧ Xi T2 876 7 ≤ 5125 := hHT2.c _ _
                refine l_callV rfl rfl rfl (t_to_runEnd hHT2 v6 ⟨by omega, by omega⟩ _) ?_
                rintro _ _ ⟨rfl, z29, rfl, w29, w22, w23, w24, w25, w26, w27, w28⟩
                clear w24 w25 w26 w27
                show Rl _ _ _ _ _ [iv z29, iv v6, iv 2, .ref 895] _ _
                refine l_callV rfl rfl rfl (t_me_find hHT2 2 v6 z29 ⟨by omega, by omega⟩ ⟨by omega, by omega⟩ ⟨by omega, by omega⟩ (by first | assumption | exact (LEX_FR hFT2 rfl rfl (by assumption : LEX S))) _) ?_
                rintro _ _ ⟨rfl, z33, rfl, w33, w30, w31, w32⟩
                have w34 : z33 ≠ -1 → _ := fun h => fb2 hHT2 (w30 h)
                clear w31
                show Rl _ _ _ _ _ [iv z33] _ _
                refine l_goto rfl rfl ?_
                refine l_istore rfl rfl rfl ?_
                refine l_iload rfl rfl ?_
                refine l_iconst rfl ?_
                refine l_icmp_eq rfl rfl (by unfold rg; omega) (by unfold rg; omega) (fun w35 => ?_) (fun w36 => ?_)
                · refine l_iinc rfl rfl rfl rfl ?_
                  refine l_goto rfl rfl ?_
                  exact Rl_weak (ih53 _ (by omega) T2 hHT2 hFT2 (v4) (v5) ((v6 + 1)) (by omega) (by omega) (by omega) (by omega) (by omega) rfl) (And.intro rfl (And.intro rfl (And.intro rfl (And.intro rfl (And.intro rfl (And.intro rfl (And.intro rfl (True.intro))))))))
                · refine l_aload_n rfl rfl ?_
                  refine l_gfr rfl rfl rfl rfl rfl (hHT2.r 891 3 20 rfl) ?_
                  refine l_iload_n rfl rfl ?_
                  refine l_iload rfl rfl ?_
                  refine l_iload rfl rfl ?_
                  refine l_callV rfl rfl rfl (t_wo_tellRelated hHT2 rl v5 z33 ⟨by omega, by omega⟩ ⟨by omega, by omega⟩ ⟨by omega, by omega⟩ _) ?_
                  rintro _ T3 ⟨hHT3, w38, z37, rfl, w37⟩
                  have hFT3 : FR md_re_relateAll S T3 := FR.tr hFT2 w38 rfl
                  show Rl _ _ _ _ _ [iv z37] _ _
                  refine l_if_ne rfl rfl (by unfold rg; omega) (fun w39 => ?_) (fun w40 => ?_)
                  · refine l_iinc rfl rfl rfl rfl ?_
                    refine l_goto rfl rfl ?_
                    exact Rl_weak (ih53 _ (by omega) T3 hHT3 hFT3 (v4) (v5) ((v6 + 1)) (by omega) (by omega) (by omega) (by omega) (by omega) rfl) (And.intro rfl (And.intro rfl (And.intro rfl (And.intro rfl (And.intro rfl (And.intro rfl (And.intro rfl (True.intro))))))))
                  · refine l_iconst rfl ?_
                    refine l_ireturn rfl rfl ?_
                    exact ⟨hHT3, hFT3, _, rfl, ⟨by omega, by omega⟩⟩
      refine l_iload rfl rfl ?_
      refine l_iload_n rfl rfl ?_
      refine l_icmp_ge rfl rfl (by unfold rg; omega) (by unfold rg; omega) (fun w41 => ?_) (fun w42 => ?_)
      · refine l_iconst rfl ?_
        refine l_ireturn rfl rfl ?_
        exact ⟨hHT1, hFT1, _, rfl, ⟨by omega, by omega⟩⟩
      · refine l_aload_n rfl rfl ?_
        refine l_gfr rfl rfl rfl rfl rfl (hHT1.r 891 0 876 rfl) ?_
        refine l_iload rfl rfl ?_
        refine l_iconst rfl ?_
        have w43 : 0 ≤ Xi T1 876 7 ∧ Xi T1 876 7 ≤ 5125 := hHT1.c _ _
        refine l_callV rfl rfl rfl (t_to_beginsRun hHT1 v4 0 ⟨by omega, by omega⟩ ⟨by omega, by omega⟩ _) ?_
        rintro _ _ ⟨rfl, z46, rfl, w46, w44, w45⟩
        show Rl _ _ _ _ _ [iv z46] _ _
        refine l_if_eq rfl rfl (by unfold rg; omega) (fun w47 => ?_) (fun w48 => ?_)
        · refine l_iconst rfl ?_
          refine l_istore rfl rfl rfl ?_
          refine l_iload_n rfl rfl ?_
          refine l_iconst rfl ?_
          refine l_iadd rfl ?_
          refine l_istore rfl rfl rfl ?_
          exact Rl_weak (C53 _ T1 hHT1 hFT1 (v4) ((-1)) ((verb + 1)) (by omega) (by omega) (by omega) (by omega) (by omega) rfl) (And.intro rfl (And.intro rfl (And.intro rfl (And.intro rfl (And.intro rfl (And.intro rfl (And.intro rfl (True.intro))))))))
        · refine l_aload_n rfl rfl ?_
          refine l_gfr rfl rfl rfl rfl rfl (hHT1.r 891 4 895 rfl) ?_
          refine l_iconst rfl ?_
          refine l_iload rfl rfl ?_
          refine l_aload_n rfl rfl ?_
          refine l_gfr rfl rfl rfl rfl rfl (hHT1.r 891 0 876 rfl) ?_
          refine l_iload rfl rfl ?_
          refine l_iload_n rfl rfl ?_
          have w49 : 0 ≤ Xi T1 876 7 ∧ Xi T1 876 7 ≤ 5125 := hHT1.c _ _
          refine l_callV rfl rfl rfl (t_to_runEndUpTo hHT1 v4 verb ⟨by omega, by omega⟩ ⟨by omega, by omega⟩ _) ?_
          rintro _ _ ⟨rfl, z57, rfl, w57, w50, w51, w52, w53, w54, w55, w56⟩
          clear w52 w53 w54 w55
          show Rl _ _ _ _ _ [iv z57, iv v4, iv 2, .ref 895] _ _
          refine l_callV rfl rfl rfl (t_me_find hHT1 2 v4 z57 ⟨by omega, by omega⟩ ⟨by omega, by omega⟩ ⟨by omega, by omega⟩ (by first | assumption | exact (LEX_FR hFT1 rfl rfl (by assumption : LEX S))) _) ?_
          rintro _ _ ⟨rfl, z61, rfl, w61, w58, w59, w60⟩
          have w62 : z61 ≠ -1 → _ := fun h => fb2 hHT1 (w58 h)
          clear w59
          show Rl _ _ _ _ _ [iv z61] _ _
          refine l_goto rfl rfl ?_
          refine l_istore rfl rfl rfl ?_
          refine l_iload_n rfl rfl ?_
          refine l_iconst rfl ?_
          refine l_iadd rfl ?_
          refine l_istore rfl rfl rfl ?_
          exact Rl_weak (C53 _ T1 hHT1 hFT1 (v4) (z61) ((verb + 1)) (by omega) (by omega) (by omega) (by omega) (by omega) rfl) (And.intro rfl (And.intro rfl (And.intro rfl (And.intro rfl (And.intro rfl (And.intro rfl (And.intro rfl (True.intro))))))))
  refine l_iconst rfl ?_
  refine l_istore rfl rfl rfl ?_
  exact Rl_weak (C3 _ S hH hF (0) (by omega) rfl) (And.intro rfl (And.intro rfl (And.intro rfl (And.intro rfl (And.intro rfl (True.intro))))))
def md_re_takeObjects : List rec := [(876, 877, 8, 9), (876, 877, 9, 10), (891, 892, 9, 10), (892, 893, 0, 100000), (893, 894, 0, 100000)]
abbrev Q_re_takeObjects (S : sS) : pst := fun r S1 => HI S1 ∧ FR md_re_takeObjects S S1 ∧ (∃ z : Int, r = some (iv z) ∧ (0 ≤ z ∧ z ≤ 1) ∧ (z = 1 → NWO S1 (Xi S 890 3)) ∧ (z = 0 → Xi S1 876 8 ≠ 0))
set_option maxRecDepth 100000 in
theorem t_re_takeObjects {S : sS} (hH : HI S) (hL : LEX S) (hn0 : Xi S 891 9 = 0) (d : Nat) : Mt lay0 (d + 4) m_re_takeObjects [.ref 891] S (Q_re_takeObjects S) := by
  refine Mt_R rfl rfl ?_
  have hF : FR md_re_takeObjects S S := FR.rf
  have w1 : -1 ≤ Xi S 890 3 ∧ Xi S 890 3 ≤ 5124 := hH.c _ _
  have w2 : 0 ≤ Xi S 891 9 ∧ Xi S 891 9 ≤ 24 := hH.c _ _
  have C2 : ∀ (n2 : Nat) (T1 : sS) (_ : HI T1) (_ : FR md_re_takeObjects S T1) (v1 : Int), (0 ≤ v1 ∧ v1 ≤ 5124) → (v1 = 0 ∨ v1 ≤ Xi S 890 3) → (NWO T1 v1) → n2 = (5125 - v1).toNat → Rl lay0 (d + 3) m_re_takeObjects 2 [(0, .ref 891), (1, iv v1)] [] T1 (Q_re_takeObjects S) := by
    intro n2
    induction n2 using Nat.strongRecOn with
    | ind n2 ih2 =>
      intro T1 hHT1 hFT1 v1 w3 w4 hn2 hm2
      have w5 : Xi T1 5 2 = Xi S 5 2 := hFT1.x _ _ rfl
      have w6 : Xi T1 876 7 = Xi S 876 7 := hFT1.x _ _ rfl
      have w7 : Xi T1 890 3 = Xi S 890 3 := hFT1.x _ _ rfl
      refine l_iload_n rfl rfl ?_
      refine l_aload_n rfl rfl ?_
      refine l_gfr rfl rfl rfl rfl rfl (hHT1.r 891 1 890 rfl) ?_
      refine l_gfi rfl rfl rfl rfl rfl ?_
      refine l_icmp_ge rfl rfl (by unfold rg; omega) (by unfold rg; omega) (fun w8 => ?_) (fun w9 => ?_)
      · refine l_iconst rfl ?_
        refine l_ireturn rfl rfl ?_
        have w10 : 0 ≤ Xi T1 876 8 ∧ Xi T1 876 8 ≤ 9 := hHT1.c _ _
        exact ⟨hHT1, hFT1, _, rfl, ⟨by omega, by omega⟩, (by first | (intro hz; omega) | (intro _; exact nwo_x hHT1 hn2 (by omega))), (by omega)⟩
      · refine l_aload_n rfl rfl ?_
        refine l_iload_n rfl rfl ?_
        have w11 : 0 ≤ Xi T1 876 7 ∧ Xi T1 876 7 ≤ 5125 := hHT1.c _ _
        have w12 : -1 ≤ Xi T1 890 3 ∧ Xi T1 890 3 ≤ 5124 := hHT1.c _ _
        refine l_callV rfl rfl rfl (t_re_beginsName hHT1 v1 ⟨by omega, by omega⟩ _) ?_
        rintro _ _ ⟨rfl, z15, rfl, w15, w13, w14⟩
        show Rl _ _ _ _ _ [iv z15] _ _
        have hbg : z15 = bgn T1 v1 := by assumption
        refine l_if_eq rfl rfl (by unfold rg; omega) (fun w16 => ?_) (fun w17 => ?_)
        · refine l_iinc rfl rfl rfl rfl ?_
          refine l_goto rfl rfl ?_
          exact Rl_weak (ih2 _ (by omega) T1 hHT1 hFT1 ((v1 + 1)) (by omega) (by omega) (by first | exact nwo_0 hn0 | exact nwo_f hn2 (by omega) | exact nwo_n hfr rfl (by omega) hn2 ((Classical.em (mnV T1 v1 (ruF T1 v1 (Xi T1 876 7)) = -1)).elim (fun q => Or.inr ⟨by omega, by assumption, by omega, by omega, by omega, q⟩) (fun q => Or.inl ⟨by omega, by assumption, fun _ => by omega⟩))) rfl) (And.intro rfl (And.intro rfl (True.intro)))
        · refine l_aload_n rfl rfl ?_
          refine l_iload_n rfl rfl ?_
          refine l_iconst rfl ?_
          have w18 : 0 ≤ Xi T1 5 2 ∧ Xi T1 5 2 ≤ 24 := hHT1.c _ _
          have w19 : 0 ≤ Xi T1 876 7 ∧ Xi T1 876 7 ≤ 5125 := hHT1.c _ _
          have w20 : 0 ≤ Xi T1 891 9 ∧ Xi T1 891 9 ≤ 24 := hHT1.c _ _
          refine l_callV rfl rfl rfl (t_re_takeObjectOrNew hHT1 v1 (-1) ⟨by omega, by omega⟩ ⟨by omega, by omega⟩ (by first | assumption | exact (LEX_FR hFT1 rfl rfl (by assumption : LEX S))) (by first | assumption | omega) (by first | assumption | omega) _) ?_
          rintro _ T2 ⟨hHT2, w27, z26, rfl, w26, w21, w22, w23, w24, w25⟩
          have hFT2 : FR md_re_takeObjects S T2 := FR.tr hFT1 w27 rfl
          show Rl _ _ _ _ _ [iv z26] _ _
          have hfr : FR md_re_takeObjectOrNew T1 T2 := by assumption
          have h90 : 0 ≤ Xi T1 891 9 ∧ Xi T1 891 9 ≤ 24 := hHT1.c _ _
          refine l_if_ne rfl rfl (by unfold rg; omega) (fun w28 => ?_) (fun w29 => ?_)
          · refine l_iinc rfl rfl rfl rfl ?_
            refine l_goto rfl rfl ?_
            exact Rl_weak (ih2 _ (by omega) T2 hHT2 hFT2 ((v1 + 1)) (by omega) (by omega) (by first | exact nwo_0 hn0 | exact nwo_f hn2 (by omega) | exact nwo_n hfr rfl (by omega) hn2 ((Classical.em (mnV T1 v1 (ruF T1 v1 (Xi T1 876 7)) = -1)).elim (fun q => Or.inr ⟨by omega, by assumption, by omega, by omega, by omega, q⟩) (fun q => Or.inl ⟨by omega, by assumption, fun _ => by omega⟩))) rfl) (And.intro rfl (And.intro rfl (True.intro)))
          · refine l_iconst rfl ?_
            refine l_ireturn rfl rfl ?_
            have w30 : 0 ≤ Xi T2 876 8 ∧ Xi T2 876 8 ≤ 9 := hHT2.c _ _
            exact ⟨hHT2, hFT2, _, rfl, ⟨by omega, by omega⟩, (by first | (intro hz; omega) | (intro _; exact nwo_x hHT2 hn2 (by omega))), (by omega)⟩
  refine l_iconst rfl ?_
  refine l_istore_n rfl rfl rfl ?_
  exact Rl_weak (C2 _ S hH hF (0) (by omega) (by omega) (by first | exact nwo_0 hn0 | exact nwo_f hn2 (by omega) | exact nwo_n hfr rfl (by omega) hn2 ((Classical.em (mnV S v1 (ruF S v1 (Xi S 876 7)) = -1)).elim (fun q => Or.inr ⟨by omega, by assumption, by omega, by omega, by omega, q⟩) (fun q => Or.inl ⟨by omega, by assumption, fun _ => by omega⟩))) rfl) (And.intro rfl (And.intro rfl (True.intro)))
def md_re_objectOrNew : List rec := [(1, 2, 3, 4), (2, 3, 0, 100000), (3, 4, 0, 100000), (4, 5, 0, 100000), (5, 6, 0, 100000), (21, 22, 0, 100000), (22, 23, 0, 100000), (23, 24, 0, 100000)]
abbrev Q_re_objectOrNew (S : sS) (from_ : Int) (kind : Int) : pst := fun r S1 => HI S1 ∧ FR md_re_objectOrNew S S1 ∧ (∃ z : Int, r = some (iv z) ∧ (0 ≤ z ∧ z ≤ 23) ∧ (LEX S1) ∧ (LKEEP S S1) ∧ (fob S from_ = -1 → Xi S1 5 2 = Xi S 5 2 + 1) ∧ (fob S from_ ≠ -1 → Xi S1 5 2 = Xi S 5 2) ∧ (∀ j, j ≠ 2 → Xi S1 5 j = Xi S 5 j))
set_option maxRecDepth 100000 in
theorem t_re_objectOrNew {S : sS} (hH : HI S) (from_ : Int) (kind : Int) (hfrom_ : 0 ≤ from_ ∧ from_ ≤ 5126) (hkind : 0 ≤ kind ∧ kind ≤ 15) (hL : LEX S) (hc : fob S from_ = -1 → Xi S 5 2 < 24) (d : Nat) : Mt lay0 (d + 4) m_re_objectOrNew [.ref 891, iv from_, iv kind] S (Q_re_objectOrNew S from_ kind) := by
  refine Mt_R rfl rfl ?_
  have hF : FR md_re_objectOrNew S S := FR.rf
  have w1 : 0 ≤ Xi S 5 2 ∧ Xi S 5 2 ≤ 24 := hH.c _ _
  refine l_aload_n rfl rfl ?_
  refine l_gfr rfl rfl rfl rfl rfl (hH.r 891 0 876 rfl) ?_
  refine l_iload_n rfl rfl ?_
  have w2 : 0 ≤ Xi S 876 7 ∧ Xi S 876 7 ≤ 5125 := hH.c _ _
  refine l_callV rfl rfl rfl (t_to_runEnd hH from_ ⟨by omega, by omega⟩ _) ?_
  rintro _ _ ⟨rfl, z10, rfl, w10, w3, w4, w5, w6, w7, w8, w9⟩
  clear w5 w6 w7 w8
  show Rl _ _ _ _ _ [iv z10] _ _
  refine l_istore_n rfl rfl rfl ?_
  refine l_aload_n rfl rfl ?_
  refine l_gfr rfl rfl rfl rfl rfl (hH.r 891 4 895 rfl) ?_
  refine l_iconst rfl ?_
  refine l_iload_n rfl rfl ?_
  refine l_iload_n rfl rfl ?_
  refine l_callV rfl rfl rfl (t_me_find hH 2 from_ z10 ⟨by omega, by omega⟩ ⟨by omega, by omega⟩ ⟨by omega, by omega⟩ (by first | assumption | exact (by assumption : LEX S)) _) ?_
  rintro _ _ ⟨rfl, z14, rfl, w14, w11, w12, w13⟩
  have w15 : z14 ≠ -1 → _ := fun h => fb2 hH (w11 h)
  clear w12
  show Rl _ _ _ _ _ [iv z14] _ _
  have hfo : z14 = fob S from_ := fob_of (by assumption) (by assumption)
  refine l_istore rfl rfl rfl ?_
  refine l_iload rfl rfl ?_
  refine l_iconst rfl ?_
  refine l_icmp_ne rfl rfl (by unfold rg; omega) (by unfold rg; omega) (fun w16 => ?_) (fun w17 => ?_)
  · refine l_iload rfl rfl ?_
    refine l_ireturn rfl rfl ?_
    have w18 : 0 ≤ Xi S 5 2 ∧ Xi S 5 2 ≤ 24 := hH.c _ _
    exact ⟨hH, hF, _, rfl, ⟨by omega, by omega⟩, (by first | assumption | exact (by assumption : LEX S)), (by first | exact LKEEP.rf | exact LKEEP.tr (by assumption) (LKEEP_FR (by assumption : FR md_wo_makeObject S S) rfl rfl)), (by omega), (by omega), (by first | exact fun j _ => rfl | exact fun j hj => (((by assumption : FR md_wo_makeObject S S).cx 5 rfl j).1).trans (ho2 j hj))⟩
  · refine l_aload_n rfl rfl ?_
    refine l_gfr rfl rfl rfl rfl rfl (hH.r 891 2 1 rfl) ?_
    refine l_iconst rfl ?_
    refine l_aload_n rfl rfl ?_
    refine l_gfr rfl rfl rfl rfl rfl (hH.r 891 0 876 rfl) ?_
    refine l_gfr rfl rfl rfl rfl rfl (hH.r 876 2 879 rfl) ?_
    refine l_iload_n rfl rfl ?_
    refine l_iload_n rfl rfl ?_
    refine l_callV rfl rfl rfl (t_vo_tellNew hH 2 879 5130 from_ z10 ⟨by omega, by omega⟩ rfl ⟨by omega, by omega⟩ ⟨by omega, by omega⟩ ⟨by omega, by omega⟩ (by first | assumption | exact (by assumption : LEX S)) (show Xi S 5 2 + 1 ≤ 24 by first | omega | (have hz : Xi S 5 2 = Xi S 5 (2 : Int).toNat := rfl; omega)) (by first | assumption | omega) _) ?_
    rintro _ T1 ⟨hHT1, w25, z24, rfl, w24, w19, w20, w21, w22, w23⟩
    have hFT1 : FR md_re_objectOrNew S T1 := FR.tr hF w25 rfl
    show Rl _ _ _ _ _ [iv z24] _ _
    have hc2 : Xi T1 5 2 = Xi S 5 2 + 1 := by have t := (by assumption : Xi T1 5 (2 : Int).toNat = Xi S 5 (2 : Int).toNat + 1); exact t
    have ho2 : ∀ j, j ≠ 2 → Xi T1 5 j = Xi S 5 j := by have t := (by assumption : ∀ j, j ≠ (2 : Int).toNat → Xi T1 5 j = Xi S 5 j); exact t
    have hz2 : z24 = Xi S 5 2 := by have t := (by assumption : z24 = Xi S 5 (2 : Int).toNat); exact t
    refine l_istore rfl rfl rfl ?_
    refine l_aload_n rfl rfl ?_
    refine l_gfr rfl rfl rfl rfl rfl (hHT1.r 891 3 20 rfl) ?_
    refine l_iload rfl rfl ?_
    refine l_iload_n rfl rfl ?_
    refine l_callV rfl rfl rfl (t_wo_makeObject hHT1 z24 kind ⟨by omega, by omega⟩ ⟨by omega, by omega⟩ _) ?_
    rintro _ T2 ⟨hHT2, w27, rfl⟩
    have hFT2 : FR md_re_objectOrNew S T2 := FR.tr hFT1 w27 rfl
    show Rl _ _ _ _ _ [] _ _
    refine l_iload rfl rfl ?_
    refine l_ireturn rfl rfl ?_
    have w28 : Xi T2 5 2 = Xi T1 5 2 := (show Xi T2 5 2 = Xi T1 5 2 from w27.x _ _ rfl)
    have w29 : 0 ≤ Xi T1 5 2 ∧ Xi T1 5 2 ≤ 24 := hHT1.c _ _
    exact ⟨hHT2, hFT2, _, rfl, ⟨by omega, by omega⟩, (by first | assumption | exact (LEX_FR w27 rfl rfl (by assumption : LEX T1))), (by first | exact LKEEP.rf | exact LKEEP.tr (by assumption) (LKEEP_FR (by assumption : FR md_wo_makeObject T1 T2) rfl rfl)), (by omega), (by omega), (by first | exact fun j _ => rfl | exact fun j hj => (((by assumption : FR md_wo_makeObject T1 T2).cx 5 rfl j).1).trans (ho2 j hj))⟩

