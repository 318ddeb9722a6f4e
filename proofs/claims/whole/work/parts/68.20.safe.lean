/-! SAFETY of methods: printed by wip/safe (vc.py, decl.py) -/
def md_re_tellRelation : List rec := [(1, 2, 3, 4), (2, 3, 0, 100000), (3, 4, 0, 100000), (4, 5, 0, 100000), (5, 6, 0, 100000), (14, 15, 0, 100000), (15, 16, 0, 100000), (16, 17, 0, 100000), (17, 18, 0, 100000), (876, 877, 8, 9), (876, 877, 9, 10), (891, 892, 9, 10), (892, 893, 0, 100000), (893, 894, 0, 100000)]
abbrev Q_re_tellRelation (S : sS) : pst := fun r S1 => HI S1 ∧ FR md_re_tellRelation S S1 ∧ (∃ z : Int, r = some (iv z) ∧ (0 ≤ z ∧ z ≤ 1) ∧ (z = 1 → WI S1) ∧ (z = 0 → Xi S1 876 8 ≠ 0))
set_option maxRecDepth 100000 in
theorem t_re_tellRelation {S : sS} (hH : HI S) (hW : WI S) (hn0 : Xi S 891 9 = 0) (d : Nat) : Mt lay0 (d + 4) m_re_tellRelation [.ref 891] S (Q_re_tellRelation S) := by
  refine Mt_R rfl rfl ?_
  have hF : FR md_re_tellRelation S S := FR.rf
  have w1 : 0 ≤ Xi S 891 9 ∧ Xi S 891 9 ≤ 24 := hH.c _ _
  have hL := hW.1
  have hX := hW.2.1
  refine l_aload_n rfl rfl ?_
  refine l_gfr rfl rfl rfl rfl rfl (hH.r 891 0 876 rfl) ?_
  refine l_iconst rfl ?_
  have w2 : 0 ≤ Xi S 5 6 ∧ Xi S 5 6 ≤ 6 := hH.c _ _
  have w3 : 0 ≤ Xi S 876 7 ∧ Xi S 876 7 ≤ 5125 := hH.c _ _
  refine l_callV rfl rfl rfl (t_to_behindArt hH 0 ⟨by omega, by omega⟩ _) ?_
  rintro _ _ ⟨rfl, z5, rfl, w5, w4⟩
  show Rl _ _ _ _ _ [iv z5] _ _
  refine l_istore_n rfl rfl rfl ?_
  refine l_aload_n rfl rfl ?_
  refine l_gfr rfl rfl rfl rfl rfl (hH.r 891 1 890 rfl) ?_
  refine l_gfi rfl rfl rfl rfl rfl ?_
  have w6 : -1 ≤ (Xi S 890 3) ∧ (Xi S 890 3) ≤ 5124 := hH.c _ _
  refine l_iconst rfl ?_
  refine l_iadd rfl ?_
  refine l_istore_n rfl rfl rfl ?_
  refine l_aload_n rfl rfl ?_
  refine l_gfr rfl rfl rfl rfl rfl (hH.r 891 0 876 rfl) ?_
  refine l_iload_n rfl rfl ?_
  refine l_callV rfl rfl rfl (t_to_runEnd hH ((Xi S 890 3) + 2) ⟨by omega, by omega⟩ _) ?_
  rintro _ _ ⟨rfl, z16, rfl, w16, w9, w10, w11, w12, w13, w14, w15⟩
  clear w11 w12 w13 w14
  show Rl _ _ _ _ _ [iv z16] _ _
  refine l_istore_n rfl rfl rfl ?_
  refine l_iload_n rfl rfl ?_
  refine l_iconst rfl ?_
  refine l_iadd rfl ?_
  refine l_istore rfl rfl rfl ?_
  refine l_aload_n rfl rfl ?_
  refine l_iload_n rfl rfl ?_
  refine l_aload_n rfl rfl ?_
  refine l_gfr rfl rfl rfl rfl rfl (hH.r 891 0 876 rfl) ?_
  refine l_iload_n rfl rfl ?_
  refine l_callV rfl rfl rfl (t_to_runEnd hH z5 ⟨by omega, by omega⟩ _) ?_
  rintro _ _ ⟨rfl, z26, rfl, w26, w19, w20, w21, w22, w23, w24, w25⟩
  clear w21 w22 w23 w24
  show Rl _ _ _ _ _ [iv z26, iv z5, .ref 891] _ _
  refine l_aload_n rfl rfl ?_
  refine l_gfr rfl rfl rfl rfl rfl (hH.r 891 2 1 rfl) ?_
  refine l_bipush rfl rfl ?_
  refine l_callV rfl rfl rfl (t_vo_countOf hH 6 ⟨by omega, by omega⟩ _) ?_
  rintro _ _ ⟨rfl, z31, rfl, w31, w28, w29, w30⟩
  have w32 : z31 = Xi S 5 6 ∧ 0 ≤ Xi S 5 6 ∧ Xi S 5 6 ≤ 6 := ⟨(w28 (by omega) (by omega)).1, hH.c 5 6⟩
  clear w28 w29 w30
  show Rl _ _ _ _ _ [iv z31, iv z26, iv z5, .ref 891] _ _
  refine l_bipush rfl rfl ?_
  refine l_callV rfl rfl rfl (t_re_takeNew hH z5 z26 z31 6 ⟨by omega, by omega⟩ ⟨by omega, by omega⟩ ⟨by omega, by omega⟩ ⟨by omega, by omega⟩ (by first | assumption | exact (by assumption : LEX S)) _) ?_
  rintro _ T1 ⟨hHT1, w41, z40, rfl, w40, w35, w36, w37, w38, w39⟩
  have hFT1 : FR md_re_tellRelation S T1 := FR.tr hF w41 rfl
  show Rl _ _ _ _ _ [iv z40] _ _
  refine l_if_ne rfl rfl (by unfold rg; omega) (fun w42 => ?_) (fun w43 => ?_)
  · refine l_aload_n rfl rfl ?_
    refine l_iload_n rfl rfl ?_
    have w44 : Xi T1 5 6 = Xi S 5 6 := (show Xi T1 5 6 = Xi S 5 6 from w41.x _ _ rfl)
    refine l_callV rfl rfl rfl (t_re_kindMeant hHT1 ((Xi S 890 3) + 2) ⟨by omega, by omega⟩ (by first | assumption | exact (LEX_FR w41 rfl rfl (by assumption : LEX S))) _) ?_
    rintro _ _ ⟨rfl, z46, rfl, w46⟩
    show Rl _ _ _ _ _ [iv z46] _ _
    refine l_istore rfl rfl rfl ?_
    refine l_iload rfl rfl ?_
    refine l_iconst rfl ?_
    refine l_icmp_ne rfl rfl (by unfold rg; omega) (by unfold rg; omega) (fun w47 => ?_) (fun w48 => ?_)
    · refine l_aload_n rfl rfl ?_
      refine l_iload rfl rfl ?_
      refine l_callV rfl rfl rfl (t_re_kindMeant hHT1 (z16 + 2) ⟨by omega, by omega⟩ (by first | assumption | exact (LEX_FR w41 rfl rfl (by assumption : LEX S))) _) ?_
      rintro _ _ ⟨rfl, z51, rfl, w51⟩
      show Rl _ _ _ _ _ [iv z51] _ _
      refine l_istore rfl rfl rfl ?_
      refine l_iload rfl rfl ?_
      refine l_iconst rfl ?_
      refine l_icmp_ne rfl rfl (by unfold rg; omega) (by unfold rg; omega) (fun w52 => ?_) (fun w53 => ?_)
      · refine l_aload_n rfl rfl ?_
        refine l_gfr rfl rfl rfl rfl rfl (hHT1.r 891 2 1 rfl) ?_
        refine l_bipush rfl rfl ?_
        refine l_aload_n rfl rfl ?_
        refine l_gfr rfl rfl rfl rfl rfl (hHT1.r 891 0 876 rfl) ?_
        refine l_gfr rfl rfl rfl rfl rfl (hHT1.r 876 2 879 rfl) ?_
        refine l_iload_n rfl rfl ?_
        refine l_aload_n rfl rfl ?_
        refine l_gfr rfl rfl rfl rfl rfl (hHT1.r 891 0 876 rfl) ?_
        refine l_iload_n rfl rfl ?_
        have w56 : Xi T1 876 7 = Xi S 876 7 := (show Xi T1 876 7 = Xi S 876 7 from w41.x _ _ rfl)
        refine l_callV rfl rfl rfl (t_to_runEnd hHT1 z5 ⟨by omega, by omega⟩ _) ?_
        rintro _ _ ⟨rfl, z65, rfl, w65, w58, w59, w60, w61, w62, w63, w64⟩
        clear w60 w61 w62 w63
        show Rl _ _ _ _ _ [iv z65, iv z5, .ref 879, iv 6, .ref 1] _ _
        have hWp : WI T1 := (WI_FR hH w41 rfl rfl rfl rfl rfl rfl rfl rfl rfl (by assumption : WI S))
        have hHp := hHT1
        refine l_callV rfl rfl rfl (t_vo_tellNew hHT1 6 879 5130 z5 z65 ⟨by omega, by omega⟩ rfl ⟨by omega, by omega⟩ ⟨by omega, by omega⟩ ⟨by omega, by omega⟩ (by first | assumption | exact (LEX_FR w41 rfl rfl (by assumption : LEX S))) (show Xi T1 5 6 + 1 ≤ 6 by first | omega | (have hz : Xi T1 5 6 = Xi T1 5 (6 : Int).toNat := rfl; omega)) (by first | assumption | omega) _) ?_
        rintro _ T2 ⟨hHT2, w74, z73, rfl, w73, w68, w69, w70, w71, w72⟩
        have hFT2 : FR md_re_tellRelation S T2 := FR.tr hFT1 w74 rfl
        show Rl _ _ _ _ _ [iv z73] _ _
        have hz6 : z73 = Xi T1 5 6 := by have t := (by assumption : z73 = Xi T1 5 (6 : Int).toNat); exact t
        have hc6 : Xi T2 5 6 = Xi T1 5 6 + 1 := by have t := (by assumption : Xi T2 5 (6 : Int).toNat = Xi T1 5 (6 : Int).toNat + 1); exact t
        have hWt : WI T2 := WI_tn (s := 6) hHp (by assumption : FR md_vo_tellNew T1 T2) (by assumption) (by assumption) (by assumption) (by decide) (by decide) hWp
        refine l_istore rfl rfl rfl ?_
        refine l_aload_n rfl rfl ?_
        refine l_gfr rfl rfl rfl rfl rfl (hHT2.r 891 2 1 rfl) ?_
        refine l_gfr rfl rfl rfl rfl rfl (hHT2.r 1 13 14 rfl) ?_
        refine l_iload rfl rfl ?_
        refine l_iload rfl rfl ?_
        refine l_iastore (n := 6) rfl rfl (by omega) (by omega) (by unfold rg; omega) ?_
        obtain ⟨U3, eU3⟩ : ∃ T : sS, T = uI T2 14 ((z73).toNat) (Int32.ofInt z46) := ⟨_, rfl⟩
        rw [← eU3]
        have hHU3 : HI U3 := by rw [eU3]; exact HI_w hHT2 (show 0 ≤ z46 by omega) (show z46 ≤ 15 by omega)
        have hFU3 : FR md_re_tellRelation S U3 := by rw [eU3]; exact FR.wI hFT2 (mdf_i (r := (14, 15, 0, 100000)) (List.mem_of_getElem? (i := 5) rfl) (inR_i (by omega) (by omega) (by omega) (by omega)))
        have w75 : Xi U3 14 ((z73).toNat) = z46 := by rw [eU3]; exact Xi_same (by unfold rg; omega)
        refine l_aload_n rfl rfl ?_
        refine l_gfr rfl rfl rfl rfl rfl (hHU3.r 891 2 1 rfl) ?_
        refine l_gfr rfl rfl rfl rfl rfl (hHU3.r 1 14 15 rfl) ?_
        refine l_iload rfl rfl ?_
        refine l_iload rfl rfl ?_
        refine l_iastore (n := 6) rfl rfl (by omega) (by omega) (by unfold rg; omega) ?_
        obtain ⟨U4, eU4⟩ : ∃ T : sS, T = uI U3 15 ((z73).toNat) (Int32.ofInt z51) := ⟨_, rfl⟩
        rw [← eU4]
        have hHU4 : HI U4 := by rw [eU4]; exact HI_w hHU3 (show 0 ≤ z51 by omega) (show z51 ≤ 15 by omega)
        have hFU4 : FR md_re_tellRelation S U4 := by rw [eU4]; exact FR.wI hFU3 (mdf_i (r := (15, 16, 0, 100000)) (List.mem_of_getElem? (i := 6) rfl) (inR_i (by omega) (by omega) (by omega) (by omega)))
        have w76 : Xi U4 15 ((z73).toNat) = z51 := by rw [eU4]; exact Xi_same (by unfold rg; omega)
        refine l_aload_n rfl rfl ?_
        refine l_gfr rfl rfl rfl rfl rfl (hHU4.r 891 2 1 rfl) ?_
        refine l_gfr rfl rfl rfl rfl rfl (hHU4.r 1 15 16 rfl) ?_
        refine l_iload rfl rfl ?_
        refine l_aload_n rfl rfl ?_
        refine l_gfr rfl rfl rfl rfl rfl (hHU4.r 891 0 876 rfl) ?_
        refine l_iload_n rfl rfl ?_
        refine l_iconst rfl ?_
        refine l_isub rfl ?_
        have w77 : Xi U4 5 6 = Xi T2 5 6 := (show Xi U4 5 6 = Xi U3 5 6 from by rw [eU4]; exact Xi_ne (by omega)).trans ((show Xi U3 5 6 = Xi T2 5 6 from by rw [eU3]; exact Xi_ne (by omega)))
        have w78 : 0 ≤ Xi T2 5 6 ∧ Xi T2 5 6 ≤ 6 := hHT2.c _ _
        have w79 : Xi U4 876 7 = Xi S 876 7 := (show Xi U4 876 7 = Xi U3 876 7 from by rw [eU4]; exact Xi_ne (by omega)).trans ( (show Xi U3 876 7 = Xi T2 876 7 from by rw [eU3]; exact Xi_ne (by omega)).trans ( (show Xi T2 876 7 = Xi T1 876 7 from w74.x _ _ rfl).trans ((show Xi T1 876 7 = Xi S 876 7 from w41.x _ _ rfl))))
        refine l_callV rfl rfl rfl (t_to_typeAt hHU4 (((Xi S 890 3) + 2) - 1) ⟨by omega, by omega⟩ _) ?_
        rintro _ _ ⟨rfl, z84, rfl, w84, w81, w82, w83⟩
        clear w82 w83
        show Rl _ _ _ _ _ [iv z84, iv z73, .ref 16] _ _
        refine l_bipush rfl rfl ?_
        refine l_icmp_ne rfl rfl (by unfold rg; omega) (by unfold rg; omega) (fun w85 => ?_) (fun w86 => ?_)
        · refine l_iconst rfl ?_
          refine l_bastoreZ1 (n := 6) rfl rfl (by omega) (by omega) (by unfold rg; omega) ⟨by omega, by omega⟩ ?_
          obtain ⟨U5, eU5⟩ : ∃ T : sS, T = uI U4 16 ((z73).toNat) (Int32.ofInt 0) := ⟨_, rfl⟩
          rw [← eU5]
          have hHU5 : HI U5 := by rw [eU5]; exact HI_w hHU4 (show 0 ≤ 0 by omega) (show 0 ≤ 1 by omega)
          have hFU5 : FR md_re_tellRelation S U5 := by rw [eU5]; exact FR.wI hFU4 (mdf_i (r := (16, 17, 0, 100000)) (List.mem_of_getElem? (i := 7) rfl) (inR_i (by omega) (by omega) (by omega) (by omega)))
          have w87 : Xi U5 16 ((z73).toNat) = 0 := by rw [eU5]; exact Xi_same (by unfold rg; omega)
          refine l_aload_n rfl rfl ?_
          refine l_gfr rfl rfl rfl rfl rfl (hHU5.r 891 2 1 rfl) ?_
          refine l_gfr rfl rfl rfl rfl rfl (hHU5.r 1 16 17 rfl) ?_
          refine l_iload rfl rfl ?_
          refine l_aload_n rfl rfl ?_
          refine l_gfr rfl rfl rfl rfl rfl (hHU5.r 891 0 876 rfl) ?_
          refine l_iload rfl rfl ?_
          refine l_iconst rfl ?_
          refine l_isub rfl ?_
          have w88 : Xi U5 5 6 = Xi T2 5 6 := (show Xi U5 5 6 = Xi U4 5 6 from by rw [eU5]; exact Xi_ne (by omega)).trans ( (show Xi U4 5 6 = Xi U3 5 6 from by rw [eU4]; exact Xi_ne (by omega)).trans ((show Xi U3 5 6 = Xi T2 5 6 from by rw [eU3]; exact Xi_ne (by omega))))
          have w90 : Xi U5 876 7 = Xi S 876 7 := (show Xi U5 876 7 = Xi U4 876 7 from by rw [eU5]; exact Xi_ne (by omega)).trans ( (show Xi U4 876 7 = Xi U3 876 7 from by rw [eU4]; exact Xi_ne (by omega)).trans ( (show Xi U3 876 7 = Xi T2 876 7 from by rw [eU3]; exact Xi_ne (by omega)).trans ( (show Xi T2 876 7 = Xi T1 876 7 from w74.x _ _ rfl).trans ((show Xi T1 876 7 = Xi S 876 7 from w41.x _ _ rfl)))))
          refine l_callV rfl rfl rfl (t_to_typeAt hHU5 ((z16 + 2) - 1) ⟨by omega, by omega⟩ _) ?_
          rintro _ _ ⟨rfl, z95, rfl, w95, w92, w93, w94⟩
          clear w93 w94
          show Rl _ _ _ _ _ [iv z95, iv z73, .ref 17] _ _
          refine l_bipush rfl rfl ?_
          refine l_icmp_ne rfl rfl (by unfold rg; omega) (by unfold rg; omega) (fun w96 => ?_) (fun w97 => ?_)
          · refine l_iconst rfl ?_
            refine l_bastoreZ1 (n := 6) rfl rfl (by omega) (by omega) (by unfold rg; omega) ⟨by omega, by omega⟩ ?_
            obtain ⟨U6, eU6⟩ : ∃ T : sS, T = uI U5 17 ((z73).toNat) (Int32.ofInt 0) := ⟨_, rfl⟩
            rw [← eU6]
            have hHU6 : HI U6 := by rw [eU6]; exact HI_w hHU5 (show 0 ≤ 0 by omega) (show 0 ≤ 1 by omega)
            have hFU6 : FR md_re_tellRelation S U6 := by rw [eU6]; exact FR.wI hFU5 (mdf_i (r := (17, 18, 0, 100000)) (List.mem_of_getElem? (i := 8) rfl) (inR_i (by omega) (by omega) (by omega) (by omega)))
            have w98 : Xi U6 17 ((z73).toNat) = 0 := by rw [eU6]; exact Xi_same (by unfold rg; omega)
            refine l_iconst rfl ?_
            refine l_ireturn rfl rfl ?_
            have w99 : Xi U6 5 6 = Xi T2 5 6 := (show Xi U6 5 6 = Xi U5 5 6 from by rw [eU6]; exact Xi_ne (by omega)).trans ( (show Xi U5 5 6 = Xi U4 5 6 from by rw [eU5]; exact Xi_ne (by omega)).trans ( (show Xi U4 5 6 = Xi U3 5 6 from by rw [eU4]; exact Xi_ne (by omega)).trans ((show Xi U3 5 6 = Xi T2 5 6 from by rw [eU3]; exact Xi_ne (by omega)))))
            have w101 : Xi U6 876 8 = Xi T1 876 8 := (show Xi U6 876 8 = Xi U5 876 8 from by rw [eU6]; exact Xi_ne (by omega)).trans ( (show Xi U5 876 8 = Xi U4 876 8 from by rw [eU5]; exact Xi_ne (by omega)).trans ( (show Xi U4 876 8 = Xi U3 876 8 from by rw [eU4]; exact Xi_ne (by omega)).trans ( (show Xi U3 876 8 = Xi T2 876 8 from by rw [eU3]; exact Xi_ne (by omega)).trans ((show Xi T2 876 8 = Xi T1 876 8 from w74.x _ _ rfl)))))
            have w102 : 0 ≤ Xi T1 876 8 ∧ Xi T1 876 8 ≤ 9 := hHT1.c _ _
            exact ⟨hHU6, hFU6, _, rfl, ⟨by omega, by omega⟩, (by first | (intro hz; omega) | (intro _; assumption) | (intro _; exact (WI_FR hHU5 (FR_e eU6) rfl rfl rfl rfl rfl rfl rfl rfl rfl (WI_FR hHU4 (FR_e eU5) rfl rfl rfl rfl rfl rfl rfl rfl rfl (WI_FR hHU3 (FR_e eU4) rfl rfl rfl rfl rfl rfl rfl rfl rfl (WI_FR hHT2 (FR_e eU3) rfl rfl rfl rfl rfl rfl rfl rfl rfl (by assumption : WI T2))))))), (by omega)⟩
          · refine l_iconst rfl ?_
            refine l_goto rfl rfl ?_
            refine l_bastoreZ1 (n := 6) rfl rfl (by omega) (by omega) (by unfold rg; omega) ⟨by omega, by omega⟩ ?_
            obtain ⟨U7, eU7⟩ : ∃ T : sS, T = uI U5 17 ((z73).toNat) (Int32.ofInt 1) := ⟨_, rfl⟩
            rw [← eU7]
            have hHU7 : HI U7 := by rw [eU7]; exact HI_w hHU5 (show 0 ≤ 1 by omega) (show 1 ≤ 1 by omega)
            have hFU7 : FR md_re_tellRelation S U7 := by rw [eU7]; exact FR.wI hFU5 (mdf_i (r := (17, 18, 0, 100000)) (List.mem_of_getElem? (i := 8) rfl) (inR_i (by omega) (by omega) (by omega) (by omega)))
            have w103 : Xi U7 17 ((z73).toNat) = 1 := by rw [eU7]; exact Xi_same (by unfold rg; omega)
            refine l_iconst rfl ?_
            refine l_ireturn rfl rfl ?_
            have w104 : Xi U7 5 6 = Xi T2 5 6 := (show Xi U7 5 6 = Xi U5 5 6 from by rw [eU7]; exact Xi_ne (by omega)).trans ( (show Xi U5 5 6 = Xi U4 5 6 from by rw [eU5]; exact Xi_ne (by omega)).trans ( (show Xi U4 5 6 = Xi U3 5 6 from by rw [eU4]; exact Xi_ne (by omega)).trans ((show Xi U3 5 6 = Xi T2 5 6 from by rw [eU3]; exact Xi_ne (by omega)))))
            have w106 : Xi U7 876 8 = Xi T1 876 8 := (show Xi U7 876 8 = Xi U5 876 8 from by rw [eU7]; exact Xi_ne (by omega)).trans ( (show Xi U5 876 8 = Xi U4 876 8 from by rw [eU5]; exact Xi_ne (by omega)).trans ( (show Xi U4 876 8 = Xi U3 876 8 from by rw [eU4]; exact Xi_ne (by omega)).trans ( (show Xi U3 876 8 = Xi T2 876 8 from by rw [eU3]; exact Xi_ne (by omega)).trans ((show Xi T2 876 8 = Xi T1 876 8 from w74.x _ _ rfl)))))
            have w107 : 0 ≤ Xi T1 876 8 ∧ Xi T1 876 8 ≤ 9 := hHT1.c _ _
            exact ⟨hHU7, hFU7, _, rfl, ⟨by omega, by omega⟩, (by first | (intro hz; omega) | (intro _; assumption) | (intro _; exact (WI_FR hHU5 (FR_e eU7) rfl rfl rfl rfl rfl rfl rfl rfl rfl (WI_FR hHU4 (FR_e eU5) rfl rfl rfl rfl rfl rfl rfl rfl rfl (WI_FR hHU3 (FR_e eU4) rfl rfl rfl rfl rfl rfl rfl rfl rfl (WI_FR hHT2 (FR_e eU3) rfl rfl rfl rfl rfl rfl rfl rfl rfl (by assumption : WI T2))))))), (by omega)⟩
        · refine l_iconst rfl ?_
          refine l_goto rfl rfl ?_
          refine l_bastoreZ1 (n := 6) rfl rfl (by omega) (by omega) (by unfold rg; omega) ⟨by omega, by omega⟩ ?_
          obtain ⟨U8, eU8⟩ : ∃ T : sS, T = uI U4 16 ((z73).toNat) (Int32.ofInt 1) := ⟨_, rfl⟩
          rw [← eU8]
          have hHU8 : HI U8 := by rw [eU8]; exact HI_w hHU4 (show 0 ≤ 1 by omega) (show 1 ≤ 1 by omega)
          have hFU8 : FR md_re_tellRelation S U8 := by rw [eU8]; exact FR.wI hFU4 (mdf_i (r := (16, 17, 0, 100000)) (List.mem_of_getElem? (i := 7) rfl) (inR_i (by omega) (by omega) (by omega) (by omega)))
          have w108 : Xi U8 16 ((z73).toNat) = 1 := by rw [eU8]; exact Xi_same (by unfold rg; omega)
          refine l_aload_n rfl rfl ?_
          refine l_gfr rfl rfl rfl rfl rfl (hHU8.r 891 2 1 rfl) ?_
          refine l_gfr rfl rfl rfl rfl rfl (hHU8.r 1 16 17 rfl) ?_
          refine l_iload rfl rfl ?_
          refine l_aload_n rfl rfl ?_
          refine l_gfr rfl rfl rfl rfl rfl (hHU8.r 891 0 876 rfl) ?_
          refine l_iload rfl rfl ?_
          refine l_iconst rfl ?_
          refine l_isub rfl ?_
          have w109 : Xi U8 5 6 = Xi T2 5 6 := (show Xi U8 5 6 = Xi U4 5 6 from by rw [eU8]; exact Xi_ne (by omega)).trans ( (show Xi U4 5 6 = Xi U3 5 6 from by rw [eU4]; exact Xi_ne (by omega)).trans ((show Xi U3 5 6 = Xi T2 5 6 from by rw [eU3]; exact Xi_ne (by omega))))
          have w111 : Xi U8 876 7 = Xi S 876 7 := (show Xi U8 876 7 = Xi U4 876 7 from by rw [eU8]; exact Xi_ne (by omega)).trans ( (show Xi U4 876 7 = Xi U3 876 7 from by rw [eU4]; exact Xi_ne (by omega)).trans ( (show Xi U3 876 7 = Xi T2 876 7 from by rw [eU3]; exact Xi_ne (by omega)).trans ( (show Xi T2 876 7 = Xi T1 876 7 from w74.x _ _ rfl).trans ((show Xi T1 876 7 = Xi S 876 7 from w41.x _ _ rfl)))))
          refine l_callV rfl rfl rfl (t_to_typeAt hHU8 ((z16 + 2) - 1) ⟨by omega, by omega⟩ _) ?_
          rintro _ _ ⟨rfl, z116, rfl, w116, w113, w114, w115⟩
          clear w114 w115
          show Rl _ _ _ _ _ [iv z116, iv z73, .ref 17] _ _
          refine l_bipush rfl rfl ?_
          refine l_icmp_ne rfl rfl (by unfold rg; omega) (by unfold rg; omega) (fun w117 => ?_) (fun w118 => ?_)
          · refine l_iconst rfl ?_
            refine l_bastoreZ1 (n := 6) rfl rfl (by omega) (by omega) (by unfold rg; omega) ⟨by omega, by omega⟩ ?_
            obtain ⟨U9, eU9⟩ : ∃ T : sS, T = uI U8 17 ((z73).toNat) (Int32.ofInt 0) := ⟨_, rfl⟩
            rw [← eU9]
            have hHU9 : HI U9 := by rw [eU9]; exact HI_w hHU8 (show 0 ≤ 0 by omega) (show 0 ≤ 1 by omega)
            have hFU9 : FR md_re_tellRelation S U9 := by rw [eU9]; exact FR.wI hFU8 (mdf_i (r := (17, 18, 0, 100000)) (List.mem_of_getElem? (i := 8) rfl) (inR_i (by omega) (by omega) (by omega) (by omega)))
            have w119 : Xi U9 17 ((z73).toNat) = 0 := by rw [eU9]; exact Xi_same (by unfold rg; omega)
            refine l_iconst rfl ?_
            refine l_ireturn rfl rfl ?_
            have w120 : Xi U9 5 6 = Xi T2 5 6 := (show Xi U9 5 6 = Xi U8 5 6 from by rw [eU9]; exact Xi_ne (by omega)).trans ( (show Xi U8 5 6 = Xi U4 5 6 from by rw [eU8]; exact Xi_ne (by omega)).trans ( (show Xi U4 5 6 = Xi U3 5 6 from by rw [eU4]; exact Xi_ne (by omega)).trans ((show Xi U3 5 6 = Xi T2 5 6 from by rw [eU3]; exact Xi_ne (by omega)))))
            have w122 : Xi U9 876 8 = Xi T1 876 8 := (show Xi U9 876 8 = Xi U8 876 8 from by rw [eU9]; exact Xi_ne (by omega)).trans ( (show Xi U8 876 8 = Xi U4 876 8 from by rw [eU8]; exact Xi_ne (by omega)).trans ( (show Xi U4 876 8 = Xi U3 876 8 from by rw [eU4]; exact Xi_ne (by omega)).trans ( (show Xi U3 876 8 = Xi T2 876 8 from by rw [eU3]; exact Xi_ne (by omega)).trans ((show Xi T2 876 8 = Xi T1 876 8 from w74.x _ _ rfl)))))
            have w123 : 0 ≤ Xi T1 876 8 ∧ Xi T1 876 8 ≤ 9 := hHT1.c _ _
            exact ⟨hHU9, hFU9, _, rfl, ⟨by omega, by omega⟩, (by first | (intro hz; omega) | (intro _; assumption) | (intro _; exact (WI_FR hHU8 (FR_e eU9) rfl rfl rfl rfl rfl rfl rfl rfl rfl (WI_FR hHU4 (FR_e eU8) rfl rfl rfl rfl rfl rfl rfl rfl rfl (WI_FR hHU3 (FR_e eU4) rfl rfl rfl rfl rfl rfl rfl rfl rfl (WI_FR hHT2 (FR_e eU3) rfl rfl rfl rfl rfl rfl rfl rfl rfl (by assumption : WI T2))))))), (by omega)⟩
          · refine l_iconst rfl ?_
            refine l_goto rfl rfl ?_
            refine l_bastoreZ1 (n := 6) rfl rfl (by omega) (by omega) (by unfold rg; omega) ⟨by omega, by omega⟩ ?_
            obtain ⟨U10, eU10⟩ : ∃ T : sS, T = uI U8 17 ((z73).toNat) (Int32.ofInt 1) := ⟨_, rfl⟩
            rw [← eU10]
            have hHU10 : HI U10 := by rw [eU10]; exact HI_w hHU8 (show 0 ≤ 1 by omega) (show 1 ≤ 1 by omega)
            have hFU10 : FR md_re_tellRelation S U10 := by rw [eU10]; exact FR.wI hFU8 (mdf_i (r := (17, 18, 0, 100000)) (List.mem_of_getElem? (i := 8) rfl) (inR_i (by omega) (by omega) (by omega) (by omega)))
            have w124 : Xi U10 17 ((z73).toNat) = 1 := by rw [eU10]; exact Xi_same (by unfold rg; omega)
            refine l_iconst rfl ?_
            refine l_ireturn rfl rfl ?_
            have w125 : Xi U10 5 6 = Xi T2 5 6 := (show Xi U10 5 6 = Xi U8 5 6 from by rw [eU10]; exact Xi_ne (by omega)).trans ( (show Xi U8 5 6 = Xi U4 5 6 from by rw [eU8]; exact Xi_ne (by omega)).trans ( (show Xi U4 5 6 = Xi U3 5 6 from by rw [eU4]; exact Xi_ne (by omega)).trans ((show Xi U3 5 6 = Xi T2 5 6 from by rw [eU3]; exact Xi_ne (by omega)))))
            have w127 : Xi U10 876 8 = Xi T1 876 8 := (show Xi U10 876 8 = Xi U8 876 8 from by rw [eU10]; exact Xi_ne (by omega)).trans ( (show Xi U8 876 8 = Xi U4 876 8 from by rw [eU8]; exact Xi_ne (by omega)).trans ( (show Xi U4 876 8 = Xi U3 876 8 from by rw [eU4]; exact Xi_ne (by omega)).trans ( (show Xi U3 876 8 = Xi T2 876 8 from by rw [eU3]; exact Xi_ne (by omega)).trans ((show Xi T2 876 8 = Xi T1 876 8 from w74.x _ _ rfl)))))
            have w128 : 0 ≤ Xi T1 876 8 ∧ Xi T1 876 8 ≤ 9 := hHT1.c _ _
            exact ⟨hHU10, hFU10, _, rfl, ⟨by omega, by omega⟩, (by first | (intro hz; omega) | (intro _; assumption) | (intro _; exact (WI_FR hHU8 (FR_e eU10) rfl rfl rfl rfl rfl rfl rfl rfl rfl (WI_FR hHU4 (FR_e eU8) rfl rfl rfl rfl rfl rfl rfl rfl rfl (WI_FR hHU3 (FR_e eU4) rfl rfl rfl rfl rfl rfl rfl rfl rfl (WI_FR hHT2 (FR_e eU3) rfl rfl rfl rfl rfl rfl rfl rfl rfl (by assumption : WI T2))))))), (by omega)⟩
      · refine l_aload_n rfl rfl ?_
        refine l_gfr rfl rfl rfl rfl rfl (hHT1.r 891 0 876 rfl) ?_
        refine l_iconst rfl ?_
        refine l_iload rfl rfl ?_
        refine l_callV rfl rfl rfl (t_to_wrong hHT1 4 (z16 + 2) ⟨by omega, by omega⟩ ⟨by omega, by omega⟩ _) ?_
        rintro _ T11 ⟨hHT11, w134, z133, rfl, w133, w131, w132⟩
        have hFT11 : FR md_re_tellRelation S T11 := FR.tr hFT1 w134 rfl
        show Rl _ _ _ _ _ [iv z133] _ _
        refine l_ireturn rfl (retI_z (by omega)) ?_
        have w135 : Xi T11 5 6 = Xi S 5 6 := (show Xi T11 5 6 = Xi T1 5 6 from w134.x _ _ rfl).trans ((show Xi T1 5 6 = Xi S 5 6 from w41.x _ _ rfl))
        have w137 : 0 ≤ Xi T11 876 8 ∧ Xi T11 876 8 ≤ 9 := hHT11.c _ _
        exact ⟨hHT11, hFT11, _, rfl, ⟨by omega, by omega⟩, (by first | (intro hz; omega) | (intro _; assumption) | (intro _; exact (WI_FR hHT1 w134 rfl rfl rfl rfl rfl rfl rfl rfl rfl (WI_FR hH w41 rfl rfl rfl rfl rfl rfl rfl rfl rfl (by assumption : WI S))))), (by omega)⟩
    · refine l_aload_n rfl rfl ?_
      refine l_gfr rfl rfl rfl rfl rfl (hHT1.r 891 0 876 rfl) ?_
      refine l_iconst rfl ?_
      refine l_iload_n rfl rfl ?_
      refine l_callV rfl rfl rfl (t_to_wrong hHT1 4 ((Xi S 890 3) + 2) ⟨by omega, by omega⟩ ⟨by omega, by omega⟩ _) ?_
      rintro _ T12 ⟨hHT12, w143, z142, rfl, w142, w140, w141⟩
      have hFT12 : FR md_re_tellRelation S T12 := FR.tr hFT1 w143 rfl
      show Rl _ _ _ _ _ [iv z142] _ _
      refine l_ireturn rfl (retI_z (by omega)) ?_
      have w144 : Xi T12 5 6 = Xi S 5 6 := (show Xi T12 5 6 = Xi T1 5 6 from w143.x _ _ rfl).trans ((show Xi T1 5 6 = Xi S 5 6 from w41.x _ _ rfl))
      have w146 : 0 ≤ Xi T12 876 8 ∧ Xi T12 876 8 ≤ 9 := hHT12.c _ _
      exact ⟨hHT12, hFT12, _, rfl, ⟨by omega, by omega⟩, (by first | (intro hz; omega) | (intro _; assumption) | (intro _; exact (WI_FR hHT1 w143 rfl rfl rfl rfl rfl rfl rfl rfl rfl (WI_FR hH w41 rfl rfl rfl rfl rfl rfl rfl rfl rfl (by assumption : WI S))))), (by omega)⟩
  · refine l_iconst rfl ?_
    refine l_ireturn rfl rfl ?_
    have w147 : Xi T1 5 6 = Xi S 5 6 := (show Xi T1 5 6 = Xi S 5 6 from w41.x _ _ rfl)
    have w149 : 0 ≤ Xi T1 876 8 ∧ Xi T1 876 8 ≤ 9 := hHT1.c _ _
    exact ⟨hHT1, hFT1, _, rfl, ⟨by omega, by omega⟩, (by first | (intro hz; omega) | (intro _; assumption) | (intro _; exact (WI_FR hH w41 rfl rfl rfl rfl rfl rfl rfl rfl rfl (by assumption : WI S)))), (by omega)⟩
def md_re_relateAll : List rec := [(189, 195, 0, 100000)]
abbrev Q_re_relateAll (S : sS) (rl : Int) (verb : Int) (end_ : Int) : pst := fun r S1 => HI S1 ∧ FR md_re_relateAll S S1 ∧ (∃ z : Int, r = some (iv z) ∧ (0 ≤ z ∧ z ≤ 1))
set_option maxRecDepth 100000 in
theorem t_re_relateAll {S : sS} (hH : HI S) (rl : Int) (verb : Int) (end_ : Int) (hrl : 0 ≤ rl ∧ rl ≤ 5) (hverb : 0 ≤ verb ∧ verb ≤ 5125) (hend_ : 0 ≤ end_ ∧ end_ ≤ 5125) (hL : LEX S) (d : Nat) : Mt lay0 (d + 3) m_re_relateAll [.ref 891, iv rl, iv verb, iv end_] S (Q_re_relateAll S rl verb end_) := by
  refine Mt_R rfl rfl ?_
  have hF : FR md_re_relateAll S S := FR.rf
  have C3 : ∀ (n3 : Nat) (T1 : sS) (_ : HI T1) (_ : FR md_re_relateAll S T1) (v4 : Int), (0 ≤ v4 ∧ v4 ≤ 5125) → n3 = (5126 - v4).toNat → Rl lay0 (d + 2) m_re_relateAll 3 [(0, .ref 891), (1, iv rl), (2, iv verb), (3, iv end_), (4, iv v4)] [] T1 (Q_re_relateAll S rl verb end_) := by
    intro n3
    induction n3 using Nat.strongRecOn with
    | ind n3 ih3 =>
      intro T1 hHT1 hFT1 v4 w1 hm3
      have w2 : Xi T1 876 7 = Xi S 876 7 := hFT1.x _ _ rfl
      have C53 : ∀ (n53 : Nat) (T2 : sS) (_ : HI T2) (_ : FR md_re_relateAll S T2) (v4 : Int) (v5 : Int) (v6 : Int), (0 ≤ v4 ∧ v4 ≤ 5125) → (-1 ≤ v5 ∧ v5 ≤ 23) → (2 ≤ v6 ∧ v6 ≤ 5126) → (v4 < verb) → ((5126 - v4).toNat ≤ n3) → n53 = (5127 - v6).toNat → Rl lay0 (d + 2) m_re_relateAll 53 [(0, .ref 891), (1, iv rl), (2, iv verb), (3, iv end_), (4, iv v4), (5, iv v5), (6, iv v6)] [] T2 (Q_re_relateAll S rl verb end_) := by
        intro n53
        induction n53 using Nat.strongRecOn with
        | ind n53 ih53 =>
          intro T2 hHT2 hFT2 v4 v5 v6 w3 w4 w5 w6 w7 hm53
          have w8 : Xi T2 876 7 = Xi S 876 7 := hFT2.x _ _ rfl
          refine l_iload rfl rfl ?_
          refine l_iload_n rfl rfl ?_
          refine l_icmp_ge rfl rfl (by unfold rg; omega) (by unfold rg; omega) (fun w9 => ?_) (fun w10 => ?_)
          · refine l_iinc rfl rfl rfl rfl ?_
            refine l_goto rfl rfl ?_
            exact Rl_weak (ih3 _ (by omega) T2 hHT2 hFT2 ((v4 + 1)) (by omega) rfl) (And.intro rfl (And.intro rfl (And.intro rfl (And.intro rfl (And.intro rfl (True.intro))))))
          · refine l_iload rfl rfl ?_
            refine l_iconst rfl ?_
            refine l_icmp_eq rfl rfl (by unfold rg; omega) (by unfold rg; omega) (fun w11 => ?_) (fun w12 => ?_)
            · refine l_iinc rfl rfl rfl rfl ?_
              refine l_goto rfl rfl ?_
              exact Rl_weak (ih3 _ (by omega) T2 hHT2 hFT2 ((v4 + 1)) (by omega) rfl) (And.intro rfl (And.intro rfl (And.intro rfl (And.intro rfl (And.intro rfl (True.intro))))))
            · refine l_aload_n rfl rfl ?_
              refine l_gfr rfl rfl rfl rfl rfl (hHT2.r 891 0 876 rfl) ?_
              refine l_iload rfl rfl ?_
              refine l_iload_n rfl rfl ?_
              refine l_iconst rfl ?_
              refine l_iadd rfl ?_
              have w13 : 0 ≤ Xi T2 876 7 ∧ Xi T2 876 7 ≤ 5125 := hHT2.c _ _
              refine l_callV rfl rfl rfl (t_to_beginsRun hHT2 v6 (verb + 1) ⟨by omega, by omega⟩ ⟨by omega, by omega⟩ _) ?_
              rintro _ _ ⟨rfl, z16, rfl, w16, w14, w15⟩
              show Rl _ _ _ _ _ [iv z16] _ _
              refine l_if_eq rfl rfl (by unfold rg; omega) (fun w17 => ?_) (fun w18 => ?_)
              · refine l_iconst rfl ?_
                refine l_istore rfl rfl rfl ?_
                refine l_iload rfl rfl ?_
                refine l_iconst rfl ?_
                refine l_icmp_eq rfl rfl (by unfold rg; omega) (by unfold rg; omega) (fun w19 => ?_) (fun w20 => absurd w20 (by omega))
                · refine l_iinc rfl rfl rfl rfl ?_
                  refine l_goto rfl rfl ?_
                  exact Rl_weak (ih53 _ (by omega) T2 hHT2 hFT2 (v4) (v5) ((v6 + 1)) (by omega) (by omega) (by omega) (by omega) (by omega) rfl) (And.intro rfl (And.intro rfl (And.intro rfl (And.intro rfl (And.intro rfl (And.intro rfl (And.intro rfl (True.intro))))))))
              · refine l_aload_n rfl rfl ?_
                refine l_gfr rfl rfl rfl rfl rfl (hHT2.r 891 4 895 rfl) ?_
                refine l_iconst rfl ?_
                refine l_iload rfl rfl ?_
                refine l_aload_n rfl rfl ?_
                refine l_gfr rfl rfl rfl rfl rfl (hHT2.r 891 0 876 rfl) ?_
                refine l_iload rfl rfl ?_
                refine l_callV rfl rfl rfl (t_to_runEnd hHT2 v6 ⟨by omega, by omega⟩ _) ?_
                rintro _ _ ⟨rfl, z29, rfl, w29, w22, w23, w24, w25, w26, w27, w28⟩
                clear w24 w25 w26 w27
                show Rl _ _ _ _ _ [iv z29, iv v6, iv 2, .ref 895] _ _
                refine l_callV rfl rfl rfl (t_me_find hHT2 2 v6 z29 ⟨by omega, by omega⟩ ⟨by omega, by omega⟩ ⟨by omega, by omega⟩ (by first | assumption | exact (LEX_FR hFT2 rfl rfl (by assumption : LEX S))) _) ?_
                rintro _ _ ⟨rfl, z33, rfl, w33, w30, w31, w32⟩
                have w34 : z33 ≠ -1 → _ := fun h => fb2 hHT2 (w30 h)
                clear w31
                show Rl _ _ _ _ _ [iv z33] _ _
                refine l_goto rfl rfl ?_
                refine l_istore rfl rfl rfl ?_
                refine l_iload rfl rfl ?_
                refine l_iconst rfl ?_
                refine l_icmp_eq rfl rfl (by unfold rg; omega) (by unfold rg; omega) (fun w35 => ?_) (fun w36 => ?_)
                · refine l_iinc rfl rfl rfl rfl ?_
                  refine l_goto rfl rfl ?_
                  exact Rl_weak (ih53 _ (by omega) T2 hHT2 hFT2 (v4) (v5) ((v6 + 1)) (by omega) (by omega) (by omega) (by omega) (by omega) rfl) (And.intro rfl (And.intro rfl (And.intro rfl (And.intro rfl (And.intro rfl (And.intro rfl (And.intro rfl (True.intro))))))))
                · refine l_aload_n rfl rfl ?_
                  refine l_gfr rfl rfl rfl rfl rfl (hHT2.r 891 3 20 rfl) ?_
                  refine l_iload_n rfl rfl ?_
                  refine l_iload rfl rfl ?_
                  refine l_iload rfl rfl ?_
                  refine l_callV rfl rfl rfl (t_wo_tellRelated hHT2 rl v5 z33 ⟨by omega, by omega⟩ ⟨by omega, by omega⟩ ⟨by omega, by omega⟩ _) ?_
                  rintro _ T3 ⟨hHT3, w38, z37, rfl, w37⟩
                  have hFT3 : FR md_re_relateAll S T3 := FR.tr hFT2 w38 rfl
                  show Rl _ _ _ _ _ [iv z37] _ _
                  refine l_if_ne rfl rfl (by unfold rg; omega) (fun w39 => ?_) (fun w40 => ?_)
                  · refine l_iinc rfl rfl rfl rfl ?_
                    refine l_goto rfl rfl ?_
                    exact Rl_weak (ih53 _ (by omega) T3 hHT3 hFT3 (v4) (v5) ((v6 + 1)) (by omega) (by omega) (by omega) (by omega) (by omega) rfl) (And.intro rfl (And.intro rfl (And.intro rfl (And.intro rfl (And.intro rfl (And.intro rfl (And.intro rfl (True.intro))))))))
                  · refine l_iconst rfl ?_
                    refine l_ireturn rfl rfl ?_
                    exact ⟨hHT3, hFT3, _, rfl, ⟨by omega, by omega⟩⟩
      refine l_iload rfl rfl ?_
      refine l_iload_n rfl rfl ?_
      refine l_icmp_ge rfl rfl (by unfold rg; omega) (by unfold rg; omega) (fun w41 => ?_) (fun w42 => ?_)
      · refine l_iconst rfl ?_
        refine l_ireturn rfl rfl ?_
        exact ⟨hHT1, hFT1, _, rfl, ⟨by omega, by omega⟩⟩
      · refine l_aload_n rfl rfl ?_
        refine l_gfr rfl rfl rfl rfl rfl (hHT1.r 891 0 876 rfl) ?_
        refine l_iload rfl rfl ?_
        refine l_iconst rfl ?_
        have w43 : 0 ≤ Xi T1 876 7 ∧ Xi T1 876 7 ≤ 5125 := hHT1.c _ _
        refine l_callV rfl rfl rfl (t_to_beginsRun hHT1 v4 0 ⟨by omega, by omega⟩ ⟨by omega, by omega⟩ _) ?_
        rintro _ _ ⟨rfl, z46, rfl, w46, w44, w45⟩
        show Rl _ _ _ _ _ [iv z46] _ _
        refine l_if_eq rfl rfl (by unfold rg; omega) (fun w47 => ?_) (fun w48 => ?_)
        · refine l_iconst rfl ?_
          refine l_istore rfl rfl rfl ?_
          refine l_iload_n rfl rfl ?_
          refine l_iconst rfl ?_
          refine l_iadd rfl ?_
          refine l_istore rfl rfl rfl ?_
          exact Rl_weak (C53 _ T1 hHT1 hFT1 (v4) ((-1)) ((verb + 1)) (by omega) (by omega) (by omega) (by omega) (by omega) rfl) (And.intro rfl (And.intro rfl (And.intro rfl (And.intro rfl (And.intro rfl (And.intro rfl (And.intro rfl (True.intro))))))))
        · refine l_aload_n rfl rfl ?_
          refine l_gfr rfl rfl rfl rfl rfl (hHT1.r 891 4 895 rfl) ?_
          refine l_iconst rfl ?_
          refine l_iload rfl rfl ?_
          refine l_aload_n rfl rfl ?_
          refine l_gfr rfl rfl rfl rfl rfl (hHT1.r 891 0 876 rfl) ?_
          refine l_iload rfl rfl ?_
          refine l_iload_n rfl rfl ?_
          refine l_callV rfl rfl rfl (t_to_runEndUpTo hHT1 v4 verb ⟨by omega, by omega⟩ ⟨by omega, by omega⟩ _) ?_
          rintro _ _ ⟨rfl, z57, rfl, w57, w50, w51, w52, w53, w54, w55, w56⟩
          clear w52 w53 w54 w55
          show Rl _ _ _ _ _ [iv z57, iv v4, iv 2, .ref 895] _ _
          refine l_callV rfl rfl rfl (t_me_find hHT1 2 v4 z57 ⟨by omega, by omega⟩ ⟨by omega, by omega⟩ ⟨by omega, by omega⟩ (by first | assumption | exact (LEX_FR hFT1 rfl rfl (by assumption : LEX S))) _) ?_
          rintro _ _ ⟨rfl, z61, rfl, w61, w58, w59, w60⟩
          have w62 : z61 ≠ -1 → _ := fun h => fb2 hHT1 (w58 h)
          clear w59
          show Rl _ _ _ _ _ [iv z61] _ _
          refine l_goto rfl rfl ?_
          refine l_istore rfl rfl rfl ?_
          refine l_iload_n rfl rfl ?_
          refine l_iconst rfl ?_
          refine l_iadd rfl ?_
          refine l_istore rfl rfl rfl ?_
          exact Rl_weak (C53 _ T1 hHT1 hFT1 (v4) (z61) ((verb + 1)) (by omega) (by omega) (by omega) (by omega) (by omega) rfl) (And.intro rfl (And.intro rfl (And.intro rfl (And.intro rfl (And.intro rfl (And.intro rfl (And.intro rfl (True.intro))))))))
  refine l_iconst rfl ?_
  refine l_istore rfl rfl rfl ?_
  exact Rl_weak (C3 _ S hH hF (0) (by omega) rfl) (And.intro rfl (And.intro rfl (And.intro rfl (And.intro rfl (And.intro rfl (True.intro))))))
def md_re_takeObjects : List rec := [(876, 877, 8, 9), (876, 877, 9, 10), (891, 892, 9, 10), (892, 893, 0, 100000), (893, 894, 0, 100000)]
abbrev Q_re_takeObjects (S : sS) : pst := fun r S1 => HI S1 ∧ FR md_re_takeObjects S S1 ∧ (∃ z : Int, r = some (iv z) ∧ (0 ≤ z ∧ z ≤ 1) ∧ (z = 1 → NWO S1 (Xi S 890 3)) ∧ (z = 0 → Xi S1 876 8 ≠ 0))
set_option maxRecDepth 100000 in
theorem t_re_takeObjects {S : sS} (hH : HI S) (hL : LEX S) (hn0 : Xi S 891 9 = 0) (d : Nat) : Mt lay0 (d + 4) m_re_takeObjects [.ref 891] S (Q_re_takeObjects S) := by
  refine Mt_R rfl rfl ?_
  have hF : FR md_re_takeObjects S S := FR.rf
  have w1 : -1 ≤ Xi S 890 3 ∧ Xi S 890 3 ≤ 5124 := hH.c _ _
  have w2 : 0 ≤ Xi S 891 9 ∧ Xi S 891 9 ≤ 24 := hH.c _ _
  have C2 : ∀ (n2 : Nat) (T1 : sS) (_ : HI T1) (_ : FR md_re_takeObjects S T1) (v1 : Int), (0 ≤ v1 ∧ v1 ≤ 5124) → (v1 = 0 ∨ v1 ≤ Xi S 890 3) → (NWO T1 v1) → n2 = (5125 - v1).toNat → Rl lay0 (d + 3) m_re_takeObjects 2 [(0, .ref 891), (1, iv v1)] [] T1 (Q_re_takeObjects S) := by
    intro n2
    induction n2 using Nat.strongRecOn with
    | ind n2 ih2 =>
      intro T1 hHT1 hFT1 v1 w3 w4 hn2 hm2
      have w5 : Xi T1 5 2 = Xi S 5 2 := hFT1.x _ _ rfl
      have w6 : Xi T1 876 7 = Xi S 876 7 := hFT1.x _ _ rfl
      have w7 : Xi T1 890 3 = Xi S 890 3 := hFT1.x _ _ rfl
      refine l_iload_n rfl rfl ?_
      refine l_aload_n rfl rfl ?_
      refine l_gfr rfl rfl rfl rfl rfl (hHT1.r 891 1 890 rfl) ?_
      refine l_gfi rfl rfl rfl rfl rfl ?_
      refine l_icmp_ge rfl rfl (by unfold rg; omega) (by unfold rg; omega) (fun w8 => ?_) (fun w9 => ?_)
      · refine l_iconst rfl ?_
        refine l_ireturn rfl rfl ?_
        have w10 : 0 ≤ Xi T1 876 8 ∧ Xi T1 876 8 ≤ 9 := hHT1.c _ _
        exact ⟨hHT1, hFT1, _, rfl, ⟨by omega, by omega⟩, (by first | (intro hz; omega) | (intro _; exact nwo_x hHT1 hn2 (by omega))), (by omega)⟩
      · refine l_aload_n rfl rfl ?_
        refine l_iload_n rfl rfl ?_
        have w11 : 0 ≤ Xi T1 876 7 ∧ Xi T1 876 7 ≤ 5125 := hHT1.c _ _
        have w12 : -1 ≤ Xi T1 890 3 ∧ Xi T1 890 3 ≤ 5124 := hHT1.c _ _
        refine l_callV rfl rfl rfl (t_re_beginsName hHT1 v1 ⟨by omega, by omega⟩ _) ?_
        rintro _ _ ⟨rfl, z15, rfl, w15, w13, w14⟩
        show Rl _ _ _ _ _ [iv z15] _ _
        have hbg : z15 = bgn T1 v1 := by assumption
        refine l_if_eq rfl rfl (by unfold rg; omega) (fun w16 => ?_) (fun w17 => ?_)
        · refine l_iinc rfl rfl rfl rfl ?_
          refine l_goto rfl rfl ?_
          exact Rl_weak (ih2 _ (by omega) T1 hHT1 hFT1 ((v1 + 1)) (by omega) (by omega) (by first | exact nwo_0 hn0 | exact nwo_f hn2 (by omega) | exact nwo_n hfr rfl (by omega) hn2 ((Classical.em (mnV T1 v1 (ruF T1 v1 (Xi T1 876 7)) = -1)).elim (fun q => Or.inr ⟨by omega, by assumption, by omega, by omega, by omega, q⟩) (fun q => Or.inl ⟨by omega, by assumption, fun _ => by omega⟩))) rfl) (And.intro rfl (And.intro rfl (True.intro)))
        · refine l_aload_n rfl rfl ?_
          refine l_iload_n rfl rfl ?_
          refine l_iconst rfl ?_
          have w18 : 0 ≤ Xi T1 5 2 ∧ Xi T1 5 2 ≤ 24 := hHT1.c _ _
          have w20 : 0 ≤ Xi T1 891 9 ∧ Xi T1 891 9 ≤ 24 := hHT1.c _ _
          refine l_callV rfl rfl rfl (t_re_takeObjectOrNew hHT1 v1 (-1) ⟨by omega, by omega⟩ ⟨by omega, by omega⟩ (by first | assumption | exact (LEX_FR hFT1 rfl rfl (by assumption : LEX S))) (by first | assumption | omega) (by first | assumption | omega) _) ?_
          rintro _ T2 ⟨hHT2, w27, z26, rfl, w26, w21, w22, w23, w24, w25⟩
          have hFT2 : FR md_re_takeObjects S T2 := FR.tr hFT1 w27 rfl
          show Rl _ _ _ _ _ [iv z26] _ _
          have hfr : FR md_re_takeObjectOrNew T1 T2 := by assumption
          have h90 : 0 ≤ Xi T1 891 9 ∧ Xi T1 891 9 ≤ 24 := hHT1.c _ _
          refine l_if_ne rfl rfl (by unfold rg; omega) (fun w28 => ?_) (fun w29 => ?_)
          · refine l_iinc rfl rfl rfl rfl ?_
            refine l_goto rfl rfl ?_
            exact Rl_weak (ih2 _ (by omega) T2 hHT2 hFT2 ((v1 + 1)) (by omega) (by omega) (by first | exact nwo_0 hn0 | exact nwo_f hn2 (by omega) | exact nwo_n hfr rfl (by omega) hn2 ((Classical.em (mnV T1 v1 (ruF T1 v1 (Xi T1 876 7)) = -1)).elim (fun q => Or.inr ⟨by omega, by assumption, by omega, by omega, by omega, q⟩) (fun q => Or.inl ⟨by omega, by assumption, fun _ => by omega⟩))) rfl) (And.intro rfl (And.intro rfl (True.intro)))
          · refine l_iconst rfl ?_
            refine l_ireturn rfl rfl ?_
            have w30 : 0 ≤ Xi T2 876 8 ∧ Xi T2 876 8 ≤ 9 := hHT2.c _ _
            exact ⟨hHT2, hFT2, _, rfl, ⟨by omega, by omega⟩, (by first | (intro hz; omega) | (intro _; exact nwo_x hHT2 hn2 (by omega))), (by omega)⟩
  refine l_iconst rfl ?_
  refine l_istore_n rfl rfl rfl ?_
  exact Rl_weak (C2 _ S hH hF (0) (by omega) (by omega) (by first | exact nwo_0 hn0 | exact nwo_f hn2 (by omega) | exact nwo_n hfr rfl (by omega) hn2 ((Classical.em (mnV S v1 (ruF S v1 (Xi S 876 7)) = -1)).elim (fun q => Or.inr ⟨by omega, by assumption, by omega, by omega, by omega, q⟩) (fun q => Or.inl ⟨by omega, by assumption, fun _ => by omega⟩))) rfl) (And.intro rfl (And.intro rfl (True.intro)))
def md_re_objectOrNew : List rec := [(1, 2, 3, 4), (2, 3, 0, 100000), (3, 4, 0, 100000), (4, 5, 0, 100000), (5, 6, 0, 100000), (21, 22, 0, 100000), (22, 23, 0, 100000), (23, 24, 0, 100000)]
abbrev Q_re_objectOrNew (S : sS) (from_ : Int) (kind : Int) : pst := fun r S1 => HI S1 ∧ FR md_re_objectOrNew S S1 ∧ (∃ z : Int, r = some (iv z) ∧ (0 ≤ z ∧ z ≤ 23) ∧ (LEX S1) ∧ (LKEEP S S1) ∧ (fob S from_ = -1 → Xi S1 5 2 = Xi S 5 2 + 1) ∧ (fob S from_ ≠ -1 → Xi S1 5 2 = Xi S 5 2) ∧ (∀ j, j ≠ 2 → Xi S1 5 j = Xi S 5 j))
set_option maxRecDepth 100000 in
theorem t_re_objectOrNew {S : sS} (hH : HI S) (from_ : Int) (kind : Int) (hfrom_ : 0 ≤ from_ ∧ from_ ≤ 5126) (hkind : 0 ≤ kind ∧ kind ≤ 15) (hL : LEX S) (hc : fob S from_ = -1 → Xi S 5 2 < 24) (d : Nat) : Mt lay0 (d + 4) m_re_objectOrNew [.ref 891, iv from_, iv kind] S (Q_re_objectOrNew S from_ kind) := by
  refine Mt_R rfl rfl ?_
  have hF : FR md_re_objectOrNew S S := FR.rf
  have w1 : 0 ≤ Xi S 5 2 ∧ Xi S 5 2 ≤ 24 := hH.c _ _
  refine l_aload_n rfl rfl ?_
  refine l_gfr rfl rfl rfl rfl rfl (hH.r 891 0 876 rfl) ?_
  refine l_iload_n rfl rfl ?_
  have w2 : 0 ≤ Xi S 876 7 ∧ Xi S 876 7 ≤ 5125 := hH.c _ _
  refine l_callV rfl rfl rfl (t_to_runEnd hH from_ ⟨by omega, by omega⟩ _) ?_
  rintro _ _ ⟨rfl, z10, rfl, w10, w3, w4, w5, w6, w7, w8, w9⟩
  clear w5 w6 w7 w8
  show Rl _ _ _ _ _ [iv z10] _ _
  refine l_istore_n rfl rfl rfl ?_
  refine l_aload_n rfl rfl ?_
  refine l_gfr rfl rfl rfl rfl rfl (hH.r 891 4 895 rfl) ?_
  refine l_iconst rfl ?_
  refine l_iload_n rfl rfl ?_
  refine l_iload_n rfl rfl ?_
  refine l_callV rfl rfl rfl (t_me_find hH 2 from_ z10 ⟨by omega, by omega⟩ ⟨by omega, by omega⟩ ⟨by omega, by omega⟩ (by first | assumption | exact (by assumption : LEX S)) _) ?_
  rintro _ _ ⟨rfl, z14, rfl, w14, w11, w12, w13⟩
  have w15 : z14 ≠ -1 → _ := fun h => fb2 hH (w11 h)
  clear w12
  show Rl _ _ _ _ _ [iv z14] _ _
  have hfo : z14 = fob S from_ := fob_of (by assumption) (by assumption)
  refine l_istore rfl rfl rfl ?_
  refine l_iload rfl rfl ?_
  refine l_iconst rfl ?_
  refine l_icmp_ne rfl rfl (by unfold rg; omega) (by unfold rg; omega) (fun w16 => ?_) (fun w17 => ?_)
  · refine l_iload rfl rfl ?_
    refine l_ireturn rfl rfl ?_
    exact ⟨hH, hF, _, rfl, ⟨by omega, by omega⟩, (by first | assumption | exact (by assumption : LEX S)), (by first | exact LKEEP.rf | exact LKEEP.tr (by assumption) (LKEEP_FR (by assumption : FR md_wo_makeObject S S) rfl rfl)), (by omega), (by omega), (by first | exact fun j _ => rfl | exact fun j hj => (((by assumption : FR md_wo_makeObject S S).cx 5 rfl j).1).trans (ho2 j hj))⟩
  · refine l_aload_n rfl rfl ?_
    refine l_gfr rfl rfl rfl rfl rfl (hH.r 891 2 1 rfl) ?_
    refine l_iconst rfl ?_
    refine l_aload_n rfl rfl ?_
    refine l_gfr rfl rfl rfl rfl rfl (hH.r 891 0 876 rfl) ?_
    refine l_gfr rfl rfl rfl rfl rfl (hH.r 876 2 879 rfl) ?_
    refine l_iload_n rfl rfl ?_
    refine l_iload_n rfl rfl ?_
    refine l_callV rfl rfl rfl (t_vo_tellNew hH 2 879 5130 from_ z10 ⟨by omega, by omega⟩ rfl ⟨by omega, by omega⟩ ⟨by omega, by omega⟩ ⟨by omega, by omega⟩ (by first | assumption | exact (by assumption : LEX S)) (show Xi S 5 2 + 1 ≤ 24 by first | omega | (have hz : Xi S 5 2 = Xi S 5 (2 : Int).toNat := rfl; omega)) (by first | assumption | omega) _) ?_
    rintro _ T1 ⟨hHT1, w25, z24, rfl, w24, w19, w20, w21, w22, w23⟩
    have hFT1 : FR md_re_objectOrNew S T1 := FR.tr hF w25 rfl
    show Rl _ _ _ _ _ [iv z24] _ _
    have hc2 : Xi T1 5 2 = Xi S 5 2 + 1 := by have t := (by assumption : Xi T1 5 (2 : Int).toNat = Xi S 5 (2 : Int).toNat + 1); exact t
    have ho2 : ∀ j, j ≠ 2 → Xi T1 5 j = Xi S 5 j := by have t := (by assumption : ∀ j, j ≠ (2 : Int).toNat → Xi T1 5 j = Xi S 5 j); exact t
    have hz2 : z24 = Xi S 5 2 := by have t := (by assumption : z24 = Xi S 5 (2 : Int).toNat); exact t
    refine l_istore rfl rfl rfl ?_
    refine l_aload_n rfl rfl ?_
    refine l_gfr rfl rfl rfl rfl rfl (hHT1.r 891 3 20 rfl) ?_
    refine l_iload rfl rfl ?_
    refine l_iload_n rfl rfl ?_
    refine l_callV rfl rfl rfl (t_wo_makeObject hHT1 z24 kind ⟨by omega, by omega⟩ ⟨by omega, by omega⟩ _) ?_
    rintro _ T2 ⟨hHT2, w27, rfl⟩
    have hFT2 : FR md_re_objectOrNew S T2 := FR.tr hFT1 w27 rfl
    show Rl _ _ _ _ _ [] _ _
    refine l_iload rfl rfl ?_
    refine l_ireturn rfl rfl ?_
    have w28 : Xi T2 5 2 = Xi T1 5 2 := (show Xi T2 5 2 = Xi T1 5 2 from w27.x _ _ rfl)
    have w29 : 0 ≤ Xi T1 5 2 ∧ Xi T1 5 2 ≤ 24 := hHT1.c _ _
    exact ⟨hHT2, hFT2, _, rfl, ⟨by omega, by omega⟩, (by first | assumption | exact (LEX_FR w27 rfl rfl (by assumption : LEX T1))), (by first | exact LKEEP.rf | exact LKEEP.tr (by assumption) (LKEEP_FR (by assumption : FR md_wo_makeObject T1 T2) rfl rfl)), (by omega), (by omega), (by first | exact fun j _ => rfl | exact fun j hj => (((by assumption : FR md_wo_makeObject T1 T2).cx 5 rfl j).1).trans (ho2 j hj))⟩
/-! SAFETY: told sentences, more -/
theorem asu_t {l : List rec} {S T : sS} {a b nt : Int} (h : FR l S T) (e : (kdis l kA && !(mdf l 1 3)) = true) (e2 : (kdis l [(877, 878)] && !(mdf l 876 7)) = true) (e3 : mdf l 890 3 = false) (e4 : kdis l [(21, 22)] = true) (hs : ASU S a b nt (Xi S 890 3)) : ASU T a b nt (Xi T 890 3) := fun r h1 h2 h3 h4 => by
  rw [h.x 890 3 e3] at h2
  rw [bgn_FR h e2 e3] at h3
  rw [fob_FR h e e2] at h4 ⊢
  rw [raF_FR h e, (h.smk e4).x 21 rfl]
  exact hs r h1 h2 h3 h4
/-! SAFETY of methods: printed by wip/safe (vc.py, decl.py) -/
def md_re_doObjects : List rec := [(1, 2, 3, 4), (2, 3, 0, 100000), (3, 4, 0, 100000), (4, 5, 0, 100000), (5, 6, 0, 100000), (21, 22, 0, 100000), (22, 23, 0, 100000), (23, 24, 0, 100000), (25, 65, 0, 100000), (66, 106, 0, 100000), (107, 147, 0, 100000), (148, 188, 0, 100000), (876, 877, 8, 9), (876, 877, 9, 10), (891, 892, 10, 11)]
abbrev Q_re_doObjects (S : sS) (ds : Int) : pst := fun r S1 => HI S1 ∧ FR md_re_doObjects S S1 ∧ (∃ z : Int, r = some (iv z) ∧ (0 ≤ z ∧ z ≤ 1) ∧ (z = 1 → WI S1) ∧ (z = 0 → Xi S1 876 8 ≠ 0))
set_option maxRecDepth 100000 in
theorem t_re_doObjects {S : sS} (hH : HI S) (ds : Int) (hds : 0 ≤ ds ∧ ds ≤ 1) (hW : WI S) (hN : NWO S (Xi S 890 3)) (hM : ds = 1 → MAD S) (hh : Xi S 891 11 ≠ 0 → 0 ≤ Xi S 891 12) (d : Nat) : Mt lay0 (d + 5) m_re_doObjects [.ref 891, iv ds] S (Q_re_doObjects S ds) := by
  refine Mt_R rfl rfl ?_
  have hF : FR md_re_doObjects S S := FR.rf
  have w1 : -1 ≤ Xi S 890 3 ∧ Xi S 890 3 ≤ 5124 := hH.c _ _
  have w2 : 0 ≤ Xi S 891 11 ∧ Xi S 891 11 ≤ 5 := hH.c _ _
  have w3 : -1 ≤ Xi S 891 12 ∧ Xi S 891 12 ≤ 23 := hH.c _ _
  have hL := hW.1
  have hX := hW.2.1
  have C4 : ∀ (n4 : Nat) (T1 : sS) (_ : HI T1) (_ : FR md_re_doObjects S T1) (v2 : Int) (v3 : Int), (-1 ≤ v2 ∧ v2 ≤ 23) → (0 ≤ v3 ∧ v3 ≤ 5124) → (LEX T1) → (TX T1) → (LKEEP S T1) → (∀ j, j ≠ 2 → Xi T1 5 j = Xi S 5 j) → (NWC S T1 v3) → n4 = (5125 - v3).toNat → Rl lay0 (d + 4) m_re_doObjects 4 [(0, .ref 891), (1, iv ds), (2, iv v2), (3, iv v3)] [] T1 (Q_re_doObjects S ds) := by
    intro n4
    induction n4 using Nat.strongRecOn with
    | ind n4 ih4 =>
      intro T1 hHT1 hFT1 v2 v3 w4 w5 hL4 hX4 hK4 ho4 hc4 hm4
      have w6 : Xi T1 876 7 = Xi S 876 7 := hFT1.x _ _ rfl
      have w7 : Xi T1 890 3 = Xi S 890 3 := hFT1.x _ _ rfl
      have w8 : Xi T1 891 11 = Xi S 891 11 := hFT1.x _ _ rfl
      have w9 : Xi T1 891 12 = Xi S 891 12 := hFT1.x _ _ rfl
      have C102 : ∀  (T2 : sS) (_ : HI T2) (_ : FR md_re_doObjects S T2) (v2 : Int) (v3 : Int) (v4 : Int), (0 ≤ v2 ∧ v2 ≤ 23) → (0 ≤ v3 ∧ v3 ≤ 5124) → (0 ≤ v4 ∧ v4 ≤ 23) → (LEX T2) → (TX T2) → (LKEEP S T2) → (∀ j, j ≠ 2 → Xi T2 5 j = Xi S 5 j) → (NWC S T2 (v3 + 1)) → (v3 < Xi S 890 3) → ((5125 - v3).toNat ≤ n4) → Rl lay0 (d + 4) m_re_doObjects 102 [(0, .ref 891), (1, iv ds), (2, iv v2), (3, iv v3), (4, iv v4)] [] T2 (Q_re_doObjects S ds) := by
        intro T2 hHT2 hFT2 v2 v3 v4 w10 w11 w12 hL102 hX102 hK102 ho102 hc102 w13 w14
        have w15 : Xi T2 876 7 = Xi S 876 7 := hFT2.x _ _ rfl
        have w16 : Xi T2 890 3 = Xi S 890 3 := hFT2.x _ _ rfl
        have w17 : Xi T2 891 11 = Xi S 891 11 := hFT2.x _ _ rfl
        have w18 : Xi T2 891 12 = Xi S 891 12 := hFT2.x _ _ rfl
        refine l_aload_n rfl rfl ?_
        refine l_gfi rfl rfl rfl rfl rfl ?_
        refine l_if_ne rfl rfl (by unfold rg; omega) (fun w19 => ?_) (fun w20 => ?_)
        · refine l_aload_n rfl rfl ?_
          refine l_gfr rfl rfl rfl rfl rfl (hHT2.r 891 3 20 rfl) ?_
          refine l_iload rfl rfl ?_
          refine l_aload_n rfl rfl ?_
          refine l_gfi rfl rfl rfl rfl rfl ?_
          refine l_aload_n rfl rfl ?_
          refine l_gfi rfl rfl rfl rfl rfl ?_
          refine l_callV rfl rfl rfl (t_wo_tellPlace hHT2 v4 (Xi T2 891 11) (Xi T2 891 12) ⟨by omega, by omega⟩ ⟨by omega, by omega⟩ ⟨by omega, by omega⟩ _) ?_
          rintro _ T3 ⟨hHT3, w22, z21, rfl, w21⟩
          have hFT3 : FR md_re_doObjects S T3 := FR.tr hFT2 w22 rfl
          show Rl _ _ _ _ _ [iv z21] _ _
          refine l_istore rfl rfl rfl ?_
          refine l_iload rfl rfl ?_
          refine l_if_eq rfl rfl (by unfold rg; omega) (fun w23 => ?_) (fun w24 => ?_)
          · refine l_iinc rfl rfl rfl rfl ?_
            refine l_goto rfl rfl ?_
            exact Rl_weak (ih4 _ (by omega) T3 hHT3 hFT3 (v2) ((v3 + 1)) (by omega) (by omega) (by first | assumption | exact (LEX_FR w22 rfl rfl (by assumption : LEX T2))) (by first | assumption | exact (TX_FR w22 rfl (by assumption : TX T2))) (by first | exact hK102 | exact hK43 | exact hK4 | exact LKEEP.tr hK102 (LKEEP_FR (by assumption : FR md_wo_tellPlace T2 T3) rfl rfl) | exact LKEEP.rf) (by first | exact ho102 | exact ho43 | exact ho4 | exact fun j hj => (((by assumption : FR md_wo_tellPlace T2 T3).cx 5 rfl j).1).trans (ho102 j hj) | exact fun j _ => rfl) (by first | exact hc102 | exact hc43 | exact hc4 | exact nwc_e hc102 ((by assumption : FR md_wo_tellPlace T2 T3).x 5 2 rfl) | exact nwc_f hc4 | exact nwc_0 hH) rfl) (And.intro rfl (And.intro rfl (And.intro rfl (And.intro rfl (True.intro)))))
          · refine l_aload_n rfl rfl ?_
            refine l_gfr rfl rfl rfl rfl rfl (hHT3.r 891 0 876 rfl) ?_
            refine l_iload rfl rfl ?_
            refine l_iload_n rfl rfl ?_
            refine l_callV rfl rfl rfl (t_to_wrong hHT3 z21 v3 ⟨by omega, by omega⟩ ⟨by omega, by omega⟩ _) ?_
            rintro _ T4 ⟨hHT4, w28, z27, rfl, w27, w25, w26⟩
            have hFT4 : FR md_re_doObjects S T4 := FR.tr hFT3 w28 rfl
            show Rl _ _ _ _ _ [iv z27] _ _
            refine l_ireturn rfl (retI_z (by omega)) ?_
            have w29 : 0 ≤ Xi T4 876 8 ∧ Xi T4 876 8 ≤ 9 := hHT4.c _ _
            exact ⟨hHT4, hFT4, _, rfl, ⟨by omega, by omega⟩, (by first | (intro hz; omega) | (intro _; assumption) | (intro _; exact (WI_FR hHT3 w28 rfl rfl rfl rfl rfl rfl rfl rfl rfl (WI_FR hHT2 w22 rfl rfl rfl rfl rfl rfl rfl rfl rfl (by assumption : WI T2))))), (by omega)⟩
        · refine l_iconst rfl ?_
          refine l_goto rfl rfl ?_
          refine l_istore rfl rfl rfl ?_
          refine l_iload rfl rfl ?_
          refine l_if_eq rfl rfl (by unfold rg; omega) (fun w30 => ?_) (fun w31 => absurd w31 (by omega))
          · refine l_iinc rfl rfl rfl rfl ?_
            refine l_goto rfl rfl ?_
            exact Rl_weak (ih4 _ (by omega) T2 hHT2 hFT2 (v2) ((v3 + 1)) (by omega) (by omega) (by first | assumption | exact (by assumption : LEX T2)) (by first | assumption | exact (by assumption : TX T2)) (by first | exact hK102 | exact hK43 | exact hK4 | exact LKEEP.tr hK102 (LKEEP_FR (by assumption : FR md_wo_tellPlace T2 T2) rfl rfl) | exact LKEEP.rf) (by first | exact ho102 | exact ho43 | exact ho4 | exact fun j hj => (((by assumption : FR md_wo_tellPlace T2 T2).cx 5 rfl j).1).trans (ho102 j hj) | exact fun j _ => rfl) (by first | exact hc102 | exact hc43 | exact hc4 | exact nwc_e hc102 ((by assumption : FR md_wo_tellPlace T2 T2).x 5 2 rfl) | exact nwc_f hc4 | exact nwc_0 hH) rfl) (And.intro rfl (And.intro rfl (And.intro rfl (And.intro rfl (True.intro)))))
      refine l_iload_n rfl rfl ?_
      refine l_aload_n rfl rfl ?_
      refine l_gfr rfl rfl rfl rfl rfl (hHT1.r 891 1 890 rfl) ?_
      refine l_gfi rfl rfl rfl rfl rfl ?_
      refine l_icmp_ge rfl rfl (by unfold rg; omega) (by unfold rg; omega) (fun w32 => ?_) (fun w33 => ?_)
      · refine l_aload_n rfl rfl ?_
        refine l_iload_n rfl rfl ?_
        refine l_pfi rfl rfl rfl rfl ?_
        obtain ⟨U5, eU5⟩ : ∃ T : sS, T = uI T1 891 10 (Int32.ofInt v2) := ⟨_, rfl⟩
        rw [← eU5]
        have hHU5 : HI U5 := by rw [eU5]; exact HI_w hHT1 (show -1 ≤ v2 by omega) (show v2 ≤ 23 by omega)
        have hFU5 : FR md_re_doObjects S U5 := by rw [eU5]; exact FR.wI hFT1 (mdf_i (r := (891, 892, 10, 11)) (List.mem_of_getElem? (i := 14) rfl) (inR_i (by omega) (by omega) (by omega) (by omega)))
        have w34 : Xi U5 891 10 = v2 := by rw [eU5]; exact Xi_same (by unfold rg; omega)
        have hWe : WI U5 := WI_gx hH hFU5 (TX_FR (FR_e eU5) rfl hX4) rfl rfl rfl rfl (LEX_FR (FR_e eU5) rfl rfl hL4) (five_le (nwc_e hc4 ((FR_e eU5).x 5 2 rfl)) (fun j hj => (((FR_e eU5).cx 5 rfl j).1).trans (ho4 j hj))) ((((FR_e eU5).cx 5 rfl 3).1).trans (ho4 3 (by decide))) (VAL_fr hFU5 rfl ((((FR_e eU5).cx 5 rfl 4).1).trans (ho4 4 (by decide))) hW.2.2.2.2.2.2.2) hW
        refine l_iconst rfl ?_
        refine l_ireturn rfl rfl ?_
        have w35 : Xi U5 876 8 = Xi T1 876 8 := (show Xi U5 876 8 = Xi T1 876 8 from by rw [eU5]; exact Xi_ne (by omega))
        have w36 : 0 ≤ Xi T1 876 8 ∧ Xi T1 876 8 ≤ 9 := hHT1.c _ _
        exact ⟨hHU5, hFU5, _, rfl, ⟨by omega, by omega⟩, (by first | (intro hz; omega) | (intro _; assumption) | (intro _; exact (WI_FR hHT1 (FR_e eU5) rfl rfl rfl rfl rfl rfl rfl rfl rfl (by assumption : WI T1)))), (by omega)⟩
      · refine l_aload_n rfl rfl ?_
        refine l_iload_n rfl rfl ?_
        have w37 : 0 ≤ Xi T1 876 7 ∧ Xi T1 876 7 ≤ 5125 := hHT1.c _ _
        have w38 : -1 ≤ Xi T1 890 3 ∧ Xi T1 890 3 ≤ 5124 := hHT1.c _ _
        refine l_callV rfl rfl rfl (t_re_beginsName hHT1 v3 ⟨by omega, by omega⟩ _) ?_
        rintro _ _ ⟨rfl, z41, rfl, w41, w39, w40⟩
        show Rl _ _ _ _ _ [iv z41] _ _
        have hbg : z41 = bgn S v3 := (by assumption : z41 = bgn T1 v3).trans (bgn_FR hFT1 rfl rfl)
        have hlt : bgn S v3 = 1 → fob T1 v3 = -1 → Xi T1 5 2 < 24 := fun hb => nwc_lt hH hN hK4 hFT1 rfl hc4 (by omega) (by omega) hb
        have hFp := hFT1
        refine l_if_ne rfl rfl (by unfold rg; omega) (fun w42 => ?_) (fun w43 => ?_)
        · refine l_aload_n rfl rfl ?_
          refine l_iload_n rfl rfl ?_
          refine l_iload_n rfl rfl ?_
          refine l_if_eq rfl rfl (by unfold rg; omega) (fun w44 => ?_) (fun w45 => ?_)
          · refine l_iconst rfl ?_
            have w46 : 0 ≤ Xi T1 5 2 ∧ Xi T1 5 2 ≤ 24 := hHT1.c _ _
            refine l_callV rfl rfl rfl (t_re_objectOrNew hHT1 v3 0 ⟨by omega, by omega⟩ ⟨by omega, by omega⟩ (by first | assumption | exact (by assumption : LEX T1)) (fun q => hlt (by omega) q) _) ?_
            rintro _ T6 ⟨hHT6, w53, z52, rfl, w52, w47, w48, w49, w50, w51⟩
            have hFT6 : FR md_re_doObjects S T6 := FR.tr hFT1 w53 rfl
            show Rl _ _ _ _ _ [iv z52] _ _
            have hK43 : LKEEP S T6 := LKEEP.tr hK4 (by assumption)
            have ho43 : ∀ j, j ≠ 2 → Xi T6 5 j = Xi S 5 j := fun j hj => ((by assumption : ∀ j, j ≠ 2 → Xi T6 5 j = Xi T1 5 j) j hj).trans (ho4 j hj)
            have hc43 : NWC S T6 (v3 + 1) := nwc_s hH hN hK4 hFp rfl hc4 (by omega) (by omega) (by omega) (by assumption) (by assumption)
            have hX43 : TX T6 := TX_FR (by assumption : FR md_re_objectOrNew T1 T6) rfl hX4
            refine l_istore rfl rfl rfl ?_
            refine l_iload_n rfl rfl ?_
            refine l_iconst rfl ?_
            refine l_icmp_ne rfl rfl (by unfold rg; omega) (by unfold rg; omega) (fun w54 => ?_) (fun w55 => ?_)
            · refine l_iload_n rfl rfl ?_
              refine l_istore_n rfl rfl rfl ?_
              refine l_iload_n rfl rfl ?_
              refine l_if_eq rfl rfl (by unfold rg; omega) (fun w56 => ?_) (fun w57 => ?_)
              · exact Rl_weak (C102 T6 hHT6 hFT6 (v2) (v3) (z52) (by omega) (by omega) (by omega) (by first | assumption | exact (by assumption : LEX T6)) (by first | assumption | exact (TX_FR w53 rfl (by assumption : TX T1))) (by first | exact hK86 | exact hK43 | exact LKEEP.tr hK102 (LKEEP_FR (by assumption : FR md_wo_tellPlace T1 T6) rfl rfl) | exact LKEEP.rf) (by first | exact ho86 | exact ho43 | exact fun j hj => (((by assumption : FR md_wo_tellPlace T1 T6).cx 5 rfl j).1).trans (ho102 j hj) | exact fun j _ => rfl) (by first | exact hc86 | exact hc43 | exact nwc_e hc102 ((by assumption : FR md_wo_tellPlace T1 T6).x 5 2 rfl) | exact nwc_f hc4 | exact nwc_0 hH) (by omega) (by omega)) (And.intro rfl (And.intro rfl (And.intro rfl (And.intro rfl (And.intro rfl (True.intro))))))
              · refine l_aload_n rfl rfl ?_
                refine l_gfr rfl rfl rfl rfl rfl (hHT6.r 891 3 20 rfl) ?_
                refine l_iload rfl rfl ?_
                refine l_aload_n rfl rfl ?_
                refine l_gfr rfl rfl rfl rfl rfl (hHT6.r 891 4 895 rfl) ?_
                refine l_gfi rfl rfl rfl rfl rfl ?_
                have w58 : 0 ≤ (Xi T6 895 12) ∧ (Xi T6 895 12) ≤ 15 := hHT6.c _ _
                refine l_callV rfl rfl rfl (t_wo_tellKind hHT6 z52 (Xi T6 895 12) ⟨by omega, by omega⟩ ⟨by omega, by omega⟩ _) ?_
                rintro _ T7 ⟨hHT7, w60, z59, rfl, w59⟩
                have hFT7 : FR md_re_doObjects S T7 := FR.tr hFT6 w60 rfl
                show Rl _ _ _ _ _ [iv z59] _ _
                have hK77 : LKEEP S T7 := LKEEP.tr hK43 (LKEEP_FR (by assumption : FR md_wo_tellKind T6 T7) rfl rfl)
                have ho77 : ∀ j, j ≠ 2 → Xi T7 5 j = Xi S 5 j := fun j hj => (((by assumption : FR md_wo_tellKind T6 T7).cx 5 rfl j).1).trans (ho43 j hj)
                have hc77 : NWC S T7 (v3 + 1) := nwc_e hc43 ((by assumption : FR md_wo_tellKind T6 T7).x 5 2 rfl)
                have hM77 : MAD T7 := mad_d hFT7 rfl rfl (hM (by omega)) (ho77 3 (by decide))
                refine l_if_eq rfl rfl (by unfold rg; omega) (fun w61 => ?_) (fun w62 => ?_)
                · refine l_aload_n rfl rfl ?_
                  refine l_gfr rfl rfl rfl rfl rfl (hHT7.r 891 0 876 rfl) ?_
                  refine l_iconst rfl ?_
                  refine l_iload_n rfl rfl ?_
                  refine l_callV rfl rfl rfl (t_to_wrong hHT7 5 v3 ⟨by omega, by omega⟩ ⟨by omega, by omega⟩ _) ?_
                  rintro _ T8 ⟨hHT8, w66, z65, rfl, w65, w63, w64⟩
                  have hFT8 : FR md_re_doObjects S T8 := FR.tr hFT7 w66 rfl
                  show Rl _ _ _ _ _ [iv z65] _ _
                  refine l_ireturn rfl (retI_z (by omega)) ?_
                  have w67 : 0 ≤ Xi T8 876 8 ∧ Xi T8 876 8 ≤ 9 := hHT8.c _ _
                  exact ⟨hHT8, hFT8, _, rfl, ⟨by omega, by omega⟩, (by first | (intro hz; omega) | (intro _; assumption) | (intro _; exact (WI_FR hHT7 w66 rfl rfl rfl rfl rfl rfl rfl rfl rfl (WI_FR hHT6 w60 rfl rfl rfl rfl rfl rfl rfl rfl rfl (by assumption : WI T6))))), (by omega)⟩
                · refine l_aload_n rfl rfl ?_
                  refine l_iload rfl rfl ?_
                  refine l_callV rfl rfl rfl (t_re_tellAdjectives hHT7 z52 ⟨by omega, by omega⟩ (by first | assumption | exact (TX_FR w60 rfl (TX_FR w53 rfl (by assumption : TX T1)))) (by first | assumption | exact (MAD_FR w60 rfl (by assumption : MAD T6))) _) ?_
                  rintro _ T9 ⟨hHT9, w70, z69, rfl, w69, w68⟩
                  have hFT9 : FR md_re_doObjects S T9 := FR.tr hFT7 w70 rfl
                  show Rl _ _ _ _ _ [iv z69] _ _
                  have hK86 : LKEEP S T9 := LKEEP.tr hK77 (LKEEP_FR (by assumption : FR md_re_tellAdjectives T7 T9) rfl rfl)
                  have ho86 : ∀ j, j ≠ 2 → Xi T9 5 j = Xi S 5 j := fun j hj => (((by assumption : FR md_re_tellAdjectives T7 T9).cx 5 rfl j).1).trans (ho77 j hj)
                  have hc86 : NWC S T9 (v3 + 1) := nwc_e hc77 ((by assumption : FR md_re_tellAdjectives T7 T9).x 5 2 rfl)
                  refine l_if_ne rfl rfl (by unfold rg; omega) (fun w71 => ?_) (fun w72 => ?_)
                  · exact Rl_weak (C102 T9 hHT9 hFT9 (v2) (v3) (z52) (by omega) (by omega) (by omega) (by first | assumption | exact (LEX_FR w70 rfl rfl (LEX_FR w60 rfl rfl (by assumption : LEX T6)))) (by first | assumption | exact (by assumption : TX T9)) (by first | exact hK86 | exact hK43 | exact LKEEP.tr hK102 (LKEEP_FR (by assumption : FR md_wo_tellPlace T7 T9) rfl rfl) | exact LKEEP.rf) (by first | exact ho86 | exact ho43 | exact fun j hj => (((by assumption : FR md_wo_tellPlace T7 T9).cx 5 rfl j).1).trans (ho102 j hj) | exact fun j _ => rfl) (by first | exact hc86 | exact hc43 | exact nwc_e hc102 ((by assumption : FR md_wo_tellPlace T7 T9).x 5 2 rfl) | exact nwc_f hc4 | exact nwc_0 hH) (by omega) (by omega)) (And.intro rfl (And.intro rfl (And.intro rfl (And.intro rfl (And.intro rfl (True.intro))))))
                  · refine l_aload_n rfl rfl ?_
                    refine l_gfr rfl rfl rfl rfl rfl (hHT9.r 891 0 876 rfl) ?_
                    refine l_iconst rfl ?_
                    refine l_iload_n rfl rfl ?_
                    refine l_callV rfl rfl rfl (t_to_wrong hHT9 5 v3 ⟨by omega, by omega⟩ ⟨by omega, by omega⟩ _) ?_
                    rintro _ T10 ⟨hHT10, w76, z75, rfl, w75, w73, w74⟩
                    have hFT10 : FR md_re_doObjects S T10 := FR.tr hFT9 w76 rfl
                    show Rl _ _ _ _ _ [iv z75] _ _
                    refine l_ireturn rfl (retI_z (by omega)) ?_
                    have w77 : 0 ≤ Xi T10 876 8 ∧ Xi T10 876 8 ≤ 9 := hHT10.c _ _
                    exact ⟨hHT10, hFT10, _, rfl, ⟨by omega, by omega⟩, (by first | (intro hz; omega) | (intro _; assumption) | (intro _; exact (WI_FR hHT9 w76 rfl rfl rfl rfl rfl rfl rfl rfl rfl (by assumption : WI T9)))), (by omega)⟩
            · refine l_iload rfl rfl ?_
              refine l_goto rfl rfl ?_
              refine l_istore_n rfl rfl rfl ?_
              refine l_iload_n rfl rfl ?_
              refine l_if_eq rfl rfl (by unfold rg; omega) (fun w78 => ?_) (fun w79 => ?_)
              · exact Rl_weak (C102 T6 hHT6 hFT6 (z52) (v3) (z52) (by omega) (by omega) (by omega) (by first | assumption | exact (by assumption : LEX T6)) (by first | assumption | exact (TX_FR w53 rfl (by assumption : TX T1))) (by first | exact hK86 | exact hK43 | exact LKEEP.tr hK102 (LKEEP_FR (by assumption : FR md_wo_tellPlace T1 T6) rfl rfl) | exact LKEEP.rf) (by first | exact ho86 | exact ho43 | exact fun j hj => (((by assumption : FR md_wo_tellPlace T1 T6).cx 5 rfl j).1).trans (ho102 j hj) | exact fun j _ => rfl) (by first | exact hc86 | exact hc43 | exact nwc_e hc102 ((by assumption : FR md_wo_tellPlace T1 T6).x 5 2 rfl) | exact nwc_f hc4 | exact nwc_0 hH) (by omega) (by omega)) (And.intro rfl (And.intro rfl (And.intro rfl (And.intro rfl (And.intro rfl (True.intro))))))
              · refine l_aload_n rfl rfl ?_
                refine l_gfr rfl rfl rfl rfl rfl (hHT6.r 891 3 20 rfl) ?_
                refine l_iload rfl rfl ?_
                refine l_aload_n rfl rfl ?_
                refine l_gfr rfl rfl rfl rfl rfl (hHT6.r 891 4 895 rfl) ?_
                refine l_gfi rfl rfl rfl rfl rfl ?_
                have w80 : 0 ≤ (Xi T6 895 12) ∧ (Xi T6 895 12) ≤ 15 := hHT6.c _ _
                refine l_callV rfl rfl rfl (t_wo_tellKind hHT6 z52 (Xi T6 895 12) ⟨by omega, by omega⟩ ⟨by omega, by omega⟩ _) ?_
                rintro _ T11 ⟨hHT11, w82, z81, rfl, w81⟩
                have hFT11 : FR md_re_doObjects S T11 := FR.tr hFT6 w82 rfl
                show Rl _ _ _ _ _ [iv z81] _ _
                have hK77 : LKEEP S T11 := LKEEP.tr hK43 (LKEEP_FR (by assumption : FR md_wo_tellKind T6 T11) rfl rfl)
                have ho77 : ∀ j, j ≠ 2 → Xi T11 5 j = Xi S 5 j := fun j hj => (((by assumption : FR md_wo_tellKind T6 T11).cx 5 rfl j).1).trans (ho43 j hj)
                have hc77 : NWC S T11 (v3 + 1) := nwc_e hc43 ((by assumption : FR md_wo_tellKind T6 T11).x 5 2 rfl)
                have hM77 : MAD T11 := mad_d hFT11 rfl rfl (hM (by omega)) (ho77 3 (by decide))
                refine l_if_eq rfl rfl (by unfold rg; omega) (fun w83 => ?_) (fun w84 => ?_)
                · refine l_aload_n rfl rfl ?_
                  refine l_gfr rfl rfl rfl rfl rfl (hHT11.r 891 0 876 rfl) ?_
                  refine l_iconst rfl ?_
                  refine l_iload_n rfl rfl ?_
                  refine l_callV rfl rfl rfl (t_to_wrong hHT11 5 v3 ⟨by omega, by omega⟩ ⟨by omega, by omega⟩ _) ?_
                  rintro _ T12 ⟨hHT12, w88, z87, rfl, w87, w85, w86⟩
                  have hFT12 : FR md_re_doObjects S T12 := FR.tr hFT11 w88 rfl
                  show Rl _ _ _ _ _ [iv z87] _ _
                  refine l_ireturn rfl (retI_z (by omega)) ?_
                  have w89 : 0 ≤ Xi T12 876 8 ∧ Xi T12 876 8 ≤ 9 := hHT12.c _ _
                  exact ⟨hHT12, hFT12, _, rfl, ⟨by omega, by omega⟩, (by first | (intro hz; omega) | (intro _; assumption) | (intro _; exact (WI_FR hHT11 w88 rfl rfl rfl rfl rfl rfl rfl rfl rfl (WI_FR hHT6 w82 rfl rfl rfl rfl rfl rfl rfl rfl rfl (by assumption : WI T6))))), (by omega)⟩
                · refine l_aload_n rfl rfl ?_
                  refine l_iload rfl rfl ?_
                  refine l_callV rfl rfl rfl (t_re_tellAdjectives hHT11 z52 ⟨by omega, by omega⟩ (by first | assumption | exact (TX_FR w82 rfl (TX_FR w53 rfl (by assumption : TX T1)))) (by first | assumption | exact (MAD_FR w82 rfl (by assumption : MAD T6))) _) ?_
                  rintro _ T13 ⟨hHT13, w92, z91, rfl, w91, w90⟩
                  have hFT13 : FR md_re_doObjects S T13 := FR.tr hFT11 w92 rfl
                  show Rl _ _ _ _ _ [iv z91] _ _
                  have hK86 : LKEEP S T13 := LKEEP.tr hK77 (LKEEP_FR (by assumption : FR md_re_tellAdjectives T11 T13) rfl rfl)
                  have ho86 : ∀ j, j ≠ 2 → Xi T13 5 j = Xi S 5 j := fun j hj => (((by assumption : FR md_re_tellAdjectives T11 T13).cx 5 rfl j).1).trans (ho77 j hj)
                  have hc86 : NWC S T13 (v3 + 1) := nwc_e hc77 ((by assumption : FR md_re_tellAdjectives T11 T13).x 5 2 rfl)
                  refine l_if_ne rfl rfl (by unfold rg; omega) (fun w93 => ?_) (fun w94 => ?_)
                  · exact Rl_weak (C102 T13 hHT13 hFT13 (z52) (v3) (z52) (by omega) (by omega) (by omega) (by first | assumption | exact (LEX_FR w92 rfl rfl (LEX_FR w82 rfl rfl (by assumption : LEX T6)))) (by first | assumption | exact (by assumption : TX T13)) (by first | exact hK86 | exact hK43 | exact LKEEP.tr hK102 (LKEEP_FR (by assumption : FR md_wo_tellPlace T11 T13) rfl rfl) | exact LKEEP.rf) (by first | exact ho86 | exact ho43 | exact fun j hj => (((by assumption : FR md_wo_tellPlace T11 T13).cx 5 rfl j).1).trans (ho102 j hj) | exact fun j _ => rfl) (by first | exact hc86 | exact hc43 | exact nwc_e hc102 ((by assumption : FR md_wo_tellPlace T11 T13).x 5 2 rfl) | exact nwc_f hc4 | exact nwc_0 hH) (by omega) (by omega)) (And.intro rfl (And.intro rfl (And.intro rfl (And.intro rfl (And.intro rfl (True.intro))))))
                  · refine l_aload_n rfl rfl ?_
                    refine l_gfr rfl rfl rfl rfl rfl (hHT13.r 891 0 876 rfl) ?_
                    refine l_iconst rfl ?_
                    refine l_iload_n rfl rfl ?_
                    refine l_callV rfl rfl rfl (t_to_wrong hHT13 5 v3 ⟨by omega, by omega⟩ ⟨by omega, by omega⟩ _) ?_
                    rintro _ T14 ⟨hHT14, w98, z97, rfl, w97, w95, w96⟩
                    have hFT14 : FR md_re_doObjects S T14 := FR.tr hFT13 w98 rfl
                    show Rl _ _ _ _ _ [iv z97] _ _
                    refine l_ireturn rfl (retI_z (by omega)) ?_
                    have w99 : 0 ≤ Xi T14 876 8 ∧ Xi T14 876 8 ≤ 9 := hHT14.c _ _
                    exact ⟨hHT14, hFT14, _, rfl, ⟨by omega, by omega⟩, (by first | (intro hz; omega) | (intro _; assumption) | (intro _; exact (WI_FR hHT13 w98 rfl rfl rfl rfl rfl rfl rfl rfl rfl (by assumption : WI T13)))), (by omega)⟩
          · refine l_aload_n rfl rfl ?_
            refine l_gfr rfl rfl rfl rfl rfl (hHT1.r 891 4 895 rfl) ?_
            refine l_gfi rfl rfl rfl rfl rfl ?_
            have w100 : 0 ≤ (Xi T1 895 12) ∧ (Xi T1 895 12) ≤ 15 := hHT1.c _ _
            refine l_goto rfl rfl ?_
            have w101 : 0 ≤ Xi T1 5 2 ∧ Xi T1 5 2 ≤ 24 := hHT1.c _ _
            refine l_callV rfl rfl rfl (t_re_objectOrNew hHT1 v3 (Xi T1 895 12) ⟨by omega, by omega⟩ ⟨by omega, by omega⟩ (by first | assumption | exact (by assumption : LEX T1)) (fun q => hlt (by omega) q) _) ?_
            rintro _ T15 ⟨hHT15, w108, z107, rfl, w107, w102, w103, w104, w105, w106⟩
            have hFT15 : FR md_re_doObjects S T15 := FR.tr hFT1 w108 rfl
            show Rl _ _ _ _ _ [iv z107] _ _
            have hK43 : LKEEP S T15 := LKEEP.tr hK4 (by assumption)
            have ho43 : ∀ j, j ≠ 2 → Xi T15 5 j = Xi S 5 j := fun j hj => ((by assumption : ∀ j, j ≠ 2 → Xi T15 5 j = Xi T1 5 j) j hj).trans (ho4 j hj)
            have hc43 : NWC S T15 (v3 + 1) := nwc_s hH hN hK4 hFp rfl hc4 (by omega) (by omega) (by omega) (by assumption) (by assumption)
            have hX43 : TX T15 := TX_FR (by assumption : FR md_re_objectOrNew T1 T15) rfl hX4
            refine l_istore rfl rfl rfl ?_
            refine l_iload_n rfl rfl ?_
            refine l_iconst rfl ?_
            refine l_icmp_ne rfl rfl (by unfold rg; omega) (by unfold rg; omega) (fun w109 => ?_) (fun w110 => ?_)
            · refine l_iload_n rfl rfl ?_
              refine l_istore_n rfl rfl rfl ?_
              refine l_iload_n rfl rfl ?_
              refine l_if_eq rfl rfl (by unfold rg; omega) (fun w111 => ?_) (fun w112 => ?_)
              · exact Rl_weak (C102 T15 hHT15 hFT15 (v2) (v3) (z107) (by omega) (by omega) (by omega) (by first | assumption | exact (by assumption : LEX T15)) (by first | assumption | exact (TX_FR w108 rfl (by assumption : TX T1))) (by first | exact hK86 | exact hK43 | exact LKEEP.tr hK102 (LKEEP_FR (by assumption : FR md_wo_tellPlace T1 T15) rfl rfl) | exact LKEEP.rf) (by first | exact ho86 | exact ho43 | exact fun j hj => (((by assumption : FR md_wo_tellPlace T1 T15).cx 5 rfl j).1).trans (ho102 j hj) | exact fun j _ => rfl) (by first | exact hc86 | exact hc43 | exact nwc_e hc102 ((by assumption : FR md_wo_tellPlace T1 T15).x 5 2 rfl) | exact nwc_f hc4 | exact nwc_0 hH) (by omega) (by omega)) (And.intro rfl (And.intro rfl (And.intro rfl (And.intro rfl (And.intro rfl (True.intro))))))
              · refine l_aload_n rfl rfl ?_
                refine l_gfr rfl rfl rfl rfl rfl (hHT15.r 891 3 20 rfl) ?_
                refine l_iload rfl rfl ?_
                refine l_aload_n rfl rfl ?_
                refine l_gfr rfl rfl rfl rfl rfl (hHT15.r 891 4 895 rfl) ?_
                refine l_gfi rfl rfl rfl rfl rfl ?_
                have w113 : (Xi T15 895 12) = (Xi T1 895 12) := (show Xi T15 895 12 = Xi T1 895 12 from w108.x _ _ rfl)
                rw [w113]
                refine l_callV rfl rfl rfl (t_wo_tellKind hHT15 z107 (Xi T1 895 12) ⟨by omega, by omega⟩ ⟨by omega, by omega⟩ _) ?_
                rintro _ T16 ⟨hHT16, w115, z114, rfl, w114⟩
                have hFT16 : FR md_re_doObjects S T16 := FR.tr hFT15 w115 rfl
                show Rl _ _ _ _ _ [iv z114] _ _
                have hK77 : LKEEP S T16 := LKEEP.tr hK43 (LKEEP_FR (by assumption : FR md_wo_tellKind T15 T16) rfl rfl)
                have ho77 : ∀ j, j ≠ 2 → Xi T16 5 j = Xi S 5 j := fun j hj => (((by assumption : FR md_wo_tellKind T15 T16).cx 5 rfl j).1).trans (ho43 j hj)
                have hc77 : NWC S T16 (v3 + 1) := nwc_e hc43 ((by assumption : FR md_wo_tellKind T15 T16).x 5 2 rfl)
                have hM77 : MAD T16 := mad_d hFT16 rfl rfl (hM (by omega)) (ho77 3 (by decide))
                refine l_if_eq rfl rfl (by unfold rg; omega) (fun w116 => ?_) (fun w117 => ?_)
                · refine l_aload_n rfl rfl ?_
                  refine l_gfr rfl rfl rfl rfl rfl (hHT16.r 891 0 876 rfl) ?_
                  refine l_iconst rfl ?_
                  refine l_iload_n rfl rfl ?_
                  refine l_callV rfl rfl rfl (t_to_wrong hHT16 5 v3 ⟨by omega, by omega⟩ ⟨by omega, by omega⟩ _) ?_
                  rintro _ T17 ⟨hHT17, w121, z120, rfl, w120, w118, w119⟩
                  have hFT17 : FR md_re_doObjects S T17 := FR.tr hFT16 w121 rfl
                  show Rl _ _ _ _ _ [iv z120] _ _
                  refine l_ireturn rfl (retI_z (by omega)) ?_
                  have w122 : 0 ≤ Xi T17 876 8 ∧ Xi T17 876 8 ≤ 9 := hHT17.c _ _
                  exact ⟨hHT17, hFT17, _, rfl, ⟨by omega, by omega⟩, (by first | (intro hz; omega) | (intro _; assumption) | (intro _; exact (WI_FR hHT16 w121 rfl rfl rfl rfl rfl rfl rfl rfl rfl (WI_FR hHT15 w115 rfl rfl rfl rfl rfl rfl rfl rfl rfl (by assumption : WI T15))))), (by omega)⟩
                · refine l_aload_n rfl rfl ?_
                  refine l_iload rfl rfl ?_
                  refine l_callV rfl rfl rfl (t_re_tellAdjectives hHT16 z107 ⟨by omega, by omega⟩ (by first | assumption | exact (TX_FR w115 rfl (TX_FR w108 rfl (by assumption : TX T1)))) (by first | assumption | exact (MAD_FR w115 rfl (by assumption : MAD T15))) _) ?_
                  rintro _ T18 ⟨hHT18, w125, z124, rfl, w124, w123⟩
                  have hFT18 : FR md_re_doObjects S T18 := FR.tr hFT16 w125 rfl
                  show Rl _ _ _ _ _ [iv z124] _ _
                  have hK86 : LKEEP S T18 := LKEEP.tr hK77 (LKEEP_FR (by assumption : FR md_re_tellAdjectives T16 T18) rfl rfl)
                  have ho86 : ∀ j, j ≠ 2 → Xi T18 5 j = Xi S 5 j := fun j hj => (((by assumption : FR md_re_tellAdjectives T16 T18).cx 5 rfl j).1).trans (ho77 j hj)
                  have hc86 : NWC S T18 (v3 + 1) := nwc_e hc77 ((by assumption : FR md_re_tellAdjectives T16 T18).x 5 2 rfl)
                  refine l_if_ne rfl rfl (by unfold rg; omega) (fun w126 => ?_) (fun w127 => ?_)
                  · exact Rl_weak (C102 T18 hHT18 hFT18 (v2) (v3) (z107) (by omega) (by omega) (by omega) (by first | assumption | exact (LEX_FR w125 rfl rfl (LEX_FR w115 rfl rfl (by assumption : LEX T15)))) (by first | assumption | exact (by assumption : TX T18)) (by first | exact hK86 | exact hK43 | exact LKEEP.tr hK102 (LKEEP_FR (by assumption : FR md_wo_tellPlace T16 T18) rfl rfl) | exact LKEEP.rf) (by first | exact ho86 | exact ho43 | exact fun j hj => (((by assumption : FR md_wo_tellPlace T16 T18).cx 5 rfl j).1).trans (ho102 j hj) | exact fun j _ => rfl) (by first | exact hc86 | exact hc43 | exact nwc_e hc102 ((by assumption : FR md_wo_tellPlace T16 T18).x 5 2 rfl) | exact nwc_f hc4 | exact nwc_0 hH) (by omega) (by omega)) (And.intro rfl (And.intro rfl (And.intro rfl (And.intro rfl (And.intro rfl (True.intro))))))
                  · refine l_aload_n rfl rfl ?_
                    refine l_gfr rfl rfl rfl rfl rfl (hHT18.r 891 0 876 rfl) ?_
                    refine l_iconst rfl ?_
                    refine l_iload_n rfl rfl ?_
                    refine l_callV rfl rfl rfl (t_to_wrong hHT18 5 v3 ⟨by omega, by omega⟩ ⟨by omega, by omega⟩ _) ?_
                    rintro _ T19 ⟨hHT19, w131, z130, rfl, w130, w128, w129⟩
                    have hFT19 : FR md_re_doObjects S T19 := FR.tr hFT18 w131 rfl
                    show Rl _ _ _ _ _ [iv z130] _ _
                    refine l_ireturn rfl (retI_z (by omega)) ?_
                    have w132 : 0 ≤ Xi T19 876 8 ∧ Xi T19 876 8 ≤ 9 := hHT19.c _ _
                    exact ⟨hHT19, hFT19, _, rfl, ⟨by omega, by omega⟩, (by first | (intro hz; omega) | (intro _; assumption) | (intro _; exact (WI_FR hHT18 w131 rfl rfl rfl rfl rfl rfl rfl rfl rfl (by assumption : WI T18)))), (by omega)⟩
            · refine l_iload rfl rfl ?_
              refine l_goto rfl rfl ?_
              refine l_istore_n rfl rfl rfl ?_
              refine l_iload_n rfl rfl ?_
              refine l_if_eq rfl rfl (by unfold rg; omega) (fun w133 => ?_) (fun w134 => ?_)
              · exact Rl_weak (C102 T15 hHT15 hFT15 (z107) (v3) (z107) (by omega) (by omega) (by omega) (by first | assumption | exact (by assumption : LEX T15)) (by first | assumption | exact (TX_FR w108 rfl (by assumption : TX T1))) (by first | exact hK86 | exact hK43 | exact LKEEP.tr hK102 (LKEEP_FR (by assumption : FR md_wo_tellPlace T1 T15) rfl rfl) | exact LKEEP.rf) (by first | exact ho86 | exact ho43 | exact fun j hj => (((by assumption : FR md_wo_tellPlace T1 T15).cx 5 rfl j).1).trans (ho102 j hj) | exact fun j _ => rfl) (by first | exact hc86 | exact hc43 | exact nwc_e hc102 ((by assumption : FR md_wo_tellPlace T1 T15).x 5 2 rfl) | exact nwc_f hc4 | exact nwc_0 hH) (by omega) (by omega)) (And.intro rfl (And.intro rfl (And.intro rfl (And.intro rfl (And.intro rfl (True.intro))))))
              · refine l_aload_n rfl rfl ?_
                refine l_gfr rfl rfl rfl rfl rfl (hHT15.r 891 3 20 rfl) ?_
                refine l_iload rfl rfl ?_
                refine l_aload_n rfl rfl ?_
                refine l_gfr rfl rfl rfl rfl rfl (hHT15.r 891 4 895 rfl) ?_
                refine l_gfi rfl rfl rfl rfl rfl ?_
                have w135 : (Xi T15 895 12) = (Xi T1 895 12) := (show Xi T15 895 12 = Xi T1 895 12 from w108.x _ _ rfl)
                rw [w135]
                refine l_callV rfl rfl rfl (t_wo_tellKind hHT15 z107 (Xi T1 895 12) ⟨by omega, by omega⟩ ⟨by omega, by omega⟩ _) ?_
                rintro _ T20 ⟨hHT20, w137, z136, rfl, w136⟩
                have hFT20 : FR md_re_doObjects S T20 := FR.tr hFT15 w137 rfl
                show Rl _ _ _ _ _ [iv z136] _ _
                have hK77 : LKEEP S T20 := LKEEP.tr hK43 (LKEEP_FR (by assumption : FR md_wo_tellKind T15 T20) rfl rfl)
                have ho77 : ∀ j, j ≠ 2 → Xi T20 5 j = Xi S 5 j := fun j hj => (((by assumption : FR md_wo_tellKind T15 T20).cx 5 rfl j).1).trans (ho43 j hj)
                have hc77 : NWC S T20 (v3 + 1) := nwc_e hc43 ((by assumption : FR md_wo_tellKind T15 T20).x 5 2 rfl)
                have hM77 : MAD T20 := mad_d hFT20 rfl rfl (hM (by omega)) (ho77 3 (by decide))
                refine l_if_eq rfl rfl (by unfold rg; omega) (fun w138 => ?_) (fun w139 => ?_)
                · refine l_aload_n rfl rfl ?_
                  refine l_gfr rfl rfl rfl rfl rfl (hHT20.r 891 0 876 rfl) ?_
                  refine l_iconst rfl ?_
                  refine l_iload_n rfl rfl ?_
                  refine l_callV rfl rfl rfl (t_to_wrong hHT20 5 v3 ⟨by omega, by omega⟩ ⟨by omega, by omega⟩ _) ?_
                  rintro _ T21 ⟨hHT21, w143, z142, rfl, w142, w140, w141⟩
                  have hFT21 : FR md_re_doObjects S T21 := FR.tr hFT20 w143 rfl
                  show Rl _ _ _ _ _ [iv z142] _ _
                  refine l_ireturn rfl (retI_z (by omega)) ?_
                  have w144 : 0 ≤ Xi T21 876 8 ∧ Xi T21 876 8 ≤ 9 := hHT21.c _ _
                  exact ⟨hHT21, hFT21, _, rfl, ⟨by omega, by omega⟩, (by first | (intro hz; omega) | (intro _; assumption) | (intro _; exact (WI_FR hHT20 w143 rfl rfl rfl rfl rfl rfl rfl rfl rfl (WI_FR hHT15 w137 rfl rfl rfl rfl rfl rfl rfl rfl rfl (by assumption : WI T15))))), (by omega)⟩
                · refine l_aload_n rfl rfl ?_
                  refine l_iload rfl rfl ?_
                  refine l_callV rfl rfl rfl (t_re_tellAdjectives hHT20 z107 ⟨by omega, by omega⟩ (by first | assumption | exact (TX_FR w137 rfl (TX_FR w108 rfl (by assumption : TX T1)))) (by first | assumption | exact (MAD_FR w137 rfl (by assumption : MAD T15))) _) ?_
                  rintro _ T22 ⟨hHT22, w147, z146, rfl, w146, w145⟩
                  have hFT22 : FR md_re_doObjects S T22 := FR.tr hFT20 w147 rfl
                  show Rl _ _ _ _ _ [iv z146] _ _
                  have hK86 : LKEEP S T22 := LKEEP.tr hK77 (LKEEP_FR (by assumption : FR md_re_tellAdjectives T20 T22) rfl rfl)
                  have ho86 : ∀ j, j ≠ 2 → Xi T22 5 j = Xi S 5 j := fun j hj => (((by assumption : FR md_re_tellAdjectives T20 T22).cx 5 rfl j).1).trans (ho77 j hj)
                  have hc86 : NWC S T22 (v3 + 1) := nwc_e hc77 ((by assumption : FR md_re_tellAdjectives T20 T22).x 5 2 rfl)
                  refine l_if_ne rfl rfl (by unfold rg; omega) (fun w148 => ?_) (fun w149 => ?_)
                  · exact Rl_weak (C102 T22 hHT22 hFT22 (z107) (v3) (z107) (by omega) (by omega) (by omega) (by first | assumption | exact (LEX_FR w147 rfl rfl (LEX_FR w137 rfl rfl (by assumption : LEX T15)))) (by first | assumption | exact (by assumption : TX T22)) (by first | exact hK86 | exact hK43 | exact LKEEP.tr hK102 (LKEEP_FR (by assumption : FR md_wo_tellPlace T20 T22) rfl rfl) | exact LKEEP.rf) (by first | exact ho86 | exact ho43 | exact fun j hj => (((by assumption : FR md_wo_tellPlace T20 T22).cx 5 rfl j).1).trans (ho102 j hj) | exact fun j _ => rfl) (by first | exact hc86 | exact hc43 | exact nwc_e hc102 ((by assumption : FR md_wo_tellPlace T20 T22).x 5 2 rfl) | exact nwc_f hc4 | exact nwc_0 hH) (by omega) (by omega)) (And.intro rfl (And.intro rfl (And.intro rfl (And.intro rfl (And.intro rfl (True.intro))))))
                  · refine l_aload_n rfl rfl ?_
                    refine l_gfr rfl rfl rfl rfl rfl (hHT22.r 891 0 876 rfl) ?_
                    refine l_iconst rfl ?_
                    refine l_iload_n rfl rfl ?_
                    refine l_callV rfl rfl rfl (t_to_wrong hHT22 5 v3 ⟨by omega, by omega⟩ ⟨by omega, by omega⟩ _) ?_
                    rintro _ T23 ⟨hHT23, w153, z152, rfl, w152, w150, w151⟩
                    have hFT23 : FR md_re_doObjects S T23 := FR.tr hFT22 w153 rfl
                    show Rl _ _ _ _ _ [iv z152] _ _
                    refine l_ireturn rfl (retI_z (by omega)) ?_
                    have w154 : 0 ≤ Xi T23 876 8 ∧ Xi T23 876 8 ≤ 9 := hHT23.c _ _
                    exact ⟨hHT23, hFT23, _, rfl, ⟨by omega, by omega⟩, (by first | (intro hz; omega) | (intro _; assumption) | (intro _; exact (WI_FR hHT22 w153 rfl rfl rfl rfl rfl rfl rfl rfl rfl (by assumption : WI T22)))), (by omega)⟩
        · refine l_goto rfl rfl ?_
          refine l_iinc rfl rfl rfl rfl ?_
          refine l_goto rfl rfl ?_
          exact Rl_weak (ih4 _ (by omega) T1 hHT1 hFT1 (v2) ((v3 + 1)) (by omega) (by omega) (by first | assumption | exact (by assumption : LEX T1)) (by first | assumption | exact (by assumption : TX T1)) (by first | exact hK102 | exact hK43 | exact hK4 | exact LKEEP.tr hK102 (LKEEP_FR (by assumption : FR md_wo_tellPlace T1 T1) rfl rfl) | exact LKEEP.rf) (by first | exact ho102 | exact ho43 | exact ho4 | exact fun j hj => (((by assumption : FR md_wo_tellPlace T1 T1).cx 5 rfl j).1).trans (ho102 j hj) | exact fun j _ => rfl) (by first | exact hc102 | exact hc43 | exact hc4 | exact nwc_e hc102 ((by assumption : FR md_wo_tellPlace T1 T1).x 5 2 rfl) | exact nwc_f hc4 | exact nwc_0 hH) rfl) (And.intro rfl (And.intro rfl (And.intro rfl (And.intro rfl (True.intro)))))
  refine l_iconst rfl ?_
  refine l_istore_n rfl rfl rfl ?_
  refine l_iconst rfl ?_
  refine l_istore_n rfl rfl rfl ?_
  exact Rl_weak (C4 _ S hH hF ((-1)) (0) (by omega) (by omega) (by first | assumption | exact (by assumption : LEX S)) (by first | assumption | exact (by assumption : TX S)) (by first | exact hK102 | exact hK43 | exact hK4 | exact LKEEP.tr hK102 (LKEEP_FR (by assumption : FR md_wo_tellPlace S S) rfl rfl) | exact LKEEP.rf) (by first | exact ho102 | exact ho43 | exact ho4 | exact fun j hj => (((by assumption : FR md_wo_tellPlace S S).cx 5 rfl j).1).trans (ho102 j hj) | exact fun j _ => rfl) (by first | exact hc102 | exact hc43 | exact hc4 | exact nwc_e hc102 ((by assumption : FR md_wo_tellPlace S S).x 5 2 rfl) | exact nwc_f hc4 | exact nwc_0 hH) rfl) (And.intro rfl (And.intro rfl (And.intro rfl (And.intro rfl (True.intro)))))
def md_re_tellLoose : List rec := [(189, 195, 0, 100000), (876, 877, 8, 9), (876, 877, 9, 10)]
abbrev Q_re_tellLoose (S : sS) : pst := fun r S1 => HI S1 ∧ FR md_re_tellLoose S S1 ∧ (∃ z : Int, r = some (iv z) ∧ (0 ≤ z ∧ z ≤ 1) ∧ (z = 1 → WI S1) ∧ (z = 0 → Xi S1 876 8 ≠ 0))
set_option maxRecDepth 100000 in
theorem t_re_tellLoose {S : sS} (hH : HI S) (hW : WI S) (d : Nat) : Mt lay0 (d + 4) m_re_tellLoose [.ref 891] S (Q_re_tellLoose S) := by
  refine Mt_R rfl rfl ?_
  have hF : FR md_re_tellLoose S S := FR.rf
  have w1 : 0 ≤ Xi S 876 7 ∧ Xi S 876 7 ≤ 5125 := hH.c _ _
  have hL := hW.1
  have hX := hW.2.1
  have C21 : ∀ (n21 : Nat) (v1 : Int) (v2 : Int) (v3 : Int) (v4 : Int) (v5 : Int) (v6 : Int), (-1 ≤ v1 ∧ v1 ≤ 5129) → (0 ≤ v2 ∧ v2 ≤ 1) → (0 ≤ v3 ∧ v3 ≤ 5125) → (-1 ≤ v4 ∧ v4 ≤ 5125) → (-1 ≤ v5 ∧ v5 ≤ 5) → (0 ≤ v6 ∧ v6 ≤ 5125) → (v1 = Xi S 876 7 - 1) → (v3 ≠ 0 → 0 ≤ v4 ∧ 0 ≤ v5 ∧ 0 ≤ v1) → (v3 ≤ v6) → n21 = (5126 - v6).toNat → Rl lay0 (d + 3) m_re_tellLoose 21 [(0, .ref 891), (1, iv v1), (2, iv v2), (3, iv v3), (4, iv v4), (5, iv v5), (6, iv v6)] [] S (Q_re_tellLoose S) := by
    intro n21
    induction n21 using Nat.strongRecOn with
    | ind n21 ih21 =>
      intro v1 v2 v3 v4 v5 v6 w2 w3 w4 w5 w6 w7 w8 w9 w10 hm21
      have C173 : ∀  (v1 : Int) (v2 : Int) (v3 : Int) (v4 : Int) (v5 : Int) (v6 : Int), (1 ≤ v1 ∧ v1 ≤ 5129) → (0 ≤ v2 ∧ v2 ≤ 1) → (0 ≤ v3 ∧ v3 ≤ 5125) → (-1 ≤ v4 ∧ v4 ≤ 5125) → (-1 ≤ v5 ∧ v5 ≤ 5) → (0 ≤ v6 ∧ v6 ≤ 5125) → (v1 = Xi S 876 7 - 1) → (v3 ≠ 0 → 0 ≤ v4 ∧ 0 ≤ v5 ∧ 0 ≤ v1) → (v6 < v1) → (v3 ≤ v6 + 1) → ((5126 - v6).toNat ≤ n21) → Rl lay0 (d + 3) m_re_tellLoose 173 [(0, .ref 891), (1, iv v1), (2, iv v2), (3, iv v3), (4, iv v4), (5, iv v5), (6, iv v6)] [] S (Q_re_tellLoose S) := by
        intro v1 v2 v3 v4 v5 v6 w11 w12 w13 w14 w15 w16 w17 w18 w19 w20 w21
        refine l_iinc rfl rfl rfl rfl ?_
        refine l_goto rfl rfl ?_
        exact Rl_weak (ih21 _ (by omega) (v1) (v2) (v3) (v4) (v5) ((v6 + 1)) (by omega) (by omega) (by omega) (by omega) (by omega) (by omega) (by omega) (by omega) (by omega) rfl) (And.intro rfl (And.intro rfl (And.intro rfl (And.intro rfl (And.intro rfl (And.intro rfl (And.intro rfl (True.intro))))))))
      refine l_iload rfl rfl ?_
      refine l_iload_n rfl rfl ?_
      refine l_icmp_ge rfl rfl (by unfold rg; omega) (by unfold rg; omega) (fun w22 => ?_) (fun w23 => ?_)
      · refine l_iload_n rfl rfl ?_
        refine l_iconst rfl ?_
        refine l_icmp_eq rfl rfl (by unfold rg; omega) (by unfold rg; omega) (fun w24 => ?_) (fun w25 => ?_)
        · refine l_aload_n rfl rfl ?_
          refine l_iload rfl rfl ?_
          refine l_iload rfl rfl ?_
          refine l_iload_n rfl rfl ?_
          refine l_callV rfl rfl rfl (t_re_relateAll hH v5 v4 v1 ⟨by omega, by omega⟩ ⟨by omega, by omega⟩ ⟨by omega, by omega⟩ (by first | assumption | exact (LEX_FR hF rfl rfl (by assumption : LEX S))) _) ?_
          rintro _ T1 ⟨hHT1, w27, z26, rfl, w26⟩
          have hFT1 : FR md_re_tellLoose S T1 := FR.tr hF w27 rfl
          show Rl _ _ _ _ _ [iv z26] _ _
          refine l_if_ne rfl rfl (by unfold rg; omega) (fun w28 => ?_) (fun w29 => ?_)
          · refine l_iconst rfl ?_
            refine l_goto rfl rfl ?_
            refine l_ireturn rfl rfl ?_
            have w30 : Xi T1 876 8 = Xi S 876 8 := (show Xi T1 876 8 = Xi S 876 8 from w27.x _ _ rfl)
            have w31 : 0 ≤ Xi S 876 8 ∧ Xi S 876 8 ≤ 9 := hH.c _ _
            exact ⟨hHT1, hFT1, _, rfl, ⟨by omega, by omega⟩, (by first | (intro hz; omega) | (intro _; assumption) | (intro _; exact (WI_FR hH hFT1 rfl rfl rfl rfl rfl rfl rfl rfl rfl (by assumption : WI S)))), (by omega)⟩
          · refine l_aload_n rfl rfl ?_
            refine l_gfr rfl rfl rfl rfl rfl (hHT1.r 891 0 876 rfl) ?_
            refine l_iconst rfl ?_
            refine l_iconst rfl ?_
            refine l_callV rfl rfl rfl (t_to_wrong hHT1 5 0 ⟨by omega, by omega⟩ ⟨by omega, by omega⟩ _) ?_
            rintro _ T2 ⟨hHT2, w35, z34, rfl, w34, w32, w33⟩
            have hFT2 : FR md_re_tellLoose S T2 := FR.tr hFT1 w35 rfl
            show Rl _ _ _ _ _ [iv z34] _ _
            refine l_if_eq rfl rfl (by unfold rg; omega) (fun w36 => ?_) (fun w37 => ?_)
            · refine l_iconst rfl ?_
              refine l_ireturn rfl rfl ?_
              have w38 : 0 ≤ Xi T2 876 8 ∧ Xi T2 876 8 ≤ 9 := hHT2.c _ _
              exact ⟨hHT2, hFT2, _, rfl, ⟨by omega, by omega⟩, (by first | (intro hz; omega) | (intro _; assumption) | (intro _; exact (WI_FR hH hFT2 rfl rfl rfl rfl rfl rfl rfl rfl rfl (by assumption : WI S)))), (by omega)⟩
            · refine l_iconst rfl ?_
              refine l_goto rfl rfl ?_
              refine l_ireturn rfl rfl ?_
              have w39 : 0 ≤ Xi T2 876 8 ∧ Xi T2 876 8 ≤ 9 := hHT2.c _ _
              exact ⟨hHT2, hFT2, _, rfl, ⟨by omega, by omega⟩, (by first | (intro hz; omega) | (intro _; assumption) | (intro _; exact (WI_FR hH hFT2 rfl rfl rfl rfl rfl rfl rfl rfl rfl (by assumption : WI S)))), (by omega)⟩
        · refine l_aload_n rfl rfl ?_
          refine l_gfr rfl rfl rfl rfl rfl (hH.r 891 0 876 rfl) ?_
          refine l_iload_n rfl rfl ?_
          refine l_if_ne rfl rfl (by unfold rg; omega) (fun w40 => ?_) (fun w41 => ?_)
          · refine l_bipush rfl rfl ?_
            refine l_iconst rfl ?_
            refine l_callV rfl rfl rfl (t_to_wrong hH 7 0 ⟨by omega, by omega⟩ ⟨by omega, by omega⟩ _) ?_
            rintro _ T3 ⟨hHT3, w45, z44, rfl, w44, w42, w43⟩
            have hFT3 : FR md_re_tellLoose S T3 := FR.tr hF w45 rfl
            show Rl _ _ _ _ _ [iv z44] _ _
            refine l_ireturn rfl (retI_z (by omega)) ?_
            have w46 : 0 ≤ Xi T3 876 8 ∧ Xi T3 876 8 ≤ 9 := hHT3.c _ _
            exact ⟨hHT3, hFT3, _, rfl, ⟨by omega, by omega⟩, (by first | (intro hz; omega) | (intro _; assumption) | (intro _; exact (WI_FR hH hFT3 rfl rfl rfl rfl rfl rfl rfl rfl rfl (by assumption : WI S)))), (by omega)⟩
          · refine l_iconst rfl ?_
            refine l_goto rfl rfl ?_
            refine l_iconst rfl ?_
            refine l_callV rfl rfl rfl (t_to_wrong hH 4 0 ⟨by omega, by omega⟩ ⟨by omega, by omega⟩ _) ?_
            rintro _ T4 ⟨hHT4, w50, z49, rfl, w49, w47, w48⟩
            have hFT4 : FR md_re_tellLoose S T4 := FR.tr hF w50 rfl
            show Rl _ _ _ _ _ [iv z49] _ _
            refine l_ireturn rfl (retI_z (by omega)) ?_
            have w51 : 0 ≤ Xi T4 876 8 ∧ Xi T4 876 8 ≤ 9 := hHT4.c _ _
            exact ⟨hHT4, hFT4, _, rfl, ⟨by omega, by omega⟩, (by first | (intro hz; omega) | (intro _; assumption) | (intro _; exact (WI_FR hH hFT4 rfl rfl rfl rfl rfl rfl rfl rfl rfl (by assumption : WI S)))), (by omega)⟩
      · refine l_aload_n rfl rfl ?_
        refine l_gfr rfl rfl rfl rfl rfl (hH.r 891 0 876 rfl) ?_
        refine l_iload rfl rfl ?_
        refine l_callV rfl rfl rfl (t_to_typeAt hH v6 ⟨by omega, by omega⟩ _) ?_
        rintro _ _ ⟨rfl, z56, rfl, w56, w53, w54, w55⟩
        clear w54 w55
        show Rl _ _ _ _ _ [iv z56] _ _
        refine l_istore rfl rfl rfl ?_
        refine l_iload_n rfl rfl ?_
        refine l_if_ne rfl rfl (by unfold rg; omega) (fun w57 => ?_) (fun w58 => ?_)
        · refine l_iconst rfl ?_
          refine l_goto rfl rfl ?_
          refine l_istore_n rfl rfl rfl ?_
          refine l_iload rfl rfl ?_
          refine l_bipush rfl rfl ?_
          refine l_icmp_ne rfl rfl (by unfold rg; omega) (by unfold rg; omega) (fun w59 => ?_) (fun w60 => ?_)
          · refine l_iconst rfl ?_
            refine l_istore rfl rfl rfl ?_
            refine l_iload rfl rfl ?_
            refine l_iconst rfl ?_
            refine l_icmp_ne rfl rfl (by unfold rg; omega) (by unfold rg; omega) (fun w61 => absurd w61 (by omega)) (fun w62 => ?_)
            · refine l_goto rfl rfl ?_
              exact Rl_weak (C173 (v1) (1) (v3) (v4) (v5) (v6) (by omega) (by omega) (by omega) (by omega) (by omega) (by omega) (by omega) (by omega) (by omega) (by omega) (by omega)) (And.intro rfl (And.intro rfl (And.intro rfl (And.intro rfl (And.intro rfl (And.intro rfl (And.intro rfl (True.intro))))))))
          · refine l_aload_n rfl rfl ?_
            refine l_gfr rfl rfl rfl rfl rfl (hH.r 891 4 895 rfl) ?_
            refine l_iload_n rfl rfl ?_
            refine l_if_eq rfl rfl (by unfold rg; omega) (fun w63 => absurd w63 (by omega)) (fun w64 => ?_)
            · refine l_bipush rfl rfl ?_
              refine l_goto rfl rfl ?_
              refine l_iload rfl rfl ?_
              refine l_iload rfl rfl ?_
              refine l_iconst rfl ?_
              refine l_iadd rfl ?_
              refine l_callV rfl rfl rfl (t_me_find hH 7 v6 (v6 + 1) ⟨by omega, by omega⟩ ⟨by omega, by omega⟩ ⟨by omega, by omega⟩ (by first | assumption | exact (LEX_FR hF rfl rfl (by assumption : LEX S))) _) ?_
              rintro _ _ ⟨rfl, z68, rfl, w68, w65, w66, w67⟩
              have w69 : z68 ≠ -1 → _ := fun h => fb7 hH (w65 h)
              clear w66
              show Rl _ _ _ _ _ [iv z68] _ _
              refine l_goto rfl rfl ?_
              refine l_istore rfl rfl rfl ?_
              refine l_iload rfl rfl ?_
              refine l_iconst rfl ?_
              refine l_icmp_ne rfl rfl (by unfold rg; omega) (by unfold rg; omega) (fun w70 => ?_) (fun w71 => ?_)
              · refine l_aload_n rfl rfl ?_
                refine l_gfr rfl rfl rfl rfl rfl (hH.r 891 2 1 rfl) ?_
                refine l_gfr rfl rfl rfl rfl rfl (hH.r 1 17 18 rfl) ?_
                refine l_iload rfl rfl ?_
                refine l_iaload (n := 8) rfl rfl (by omega) (by omega) (by unfold rg; omega) ?_
                have w72 : 0 ≤ (Xi S 18 ((z68).toNat)) ∧ (Xi S 18 ((z68).toNat)) ≤ 5 := hH.c _ _
                refine l_istore rfl rfl rfl ?_
                refine l_aload_n rfl rfl ?_
                refine l_iconst rfl ?_
                refine l_iload rfl rfl ?_
                refine l_aload_n rfl rfl ?_
                refine l_gfr rfl rfl rfl rfl rfl (hH.r 891 2 1 rfl) ?_
                refine l_gfr rfl rfl rfl rfl rfl (hH.r 1 13 14 rfl) ?_
                refine l_iload rfl rfl ?_
                refine l_iaload (n := 6) rfl rfl (by omega) (by omega) (by unfold rg; omega) ?_
                have w73 : 0 ≤ (Xi S 14 (((Xi S 18 ((z68).toNat))).toNat)) ∧ (Xi S 14 (((Xi S 18 ((z68).toNat))).toNat)) ≤ 15 := hH.c _ _
                refine l_callV rfl rfl rfl (t_re_isObjectList hH 0 v6 (Xi S 14 (((Xi S 18 ((z68).toNat))).toNat)) ⟨by omega, by omega⟩ ⟨by omega, by omega⟩ ⟨by omega, by omega⟩ (by first | assumption | exact (LEX_FR hF rfl rfl (by assumption : LEX S))) _) ?_
                rintro _ _ ⟨rfl, z74, rfl, w74⟩
                show Rl _ _ _ _ _ [iv z74] _ _
                refine l_if_eq rfl rfl (by unfold rg; omega) (fun w75 => ?_) (fun w76 => ?_)
                · exact Rl_weak (C173 (v1) (1) (v3) (v4) (v5) (v6) (by omega) (by omega) (by omega) (by omega) (by omega) (by omega) (by omega) (by omega) (by omega) (by omega) (by omega)) (And.intro rfl (And.intro rfl (And.intro rfl (And.intro rfl (And.intro rfl (And.intro rfl (And.intro rfl (True.intro))))))))
                · refine l_aload_n rfl rfl ?_
                  refine l_iload rfl rfl ?_
                  refine l_iconst rfl ?_
                  refine l_iadd rfl ?_
                  refine l_iload_n rfl rfl ?_
                  refine l_aload_n rfl rfl ?_
                  refine l_gfr rfl rfl rfl rfl rfl (hH.r 891 2 1 rfl) ?_
                  refine l_gfr rfl rfl rfl rfl rfl (hH.r 1 14 15 rfl) ?_
                  refine l_iload rfl rfl ?_
                  refine l_iaload (n := 6) rfl rfl (by omega) (by omega) (by unfold rg; omega) ?_
                  have w77 : 0 ≤ (Xi S 15 (((Xi S 18 ((z68).toNat))).toNat)) ∧ (Xi S 15 (((Xi S 18 ((z68).toNat))).toNat)) ≤ 15 := hH.c _ _
                  refine l_callV rfl rfl rfl (t_re_isObjectList hH (v6 + 1) v1 (Xi S 15 (((Xi S 18 ((z68).toNat))).toNat)) ⟨by omega, by omega⟩ ⟨by omega, by omega⟩ ⟨by omega, by omega⟩ (by first | assumption | exact (LEX_FR hF rfl rfl (by assumption : LEX S))) _) ?_
                  rintro _ _ ⟨rfl, z78, rfl, w78⟩
                  show Rl _ _ _ _ _ [iv z78] _ _
                  refine l_if_eq rfl rfl (by unfold rg; omega) (fun w79 => ?_) (fun w80 => ?_)
                  · exact Rl_weak (C173 (v1) (1) (v3) (v4) (v5) (v6) (by omega) (by omega) (by omega) (by omega) (by omega) (by omega) (by omega) (by omega) (by omega) (by omega) (by omega)) (And.intro rfl (And.intro rfl (And.intro rfl (And.intro rfl (And.intro rfl (And.intro rfl (And.intro rfl (True.intro))))))))
                  · refine l_iload rfl rfl ?_
                    refine l_istore rfl rfl rfl ?_
                    refine l_iload rfl rfl ?_
                    refine l_istore rfl rfl rfl ?_
                    refine l_iinc rfl rfl rfl rfl ?_
                    exact Rl_weak (C173 (v1) (1) ((v3 + 1)) (v6) ((Xi S 18 ((z68).toNat))) (v6) (by omega) (by omega) (by omega) (by omega) (by omega) (by omega) (by omega) (by omega) (by omega) (by omega) (by omega)) (And.intro rfl (And.intro rfl (And.intro rfl (And.intro rfl (And.intro rfl (And.intro rfl (And.intro rfl (True.intro))))))))
              · refine l_goto rfl rfl ?_
                exact Rl_weak (C173 (v1) (1) (v3) (v4) (v5) (v6) (by omega) (by omega) (by omega) (by omega) (by omega) (by omega) (by omega) (by omega) (by omega) (by omega) (by omega)) (And.intro rfl (And.intro rfl (And.intro rfl (And.intro rfl (And.intro rfl (And.intro rfl (And.intro rfl (True.intro))))))))
        · refine l_iload rfl rfl ?_
          refine l_bipush rfl rfl ?_
          refine l_icmp_eq rfl rfl (by unfold rg; omega) (by unfold rg; omega) (fun w81 => ?_) (fun w82 => ?_)
          · refine l_iconst rfl ?_
            refine l_goto rfl rfl ?_
            refine l_istore_n rfl rfl rfl ?_
            refine l_iload rfl rfl ?_
            refine l_bipush rfl rfl ?_
            refine l_icmp_ne rfl rfl (by unfold rg; omega) (by unfold rg; omega) (fun w83 => ?_) (fun w84 => ?_)
            · refine l_iconst rfl ?_
              refine l_istore rfl rfl rfl ?_
              refine l_iload rfl rfl ?_
              refine l_iconst rfl ?_
              refine l_icmp_ne rfl rfl (by unfold rg; omega) (by unfold rg; omega) (fun w85 => absurd w85 (by omega)) (fun w86 => ?_)
              · refine l_goto rfl rfl ?_
                exact Rl_weak (C173 (v1) (1) (v3) (v4) (v5) (v6) (by omega) (by omega) (by omega) (by omega) (by omega) (by omega) (by omega) (by omega) (by omega) (by omega) (by omega)) (And.intro rfl (And.intro rfl (And.intro rfl (And.intro rfl (And.intro rfl (And.intro rfl (And.intro rfl (True.intro))))))))
            · refine l_aload_n rfl rfl ?_
              refine l_gfr rfl rfl rfl rfl rfl (hH.r 891 4 895 rfl) ?_
              refine l_iload_n rfl rfl ?_
              refine l_if_eq rfl rfl (by unfold rg; omega) (fun w87 => absurd w87 (by omega)) (fun w88 => ?_)
              · refine l_bipush rfl rfl ?_
                refine l_goto rfl rfl ?_
                refine l_iload rfl rfl ?_
                refine l_iload rfl rfl ?_
                refine l_iconst rfl ?_
                refine l_iadd rfl ?_
                refine l_callV rfl rfl rfl (t_me_find hH 7 v6 (v6 + 1) ⟨by omega, by omega⟩ ⟨by omega, by omega⟩ ⟨by omega, by omega⟩ (by first | assumption | exact (LEX_FR hF rfl rfl (by assumption : LEX S))) _) ?_
                rintro _ _ ⟨rfl, z92, rfl, w92, w89, w90, w91⟩
                have w93 : z92 ≠ -1 → _ := fun h => fb7 hH (w89 h)
                clear w90
                show Rl _ _ _ _ _ [iv z92] _ _
                refine l_goto rfl rfl ?_
                refine l_istore rfl rfl rfl ?_
                refine l_iload rfl rfl ?_
                refine l_iconst rfl ?_
                refine l_icmp_ne rfl rfl (by unfold rg; omega) (by unfold rg; omega) (fun w94 => ?_) (fun w95 => ?_)
                · refine l_aload_n rfl rfl ?_
                  refine l_gfr rfl rfl rfl rfl rfl (hH.r 891 2 1 rfl) ?_
                  refine l_gfr rfl rfl rfl rfl rfl (hH.r 1 17 18 rfl) ?_
                  refine l_iload rfl rfl ?_
                  refine l_iaload (n := 8) rfl rfl (by omega) (by omega) (by unfold rg; omega) ?_
                  have w96 : 0 ≤ (Xi S 18 ((z92).toNat)) ∧ (Xi S 18 ((z92).toNat)) ≤ 5 := hH.c _ _
                  refine l_istore rfl rfl rfl ?_
                  refine l_aload_n rfl rfl ?_
                  refine l_iconst rfl ?_
                  refine l_iload rfl rfl ?_
                  refine l_aload_n rfl rfl ?_
                  refine l_gfr rfl rfl rfl rfl rfl (hH.r 891 2 1 rfl) ?_
                  refine l_gfr rfl rfl rfl rfl rfl (hH.r 1 13 14 rfl) ?_
                  refine l_iload rfl rfl ?_
                  refine l_iaload (n := 6) rfl rfl (by omega) (by omega) (by unfold rg; omega) ?_
                  have w97 : 0 ≤ (Xi S 14 (((Xi S 18 ((z92).toNat))).toNat)) ∧ (Xi S 14 (((Xi S 18 ((z92).toNat))).toNat)) ≤ 15 := hH.c _ _
                  refine l_callV rfl rfl rfl (t_re_isObjectList hH 0 v6 (Xi S 14 (((Xi S 18 ((z92).toNat))).toNat)) ⟨by omega, by omega⟩ ⟨by omega, by omega⟩ ⟨by omega, by omega⟩ (by first | assumption | exact (LEX_FR hF rfl rfl (by assumption : LEX S))) _) ?_
                  rintro _ _ ⟨rfl, z98, rfl, w98⟩
                  show Rl _ _ _ _ _ [iv z98] _ _
                  refine l_if_eq rfl rfl (by unfold rg; omega) (fun w99 => ?_) (fun w100 => ?_)
                  · exact Rl_weak (C173 (v1) (1) (v3) (v4) (v5) (v6) (by omega) (by omega) (by omega) (by omega) (by omega) (by omega) (by omega) (by omega) (by omega) (by omega) (by omega)) (And.intro rfl (And.intro rfl (And.intro rfl (And.intro rfl (And.intro rfl (And.intro rfl (And.intro rfl (True.intro))))))))
                  · refine l_aload_n rfl rfl ?_
                    refine l_iload rfl rfl ?_
                    refine l_iconst rfl ?_
                    refine l_iadd rfl ?_
                    refine l_iload_n rfl rfl ?_
                    refine l_aload_n rfl rfl ?_
                    refine l_gfr rfl rfl rfl rfl rfl (hH.r 891 2 1 rfl) ?_
                    refine l_gfr rfl rfl rfl rfl rfl (hH.r 1 14 15 rfl) ?_
                    refine l_iload rfl rfl ?_
                    refine l_iaload (n := 6) rfl rfl (by omega) (by omega) (by unfold rg; omega) ?_
                    have w101 : 0 ≤ (Xi S 15 (((Xi S 18 ((z92).toNat))).toNat)) ∧ (Xi S 15 (((Xi S 18 ((z92).toNat))).toNat)) ≤ 15 := hH.c _ _
                    refine l_callV rfl rfl rfl (t_re_isObjectList hH (v6 + 1) v1 (Xi S 15 (((Xi S 18 ((z92).toNat))).toNat)) ⟨by omega, by omega⟩ ⟨by omega, by omega⟩ ⟨by omega, by omega⟩ (by first | assumption | exact (LEX_FR hF rfl rfl (by assumption : LEX S))) _) ?_
                    rintro _ _ ⟨rfl, z102, rfl, w102⟩
                    show Rl _ _ _ _ _ [iv z102] _ _
                    refine l_if_eq rfl rfl (by unfold rg; omega) (fun w103 => ?_) (fun w104 => ?_)
                    · exact Rl_weak (C173 (v1) (1) (v3) (v4) (v5) (v6) (by omega) (by omega) (by omega) (by omega) (by omega) (by omega) (by omega) (by omega) (by omega) (by omega) (by omega)) (And.intro rfl (And.intro rfl (And.intro rfl (And.intro rfl (And.intro rfl (And.intro rfl (And.intro rfl (True.intro))))))))
                    · refine l_iload rfl rfl ?_
                      refine l_istore rfl rfl rfl ?_
                      refine l_iload rfl rfl ?_
                      refine l_istore rfl rfl rfl ?_
                      refine l_iinc rfl rfl rfl rfl ?_
                      exact Rl_weak (C173 (v1) (1) ((v3 + 1)) (v6) ((Xi S 18 ((z92).toNat))) (v6) (by omega) (by omega) (by omega) (by omega) (by omega) (by omega) (by omega) (by omega) (by omega) (by omega) (by omega)) (And.intro rfl (And.intro rfl (And.intro rfl (And.intro rfl (And.intro rfl (And.intro rfl (And.intro rfl (True.intro))))))))
                · refine l_goto rfl rfl ?_
                  exact Rl_weak (C173 (v1) (1) (v3) (v4) (v5) (v6) (by omega) (by omega) (by omega) (by omega) (by omega) (by omega) (by omega) (by omega) (by omega) (by omega) (by omega)) (And.intro rfl (And.intro rfl (And.intro rfl (And.intro rfl (And.intro rfl (And.intro rfl (And.intro rfl (True.intro))))))))
          · refine l_iload rfl rfl ?_
            refine l_bipush rfl rfl ?_
            refine l_icmp_ne rfl rfl (by unfold rg; omega) (by unfold rg; omega) (fun w105 => ?_) (fun w106 => ?_)
            · refine l_iconst rfl ?_
              refine l_istore_n rfl rfl rfl ?_
              refine l_iload rfl rfl ?_
              refine l_bipush rfl rfl ?_
              refine l_icmp_ne rfl rfl (by unfold rg; omega) (by unfold rg; omega) (fun w107 => ?_) (fun w108 => ?_)
              · refine l_iconst rfl ?_
                refine l_istore rfl rfl rfl ?_
                refine l_iload rfl rfl ?_
                refine l_iconst rfl ?_
                refine l_icmp_ne rfl rfl (by unfold rg; omega) (by unfold rg; omega) (fun w109 => absurd w109 (by omega)) (fun w110 => ?_)
                · refine l_goto rfl rfl ?_
                  exact Rl_weak (C173 (v1) (0) (v3) (v4) (v5) (v6) (by omega) (by omega) (by omega) (by omega) (by omega) (by omega) (by omega) (by omega) (by omega) (by omega) (by omega)) (And.intro rfl (And.intro rfl (And.intro rfl (And.intro rfl (And.intro rfl (And.intro rfl (And.intro rfl (True.intro))))))))
              · refine l_aload_n rfl rfl ?_
                refine l_gfr rfl rfl rfl rfl rfl (hH.r 891 4 895 rfl) ?_
                refine l_iload_n rfl rfl ?_
                refine l_if_eq rfl rfl (by unfold rg; omega) (fun w111 => ?_) (fun w112 => absurd w112 (by omega))
                · refine l_bipush rfl rfl ?_
                  refine l_iload rfl rfl ?_
                  refine l_iload rfl rfl ?_
                  refine l_iconst rfl ?_
                  refine l_iadd rfl ?_
                  refine l_callV rfl rfl rfl (t_me_find hH 13 v6 (v6 + 1) ⟨by omega, by omega⟩ ⟨by omega, by omega⟩ ⟨by omega, by omega⟩ (by first | assumption | exact (LEX_FR hF rfl rfl (by assumption : LEX S))) _) ?_
                  rintro _ _ ⟨rfl, z116, rfl, w116, w113, w114, w115⟩
                  have w117 : z116 ≠ -1 → _ := fun h => fb13 hH (w113 h)
                  clear w114
                  show Rl _ _ _ _ _ [iv z116] _ _
                  refine l_goto rfl rfl ?_
                  refine l_istore rfl rfl rfl ?_
                  refine l_iload rfl rfl ?_
                  refine l_iconst rfl ?_
                  refine l_icmp_ne rfl rfl (by unfold rg; omega) (by unfold rg; omega) (fun w118 => ?_) (fun w119 => ?_)
                  · refine l_aload_n rfl rfl ?_
                    refine l_gfr rfl rfl rfl rfl rfl (hH.r 891 2 1 rfl) ?_
                    refine l_gfr rfl rfl rfl rfl rfl (hH.r 1 17 18 rfl) ?_
                    refine l_iload rfl rfl ?_
                    refine l_iaload (n := 8) rfl rfl (by omega) (by omega) (by unfold rg; omega) ?_
                    have w120 : 0 ≤ (Xi S 18 ((z116).toNat)) ∧ (Xi S 18 ((z116).toNat)) ≤ 5 := hH.c _ _
                    refine l_istore rfl rfl rfl ?_
                    refine l_aload_n rfl rfl ?_
                    refine l_iconst rfl ?_
                    refine l_iload rfl rfl ?_
                    refine l_aload_n rfl rfl ?_
                    refine l_gfr rfl rfl rfl rfl rfl (hH.r 891 2 1 rfl) ?_
                    refine l_gfr rfl rfl rfl rfl rfl (hH.r 1 13 14 rfl) ?_
                    refine l_iload rfl rfl ?_
                    refine l_iaload (n := 6) rfl rfl (by omega) (by omega) (by unfold rg; omega) ?_
                    have w121 : 0 ≤ (Xi S 14 (((Xi S 18 ((z116).toNat))).toNat)) ∧ (Xi S 14 (((Xi S 18 ((z116).toNat))).toNat)) ≤ 15 := hH.c _ _
                    refine l_callV rfl rfl rfl (t_re_isObjectList hH 0 v6 (Xi S 14 (((Xi S 18 ((z116).toNat))).toNat)) ⟨by omega, by omega⟩ ⟨by omega, by omega⟩ ⟨by omega, by omega⟩ (by first | assumption | exact (LEX_FR hF rfl rfl (by assumption : LEX S))) _) ?_
                    rintro _ _ ⟨rfl, z122, rfl, w122⟩
                    show Rl _ _ _ _ _ [iv z122] _ _
                    refine l_if_eq rfl rfl (by unfold rg; omega) (fun w123 => ?_) (fun w124 => ?_)
                    · exact Rl_weak (C173 (v1) (0) (v3) (v4) (v5) (v6) (by omega) (by omega) (by omega) (by omega) (by omega) (by omega) (by omega) (by omega) (by omega) (by omega) (by omega)) (And.intro rfl (And.intro rfl (And.intro rfl (And.intro rfl (And.intro rfl (And.intro rfl (And.intro rfl (True.intro))))))))
                    · refine l_aload_n rfl rfl ?_
                      refine l_iload rfl rfl ?_
                      refine l_iconst rfl ?_
                      refine l_iadd rfl ?_
                      refine l_iload_n rfl rfl ?_
                      refine l_aload_n rfl rfl ?_
                      refine l_gfr rfl rfl rfl rfl rfl (hH.r 891 2 1 rfl) ?_
                      refine l_gfr rfl rfl rfl rfl rfl (hH.r 1 14 15 rfl) ?_
                      refine l_iload rfl rfl ?_
                      refine l_iaload (n := 6) rfl rfl (by omega) (by omega) (by unfold rg; omega) ?_
                      have w125 : 0 ≤ (Xi S 15 (((Xi S 18 ((z116).toNat))).toNat)) ∧ (Xi S 15 (((Xi S 18 ((z116).toNat))).toNat)) ≤ 15 := hH.c _ _
                      refine l_callV rfl rfl rfl (t_re_isObjectList hH (v6 + 1) v1 (Xi S 15 (((Xi S 18 ((z116).toNat))).toNat)) ⟨by omega, by omega⟩ ⟨by omega, by omega⟩ ⟨by omega, by omega⟩ (by first | assumption | exact (LEX_FR hF rfl rfl (by assumption : LEX S))) _) ?_
                      rintro _ _ ⟨rfl, z126, rfl, w126⟩
                      show Rl _ _ _ _ _ [iv z126] _ _
                      refine l_if_eq rfl rfl (by unfold rg; omega) (fun w127 => ?_) (fun w128 => ?_)
                      · exact Rl_weak (C173 (v1) (0) (v3) (v4) (v5) (v6) (by omega) (by omega) (by omega) (by omega) (by omega) (by omega) (by omega) (by omega) (by omega) (by omega) (by omega)) (And.intro rfl (And.intro rfl (And.intro rfl (And.intro rfl (And.intro rfl (And.intro rfl (And.intro rfl (True.intro))))))))
                      · refine l_iload rfl rfl ?_
                        refine l_istore rfl rfl rfl ?_
                        refine l_iload rfl rfl ?_
                        refine l_istore rfl rfl rfl ?_
                        refine l_iinc rfl rfl rfl rfl ?_
                        exact Rl_weak (C173 (v1) (0) ((v3 + 1)) (v6) ((Xi S 18 ((z116).toNat))) (v6) (by omega) (by omega) (by omega) (by omega) (by omega) (by omega) (by omega) (by omega) (by omega) (by omega) (by omega)) (And.intro rfl (And.intro rfl (And.intro rfl (And.intro rfl (And.intro rfl (And.intro rfl (And.intro rfl (True.intro))))))))
                  · refine l_goto rfl rfl ?_
                    exact Rl_weak (C173 (v1) (0) (v3) (v4) (v5) (v6) (by omega) (by omega) (by omega) (by omega) (by omega) (by omega) (by omega) (by omega) (by omega) (by omega) (by omega)) (And.intro rfl (And.intro rfl (And.intro rfl (And.intro rfl (And.intro rfl (And.intro rfl (And.intro rfl (True.intro))))))))
            · refine l_iconst rfl ?_
              refine l_goto rfl rfl ?_
              refine l_istore_n rfl rfl rfl ?_
              refine l_iload rfl rfl ?_
              refine l_bipush rfl rfl ?_
              refine l_icmp_ne rfl rfl (by unfold rg; omega) (by unfold rg; omega) (fun w129 => ?_) (fun w130 => ?_)
              · refine l_iconst rfl ?_
                refine l_istore rfl rfl rfl ?_
                refine l_iload rfl rfl ?_
                refine l_iconst rfl ?_
                refine l_icmp_ne rfl rfl (by unfold rg; omega) (by unfold rg; omega) (fun w131 => absurd w131 (by omega)) (fun w132 => ?_)
                · refine l_goto rfl rfl ?_
                  exact Rl_weak (C173 (v1) (1) (v3) (v4) (v5) (v6) (by omega) (by omega) (by omega) (by omega) (by omega) (by omega) (by omega) (by omega) (by omega) (by omega) (by omega)) (And.intro rfl (And.intro rfl (And.intro rfl (And.intro rfl (And.intro rfl (And.intro rfl (And.intro rfl (True.intro))))))))
              · refine l_aload_n rfl rfl ?_
                refine l_gfr rfl rfl rfl rfl rfl (hH.r 891 4 895 rfl) ?_
                refine l_iload_n rfl rfl ?_
                refine l_if_eq rfl rfl (by unfold rg; omega) (fun w133 => absurd w133 (by omega)) (fun w134 => ?_)
                · refine l_bipush rfl rfl ?_
                  refine l_goto rfl rfl ?_
                  refine l_iload rfl rfl ?_
                  refine l_iload rfl rfl ?_
                  refine l_iconst rfl ?_
                  refine l_iadd rfl ?_
                  refine l_callV rfl rfl rfl (t_me_find hH 7 v6 (v6 + 1) ⟨by omega, by omega⟩ ⟨by omega, by omega⟩ ⟨by omega, by omega⟩ (by first | assumption | exact (LEX_FR hF rfl rfl (by assumption : LEX S))) _) ?_
                  rintro _ _ ⟨rfl, z138, rfl, w138, w135, w136, w137⟩
                  have w139 : z138 ≠ -1 → _ := fun h => fb7 hH (w135 h)
                  clear w136
                  show Rl _ _ _ _ _ [iv z138] _ _
                  refine l_goto rfl rfl ?_
                  refine l_istore rfl rfl rfl ?_
                  refine l_iload rfl rfl ?_
                  refine l_iconst rfl ?_
                  refine l_icmp_ne rfl rfl (by unfold rg; omega) (by unfold rg; omega) (fun w140 => ?_) (fun w141 => ?_)
                  · refine l_aload_n rfl rfl ?_
                    refine l_gfr rfl rfl rfl rfl rfl (hH.r 891 2 1 rfl) ?_
                    refine l_gfr rfl rfl rfl rfl rfl (hH.r 1 17 18 rfl) ?_
                    refine l_iload rfl rfl ?_
                    refine l_iaload (n := 8) rfl rfl (by omega) (by omega) (by unfold rg; omega) ?_
                    have w142 : 0 ≤ (Xi S 18 ((z138).toNat)) ∧ (Xi S 18 ((z138).toNat)) ≤ 5 := hH.c _ _
                    refine l_istore rfl rfl rfl ?_
                    refine l_aload_n rfl rfl ?_
                    refine l_iconst rfl ?_
                    refine l_iload rfl rfl ?_
                    refine l_aload_n rfl rfl ?_
                    refine l_gfr rfl rfl rfl rfl rfl (hH.r 891 2 1 rfl) ?_
                    refine l_gfr rfl rfl rfl rfl rfl (hH.r 1 13 14 rfl) ?_
                    refine l_iload rfl rfl ?_
                    refine l_iaload (n := 6) rfl rfl (by omega) (by omega) (by unfold rg; omega) ?_
                    have w143 : 0 ≤ (Xi S 14 (((Xi S 18 ((z138).toNat))).toNat)) ∧ (Xi S 14 (((Xi S 18 ((z138).toNat))).toNat)) ≤ 15 := hH.c _ _
                    refine l_callV rfl rfl rfl (t_re_isObjectList hH 0 v6 (Xi S 14 (((Xi S 18 ((z138).toNat))).toNat)) ⟨by omega, by omega⟩ ⟨by omega, by omega⟩ ⟨by omega, by omega⟩ (by first | assumption | exact (LEX_FR hF rfl rfl (by assumption : LEX S))) _) ?_
                    rintro _ _ ⟨rfl, z144, rfl, w144⟩
                    show Rl _ _ _ _ _ [iv z144] _ _
                    refine l_if_eq rfl rfl (by unfold rg; omega) (fun w145 => ?_) (fun w146 => ?_)
                    · exact Rl_weak (C173 (v1) (1) (v3) (v4) (v5) (v6) (by omega) (by omega) (by omega) (by omega) (by omega) (by omega) (by omega) (by omega) (by omega) (by omega) (by omega)) (And.intro rfl (And.intro rfl (And.intro rfl (And.intro rfl (And.intro rfl (And.intro rfl (And.intro rfl (True.intro))))))))
                    · refine l_aload_n rfl rfl ?_
                      refine l_iload rfl rfl ?_
                      refine l_iconst rfl ?_
                      refine l_iadd rfl ?_
                      refine l_iload_n rfl rfl ?_
                      refine l_aload_n rfl rfl ?_
                      refine l_gfr rfl rfl rfl rfl rfl (hH.r 891 2 1 rfl) ?_
                      refine l_gfr rfl rfl rfl rfl rfl (hH.r 1 14 15 rfl) ?_
                      refine l_iload rfl rfl ?_
                      refine l_iaload (n := 6) rfl rfl (by omega) (by omega) (by unfold rg; omega) ?_
                      have w147 : 0 ≤ (Xi S 15 (((Xi S 18 ((z138).toNat))).toNat)) ∧ (Xi S 15 (((Xi S 18 ((z138).toNat))).toNat)) ≤ 15 := hH.c _ _
                      refine l_callV rfl rfl rfl (t_re_isObjectList hH (v6 + 1) v1 (Xi S 15 (((Xi S 18 ((z138).toNat))).toNat)) ⟨by omega, by omega⟩ ⟨by omega, by omega⟩ ⟨by omega, by omega⟩ (by first | assumption | exact (LEX_FR hF rfl rfl (by assumption : LEX S))) _) ?_
                      rintro _ _ ⟨rfl, z148, rfl, w148⟩
                      show Rl _ _ _ _ _ [iv z148] _ _
                      refine l_if_eq rfl rfl (by unfold rg; omega) (fun w149 => ?_) (fun w150 => ?_)
                      · exact Rl_weak (C173 (v1) (1) (v3) (v4) (v5) (v6) (by omega) (by omega) (by omega) (by omega) (by omega) (by omega) (by omega) (by omega) (by omega) (by omega) (by omega)) (And.intro rfl (And.intro rfl (And.intro rfl (And.intro rfl (And.intro rfl (And.intro rfl (And.intro rfl (True.intro))))))))
                      · refine l_iload rfl rfl ?_
                        refine l_istore rfl rfl rfl ?_
                        refine l_iload rfl rfl ?_
                        refine l_istore rfl rfl rfl ?_
                        refine l_iinc rfl rfl rfl rfl ?_
                        exact Rl_weak (C173 (v1) (1) ((v3 + 1)) (v6) ((Xi S 18 ((z138).toNat))) (v6) (by omega) (by omega) (by omega) (by omega) (by omega) (by omega) (by omega) (by omega) (by omega) (by omega) (by omega)) (And.intro rfl (And.intro rfl (And.intro rfl (And.intro rfl (And.intro rfl (And.intro rfl (And.intro rfl (True.intro))))))))
                  · refine l_goto rfl rfl ?_
                    exact Rl_weak (C173 (v1) (1) (v3) (v4) (v5) (v6) (by omega) (by omega) (by omega) (by omega) (by omega) (by omega) (by omega) (by omega) (by omega) (by omega) (by omega)) (And.intro rfl (And.intro rfl (And.intro rfl (And.intro rfl (And.intro rfl (And.intro rfl (And.intro rfl (True.intro))))))))
  refine l_aload_n rfl rfl ?_
  refine l_gfr rfl rfl rfl rfl rfl (hH.r 891 0 876 rfl) ?_
  refine l_callV rfl rfl rfl (t_to_lastRow hH _) ?_
  rintro _ _ ⟨rfl, z153, rfl, w153, w152⟩
  show Rl _ _ _ _ _ [iv z153] _ _
  refine l_istore_n rfl rfl rfl ?_
  refine l_iconst rfl ?_
  refine l_istore_n rfl rfl rfl ?_
  refine l_iconst rfl ?_
  refine l_istore_n rfl rfl rfl ?_
  refine l_iconst rfl ?_
  refine l_istore rfl rfl rfl ?_
  refine l_iconst rfl ?_
  refine l_istore rfl rfl rfl ?_
  refine l_iconst rfl ?_
  refine l_istore rfl rfl rfl ?_
  exact Rl_weak (C21 _ (z153) (0) (0) ((-1)) ((-1)) (0) (by omega) (by omega) (by omega) (by omega) (by omega) (by omega) (by omega) (by omega) (by omega) rfl) (And.intro rfl (And.intro rfl (And.intro rfl (And.intro rfl (And.intro rfl (And.intro rfl (And.intro rfl (True.intro))))))))
/-! SAFETY of methods: printed by wip/safe (vc.py, decl.py) -/
def md_re_tellObjects : List rec := [(1, 2, 3, 4), (2, 3, 0, 100000), (3, 4, 0, 100000), (4, 5, 0, 100000), (5, 6, 0, 100000), (21, 22, 0, 100000), (22, 23, 0, 100000), (23, 24, 0, 100000), (25, 65, 0, 100000), (66, 106, 0, 100000), (107, 147, 0, 100000), (148, 188, 0, 100000), (876, 877, 8, 9), (876, 877, 9, 10), (891, 892, 9, 10), (891, 892, 10, 11), (891, 892, 11, 12), (891, 892, 12, 13), (892, 893, 0, 100000), (893, 894, 0, 100000), (895, 896, 8, 9), (895, 896, 9, 10), (895, 896, 12, 13), (895, 896, 13, 14), (895, 896, 14, 15), (896, 897, 0, 100000), (897, 898, 0, 100000), (898, 899, 0, 100000)]
abbrev Q_re_tellObjects (S : sS) : pst := fun r S1 => HI S1 ∧ FR md_re_tellObjects S S1 ∧ (∃ z : Int, r = some (iv z) ∧ (0 ≤ z ∧ z ≤ 1) ∧ (z = 1 → WI S1) ∧ (z = 0 → Xi S1 876 8 ≠ 0))
set_option maxRecDepth 100000 in
theorem t_re_tellObjects {S : sS} (hH : HI S) (hW : WI S) (hn0 : Xi S 891 9 = 0) (hw0 : Xi S 891 11 = 0) (d : Nat) : Mt lay0 (d + 6) m_re_tellObjects [.ref 891] S (Q_re_tellObjects S) := by
  refine Mt_R rfl rfl ?_
  have hF : FR md_re_tellObjects S S := FR.rf
  have w1 : -1 ≤ Xi S 890 3 ∧ Xi S 890 3 ≤ 5124 := hH.c _ _
  have w2 : 0 ≤ Xi S 891 11 ∧ Xi S 891 11 ≤ 5 := hH.c _ _
  have w3 : 0 ≤ Xi S 891 9 ∧ Xi S 891 9 ≤ 24 := hH.c _ _
  have hL := hW.1
  have hX := hW.2.1
  have h890 : -1 ≤ Xi S 890 3 ∧ Xi S 890 3 ≤ 5124 := hH.c _ _
  have C68 : ∀  (T1 : sS) (_ : HI T1) (_ : FR md_re_tellObjects S T1) (v2 : Int) (v3 : Int), (0 ≤ v2 ∧ v2 ≤ 1) → (0 ≤ v3 ∧ v3 ≤ 5126) → (WI T1) → (NWO T1 (Xi S 890 3)) → (v2 = 1 → MAD T1) → (Xi T1 891 11 = 0) → Rl lay0 (d + 5) m_re_tellObjects 68 [(0, .ref 891), (2, iv v2), (3, iv v3)] [] T1 (Q_re_tellObjects S) := by
    intro T1 hHT1 hFT1 v2 v3 w4 w5 hW68 hN68 hM68 w6
    have w7 : Xi T1 876 7 = Xi S 876 7 := hFT1.x _ _ rfl
    have w8 : Xi T1 890 3 = Xi S 890 3 := hFT1.x _ _ rfl
    have w9 : 0 ≤ Xi T1 891 11 ∧ Xi T1 891 11 ≤ 5 := hHT1.c _ _
    refine l_aload_n rfl rfl ?_
    refine l_gfr rfl rfl rfl rfl rfl (hHT1.r 891 0 876 rfl) ?_
    refine l_iload_n rfl rfl ?_
    have w10 : 0 ≤ Xi T1 876 7 ∧ Xi T1 876 7 ≤ 5125 := hHT1.c _ _
    refine l_callV rfl rfl rfl (t_to_typeAt hHT1 v3 ⟨by omega, by omega⟩ _) ?_
    rintro _ _ ⟨rfl, z17, rfl, w17, w14, w15, w16⟩
    clear w15 w16
    show Rl _ _ _ _ _ [iv z17] _ _
    refine l_bipush rfl rfl ?_
    refine l_icmp_eq rfl rfl (by unfold rg; omega) (by unfold rg; omega) (fun w18 => ?_) (fun w19 => ?_)
    · refine l_aload_n rfl rfl ?_
      refine l_iload_n rfl rfl ?_
      refine l_callV rfl rfl rfl (t_re_doObjects hHT1 v2 ⟨by omega, by omega⟩ (by first | assumption | exact (by assumption : WI T1)) (by rw [show Xi T1 890 3 = Xi S 890 3 by omega]; first | exact hN83 | exact hN68) (by first | exact hM83 | exact hM68) (by first | assumption | omega) _) ?_
      rintro _ T2 ⟨hHT2, w26, z25, rfl, w25, w23, w24⟩
      have hFT2 : FR md_re_tellObjects S T2 := FR.tr hFT1 w26 rfl
      show Rl _ _ _ _ _ [iv z25] _ _
      refine l_if_eq rfl rfl (by unfold rg; omega) (fun w27 => ?_) (fun w28 => ?_)
      · refine l_iconst rfl ?_
        refine l_ireturn rfl rfl ?_
        have w29 : 0 ≤ Xi T2 876 8 ∧ Xi T2 876 8 ≤ 9 := hHT2.c _ _
        exact ⟨hHT2, hFT2, _, rfl, ⟨by omega, by omega⟩, (by first | (intro hz; omega) | (intro _; assumption) | (intro hz; apply_assumption; omega) | (intro _; exact (by assumption : WI T2))), (by omega)⟩
      · refine l_iconst rfl ?_
        refine l_goto rfl rfl ?_
        refine l_ireturn rfl rfl ?_
        have w36 : 0 ≤ Xi T2 876 8 ∧ Xi T2 876 8 ≤ 9 := hHT2.c _ _
        exact ⟨hHT2, hFT2, _, rfl, ⟨by omega, by omega⟩, (by first | (intro hz; omega) | (intro _; assumption) | (intro hz; apply_assumption; omega) | (intro _; exact (by assumption : WI T2))), (by omega)⟩
    · refine l_aload_n rfl rfl ?_
      refine l_iload_n rfl rfl ?_
      refine l_callV rfl rfl rfl (t_re_takePlace hHT1 v3 ⟨by omega, by omega⟩ (by first | assumption | exact (by first | assumption | exact (by assumption : WI T1).1 : LEX T1)) _) ?_
      rintro _ T3 ⟨hHT3, w49, z48, rfl, w48, w46, w47⟩
      have hFT3 : FR md_re_tellObjects S T3 := FR.tr hFT1 w49 rfl
      show Rl _ _ _ _ _ [iv z48] _ _
      have hN83 : NWO T3 (Xi S 890 3) := NWO_FR (by assumption : FR md_re_takePlace T1 T3) rfl hN68
      have hM83 : v2 = 1 → MAD T3 := fun q => MAD_FR (by assumption : FR md_re_takePlace T1 T3) rfl (hM68 q)
      refine l_if_eq rfl rfl (by unfold rg; omega) (fun w50 => ?_) (fun w51 => ?_)
      · refine l_iconst rfl ?_
        refine l_ireturn rfl rfl ?_
        have w52 : 0 ≤ Xi T3 876 8 ∧ Xi T3 876 8 ≤ 9 := hHT3.c _ _
        exact ⟨hHT3, hFT3, _, rfl, ⟨by omega, by omega⟩, (by first | (intro hz; omega) | (intro _; assumption) | (intro hz; apply_assumption; omega) | (intro _; exact (WI_FR hHT1 w49 rfl rfl rfl rfl rfl rfl rfl rfl rfl (by assumption : WI T1)))), (by omega)⟩
      · refine l_aload_n rfl rfl ?_
        refine l_iload_n rfl rfl ?_
        have w57 : Xi T3 890 3 = Xi T1 890 3 := (show Xi T3 890 3 = Xi T1 890 3 from w49.x _ _ rfl)
        have w59 : 0 ≤ Xi T3 891 11 ∧ Xi T3 891 11 ≤ 5 := hHT3.c _ _
        have w60 : -1 ≤ Xi T3 891 12 ∧ Xi T3 891 12 ≤ 23 := hHT3.c _ _
        refine l_callV rfl rfl rfl (t_re_doObjects hHT3 v2 ⟨by omega, by omega⟩ (by first | assumption | exact (WI_FR hHT1 w49 rfl rfl rfl rfl rfl rfl rfl rfl rfl (by assumption : WI T1))) (by rw [show Xi T3 890 3 = Xi S 890 3 by omega]; first | exact hN83 | exact hN68) (by first | exact hM83 | exact hM68) (by first | assumption | omega) _) ?_
        rintro _ T4 ⟨hHT4, w64, z63, rfl, w63, w61, w62⟩
        have hFT4 : FR md_re_tellObjects S T4 := FR.tr hFT3 w64 rfl
        show Rl _ _ _ _ _ [iv z63] _ _
        refine l_if_eq rfl rfl (by unfold rg; omega) (fun w65 => ?_) (fun w66 => ?_)
        · refine l_iconst rfl ?_
          refine l_ireturn rfl rfl ?_
          have w67 : 0 ≤ Xi T4 876 8 ∧ Xi T4 876 8 ≤ 9 := hHT4.c _ _
          exact ⟨hHT4, hFT4, _, rfl, ⟨by omega, by omega⟩, (by first | (intro hz; omega) | (intro _; assumption) | (intro hz; apply_assumption; omega) | (intro _; exact (by assumption : WI T4))), (by omega)⟩
        · refine l_iconst rfl ?_
          refine l_goto rfl rfl ?_
          refine l_ireturn rfl rfl ?_
          have w74 : 0 ≤ Xi T4 876 8 ∧ Xi T4 876 8 ≤ 9 := hHT4.c _ _
          exact ⟨hHT4, hFT4, _, rfl, ⟨by omega, by omega⟩, (by first | (intro hz; omega) | (intro _; assumption) | (intro hz; apply_assumption; omega) | (intro _; exact (by assumption : WI T4))), (by omega)⟩
  refine l_aload_n rfl rfl ?_
  refine l_gfr rfl rfl rfl rfl rfl (hH.r 891 1 890 rfl) ?_
  refine l_gfi rfl rfl rfl rfl rfl ?_
  refine l_istore_n rfl rfl rfl ?_
  refine l_aload_n rfl rfl ?_
  refine l_gfr rfl rfl rfl rfl rfl (hH.r 891 1 890 rfl) ?_
  refine l_gfi rfl rfl rfl rfl rfl ?_
  have w81 : 0 ≤ (Xi S 890 2) ∧ (Xi S 890 2) ≤ 20 := hH.c _ _
  refine l_bipush rfl rfl ?_
  refine l_icmp_ne rfl rfl (by unfold rg; omega) (by unfold rg; omega) (fun w82 => ?_) (fun w83 => ?_)
  · refine l_iconst rfl ?_
    refine l_istore_n rfl rfl rfl ?_
    refine l_aload_n rfl rfl ?_
    refine l_callV rfl rfl rfl (t_re_takeObjects hH (by first | assumption | exact (by first | assumption | exact (by assumption : WI S).1 : LEX S)) (by first | assumption | omega) _) ?_
    rintro _ T5 ⟨hHT5, w91, z90, rfl, w90, w88, w89⟩
    have hFT5 : FR md_re_tellObjects S T5 := FR.tr hF w91 rfl
    show Rl _ _ _ _ _ [iv z90] _ _
    have hN27 : z90 = 1 → NWO T5 (Xi S 890 3) := by assumption
    refine l_if_ne rfl rfl (by unfold rg; omega) (fun w92 => ?_) (fun w93 => ?_)
    · refine l_iload_n rfl rfl ?_
      refine l_iconst rfl ?_
      refine l_iadd rfl ?_
      refine l_istore_n rfl rfl rfl ?_
      refine l_iload_n rfl rfl ?_
      refine l_if_eq rfl rfl (by unfold rg; omega) (fun w94 => ?_) (fun w95 => absurd w95 (by omega))
      · have w96 : Xi T5 890 3 = Xi S 890 3 := (show Xi T5 890 3 = Xi S 890 3 from w91.x _ _ rfl)
        have w98 : Xi T5 891 11 = Xi S 891 11 := (show Xi T5 891 11 = Xi S 891 11 from w91.x _ _ rfl)
        have w100 : Xi T5 891 12 = Xi S 891 12 := (show Xi T5 891 12 = Xi S 891 12 from w91.x _ _ rfl)
        exact Rl_weak (C68 T5 hHT5 hFT5 (0) (((Xi S 890 3) + 1)) (by omega) (by omega) (by first | assumption | exact (WI_FR hH w91 rfl rfl rfl rfl rfl rfl rfl rfl rfl (by assumption : WI S))) (by first | exact hN60 | exact hN27 (by omega)) (by first | (intro q; omega) | (intro _; apply_assumption; omega)) (by omega)) (And.intro rfl (And.intro rfl (And.intro rfl (True.intro))))
    · refine l_iconst rfl ?_
      refine l_ireturn rfl rfl ?_
      have w102 : 0 ≤ Xi T5 876 8 ∧ Xi T5 876 8 ≤ 9 := hHT5.c _ _
      exact ⟨hHT5, hFT5, _, rfl, ⟨by omega, by omega⟩, (by first | (intro hz; omega) | (intro _; assumption) | (intro hz; apply_assumption; omega) | (intro _; exact (WI_FR hH w91 rfl rfl rfl rfl rfl rfl rfl rfl rfl (by assumption : WI S)))), (by omega)⟩
  · refine l_iconst rfl ?_
    refine l_goto rfl rfl ?_
    refine l_istore_n rfl rfl rfl ?_
    refine l_aload_n rfl rfl ?_
    refine l_callV rfl rfl rfl (t_re_takeObjects hH (by first | assumption | exact (by first | assumption | exact (by assumption : WI S).1 : LEX S)) (by first | assumption | omega) _) ?_
    rintro _ T6 ⟨hHT6, w116, z115, rfl, w115, w113, w114⟩
    have hFT6 : FR md_re_tellObjects S T6 := FR.tr hF w116 rfl
    show Rl _ _ _ _ _ [iv z115] _ _
    have hN27 : z115 = 1 → NWO T6 (Xi S 890 3) := by assumption
    refine l_if_ne rfl rfl (by unfold rg; omega) (fun w117 => ?_) (fun w118 => ?_)
    · refine l_iload_n rfl rfl ?_
      refine l_iconst rfl ?_
      refine l_iadd rfl ?_
      refine l_istore_n rfl rfl rfl ?_
      refine l_iload_n rfl rfl ?_
      refine l_if_eq rfl rfl (by unfold rg; omega) (fun w119 => absurd w119 (by omega)) (fun w120 => ?_)
      · refine l_aload_n rfl rfl ?_
        refine l_gfr rfl rfl rfl rfl rfl (hHT6.r 891 0 876 rfl) ?_
        refine l_iload_n rfl rfl ?_
        refine l_iconst rfl ?_
        refine l_iadd rfl ?_
        have w121 : Xi T6 876 7 = Xi S 876 7 := (show Xi T6 876 7 = Xi S 876 7 from w116.x _ _ rfl)
        have w122 : 0 ≤ Xi S 876 7 ∧ Xi S 876 7 ≤ 5125 := hH.c _ _
        have w123 : Xi T6 890 3 = Xi S 890 3 := (show Xi T6 890 3 = Xi S 890 3 from w116.x _ _ rfl)
        refine l_callV rfl rfl rfl (t_to_runEnd hHT6 ((Xi S 890 3) + 2) ⟨by omega, by omega⟩ _) ?_
        rintro _ _ ⟨rfl, z136, rfl, w136, w129, w130, w131, w132, w133, w134, w135⟩
        clear w131 w132 w133 w134
        show Rl _ _ _ _ _ [iv z136] _ _
        refine l_istore_n rfl rfl rfl ?_
        refine l_aload_n rfl rfl ?_
        refine l_iload_n rfl rfl ?_
        refine l_iconst rfl ?_
        refine l_iadd rfl ?_
        refine l_iload_n rfl rfl ?_
        refine l_iconst rfl ?_
        refine l_callV rfl rfl rfl (t_re_takeDescription hHT6 ((Xi S 890 3) + 2) z136 0 ⟨by omega, by omega⟩ ⟨by omega, by omega⟩ ⟨by omega, by omega⟩ (by first | assumption | exact (LEX_FR w116 rfl rfl (by first | assumption | exact (by assumption : WI S).1 : LEX S))) _) ?_
        rintro _ T7 ⟨hHT7, w146, z145, rfl, w145, w143, w144⟩
        have hFT7 : FR md_re_tellObjects S T7 := FR.tr hFT6 w146 rfl
        show Rl _ _ _ _ _ [iv z145] _ _
        have hN60 : NWO T7 (Xi S 890 3) := NWO_FR (by assumption : FR md_re_takeDescription T6 T7) rfl (hN27 (by omega))
        refine l_if_ne rfl rfl (by unfold rg; omega) (fun w147 => ?_) (fun w148 => ?_)
        · have w149 : Xi T7 890 3 = Xi S 890 3 := (show Xi T7 890 3 = Xi T6 890 3 from w146.x _ _ rfl).trans ((show Xi T6 890 3 = Xi S 890 3 from w116.x _ _ rfl))
          have w151 : Xi T7 891 11 = Xi S 891 11 := (show Xi T7 891 11 = Xi T6 891 11 from w146.x _ _ rfl).trans ((show Xi T6 891 11 = Xi S 891 11 from w116.x _ _ rfl))
          have w153 : Xi T7 891 12 = Xi S 891 12 := (show Xi T7 891 12 = Xi T6 891 12 from w146.x _ _ rfl).trans ((show Xi T6 891 12 = Xi S 891 12 from w116.x _ _ rfl))
          exact Rl_weak (C68 T7 hHT7 hFT7 (1) (z136) (by omega) (by omega) (by first | assumption | exact (WI_FR hHT6 w146 rfl rfl rfl rfl rfl rfl rfl rfl rfl (WI_FR hH w116 rfl rfl rfl rfl rfl rfl rfl rfl rfl (by assumption : WI S)))) (by first | exact hN60 | exact hN27 (by omega)) (by first | (intro q; omega) | (intro _; apply_assumption; omega)) (by omega)) (And.intro rfl (And.intro rfl (And.intro rfl (True.intro))))
        · refine l_iconst rfl ?_
          refine l_ireturn rfl rfl ?_
          have w155 : 0 ≤ Xi T7 876 8 ∧ Xi T7 876 8 ≤ 9 := hHT7.c _ _
          exact ⟨hHT7, hFT7, _, rfl, ⟨by omega, by omega⟩, (by first | (intro hz; omega) | (intro _; assumption) | (intro hz; apply_assumption; omega) | (intro _; exact (WI_FR hHT6 w146 rfl rfl rfl rfl rfl rfl rfl rfl rfl (WI_FR hH w116 rfl rfl rfl rfl rfl rfl rfl rfl rfl (by assumption : WI S))))), (by omega)⟩
    · refine l_iconst rfl ?_
      refine l_ireturn rfl rfl ?_
      have w162 : 0 ≤ Xi T6 876 8 ∧ Xi T6 876 8 ≤ 9 := hHT6.c _ _
      exact ⟨hHT6, hFT6, _, rfl, ⟨by omega, by omega⟩, (by first | (intro hz; omega) | (intro _; assumption) | (intro hz; apply_assumption; omega) | (intro _; exact (WI_FR hH w116 rfl rfl rfl rfl rfl rfl rfl rfl rfl (by assumption : WI S)))), (by omega)⟩
def md_re_tellPlain : List rec := [(1, 2, 3, 4), (2, 3, 0, 100000), (3, 4, 0, 100000), (4, 5, 0, 100000), (5, 6, 0, 100000), (21, 22, 0, 100000), (22, 23, 0, 100000), (23, 24, 0, 100000), (25, 65, 0, 100000), (66, 106, 0, 100000), (107, 147, 0, 100000), (148, 188, 0, 100000), (876, 877, 8, 9), (876, 877, 9, 10), (891, 892, 9, 10), (891, 892, 10, 11), (892, 893, 0, 100000), (893, 894, 0, 100000), (895, 896, 8, 9), (895, 896, 9, 10), (895, 896, 12, 13), (895, 896, 13, 14), (895, 896, 14, 15), (896, 897, 0, 100000), (897, 898, 0, 100000), (898, 899, 0, 100000)]
abbrev Q_re_tellPlain (S : sS) : pst := fun r S1 => HI S1 ∧ FR md_re_tellPlain S S1 ∧ (∃ z : Int, r = some (iv z) ∧ (0 ≤ z ∧ z ≤ 1) ∧ (z = 1 → WI S1) ∧ (z = 0 → Xi S1 876 8 ≠ 0))
set_option maxRecDepth 100000 in
theorem c191_re_tellPlain {S : sS} (hH : HI S) (hW : WI S) (hn0 : Xi S 891 9 = 0) (hw0 : Xi S 891 11 = 0) (d : Nat) : ∀  (T1 : sS) (_ : HI T1) (_ : FR md_re_tellPlain S T1) (v1 : Int) (v2 : Int) (v3 : Int) (v5 : Int), (0 ≤ v1 ∧ v1 ≤ 1) → (0 ≤ v2 ∧ v2 ≤ 5126) → (0 ≤ v3 ∧ v3 ≤ 5126) → (0 ≤ v5 ∧ v5 ≤ 1) → (WI T1) → (Xi T1 891 11 = 0) → (Xi T1 891 9 = 0) → Rl lay0 (d + 5) m_re_tellPlain 191 [(0, .ref 891), (1, iv v1), (2, iv v2), (3, iv v3), (5, iv v5)] [] T1 (Q_re_tellPlain S) := by
  have hF : FR md_re_tellPlain S S := FR.rf
  have w1 : 0 ≤ Xi S 891 11 ∧ Xi S 891 11 ≤ 5 := hH.c _ _
  have w2 : 0 ≤ Xi S 891 9 ∧ Xi S 891 9 ≤ 24 := hH.c _ _
  have hL := hW.1
  have hX := hW.2.1
  have h890 : -1 ≤ Xi S 890 3 ∧ Xi S 890 3 ≤ 5124 := hH.c _ _
  intro T1 hHT1 hFT1 v1 v2 v3 v5 w3 w4 w5 w6 hW191 w7 w8
  have w9 : Xi T1 876 7 = Xi S 876 7 := hFT1.x _ _ rfl
  have w10 : Xi T1 890 3 = Xi S 890 3 := hFT1.x _ _ rfl
  have w11 : Xi T1 891 11 = Xi S 891 11 := hFT1.x _ _ rfl
  have w12 : Xi T1 891 12 = Xi S 891 12 := hFT1.x _ _ rfl
  have w13 : 0 ≤ Xi T1 891 11 ∧ Xi T1 891 11 ≤ 5 := hHT1.c _ _
  have w14 : 0 ≤ Xi T1 891 9 ∧ Xi T1 891 9 ≤ 24 := hHT1.c _ _
  refine l_aload_n rfl rfl ?_
  refine l_callV rfl rfl rfl (t_re_takeOldObjects hHT1 (by first | assumption | exact (by first | assumption | exact (by assumption : WI T1).1 : LEX T1)) _) ?_
  rintro _ T2 ⟨hHT2, w21, z20, rfl, w20, w19⟩
  have hFT2 : FR md_re_tellPlain S T2 := FR.tr hFT1 w21 rfl
  show Rl _ _ _ _ _ [iv z20] _ _
  refine l_if_ne rfl rfl (by unfold rg; omega) (fun w22 => ?_) (fun w23 => ?_)
  · refine l_iload rfl rfl ?_
    refine l_if_eq rfl rfl (by unfold rg; omega) (fun w24 => ?_) (fun w25 => ?_)
    · refine l_aload_n rfl rfl ?_
      refine l_iload_n rfl rfl ?_
      refine l_iload_n rfl rfl ?_
      refine l_iload_n rfl rfl ?_
      have w26 : Xi T2 890 3 = Xi T1 890 3 := (show Xi T2 890 3 = Xi T1 890 3 from w21.x _ _ rfl)
      refine l_callV rfl rfl rfl (t_re_adjectiveSuits hHT2 v2 v3 v1 ⟨by omega, by omega⟩ ⟨by omega, by omega⟩ ⟨by omega, by omega⟩ (by first | assumption | exact (LEX_FR w21 rfl rfl (by first | assumption | exact (by assumption : WI T1).1 : LEX T1))) _) ?_
      rintro _ T3 ⟨hHT3, w37, z36, rfl, w36, w34, w35⟩
      have hFT3 : FR md_re_tellPlain S T3 := FR.tr hFT2 w37 rfl
      show Rl _ _ _ _ _ [iv z36] _ _
      have hA1 : z36 = 1 → ASU T2 v2 v3 v1 (Xi T2 890 3) := by assumption
      refine l_if_eq rfl rfl (by unfold rg; omega) (fun w38 => ?_) (fun w39 => ?_)
      · refine l_iconst rfl ?_
        refine l_ireturn rfl rfl ?_
        exact ⟨hHT3, hFT3, _, rfl, ⟨by omega, by omega⟩, (by first | (intro hz; omega) | (intro _; assumption) | (intro hz; apply_assumption; omega) | (intro _; exact (WI_FR hHT2 w37 rfl rfl rfl rfl rfl rfl rfl rfl rfl (WI_FR hHT1 w21 rfl rfl rfl rfl rfl rfl rfl rfl rfl (by assumption : WI T1))))), (by omega)⟩
      · refine l_aload_n rfl rfl ?_
        refine l_iload_n rfl rfl ?_
        refine l_iload_n rfl rfl ?_
        refine l_iload_n rfl rfl ?_
        have hWp : WI T3 := (WI_FR hHT2 w37 rfl rfl rfl rfl rfl rfl rfl rfl rfl (WI_FR hHT1 w21 rfl rfl rfl rfl rfl rfl rfl rfl rfl (by assumption : WI T1)))
        have hHp := hHT3
        have w49 : Xi T3 890 3 = Xi T1 890 3 := (show Xi T3 890 3 = Xi T2 890 3 from w37.x _ _ rfl).trans ((show Xi T2 890 3 = Xi T1 890 3 from w21.x _ _ rfl))
        refine l_callV rfl rfl rfl (t_re_doAdjective hHT3 v2 v3 v1 ⟨by omega, by omega⟩ ⟨by omega, by omega⟩ ⟨by omega, by omega⟩ (by first | assumption | exact (LEX_FR w37 rfl rfl (LEX_FR w21 rfl rfl (by first | assumption | exact (by assumption : WI T1).1 : LEX T1)))) (by first | assumption | exact (TX_FR w37 rfl (TX_FR w21 rfl (by first | assumption | exact (by assumption : WI T1).2.1 : TX T1)))) (asu_t (by assumption : FR md_re_adjectiveSuits T2 T3) rfl rfl rfl rfl (hA1 (by omega))) _) ?_
        rintro _ T4 ⟨hHT4, w60, z59, rfl, w59, w57, w58⟩
        have hFT4 : FR md_re_tellPlain S T4 := FR.tr hFT3 w60 rfl
        show Rl _ _ _ _ _ [iv z59] _ _
        have hWq : WI T4 := WI_x hHp (by assumption : FR md_re_doAdjective T3 T4) rfl rfl rfl rfl rfl rfl rfl rfl (by assumption) hWp
        refine l_if_eq rfl rfl (by unfold rg; omega) (fun w61 => ?_) (fun w62 => ?_)
        · refine l_iconst rfl ?_
          refine l_ireturn rfl rfl ?_
          exact ⟨hHT4, hFT4, _, rfl, ⟨by omega, by omega⟩, (by first | (intro hz; omega) | (intro _; assumption) | (intro hz; apply_assumption; omega) | (intro _; exact (by assumption : WI T4))), (by omega)⟩
        · refine l_iconst rfl ?_
          refine l_goto rfl rfl ?_
          refine l_ireturn rfl rfl ?_
          exact ⟨hHT4, hFT4, _, rfl, ⟨by omega, by omega⟩, (by first | (intro hz; omega) | (intro _; assumption) | (intro hz; apply_assumption; omega) | (intro _; exact (by assumption : WI T4))), (by omega)⟩
    · refine l_aload_n rfl rfl ?_
      refine l_gfr rfl rfl rfl rfl rfl (hHT2.r 891 0 876 rfl) ?_
      refine l_bipush rfl rfl ?_
      refine l_iload_n rfl rfl ?_
      refine l_callV rfl rfl rfl (t_to_wrong hHT2 7 v2 ⟨by omega, by omega⟩ ⟨by omega, by omega⟩ _) ?_
      rintro _ T5 ⟨hHT5, w92, z91, rfl, w91, w89, w90⟩
      have hFT5 : FR md_re_tellPlain S T5 := FR.tr hFT2 w92 rfl
      show Rl _ _ _ _ _ [iv z91] _ _
      refine l_ireturn rfl (retI_z (by omega)) ?_
      exact ⟨hHT5, hFT5, _, rfl, ⟨by omega, by omega⟩, (by first | (intro hz; omega) | (intro _; assumption) | (intro hz; apply_assumption; omega) | (intro _; exact (WI_FR hHT2 w92 rfl rfl rfl rfl rfl rfl rfl rfl rfl (WI_FR hHT1 w21 rfl rfl rfl rfl rfl rfl rfl rfl rfl (by assumption : WI T1))))), (by omega)⟩
  · refine l_iconst rfl ?_
    refine l_ireturn rfl rfl ?_
    exact ⟨hHT2, hFT2, _, rfl, ⟨by omega, by omega⟩, (by first | (intro hz; omega) | (intro _; assumption) | (intro hz; apply_assumption; omega) | (intro _; exact (WI_FR hHT1 w21 rfl rfl rfl rfl rfl rfl rfl rfl rfl (by assumption : WI T1)))), (by omega)⟩
set_option maxRecDepth 100000 in
theorem t_re_tellPlain {S : sS} (hH : HI S) (hW : WI S) (hn0 : Xi S 891 9 = 0) (hw0 : Xi S 891 11 = 0) (d : Nat) : Mt lay0 (d + 6) m_re_tellPlain [.ref 891] S (Q_re_tellPlain S) := by
  refine Mt_R rfl rfl ?_
  have C191 := c191_re_tellPlain hH hW hn0 hw0 d 
  have hF : FR md_re_tellPlain S S := FR.rf
  have w1 : 0 ≤ Xi S 891 11 ∧ Xi S 891 11 ≤ 5 := hH.c _ _
  have w2 : 0 ≤ Xi S 891 9 ∧ Xi S 891 9 ≤ 24 := hH.c _ _
  have hL := hW.1
  have hX := hW.2.1
  have h890 : -1 ≤ Xi S 890 3 ∧ Xi S 890 3 ≤ 5124 := hH.c _ _
  refine l_aload_n rfl rfl ?_
  refine l_gfr rfl rfl rfl rfl rfl (hH.r 891 0 876 rfl) ?_
  refine l_aload_n rfl rfl ?_
  refine l_gfr rfl rfl rfl rfl rfl (hH.r 891 1 890 rfl) ?_
  refine l_gfi rfl rfl rfl rfl rfl ?_
  have w111 : -1 ≤ (Xi S 890 3) ∧ (Xi S 890 3) ≤ 5124 := hH.c _ _
  refine l_iconst rfl ?_
  refine l_iadd rfl ?_
  have w112 : 0 ≤ Xi S 876 7 ∧ Xi S 876 7 ≤ 5125 := hH.c _ _
  have w113 : -1 ≤ Xi S 890 3 ∧ Xi S 890 3 ≤ 5124 := hH.c _ _
  have w115 : -1 ≤ Xi S 891 12 ∧ Xi S 891 12 ≤ 23 := hH.c _ _
  refine l_callV rfl rfl rfl (t_to_typeAt hH ((Xi S 890 3) + 1) ⟨by omega, by omega⟩ _) ?_
  rintro _ _ ⟨rfl, z120, rfl, w120, w117, w118, w119⟩
  clear w118 w119
  show Rl _ _ _ _ _ [iv z120] _ _
  refine l_bipush rfl rfl ?_
  refine l_icmp_ne rfl rfl (by unfold rg; omega) (by unfold rg; omega) (fun w121 => ?_) (fun w122 => ?_)
  · refine l_iconst rfl ?_
    refine l_istore_n rfl rfl rfl ?_
    refine l_aload_n rfl rfl ?_
    refine l_gfr rfl rfl rfl rfl rfl (hH.r 891 1 890 rfl) ?_
    refine l_gfi rfl rfl rfl rfl rfl ?_
    refine l_iload_n rfl rfl ?_
    refine l_if_eq rfl rfl (by unfold rg; omega) (fun w123 => ?_) (fun w124 => absurd w124 (by omega))
    · refine l_iconst rfl ?_
      refine l_iadd rfl ?_
      refine l_istore_n rfl rfl rfl ?_
      refine l_aload_n rfl rfl ?_
      refine l_gfr rfl rfl rfl rfl rfl (hH.r 891 0 876 rfl) ?_
      refine l_iload_n rfl rfl ?_
      refine l_callV rfl rfl rfl (t_to_runEnd hH ((Xi S 890 3) + 1) ⟨by omega, by omega⟩ _) ?_
      rintro _ _ ⟨rfl, z137, rfl, w137, w130, w131, w132, w133, w134, w135, w136⟩
      clear w132 w133 w134 w135
      show Rl _ _ _ _ _ [iv z137] _ _
      refine l_istore_n rfl rfl rfl ?_
      refine l_aload_n rfl rfl ?_
      refine l_gfr rfl rfl rfl rfl rfl (hH.r 891 0 876 rfl) ?_
      refine l_aload_n rfl rfl ?_
      refine l_gfr rfl rfl rfl rfl rfl (hH.r 891 1 890 rfl) ?_
      refine l_gfi rfl rfl rfl rfl rfl ?_
      refine l_callV rfl rfl rfl (t_to_typeAt hH (Xi S 890 3) ⟨by omega, by omega⟩ _) ?_
      rintro _ _ ⟨rfl, z146, rfl, w146, w143, w144, w145⟩
      clear w144 w145
      show Rl _ _ _ _ _ [iv z146] _ _
      refine l_iconst rfl ?_
      refine l_icmp_ne rfl rfl (by unfold rg; omega) (by unfold rg; omega) (fun w147 => ?_) (fun w148 => ?_)
      · refine l_iconst rfl ?_
        refine l_istore rfl rfl rfl ?_
        refine l_iload rfl rfl ?_
        refine l_if_eq rfl rfl (by unfold rg; omega) (fun w149 => ?_) (fun w150 => absurd w150 (by omega))
        · refine l_iconst rfl ?_
          refine l_istore rfl rfl rfl ?_
          refine l_aload_n rfl rfl ?_
          refine l_gfr rfl rfl rfl rfl rfl (hH.r 891 2 1 rfl) ?_
          refine l_aload_n rfl rfl ?_
          refine l_gfr rfl rfl rfl rfl rfl (hH.r 891 0 876 rfl) ?_
          refine l_gfr rfl rfl rfl rfl rfl (hH.r 876 2 879 rfl) ?_
          refine l_iload_n rfl rfl ?_
          refine l_iload_n rfl rfl ?_
          refine l_callV rfl rfl rfl (t_vo_meaning hH 879 5130 ((Xi S 890 3) + 1) z137 rfl ⟨by omega, by omega⟩ ⟨by omega, by omega⟩ ⟨by omega, by omega⟩ (by first | assumption | exact (by first | assumption | exact (by assumption : WI S).1 : LEX S)) _) ?_
          rintro _ _ ⟨rfl, z158, rfl, w158, w155, w156, w157⟩
          show Rl _ _ _ _ _ [iv z158] _ _
          have hmnz158 := mOK_n (z := z158) (by assumption)
          refine l_bipush rfl rfl ?_
          refine l_ishr8 rfl (by unfold rg; omega) ?_
          refine l_istore rfl rfl rfl ?_
          refine l_iload rfl rfl ?_
          refine l_iconst rfl ?_
          refine l_icmp_eq rfl rfl (by unfold rg; omega) (by unfold rg; omega) (fun w160 => ?_) (fun w161 => ?_)
          · refine l_iconst rfl ?_
            refine l_goto rfl rfl ?_
            refine l_istore rfl rfl rfl ?_
            refine l_iload rfl rfl ?_
            refine l_if_eq rfl rfl (by unfold rg; omega) (fun w162 => ?_) (fun w163 => absurd w163 (by omega))
            · have w164 : -1 ≤ Xi S 890 3 ∧ Xi S 890 3 ≤ 5124 := hH.c _ _
              exact Rl_weak (C191 S hH hF (0) (((Xi S 890 3) + 1)) (z137) (0) (by omega) (by omega) (by omega) (by omega) (by first | assumption | exact (by assumption : WI S)) (by omega) (by omega)) (And.intro rfl (And.intro rfl (And.intro rfl (And.intro rfl (And.intro rfl (True.intro))))))
          · refine l_iload rfl rfl ?_
            refine l_iconst rfl ?_
            refine l_icmp_ne rfl rfl (by unfold rg; omega) (by unfold rg; omega) (fun w168 => ?_) (fun w169 => ?_)
            · refine l_iconst rfl ?_
              refine l_istore rfl rfl rfl ?_
              refine l_iload rfl rfl ?_
              refine l_if_eq rfl rfl (by unfold rg; omega) (fun w170 => ?_) (fun w171 => absurd w171 (by omega))
              · have w172 : -1 ≤ Xi S 890 3 ∧ Xi S 890 3 ≤ 5124 := hH.c _ _
                exact Rl_weak (C191 S hH hF (0) (((Xi S 890 3) + 1)) (z137) (0) (by omega) (by omega) (by omega) (by omega) (by first | assumption | exact (by assumption : WI S)) (by omega) (by omega)) (And.intro rfl (And.intro rfl (And.intro rfl (And.intro rfl (And.intro rfl (True.intro))))))
            · refine l_iconst rfl ?_
              refine l_goto rfl rfl ?_
              refine l_istore rfl rfl rfl ?_
              refine l_iload rfl rfl ?_
              refine l_if_eq rfl rfl (by unfold rg; omega) (fun w176 => ?_) (fun w177 => absurd w177 (by omega))
              · have w178 : -1 ≤ Xi S 890 3 ∧ Xi S 890 3 ≤ 5124 := hH.c _ _
                exact Rl_weak (C191 S hH hF (0) (((Xi S 890 3) + 1)) (z137) (0) (by omega) (by omega) (by omega) (by omega) (by first | assumption | exact (by assumption : WI S)) (by omega) (by omega)) (And.intro rfl (And.intro rfl (And.intro rfl (And.intro rfl (And.intro rfl (True.intro))))))
      · refine l_iload_n rfl rfl ?_
        refine l_if_ne rfl rfl (by unfold rg; omega) (fun w182 => absurd w182 (by omega)) (fun w183 => ?_)
        · refine l_iconst rfl ?_
          refine l_goto rfl rfl ?_
          refine l_istore rfl rfl rfl ?_
          refine l_iload rfl rfl ?_
          refine l_if_eq rfl rfl (by unfold rg; omega) (fun w184 => absurd w184 (by omega)) (fun w185 => ?_)
          · refine l_aload_n rfl rfl ?_
            refine l_gfr rfl rfl rfl rfl rfl (hH.r 891 4 895 rfl) ?_
            refine l_iload_n rfl rfl ?_
            refine l_iload_n rfl rfl ?_
            refine l_iconst rfl ?_
            refine l_iconst rfl ?_
            refine l_iconst rfl ?_
            refine l_callV rfl rfl rfl (t_me_countReadings hH ((Xi S 890 3) + 1) z137 1 0 (-1) ⟨by omega, by omega⟩ ⟨by omega, by omega⟩ ⟨by omega, by omega⟩ ⟨by omega, by omega⟩ ⟨by omega, by omega⟩ (by first | assumption | exact (by first | assumption | exact (by assumption : WI S).1 : LEX S)) _) ?_
            rintro _ T6 ⟨hHT6, w193, z192, rfl, w192, w190, w191⟩
            have hFT6 : FR md_re_tellPlain S T6 := FR.tr hF w193 rfl
            show Rl _ _ _ _ _ [iv z192] _ _
            refine l_if_le rfl rfl (by unfold rg; omega) (fun w194 => ?_) (fun w195 => ?_)
            · refine l_iconst rfl ?_
              refine l_istore rfl rfl rfl ?_
              refine l_aload_n rfl rfl ?_
              refine l_gfr rfl rfl rfl rfl rfl (hHT6.r 891 2 1 rfl) ?_
              refine l_aload_n rfl rfl ?_
              refine l_gfr rfl rfl rfl rfl rfl (hHT6.r 891 0 876 rfl) ?_
              refine l_gfr rfl rfl rfl rfl rfl (hHT6.r 876 2 879 rfl) ?_
              refine l_iload_n rfl rfl ?_
              refine l_iload_n rfl rfl ?_
              have w196 : Xi T6 890 3 = Xi S 890 3 := (show Xi T6 890 3 = Xi S 890 3 from w193.x _ _ rfl)
              have w198 : Xi T6 891 11 = Xi S 891 11 := (show Xi T6 891 11 = Xi S 891 11 from w193.x _ _ rfl)
              have w200 : Xi T6 891 12 = Xi S 891 12 := (show Xi T6 891 12 = Xi S 891 12 from w193.x _ _ rfl)
              have w202 : Xi T6 891 9 = Xi S 891 9 := (show Xi T6 891 9 = Xi S 891 9 from w193.x _ _ rfl)
              refine l_callV rfl rfl rfl (t_vo_meaning hHT6 879 5130 ((Xi S 890 3) + 1) z137 rfl ⟨by omega, by omega⟩ ⟨by omega, by omega⟩ ⟨by omega, by omega⟩ (by first | assumption | exact (LEX_FR w193 rfl rfl (by first | assumption | exact (by assumption : WI S).1 : LEX S))) _) ?_
              rintro _ _ ⟨rfl, z207, rfl, w207, w204, w205, w206⟩
              show Rl _ _ _ _ _ [iv z207] _ _
              have hmnz207 := mOK_n (z := z207) (by assumption)
              refine l_bipush rfl rfl ?_
              refine l_ishr8 rfl (by unfold rg; omega) ?_
              refine l_istore rfl rfl rfl ?_
              refine l_iload rfl rfl ?_
              refine l_iconst rfl ?_
              refine l_icmp_eq rfl rfl (by unfold rg; omega) (by unfold rg; omega) (fun w209 => ?_) (fun w210 => ?_)
              · refine l_iconst rfl ?_
                refine l_goto rfl rfl ?_
                refine l_istore rfl rfl rfl ?_
                refine l_iload rfl rfl ?_
                refine l_if_eq rfl rfl (by unfold rg; omega) (fun w211 => ?_) (fun w212 => absurd w212 (by omega))
                · have w213 : Xi T6 890 3 = Xi S 890 3 := (show Xi T6 890 3 = Xi S 890 3 from w193.x _ _ rfl)
                  exact Rl_weak (C191 T6 hHT6 hFT6 (0) (((Xi S 890 3) + 1)) (z137) (0) (by omega) (by omega) (by omega) (by omega) (by first | assumption | exact (WI_FR hH w193 rfl rfl rfl rfl rfl rfl rfl rfl rfl (by assumption : WI S))) (by omega) (by omega)) (And.intro rfl (And.intro rfl (And.intro rfl (And.intro rfl (And.intro rfl (True.intro))))))
              · refine l_iload rfl rfl ?_
                refine l_iconst rfl ?_
                refine l_icmp_ne rfl rfl (by unfold rg; omega) (by unfold rg; omega) (fun w221 => ?_) (fun w222 => ?_)
                · refine l_iconst rfl ?_
                  refine l_istore rfl rfl rfl ?_
                  refine l_iload rfl rfl ?_
                  refine l_if_eq rfl rfl (by unfold rg; omega) (fun w223 => ?_) (fun w224 => absurd w224 (by omega))
                  · have w225 : Xi T6 890 3 = Xi S 890 3 := (show Xi T6 890 3 = Xi S 890 3 from w193.x _ _ rfl)
                    exact Rl_weak (C191 T6 hHT6 hFT6 (0) (((Xi S 890 3) + 1)) (z137) (0) (by omega) (by omega) (by omega) (by omega) (by first | assumption | exact (WI_FR hH w193 rfl rfl rfl rfl rfl rfl rfl rfl rfl (by assumption : WI S))) (by omega) (by omega)) (And.intro rfl (And.intro rfl (And.intro rfl (And.intro rfl (And.intro rfl (True.intro))))))
                · refine l_iconst rfl ?_
                  refine l_goto rfl rfl ?_
                  refine l_istore rfl rfl rfl ?_
                  refine l_iload rfl rfl ?_
                  refine l_if_eq rfl rfl (by unfold rg; omega) (fun w233 => ?_) (fun w234 => absurd w234 (by omega))
                  · have w235 : Xi T6 890 3 = Xi S 890 3 := (show Xi T6 890 3 = Xi S 890 3 from w193.x _ _ rfl)
                    exact Rl_weak (C191 T6 hHT6 hFT6 (0) (((Xi S 890 3) + 1)) (z137) (0) (by omega) (by omega) (by omega) (by omega) (by first | assumption | exact (WI_FR hH w193 rfl rfl rfl rfl rfl rfl rfl rfl rfl (by assumption : WI S))) (by omega) (by omega)) (And.intro rfl (And.intro rfl (And.intro rfl (And.intro rfl (And.intro rfl (True.intro))))))
            · refine l_iconst rfl ?_
              refine l_goto rfl rfl ?_
              refine l_istore rfl rfl rfl ?_
              refine l_aload_n rfl rfl ?_
              refine l_gfr rfl rfl rfl rfl rfl (hHT6.r 891 2 1 rfl) ?_
              refine l_aload_n rfl rfl ?_
              refine l_gfr rfl rfl rfl rfl rfl (hHT6.r 891 0 876 rfl) ?_
              refine l_gfr rfl rfl rfl rfl rfl (hHT6.r 876 2 879 rfl) ?_
              refine l_iload_n rfl rfl ?_
              refine l_iload_n rfl rfl ?_
              have w243 : Xi T6 890 3 = Xi S 890 3 := (show Xi T6 890 3 = Xi S 890 3 from w193.x _ _ rfl)
              have w245 : Xi T6 891 11 = Xi S 891 11 := (show Xi T6 891 11 = Xi S 891 11 from w193.x _ _ rfl)
              have w247 : Xi T6 891 12 = Xi S 891 12 := (show Xi T6 891 12 = Xi S 891 12 from w193.x _ _ rfl)
              have w249 : Xi T6 891 9 = Xi S 891 9 := (show Xi T6 891 9 = Xi S 891 9 from w193.x _ _ rfl)
              refine l_callV rfl rfl rfl (t_vo_meaning hHT6 879 5130 ((Xi S 890 3) + 1) z137 rfl ⟨by omega, by omega⟩ ⟨by omega, by omega⟩ ⟨by omega, by omega⟩ (by first | assumption | exact (LEX_FR w193 rfl rfl (by first | assumption | exact (by assumption : WI S).1 : LEX S))) _) ?_
              rintro _ _ ⟨rfl, z254, rfl, w254, w251, w252, w253⟩
              show Rl _ _ _ _ _ [iv z254] _ _
              have hmnz254 := mOK_n (z := z254) (by assumption)
              refine l_bipush rfl rfl ?_
              refine l_ishr8 rfl (by unfold rg; omega) ?_
              refine l_istore rfl rfl rfl ?_
              refine l_iload rfl rfl ?_
              refine l_iconst rfl ?_
              refine l_icmp_eq rfl rfl (by unfold rg; omega) (by unfold rg; omega) (fun w256 => ?_) (fun w257 => ?_)
              · refine l_iconst rfl ?_
                refine l_goto rfl rfl ?_
                refine l_istore rfl rfl rfl ?_
                refine l_iload rfl rfl ?_
                refine l_if_eq rfl rfl (by unfold rg; omega) (fun w258 => absurd w258 (by omega)) (fun w259 => ?_)
                · refine l_iload rfl rfl ?_
                  refine l_if_ne rfl rfl (by unfold rg; omega) (fun w260 => ?_) (fun w261 => absurd w261 (by omega))
                  · have w262 : Xi T6 890 3 = Xi S 890 3 := (show Xi T6 890 3 = Xi S 890 3 from w193.x _ _ rfl)
                    exact Rl_weak (C191 T6 hHT6 hFT6 (0) (((Xi S 890 3) + 1)) (z137) (1) (by omega) (by omega) (by omega) (by omega) (by first | assumption | exact (WI_FR hH w193 rfl rfl rfl rfl rfl rfl rfl rfl rfl (by assumption : WI S))) (by omega) (by omega)) (And.intro rfl (And.intro rfl (And.intro rfl (And.intro rfl (And.intro rfl (True.intro))))))
              · refine l_iload rfl rfl ?_
                refine l_iconst rfl ?_
                refine l_icmp_ne rfl rfl (by unfold rg; omega) (by unfold rg; omega) (fun w270 => ?_) (fun w271 => ?_)
                · refine l_iconst rfl ?_
                  refine l_istore rfl rfl rfl ?_
                  refine l_iload rfl rfl ?_
                  refine l_if_eq rfl rfl (by unfold rg; omega) (fun w272 => absurd w272 (by omega)) (fun w273 => ?_)
                  · refine l_iload rfl rfl ?_
                    refine l_if_ne rfl rfl (by unfold rg; omega) (fun w274 => absurd w274 (by omega)) (fun w275 => ?_)
                    · refine l_aload_n rfl rfl ?_
                      refine l_callV rfl rfl rfl (t_re_takeObjects hHT6 (by first | assumption | exact (LEX_FR w193 rfl rfl (by first | assumption | exact (by assumption : WI S).1 : LEX S))) (by first | assumption | omega) _) ?_
                      rintro _ T7 ⟨hHT7, w287, z286, rfl, w286, w284, w285⟩
                      have hFT7 : FR md_re_tellPlain S T7 := FR.tr hFT6 w287 rfl
                      show Rl _ _ _ _ _ [iv z286] _ _
                      have hN1 : z286 = 1 → NWO T7 (Xi T6 890 3) := by assumption
                      refine l_if_eq rfl rfl (by unfold rg; omega) (fun w288 => ?_) (fun w289 => ?_)
                      · refine l_iconst rfl ?_
                        refine l_ireturn rfl rfl ?_
                        have w290 : 0 ≤ Xi T7 876 8 ∧ Xi T7 876 8 ≤ 9 := hHT7.c _ _
                        have w291 : Xi T7 890 3 = Xi S 890 3 := (show Xi T7 890 3 = Xi T6 890 3 from w287.x _ _ rfl).trans ((show Xi T6 890 3 = Xi S 890 3 from w193.x _ _ rfl))
                        have w293 : Xi T7 891 11 = Xi S 891 11 := (show Xi T7 891 11 = Xi T6 891 11 from w287.x _ _ rfl).trans ((show Xi T6 891 11 = Xi S 891 11 from w193.x _ _ rfl))
                        have w295 : Xi T7 891 12 = Xi S 891 12 := (show Xi T7 891 12 = Xi T6 891 12 from w287.x _ _ rfl).trans ((show Xi T6 891 12 = Xi S 891 12 from w193.x _ _ rfl))
                        have w297 : 0 ≤ Xi T7 891 9 ∧ Xi T7 891 9 ≤ 24 := hHT7.c _ _
                        exact ⟨hHT7, hFT7, _, rfl, ⟨by omega, by omega⟩, (by first | (intro hz; omega) | (intro _; assumption) | (intro hz; apply_assumption; omega) | (intro _; exact (WI_FR hHT6 w287 rfl rfl rfl rfl rfl rfl rfl rfl rfl (WI_FR hH w193 rfl rfl rfl rfl rfl rfl rfl rfl rfl (by assumption : WI S))))), (by omega)⟩
                      · refine l_aload_n rfl rfl ?_
                        refine l_iload_n rfl rfl ?_
                        refine l_iload_n rfl rfl ?_
                        refine l_iconst rfl ?_
                        have w298 : Xi T7 890 3 = Xi S 890 3 := (show Xi T7 890 3 = Xi T6 890 3 from w287.x _ _ rfl).trans ((show Xi T6 890 3 = Xi S 890 3 from w193.x _ _ rfl))
                        have w300 : Xi T7 891 11 = Xi S 891 11 := (show Xi T7 891 11 = Xi T6 891 11 from w287.x _ _ rfl).trans ((show Xi T6 891 11 = Xi S 891 11 from w193.x _ _ rfl))
                        have w302 : Xi T7 891 12 = Xi S 891 12 := (show Xi T7 891 12 = Xi T6 891 12 from w287.x _ _ rfl).trans ((show Xi T6 891 12 = Xi S 891 12 from w193.x _ _ rfl))
                        have w304 : 0 ≤ Xi T7 891 9 ∧ Xi T7 891 9 ≤ 24 := hHT7.c _ _
                        refine l_callV rfl rfl rfl (t_re_takeDescription hHT7 ((Xi S 890 3) + 1) z137 1 ⟨by omega, by omega⟩ ⟨by omega, by omega⟩ ⟨by omega, by omega⟩ (by first | assumption | exact (LEX_FR w287 rfl rfl (LEX_FR w193 rfl rfl (by first | assumption | exact (by assumption : WI S).1 : LEX S)))) _) ?_
                        rintro _ T8 ⟨hHT8, w308, z307, rfl, w307, w305, w306⟩
                        have hFT8 : FR md_re_tellPlain S T8 := FR.tr hFT7 w308 rfl
                        show Rl _ _ _ _ _ [iv z307] _ _
                        have hN2 : NWO T8 (Xi S 890 3) := NWO_FR (by assumption : FR md_re_takeDescription T7 T8) rfl (by have t := hN1 (by omega); rw [show Xi _ 890 3 = Xi S 890 3 by omega] at t; exact t)
                        refine l_if_eq rfl rfl (by unfold rg; omega) (fun w309 => ?_) (fun w310 => ?_)
                        · refine l_iconst rfl ?_
                          refine l_ireturn rfl rfl ?_
                          have w311 : 0 ≤ Xi T8 876 8 ∧ Xi T8 876 8 ≤ 9 := hHT8.c _ _
                          have w312 : Xi T8 890 3 = Xi S 890 3 := (show Xi T8 890 3 = Xi T7 890 3 from w308.x _ _ rfl).trans ( (show Xi T7 890 3 = Xi T6 890 3 from w287.x _ _ rfl).trans ((show Xi T6 890 3 = Xi S 890 3 from w193.x _ _ rfl)))
                          have w314 : Xi T8 891 11 = Xi S 891 11 := (show Xi T8 891 11 = Xi T7 891 11 from w308.x _ _ rfl).trans ( (show Xi T7 891 11 = Xi T6 891 11 from w287.x _ _ rfl).trans ((show Xi T6 891 11 = Xi S 891 11 from w193.x _ _ rfl)))
                          have w316 : Xi T8 891 12 = Xi S 891 12 := (show Xi T8 891 12 = Xi T7 891 12 from w308.x _ _ rfl).trans ( (show Xi T7 891 12 = Xi T6 891 12 from w287.x _ _ rfl).trans ((show Xi T6 891 12 = Xi S 891 12 from w193.x _ _ rfl)))
                          have w318 : Xi T8 891 9 = Xi T7 891 9 := (show Xi T8 891 9 = Xi T7 891 9 from w308.x _ _ rfl)
                          exact ⟨hHT8, hFT8, _, rfl, ⟨by omega, by omega⟩, (by first | (intro hz; omega) | (intro _; assumption) | (intro hz; apply_assumption; omega) | (intro _; exact (WI_FR hHT7 w308 rfl rfl rfl rfl rfl rfl rfl rfl rfl (WI_FR hHT6 w287 rfl rfl rfl rfl rfl rfl rfl rfl rfl (WI_FR hH w193 rfl rfl rfl rfl rfl rfl rfl rfl rfl (by assumption : WI S)))))), (by omega)⟩
                        · refine l_aload_n rfl rfl ?_
                          refine l_iconst rfl ?_
                          have w320 : Xi T8 890 3 = Xi S 890 3 := (show Xi T8 890 3 = Xi T7 890 3 from w308.x _ _ rfl).trans ( (show Xi T7 890 3 = Xi T6 890 3 from w287.x _ _ rfl).trans ((show Xi T6 890 3 = Xi S 890 3 from w193.x _ _ rfl)))
                          have w322 : Xi T8 891 11 = Xi S 891 11 := (show Xi T8 891 11 = Xi T7 891 11 from w308.x _ _ rfl).trans ( (show Xi T7 891 11 = Xi T6 891 11 from w287.x _ _ rfl).trans ((show Xi T6 891 11 = Xi S 891 11 from w193.x _ _ rfl)))
                          have w324 : Xi T8 891 12 = Xi S 891 12 := (show Xi T8 891 12 = Xi T7 891 12 from w308.x _ _ rfl).trans ( (show Xi T7 891 12 = Xi T6 891 12 from w287.x _ _ rfl).trans ((show Xi T6 891 12 = Xi S 891 12 from w193.x _ _ rfl)))
                          have w326 : Xi T8 891 9 = Xi T7 891 9 := (show Xi T8 891 9 = Xi T7 891 9 from w308.x _ _ rfl)
                          refine l_callV rfl rfl rfl (t_re_doObjects hHT8 1 ⟨by omega, by omega⟩ (by first | assumption | exact (WI_FR hHT7 w308 rfl rfl rfl rfl rfl rfl rfl rfl rfl (WI_FR hHT6 w287 rfl rfl rfl rfl rfl rfl rfl rfl rfl (WI_FR hH w193 rfl rfl rfl rfl rfl rfl rfl rfl rfl (by assumption : WI S))))) (by rw [show Xi T8 890 3 = Xi S 890 3 by omega]; exact hN2) (fun _ => by apply_assumption; omega) (by first | assumption | omega) _) ?_
                          rintro _ T9 ⟨hHT9, w331, z330, rfl, w330, w328, w329⟩
                          have hFT9 : FR md_re_tellPlain S T9 := FR.tr hFT8 w331 rfl
                          show Rl _ _ _ _ _ [iv z330] _ _
                          refine l_if_eq rfl rfl (by unfold rg; omega) (fun w332 => ?_) (fun w333 => ?_)
                          · refine l_iconst rfl ?_
                            refine l_ireturn rfl rfl ?_
                            have w334 : 0 ≤ Xi T9 876 8 ∧ Xi T9 876 8 ≤ 9 := hHT9.c _ _
                            have w335 : Xi T9 890 3 = Xi S 890 3 := (show Xi T9 890 3 = Xi T8 890 3 from w331.x _ _ rfl).trans ( (show Xi T8 890 3 = Xi T7 890 3 from w308.x _ _ rfl).trans ( (show Xi T7 890 3 = Xi T6 890 3 from w287.x _ _ rfl).trans ((show Xi T6 890 3 = Xi S 890 3 from w193.x _ _ rfl))))
                            have w337 : Xi T9 891 11 = Xi S 891 11 := (show Xi T9 891 11 = Xi T8 891 11 from w331.x _ _ rfl).trans ( (show Xi T8 891 11 = Xi T7 891 11 from w308.x _ _ rfl).trans ( (show Xi T7 891 11 = Xi T6 891 11 from w287.x _ _ rfl).trans ((show Xi T6 891 11 = Xi S 891 11 from w193.x _ _ rfl))))
                            have w339 : Xi T9 891 12 = Xi S 891 12 := (show Xi T9 891 12 = Xi T8 891 12 from w331.x _ _ rfl).trans ( (show Xi T8 891 12 = Xi T7 891 12 from w308.x _ _ rfl).trans ( (show Xi T7 891 12 = Xi T6 891 12 from w287.x _ _ rfl).trans ((show Xi T6 891 12 = Xi S 891 12 from w193.x _ _ rfl))))
                            have w341 : Xi T9 891 9 = Xi T7 891 9 := (show Xi T9 891 9 = Xi T8 891 9 from w331.x _ _ rfl).trans ((show Xi T8 891 9 = Xi T7 891 9 from w308.x _ _ rfl))
                            exact ⟨hHT9, hFT9, _, rfl, ⟨by omega, by omega⟩, (by first | (intro hz; omega) | (intro _; assumption) | (intro hz; apply_assumption; omega) | (intro _; exact (by assumption : WI T9))), (by omega)⟩
                          · refine l_iconst rfl ?_
                            refine l_goto rfl rfl ?_
                            refine l_ireturn rfl rfl ?_
                            have w343 : 0 ≤ Xi T9 876 8 ∧ Xi T9 876 8 ≤ 9 := hHT9.c _ _
                            have w344 : Xi T9 890 3 = Xi S 890 3 := (show Xi T9 890 3 = Xi T8 890 3 from w331.x _ _ rfl).trans ( (show Xi T8 890 3 = Xi T7 890 3 from w308.x _ _ rfl).trans ( (show Xi T7 890 3 = Xi T6 890 3 from w287.x _ _ rfl).trans ((show Xi T6 890 3 = Xi S 890 3 from w193.x _ _ rfl))))
                            have w346 : Xi T9 891 11 = Xi S 891 11 := (show Xi T9 891 11 = Xi T8 891 11 from w331.x _ _ rfl).trans ( (show Xi T8 891 11 = Xi T7 891 11 from w308.x _ _ rfl).trans ( (show Xi T7 891 11 = Xi T6 891 11 from w287.x _ _ rfl).trans ((show Xi T6 891 11 = Xi S 891 11 from w193.x _ _ rfl))))
                            have w348 : Xi T9 891 12 = Xi S 891 12 := (show Xi T9 891 12 = Xi T8 891 12 from w331.x _ _ rfl).trans ( (show Xi T8 891 12 = Xi T7 891 12 from w308.x _ _ rfl).trans ( (show Xi T7 891 12 = Xi T6 891 12 from w287.x _ _ rfl).trans ((show Xi T6 891 12 = Xi S 891 12 from w193.x _ _ rfl))))
                            have w350 : Xi T9 891 9 = Xi T7 891 9 := (show Xi T9 891 9 = Xi T8 891 9 from w331.x _ _ rfl).trans ((show Xi T8 891 9 = Xi T7 891 9 from w308.x _ _ rfl))
                            exact ⟨hHT9, hFT9, _, rfl, ⟨by omega, by omega⟩, (by first | (intro hz; omega) | (intro _; assumption) | (intro hz; apply_assumption; omega) | (intro _; exact (by assumption : WI T9))), (by omega)⟩
                · refine l_iconst rfl ?_
                  refine l_goto rfl rfl ?_
                  refine l_istore rfl rfl rfl ?_
                  refine l_iload rfl rfl ?_
                  refine l_if_eq rfl rfl (by unfold rg; omega) (fun w352 => absurd w352 (by omega)) (fun w353 => ?_)
                  · refine l_iload rfl rfl ?_
                    refine l_if_ne rfl rfl (by unfold rg; omega) (fun w354 => ?_) (fun w355 => absurd w355 (by omega))
                    · have w356 : Xi T6 890 3 = Xi S 890 3 := (show Xi T6 890 3 = Xi S 890 3 from w193.x _ _ rfl)
                      exact Rl_weak (C191 T6 hHT6 hFT6 (0) (((Xi S 890 3) + 1)) (z137) (1) (by omega) (by omega) (by omega) (by omega) (by first | assumption | exact (WI_FR hH w193 rfl rfl rfl rfl rfl rfl rfl rfl rfl (by assumption : WI S))) (by omega) (by omega)) (And.intro rfl (And.intro rfl (And.intro rfl (And.intro rfl (And.intro rfl (True.intro))))))
  · refine l_iconst rfl ?_
    refine l_goto rfl rfl ?_
    refine l_istore_n rfl rfl rfl ?_
    refine l_aload_n rfl rfl ?_
    refine l_gfr rfl rfl rfl rfl rfl (hH.r 891 1 890 rfl) ?_
    refine l_gfi rfl rfl rfl rfl rfl ?_
    refine l_iload_n rfl rfl ?_
    refine l_if_eq rfl rfl (by unfold rg; omega) (fun w364 => absurd w364 (by omega)) (fun w365 => ?_)
    · refine l_iconst rfl ?_
      refine l_goto rfl rfl ?_
      refine l_iadd rfl ?_
      refine l_istore_n rfl rfl rfl ?_
      refine l_aload_n rfl rfl ?_
      refine l_gfr rfl rfl rfl rfl rfl (hH.r 891 0 876 rfl) ?_
      refine l_iload_n rfl rfl ?_
      refine l_callV rfl rfl rfl (t_to_runEnd hH ((Xi S 890 3) + 2) ⟨by omega, by omega⟩ _) ?_
      rintro _ _ ⟨rfl, z378, rfl, w378, w371, w372, w373, w374, w375, w376, w377⟩
      clear w373 w374 w375 w376
      show Rl _ _ _ _ _ [iv z378] _ _
      refine l_istore_n rfl rfl rfl ?_
      refine l_aload_n rfl rfl ?_
      refine l_gfr rfl rfl rfl rfl rfl (hH.r 891 0 876 rfl) ?_
      refine l_aload_n rfl rfl ?_
      refine l_gfr rfl rfl rfl rfl rfl (hH.r 891 1 890 rfl) ?_
      refine l_gfi rfl rfl rfl rfl rfl ?_
      refine l_callV rfl rfl rfl (t_to_typeAt hH (Xi S 890 3) ⟨by omega, by omega⟩ _) ?_
      rintro _ _ ⟨rfl, z387, rfl, w387, w384, w385, w386⟩
      clear w385 w386
      show Rl _ _ _ _ _ [iv z387] _ _
      refine l_iconst rfl ?_
      refine l_icmp_ne rfl rfl (by unfold rg; omega) (by unfold rg; omega) (fun w388 => ?_) (fun w389 => ?_)
      · refine l_iconst rfl ?_
        refine l_istore rfl rfl rfl ?_
        refine l_iload rfl rfl ?_
        refine l_if_eq rfl rfl (by unfold rg; omega) (fun w390 => ?_) (fun w391 => absurd w391 (by omega))
        · refine l_iconst rfl ?_
          refine l_istore rfl rfl rfl ?_
          refine l_aload_n rfl rfl ?_
          refine l_gfr rfl rfl rfl rfl rfl (hH.r 891 2 1 rfl) ?_
          refine l_aload_n rfl rfl ?_
          refine l_gfr rfl rfl rfl rfl rfl (hH.r 891 0 876 rfl) ?_
          refine l_gfr rfl rfl rfl rfl rfl (hH.r 876 2 879 rfl) ?_
          refine l_iload_n rfl rfl ?_
          refine l_iload_n rfl rfl ?_
          refine l_callV rfl rfl rfl (t_vo_meaning hH 879 5130 ((Xi S 890 3) + 2) z378 rfl ⟨by omega, by omega⟩ ⟨by omega, by omega⟩ ⟨by omega, by omega⟩ (by first | assumption | exact (by first | assumption | exact (by assumption : WI S).1 : LEX S)) _) ?_
          rintro _ _ ⟨rfl, z399, rfl, w399, w396, w397, w398⟩
          show Rl _ _ _ _ _ [iv z399] _ _
          have hmnz399 := mOK_n (z := z399) (by assumption)
          refine l_bipush rfl rfl ?_
          refine l_ishr8 rfl (by unfold rg; omega) ?_
          refine l_istore rfl rfl rfl ?_
          refine l_iload rfl rfl ?_
          refine l_iconst rfl ?_
          refine l_icmp_eq rfl rfl (by unfold rg; omega) (by unfold rg; omega) (fun w401 => ?_) (fun w402 => ?_)
          · refine l_iconst rfl ?_
            refine l_goto rfl rfl ?_
            refine l_istore rfl rfl rfl ?_
            refine l_iload rfl rfl ?_
            refine l_if_eq rfl rfl (by unfold rg; omega) (fun w403 => ?_) (fun w404 => absurd w404 (by omega))
            · have w405 : -1 ≤ Xi S 890 3 ∧ Xi S 890 3 ≤ 5124 := hH.c _ _
              exact Rl_weak (C191 S hH hF (1) (((Xi S 890 3) + 2)) (z378) (0) (by omega) (by omega) (by omega) (by omega) (by first | assumption | exact (by assumption : WI S)) (by omega) (by omega)) (And.intro rfl (And.intro rfl (And.intro rfl (And.intro rfl (And.intro rfl (True.intro))))))
          · refine l_iload rfl rfl ?_
            refine l_iconst rfl ?_
            refine l_icmp_ne rfl rfl (by unfold rg; omega) (by unfold rg; omega) (fun w409 => ?_) (fun w410 => ?_)
            · refine l_iconst rfl ?_
              refine l_istore rfl rfl rfl ?_
              refine l_iload rfl rfl ?_
              refine l_if_eq rfl rfl (by unfold rg; omega) (fun w411 => ?_) (fun w412 => absurd w412 (by omega))
              · have w413 : -1 ≤ Xi S 890 3 ∧ Xi S 890 3 ≤ 5124 := hH.c _ _
                exact Rl_weak (C191 S hH hF (1) (((Xi S 890 3) + 2)) (z378) (0) (by omega) (by omega) (by omega) (by omega) (by first | assumption | exact (by assumption : WI S)) (by omega) (by omega)) (And.intro rfl (And.intro rfl (And.intro rfl (And.intro rfl (And.intro rfl (True.intro))))))
            · refine l_iconst rfl ?_
              refine l_goto rfl rfl ?_
              refine l_istore rfl rfl rfl ?_
              refine l_iload rfl rfl ?_
              refine l_if_eq rfl rfl (by unfold rg; omega) (fun w417 => ?_) (fun w418 => absurd w418 (by omega))
              · have w419 : -1 ≤ Xi S 890 3 ∧ Xi S 890 3 ≤ 5124 := hH.c _ _
                exact Rl_weak (C191 S hH hF (1) (((Xi S 890 3) + 2)) (z378) (0) (by omega) (by omega) (by omega) (by omega) (by first | assumption | exact (by assumption : WI S)) (by omega) (by omega)) (And.intro rfl (And.intro rfl (And.intro rfl (And.intro rfl (And.intro rfl (True.intro))))))
      · refine l_iload_n rfl rfl ?_
        refine l_if_ne rfl rfl (by unfold rg; omega) (fun w423 => ?_) (fun w424 => absurd w424 (by omega))
        · refine l_iconst rfl ?_
          refine l_istore rfl rfl rfl ?_
          refine l_iload rfl rfl ?_
          refine l_if_eq rfl rfl (by unfold rg; omega) (fun w425 => ?_) (fun w426 => absurd w426 (by omega))
          · refine l_iconst rfl ?_
            refine l_istore rfl rfl rfl ?_
            refine l_aload_n rfl rfl ?_
            refine l_gfr rfl rfl rfl rfl rfl (hH.r 891 2 1 rfl) ?_
            refine l_aload_n rfl rfl ?_
            refine l_gfr rfl rfl rfl rfl rfl (hH.r 891 0 876 rfl) ?_
            refine l_gfr rfl rfl rfl rfl rfl (hH.r 876 2 879 rfl) ?_
            refine l_iload_n rfl rfl ?_
            refine l_iload_n rfl rfl ?_
            refine l_callV rfl rfl rfl (t_vo_meaning hH 879 5130 ((Xi S 890 3) + 2) z378 rfl ⟨by omega, by omega⟩ ⟨by omega, by omega⟩ ⟨by omega, by omega⟩ (by first | assumption | exact (by first | assumption | exact (by assumption : WI S).1 : LEX S)) _) ?_
            rintro _ _ ⟨rfl, z434, rfl, w434, w431, w432, w433⟩
            show Rl _ _ _ _ _ [iv z434] _ _
            have hmnz434 := mOK_n (z := z434) (by assumption)
            refine l_bipush rfl rfl ?_
            refine l_ishr8 rfl (by unfold rg; omega) ?_
            refine l_istore rfl rfl rfl ?_
            refine l_iload rfl rfl ?_
            refine l_iconst rfl ?_
            refine l_icmp_eq rfl rfl (by unfold rg; omega) (by unfold rg; omega) (fun w436 => ?_) (fun w437 => ?_)
            · refine l_iconst rfl ?_
              refine l_goto rfl rfl ?_
              refine l_istore rfl rfl rfl ?_
              refine l_iload rfl rfl ?_
              refine l_if_eq rfl rfl (by unfold rg; omega) (fun w438 => ?_) (fun w439 => absurd w439 (by omega))
              · have w440 : -1 ≤ Xi S 890 3 ∧ Xi S 890 3 ≤ 5124 := hH.c _ _
                exact Rl_weak (C191 S hH hF (1) (((Xi S 890 3) + 2)) (z378) (0) (by omega) (by omega) (by omega) (by omega) (by first | assumption | exact (by assumption : WI S)) (by omega) (by omega)) (And.intro rfl (And.intro rfl (And.intro rfl (And.intro rfl (And.intro rfl (True.intro))))))
            · refine l_iload rfl rfl ?_
              refine l_iconst rfl ?_
              refine l_icmp_ne rfl rfl (by unfold rg; omega) (by unfold rg; omega) (fun w444 => ?_) (fun w445 => ?_)
              · refine l_iconst rfl ?_
                refine l_istore rfl rfl rfl ?_
                refine l_iload rfl rfl ?_
                refine l_if_eq rfl rfl (by unfold rg; omega) (fun w446 => ?_) (fun w447 => absurd w447 (by omega))
                · have w448 : -1 ≤ Xi S 890 3 ∧ Xi S 890 3 ≤ 5124 := hH.c _ _
                  exact Rl_weak (C191 S hH hF (1) (((Xi S 890 3) + 2)) (z378) (0) (by omega) (by omega) (by omega) (by omega) (by first | assumption | exact (by assumption : WI S)) (by omega) (by omega)) (And.intro rfl (And.intro rfl (And.intro rfl (And.intro rfl (And.intro rfl (True.intro))))))
              · refine l_iconst rfl ?_
                refine l_goto rfl rfl ?_
                refine l_istore rfl rfl rfl ?_
                refine l_iload rfl rfl ?_
                refine l_if_eq rfl rfl (by unfold rg; omega) (fun w452 => ?_) (fun w453 => absurd w453 (by omega))
                · have w454 : -1 ≤ Xi S 890 3 ∧ Xi S 890 3 ≤ 5124 := hH.c _ _
                  exact Rl_weak (C191 S hH hF (1) (((Xi S 890 3) + 2)) (z378) (0) (by omega) (by omega) (by omega) (by omega) (by first | assumption | exact (by assumption : WI S)) (by omega) (by omega)) (And.intro rfl (And.intro rfl (And.intro rfl (And.intro rfl (And.intro rfl (True.intro))))))
