/-! SAFETY of methods: printed by wip/safe (vc.py, decl.py) -/
def md_re_takeNew : List rec := [(876, 877, 8, 9), (876, 877, 9, 10), (891, 892, 9, 10), (892, 893, 0, 100000), (893, 894, 0, 100000)]
abbrev Q_re_takeNew (S : sS) (from_ : Int) (to : Int) (already : Int) (most : Int) : pst := fun r S1 => HI S1 ∧ FR md_re_takeNew S S1 ∧ (∃ z : Int, r = some (iv z) ∧ (0 ≤ z ∧ z ≤ 1) ∧ (z = 1 → Xi S1 891 9 = Xi S 891 9 + 1 ∧ already + Xi S1 891 9 ≤ most ∧ to - from_ ≤ 3 ∧ Xi S1 892 (Xi S 891 9).toNat = from_ ∧ Xi S1 893 (Xi S 891 9).toNat = to) ∧ (z = 0 → Xi S1 891 9 = Xi S 891 9) ∧ (z = 1 → 1 ≤ to - from_ → mnR S 879 from_.toNat (to - from_).toNat = -1))
set_option maxRecDepth 100000 in
theorem t_re_takeNew {S : sS} (hH : HI S) (from_ : Int) (to : Int) (already : Int) (most : Int) (hfrom_ : 0 ≤ from_ ∧ from_ ≤ 5130) (hto : 0 ≤ to ∧ to ≤ 5130) (halready : 0 ≤ already ∧ already ≤ 1000) (hmost : 0 ≤ most ∧ most ≤ 1000) (hL : LEX S) (d : Nat) : Mt lay0 (d + 2) m_re_takeNew [.ref 891, iv from_, iv to, iv already, iv most] S (Q_re_takeNew S from_ to already most) := by
  refine Mt_R rfl rfl ?_
  have hF : FR md_re_takeNew S S := FR.rf
  have w1 : 0 ≤ Xi S 891 9 ∧ Xi S 891 9 ≤ 24 := hH.c _ _
  refine l_aload_n rfl rfl ?_
  refine l_gfr rfl rfl rfl rfl rfl (hH.r 891 2 1 rfl) ?_
  refine l_aload_n rfl rfl ?_
  refine l_gfr rfl rfl rfl rfl rfl (hH.r 891 0 876 rfl) ?_
  refine l_gfr rfl rfl rfl rfl rfl (hH.r 876 2 879 rfl) ?_
  refine l_iload_n rfl rfl ?_
  refine l_iload_n rfl rfl ?_
  refine l_callV rfl rfl rfl (t_vo_meaning hH 879 5130 from_ to rfl ⟨by omega, by omega⟩ ⟨by omega, by omega⟩ ⟨by omega, by omega⟩ (by first | assumption | exact LEX_FR hF rfl rfl hL) _) ?_
  rintro _ _ ⟨rfl, z5, rfl, w5, w2, w3, w4⟩
  show Rl _ _ _ _ _ [iv z5] _ _
  have hmnz5 := mOK_n (z := z5) (by assumption)
  refine l_iconst rfl ?_
  refine l_icmp_ne rfl rfl (by unfold rg; omega) (by unfold rg; omega) (fun w6 => ?_) (fun w7 => ?_)
  · refine l_aload_n rfl rfl ?_
    refine l_gfr rfl rfl rfl rfl rfl (hH.r 891 0 876 rfl) ?_
    refine l_iconst rfl ?_
    refine l_iload_n rfl rfl ?_
    refine l_callV rfl rfl rfl (t_to_wrong hH 3 from_ ⟨by omega, by omega⟩ ⟨by omega, by omega⟩ _) ?_
    rintro _ T1 ⟨hHT1, w11, z10, rfl, w10, w8, w9⟩
    have hFT1 : FR md_re_takeNew S T1 := FR.tr hF w11 rfl
    show Rl _ _ _ _ _ [iv z10] _ _
    refine l_ireturn rfl (retI_z (by omega)) ?_
    have w12 : Xi T1 891 9 = Xi S 891 9 := (show Xi T1 891 9 = Xi S 891 9 from w11.x _ _ rfl)
    have w13 : 0 ≤ Xi S 891 9 ∧ Xi S 891 9 ≤ 24 := hH.c _ _
    exact ⟨hHT1, hFT1, _, rfl, ⟨by omega, by omega⟩, (by first | (intro hz; exact absurd hz (by omega)) | (intro hz; exact ⟨by omega, by omega, by omega, by rw [eU6, Xi_ne (by omega), eU5, Xi_ne (by omega)]; omega, by rw [eU6, Xi_ne (by omega)]; omega⟩)), (by omega), (by omega)⟩
  · refine l_iload_n rfl rfl ?_
    refine l_iload_n rfl rfl ?_
    refine l_isub rfl ?_
    refine l_iconst rfl ?_
    refine l_icmp_gt rfl rfl (by unfold rg; omega) (by unfold rg; omega) (fun w14 => ?_) (fun w15 => ?_)
    · refine l_aload_n rfl rfl ?_
      refine l_gfr rfl rfl rfl rfl rfl (hH.r 891 0 876 rfl) ?_
      refine l_iconst rfl ?_
      refine l_iload_n rfl rfl ?_
      refine l_callV rfl rfl rfl (t_to_wrong hH 3 from_ ⟨by omega, by omega⟩ ⟨by omega, by omega⟩ _) ?_
      rintro _ T2 ⟨hHT2, w19, z18, rfl, w18, w16, w17⟩
      have hFT2 : FR md_re_takeNew S T2 := FR.tr hF w19 rfl
      show Rl _ _ _ _ _ [iv z18] _ _
      refine l_ireturn rfl (retI_z (by omega)) ?_
      have w20 : Xi T2 891 9 = Xi S 891 9 := (show Xi T2 891 9 = Xi S 891 9 from w19.x _ _ rfl)
      have w21 : 0 ≤ Xi S 891 9 ∧ Xi S 891 9 ≤ 24 := hH.c _ _
      exact ⟨hHT2, hFT2, _, rfl, ⟨by omega, by omega⟩, (by first | (intro hz; exact absurd hz (by omega)) | (intro hz; exact ⟨by omega, by omega, by omega, by rw [eU6, Xi_ne (by omega), eU5, Xi_ne (by omega)]; omega, by rw [eU6, Xi_ne (by omega)]; omega⟩)), (by omega), (by omega)⟩
    · refine l_aload_n rfl rfl ?_
      refine l_iload_n rfl rfl ?_
      refine l_iload_n rfl rfl ?_
      refine l_callV rfl rfl rfl (t_re_wasNew hH from_ to ⟨by omega, by omega⟩ ⟨by omega, by omega⟩ _) ?_
      rintro _ _ ⟨rfl, z22, rfl, w22⟩
      show Rl _ _ _ _ _ [iv z22] _ _
      refine l_if_eq rfl rfl (by unfold rg; omega) (fun w23 => ?_) (fun w24 => ?_)
      · refine l_iload_n rfl rfl ?_
        refine l_aload_n rfl rfl ?_
        refine l_gfi rfl rfl rfl rfl rfl ?_
        refine l_iadd rfl ?_
        refine l_iload rfl rfl ?_
        refine l_icmp_ge rfl rfl (by unfold rg; omega) (by unfold rg; omega) (fun w25 => ?_) (fun w26 => ?_)
        · refine l_aload_n rfl rfl ?_
          refine l_gfr rfl rfl rfl rfl rfl (hH.r 891 0 876 rfl) ?_
          refine l_bipush rfl rfl ?_
          refine l_iload_n rfl rfl ?_
          refine l_callV rfl rfl rfl (t_to_wrong hH 9 from_ ⟨by omega, by omega⟩ ⟨by omega, by omega⟩ _) ?_
          rintro _ T3 ⟨hHT3, w30, z29, rfl, w29, w27, w28⟩
          have hFT3 : FR md_re_takeNew S T3 := FR.tr hF w30 rfl
          show Rl _ _ _ _ _ [iv z29] _ _
          refine l_ireturn rfl (retI_z (by omega)) ?_
          have w31 : Xi T3 891 9 = Xi S 891 9 := (show Xi T3 891 9 = Xi S 891 9 from w30.x _ _ rfl)
          have w32 : 0 ≤ Xi S 891 9 ∧ Xi S 891 9 ≤ 24 := hH.c _ _
          exact ⟨hHT3, hFT3, _, rfl, ⟨by omega, by omega⟩, (by first | (intro hz; exact absurd hz (by omega)) | (intro hz; exact ⟨by omega, by omega, by omega, by rw [eU6, Xi_ne (by omega), eU5, Xi_ne (by omega)]; omega, by rw [eU6, Xi_ne (by omega)]; omega⟩)), (by omega), (by omega)⟩
        · refine l_aload_n rfl rfl ?_
          refine l_gfi rfl rfl rfl rfl rfl ?_
          refine l_aload_n rfl rfl ?_
          refine l_gfr rfl rfl rfl rfl rfl (hH.r 891 7 892 rfl) ?_
          refine l_alen (n := 24) (z := 24) rfl rfl rfl rfl rfl ?_
          refine l_icmp_lt rfl rfl (by unfold rg; omega) (by unfold rg; omega) (fun w33 => ?_) (fun w34 => ?_)
          · refine l_aload_n rfl rfl ?_
            refine l_gfr rfl rfl rfl rfl rfl (hH.r 891 7 892 rfl) ?_
            refine l_aload_n rfl rfl ?_
            refine l_gfi rfl rfl rfl rfl rfl ?_
            refine l_iload_n rfl rfl ?_
            refine l_iastore (n := 24) rfl rfl (by omega) (by omega) (by unfold rg; omega) ?_
            obtain ⟨U4, eU4⟩ : ∃ T : sS, T = uI S 892 (((Xi S 891 9)).toNat) (Int32.ofInt from_) := ⟨_, rfl⟩
            rw [← eU4]
            have hHU4 : HI U4 := by rw [eU4]; exact HI_w hH (show 0 ≤ from_ by omega) (show from_ ≤ 5130 by omega)
            have hFU4 : FR md_re_takeNew S U4 := by rw [eU4]; exact FR.wI hF (mdf_i (r := (892, 893, 0, 100000)) (List.mem_of_getElem? (i := 3) rfl) (inR_i (by omega) (by omega) (by omega) (by omega)))
            have w35 : Xi U4 892 (((Xi S 891 9)).toNat) = from_ := by rw [eU4]; exact Xi_same (by unfold rg; omega)
            refine l_aload_n rfl rfl ?_
            refine l_gfr rfl rfl rfl rfl rfl (hHU4.r 891 8 893 rfl) ?_
            refine l_aload_n rfl rfl ?_
            refine l_gfi rfl rfl rfl rfl rfl ?_
            have w36 : (Xi U4 891 9) = (Xi S 891 9) := (show Xi U4 891 9 = Xi S 891 9 from by rw [eU4]; exact Xi_ne (by omega))
            rw [w36]
            refine l_iload_n rfl rfl ?_
            refine l_iastore (n := 24) rfl rfl (by omega) (by omega) (by unfold rg; omega) ?_
            obtain ⟨U5, eU5⟩ : ∃ T : sS, T = uI U4 893 (((Xi S 891 9)).toNat) (Int32.ofInt to) := ⟨_, rfl⟩
            rw [← eU5]
            have hHU5 : HI U5 := by rw [eU5]; exact HI_w hHU4 (show 0 ≤ to by omega) (show to ≤ 5130 by omega)
            have hFU5 : FR md_re_takeNew S U5 := by rw [eU5]; exact FR.wI hFU4 (mdf_i (r := (893, 894, 0, 100000)) (List.mem_of_getElem? (i := 4) rfl) (inR_i (by omega) (by omega) (by omega) (by omega)))
            have w37 : Xi U5 893 (((Xi S 891 9)).toNat) = to := by rw [eU5]; exact Xi_same (by unfold rg; omega)
            refine l_aload_n rfl rfl ?_
            refine l_dup rfl rfl ?_
            refine l_gfi rfl rfl rfl rfl rfl ?_
            have w38 : (Xi U5 891 9) = (Xi S 891 9) := (show Xi U5 891 9 = Xi U4 891 9 from by rw [eU5]; exact Xi_ne (by omega)).trans ((show Xi U4 891 9 = Xi S 891 9 from by rw [eU4]; exact Xi_ne (by omega)))
            rw [w38]
            refine l_iconst rfl ?_
            refine l_iadd rfl ?_
            refine l_pfi rfl rfl rfl rfl ?_
            obtain ⟨U6, eU6⟩ : ∃ T : sS, T = uI U5 891 9 (Int32.ofInt ((Xi S 891 9) + 1)) := ⟨_, rfl⟩
            rw [← eU6]
            have hHU6 : HI U6 := by rw [eU6]; exact HI_w hHU5 (show 0 ≤ ((Xi S 891 9) + 1) by omega) (show ((Xi S 891 9) + 1) ≤ 24 by omega)
            have hFU6 : FR md_re_takeNew S U6 := by rw [eU6]; exact FR.wI hFU5 (mdf_i (r := (891, 892, 9, 10)) (List.mem_of_getElem? (i := 2) rfl) (inR_i (by omega) (by omega) (by omega) (by omega)))
            have w39 : Xi U6 891 9 = ((Xi S 891 9) + 1) := by rw [eU6]; exact Xi_same (by unfold rg; omega)
            refine l_iconst rfl ?_
            refine l_ireturn rfl rfl ?_
            have w40 : 0 ≤ Xi U6 891 9 ∧ Xi U6 891 9 ≤ 24 := hHU6.c _ _
            exact ⟨hHU6, hFU6, _, rfl, ⟨by omega, by omega⟩, (by first | (intro hz; exact absurd hz (by omega)) | (intro hz; exact ⟨by omega, by omega, by omega, by rw [eU6, Xi_ne (by omega), eU5, Xi_ne (by omega)]; omega, by rw [eU6, Xi_ne (by omega)]; omega⟩)), (by omega), (by omega)⟩
          · refine l_aload_n rfl rfl ?_
            refine l_gfr rfl rfl rfl rfl rfl (hH.r 891 0 876 rfl) ?_
            refine l_bipush rfl rfl ?_
            refine l_iload_n rfl rfl ?_
            refine l_callV rfl rfl rfl (t_to_wrong hH 9 from_ ⟨by omega, by omega⟩ ⟨by omega, by omega⟩ _) ?_
            rintro _ T7 ⟨hHT7, w44, z43, rfl, w43, w41, w42⟩
            have hFT7 : FR md_re_takeNew S T7 := FR.tr hF w44 rfl
            show Rl _ _ _ _ _ [iv z43] _ _
            refine l_ireturn rfl (retI_z (by omega)) ?_
            have w45 : Xi T7 891 9 = Xi S 891 9 := (show Xi T7 891 9 = Xi S 891 9 from w44.x _ _ rfl)
            have w46 : 0 ≤ Xi S 891 9 ∧ Xi S 891 9 ≤ 24 := hH.c _ _
            exact ⟨hHT7, hFT7, _, rfl, ⟨by omega, by omega⟩, (by first | (intro hz; exact absurd hz (by omega)) | (intro hz; exact ⟨by omega, by omega, by omega, by rw [eU6, Xi_ne (by omega), eU5, Xi_ne (by omega)]; omega, by rw [eU6, Xi_ne (by omega)]; omega⟩)), (by omega), (by omega)⟩
      · refine l_aload_n rfl rfl ?_
        refine l_gfr rfl rfl rfl rfl rfl (hH.r 891 0 876 rfl) ?_
        refine l_iconst rfl ?_
        refine l_iload_n rfl rfl ?_
        refine l_callV rfl rfl rfl (t_to_wrong hH 3 from_ ⟨by omega, by omega⟩ ⟨by omega, by omega⟩ _) ?_
        rintro _ T8 ⟨hHT8, w50, z49, rfl, w49, w47, w48⟩
        have hFT8 : FR md_re_takeNew S T8 := FR.tr hF w50 rfl
        show Rl _ _ _ _ _ [iv z49] _ _
        refine l_ireturn rfl (retI_z (by omega)) ?_
        have w51 : Xi T8 891 9 = Xi S 891 9 := (show Xi T8 891 9 = Xi S 891 9 from w50.x _ _ rfl)
        have w52 : 0 ≤ Xi S 891 9 ∧ Xi S 891 9 ≤ 24 := hH.c _ _
        exact ⟨hHT8, hFT8, _, rfl, ⟨by omega, by omega⟩, (by first | (intro hz; exact absurd hz (by omega)) | (intro hz; exact ⟨by omega, by omega, by omega, by rw [eU6, Xi_ne (by omega), eU5, Xi_ne (by omega)]; omega, by rw [eU6, Xi_ne (by omega)]; omega⟩)), (by omega), (by omega)⟩
