/-! SAFETY of methods: printed by wip/safe (vc.py, decl.py) -/
def md_mo_mustBeNew__2 : List rec := [(904, 905, 104, 105), (904, 905, 105, 106), (904, 905, 106, 107), (904, 905, 108, 109), (966, 967, 0, 100000)]
abbrev Q_mo_mustBeNew__2 (S : sS) (n : Nat) (rn : Int) (there : Int) (most : Int) : pst := fun r S1 => HI S1 ∧ FR md_mo_mustBeNew__2 S S1 ∧ (r = none ∧ (Xi S 904 106 ≠ 0 → Xi S1 904 106 ≠ 0) ∧ (Xi S1 904 106 = 0 → there < most ∧ nwR S rn) ∧ (NWV S1) ∧ (Xi S 904 108 ≤ Xi S1 904 108 ∧ Xi S1 904 108 ≤ Xi S 904 108 + 1) ∧ (Xi S1 904 106 = 0 → Xi S1 904 108 = Xi S 904 108 + 1))
set_option maxRecDepth 100000 in
theorem t_mo_mustBeNew__2 {S : sS} (hH : HI S) (n : Nat) (rn : Int) (there : Int) (most : Int) (hrn : 0 ≤ rn ∧ rn ≤ 2599) (hthere : -2147483648 ≤ there ∧ there ≤ 2147483647) (hmost : -2147483648 ≤ most ∧ most ≤ 2147483647) (hT : TK S n) (hv : RNV S n) (hrr : rn < Xi S 904 69) (hN : NWV S) (h9 : Xi S 904 108 ≤ 2599) (d : Nat) : Mt lay0 (d + 4) m_mo_mustBeNew [.ref 904, iv rn, iv there, iv most] S (Q_mo_mustBeNew__2 S n rn there most) := by
  refine Mt_R rfl rfl ?_
  have hF : FR md_mo_mustBeNew__2 S S := FR.rf
  have w1 : 0 ≤ Xi S 904 106 ∧ Xi S 904 106 ≤ 9 := hH.c _ _
  have w2 : 0 ≤ Xi S 904 108 ∧ Xi S 904 108 ≤ 2600 := hH.c _ _
  have w3 : 0 ≤ Xi S 904 69 ∧ Xi S 904 69 ≤ 2600 := hH.c _ _
  have hn5 := hT.1
  have hq := hv rn.toNat (by omega)
  have hq0 : 0 ≤ Xi S 950 rn.toNat ∧ Xi S 950 rn.toNat ≤ 5010 := hH.c 950 rn.toNat
  have hc69 : 0 ≤ Xi S 904 69 ∧ Xi S 904 69 ≤ 2600 := hH.c _ _
  refine l_aload_n rfl rfl ?_
  refine l_iload_n rfl rfl ?_
  refine l_callV rfl rfl rfl (t_mo_isNew hH n rn ⟨by omega, by omega⟩ (by first | assumption | exact (TK_FR hF rfl (by assumption : TK S _))) (by first | assumption | exact (RNV_FR hF rfl (by assumption : RNV S _))) (by first | assumption | omega) (by first | assumption | exact (by assumption : NWV S)) _) ?_
  rintro _ _ ⟨rfl, z7, rfl, w7, f2⟩
  show Rl _ _ _ _ _ [iv z7] _ _
  refine l_if_eq rfl rfl (by unfold rg; omega) (fun w8 => ?_) (fun w9 => ?_)
  · refine l_aload_n rfl rfl ?_
    refine l_iconst rfl ?_
    refine l_aload_n rfl rfl ?_
    refine l_gfr rfl rfl rfl rfl rfl (hH.r 904 67 950 rfl) ?_
    refine l_iload_n rfl rfl ?_
    refine l_iaload (n := 2600) rfl rfl (by omega) (by omega) (by unfold rg; omega) ?_
    have w10 : 0 ≤ (Xi S 950 ((rn).toNat)) ∧ (Xi S 950 ((rn).toNat)) ≤ 5010 := hH.c _ _
    refine l_callV rfl rfl rfl (t_mo_note hH 3 (Xi S 950 ((rn).toNat)) ⟨by omega, by omega⟩ ⟨by omega, by omega⟩ _) ?_
    rintro _ T1 ⟨hHT1, w16, rfl, w14⟩
    have hFT1 : FR md_mo_mustBeNew__2 S T1 := FR.tr hF w16 rfl
    show Rl _ _ _ _ _ [] _ _
    refine l_return rfl rfl ?_
    have w17 : 0 ≤ Xi T1 904 106 ∧ Xi T1 904 106 ≤ 9 := hHT1.c _ _
    have w18 : Xi T1 904 108 = Xi S 904 108 := (show Xi T1 904 108 = Xi S 904 108 from w16.x _ _ rfl)
    have w20 : Xi T1 904 69 = Xi S 904 69 := (show Xi T1 904 69 = Xi S 904 69 from w16.x _ _ rfl)
    exact ⟨hHT1, hFT1, rfl, (by omega), (fun q => by first | exact ⟨by omega, f2.1 (by omega)⟩ | (exfalso; omega)), (by first | exact N47 | exact NWV_FR (by assumption : FR md_mo_note S T1) rfl hN), (by omega), (by first | omega | exact fun q => absurd q (by omega))⟩
  · refine l_aload_n rfl rfl ?_
    refine l_iload_n rfl rfl ?_
    refine l_iload_n rfl rfl ?_
    refine l_icmp_ge rfl rfl (by unfold rg; omega) (by unfold rg; omega) (fun w22 => ?_) (fun w23 => ?_)
    · refine l_iconst rfl ?_
      refine l_bipush rfl rfl ?_
      refine l_aload_n rfl rfl ?_
      refine l_gfr rfl rfl rfl rfl rfl (hH.r 904 67 950 rfl) ?_
      refine l_iload_n rfl rfl ?_
      refine l_iaload (n := 2600) rfl rfl (by omega) (by omega) (by unfold rg; omega) ?_
      have w24 : 0 ≤ (Xi S 950 ((rn).toNat)) ∧ (Xi S 950 ((rn).toNat)) ≤ 5010 := hH.c _ _
      refine l_callV rfl rfl rfl (t_mo_need hH 0 9 (Xi S 950 ((rn).toNat)) ⟨by omega, by omega⟩ ⟨by omega, by omega⟩ ⟨by omega, by omega⟩ _) ?_
      rintro _ T2 ⟨hHT2, w31, rfl, w28, w29⟩
      have hFT2 : FR md_mo_mustBeNew__2 S T2 := FR.tr hF w31 rfl
      show Rl _ _ _ _ _ [] _ _
      refine l_aload_n rfl rfl ?_
      refine l_gfr rfl rfl rfl rfl rfl (hHT2.r 904 107 966 rfl) ?_
      refine l_aload_n rfl rfl ?_
      refine l_gfi rfl rfl rfl rfl rfl ?_
      have w32 : (Xi T2 904 108) = (Xi S 904 108) := (show Xi T2 904 108 = Xi S 904 108 from w31.x _ _ rfl)
      rw [w32]
      refine l_iload_n rfl rfl ?_
      refine l_iastore (n := 2600) rfl rfl (by omega) (by omega) (by unfold rg; omega) ?_
      obtain ⟨U3, eU3⟩ : ∃ T : sS, T = uI T2 966 (((Xi S 904 108)).toNat) (Int32.ofInt rn) := ⟨_, rfl⟩
      rw [← eU3]
      have hHU3 : HI U3 := by rw [eU3]; exact HI_w hHT2 (show 0 ≤ rn by omega) (show rn ≤ 2600 by omega)
      have hFU3 : FR md_mo_mustBeNew__2 S U3 := by rw [eU3]; exact FR.wI hFT2 (mdf_i (r := (966, 967, 0, 100000)) (List.mem_of_getElem? (i := 4) rfl) (inR_i (by omega) (by omega) (by omega) (by omega)))
      have w33 : Xi U3 966 (((Xi S 904 108)).toNat) = rn := by rw [eU3]; exact Xi_same (by unfold rg; omega)
      have n39 : ∀ k : Nat, (k : Int) < Xi S 904 108 → Xi U3 966 k < Xi S 904 69 := fun k hk => by rw [eU3, Xi_ne (by omega), ((by assumption : FR md_mo_need S T2).cx 966 rfl _).1]; exact hN k hk
      refine l_aload_n rfl rfl ?_
      refine l_dup rfl rfl ?_
      refine l_gfi rfl rfl rfl rfl rfl ?_
      have w34 : (Xi U3 904 108) = (Xi S 904 108) := (show Xi U3 904 108 = Xi T2 904 108 from by rw [eU3]; exact Xi_ne (by omega)).trans ((show Xi T2 904 108 = Xi S 904 108 from w31.x _ _ rfl))
      rw [w34]
      refine l_iconst rfl ?_
      refine l_iadd rfl ?_
      refine l_pfi rfl rfl rfl rfl ?_
      obtain ⟨U4, eU4⟩ : ∃ T : sS, T = uI U3 904 108 (Int32.ofInt ((Xi S 904 108) + 1)) := ⟨_, rfl⟩
      rw [← eU4]
      have hHU4 : HI U4 := by rw [eU4]; exact HI_w hHU3 (show 0 ≤ ((Xi S 904 108) + 1) by omega) (show ((Xi S 904 108) + 1) ≤ 2600 by omega)
      have hFU4 : FR md_mo_mustBeNew__2 S U4 := by rw [eU4]; exact FR.wI hFU3 (mdf_i (r := (904, 905, 108, 109)) (List.mem_of_getElem? (i := 3) rfl) (inR_i (by omega) (by omega) (by omega) (by omega)))
      have w35 : Xi U4 904 108 = ((Xi S 904 108) + 1) := by rw [eU4]; exact Xi_same (by unfold rg; omega)
      have N47 : NWV U4 := nwv_add n39 eU3 eU4 (by omega) (by omega) (by omega) (hFU4.x 904 69 rfl) (by omega) (by omega)
      refine l_goto rfl rfl ?_
      refine l_return rfl rfl ?_
      have w36 : Xi U4 904 106 = Xi T2 904 106 := (show Xi U4 904 106 = Xi U3 904 106 from by rw [eU4]; exact Xi_ne (by omega)).trans ((show Xi U3 904 106 = Xi T2 904 106 from by rw [eU3]; exact Xi_ne (by omega)))
      have w37 : 0 ≤ Xi T2 904 106 ∧ Xi T2 904 106 ≤ 9 := hHT2.c _ _
      have w38 : 0 ≤ Xi U4 904 108 ∧ Xi U4 904 108 ≤ 2600 := hHU4.c _ _
      have w39 : Xi U4 904 69 = Xi S 904 69 := (show Xi U4 904 69 = Xi U3 904 69 from by rw [eU4]; exact Xi_ne (by omega)).trans ( (show Xi U3 904 69 = Xi T2 904 69 from by rw [eU3]; exact Xi_ne (by omega)).trans ((show Xi T2 904 69 = Xi S 904 69 from w31.x _ _ rfl)))
      exact ⟨hHU4, hFU4, rfl, (by omega), (fun q => by first | exact ⟨by omega, f2.1 (by omega)⟩ | (exfalso; omega)), (by first | exact N47 | exact NWV_FR (by assumption : FR md_mo_note U3 U4) rfl hN), (by omega), (by first | omega | exact fun q => absurd q (by omega))⟩
    · refine l_iconst rfl ?_
      refine l_goto rfl rfl ?_
      refine l_bipush rfl rfl ?_
      refine l_aload_n rfl rfl ?_
      refine l_gfr rfl rfl rfl rfl rfl (hH.r 904 67 950 rfl) ?_
      refine l_iload_n rfl rfl ?_
      refine l_iaload (n := 2600) rfl rfl (by omega) (by omega) (by unfold rg; omega) ?_
      have w41 : 0 ≤ (Xi S 950 ((rn).toNat)) ∧ (Xi S 950 ((rn).toNat)) ≤ 5010 := hH.c _ _
      refine l_callV rfl rfl rfl (t_mo_need hH 1 9 (Xi S 950 ((rn).toNat)) ⟨by omega, by omega⟩ ⟨by omega, by omega⟩ ⟨by omega, by omega⟩ _) ?_
      rintro _ T5 ⟨hHT5, w48, rfl, w45, w46⟩
      have hFT5 : FR md_mo_mustBeNew__2 S T5 := FR.tr hF w48 rfl
      show Rl _ _ _ _ _ [] _ _
      refine l_aload_n rfl rfl ?_
      refine l_gfr rfl rfl rfl rfl rfl (hHT5.r 904 107 966 rfl) ?_
      refine l_aload_n rfl rfl ?_
      refine l_gfi rfl rfl rfl rfl rfl ?_
      have w49 : (Xi T5 904 108) = (Xi S 904 108) := (show Xi T5 904 108 = Xi S 904 108 from w48.x _ _ rfl)
      rw [w49]
      refine l_iload_n rfl rfl ?_
      refine l_iastore (n := 2600) rfl rfl (by omega) (by omega) (by unfold rg; omega) ?_
      obtain ⟨U6, eU6⟩ : ∃ T : sS, T = uI T5 966 (((Xi S 904 108)).toNat) (Int32.ofInt rn) := ⟨_, rfl⟩
      rw [← eU6]
      have hHU6 : HI U6 := by rw [eU6]; exact HI_w hHT5 (show 0 ≤ rn by omega) (show rn ≤ 2600 by omega)
      have hFU6 : FR md_mo_mustBeNew__2 S U6 := by rw [eU6]; exact FR.wI hFT5 (mdf_i (r := (966, 967, 0, 100000)) (List.mem_of_getElem? (i := 4) rfl) (inR_i (by omega) (by omega) (by omega) (by omega)))
      have w50 : Xi U6 966 (((Xi S 904 108)).toNat) = rn := by rw [eU6]; exact Xi_same (by unfold rg; omega)
      have n39 : ∀ k : Nat, (k : Int) < Xi S 904 108 → Xi U6 966 k < Xi S 904 69 := fun k hk => by rw [eU6, Xi_ne (by omega), ((by assumption : FR md_mo_need S T5).cx 966 rfl _).1]; exact hN k hk
      refine l_aload_n rfl rfl ?_
      refine l_dup rfl rfl ?_
      refine l_gfi rfl rfl rfl rfl rfl ?_
      have w51 : (Xi U6 904 108) = (Xi S 904 108) := (show Xi U6 904 108 = Xi T5 904 108 from by rw [eU6]; exact Xi_ne (by omega)).trans ((show Xi T5 904 108 = Xi S 904 108 from w48.x _ _ rfl))
      rw [w51]
      refine l_iconst rfl ?_
      refine l_iadd rfl ?_
      refine l_pfi rfl rfl rfl rfl ?_
      obtain ⟨U7, eU7⟩ : ∃ T : sS, T = uI U6 904 108 (Int32.ofInt ((Xi S 904 108) + 1)) := ⟨_, rfl⟩
      rw [← eU7]
      have hHU7 : HI U7 := by rw [eU7]; exact HI_w hHU6 (show 0 ≤ ((Xi S 904 108) + 1) by omega) (show ((Xi S 904 108) + 1) ≤ 2600 by omega)
      have hFU7 : FR md_mo_mustBeNew__2 S U7 := by rw [eU7]; exact FR.wI hFU6 (mdf_i (r := (904, 905, 108, 109)) (List.mem_of_getElem? (i := 3) rfl) (inR_i (by omega) (by omega) (by omega) (by omega)))
      have w52 : Xi U7 904 108 = ((Xi S 904 108) + 1) := by rw [eU7]; exact Xi_same (by unfold rg; omega)
      have N47 : NWV U7 := nwv_add n39 eU6 eU7 (by omega) (by omega) (by omega) (hFU7.x 904 69 rfl) (by omega) (by omega)
      refine l_goto rfl rfl ?_
      refine l_return rfl rfl ?_
      have w53 : Xi U7 904 106 = Xi T5 904 106 := (show Xi U7 904 106 = Xi U6 904 106 from by rw [eU7]; exact Xi_ne (by omega)).trans ((show Xi U6 904 106 = Xi T5 904 106 from by rw [eU6]; exact Xi_ne (by omega)))
      have w54 : 0 ≤ Xi T5 904 106 ∧ Xi T5 904 106 ≤ 9 := hHT5.c _ _
      have w55 : 0 ≤ Xi U7 904 108 ∧ Xi U7 904 108 ≤ 2600 := hHU7.c _ _
      have w56 : Xi U7 904 69 = Xi S 904 69 := (show Xi U7 904 69 = Xi U6 904 69 from by rw [eU7]; exact Xi_ne (by omega)).trans ( (show Xi U6 904 69 = Xi T5 904 69 from by rw [eU6]; exact Xi_ne (by omega)).trans ((show Xi T5 904 69 = Xi S 904 69 from w48.x _ _ rfl)))
      exact ⟨hHU7, hFU7, rfl, (by omega), (fun q => by first | exact ⟨by omega, f2.1 (by omega)⟩ | (exfalso; omega)), (by first | exact N47 | exact NWV_FR (by assumption : FR md_mo_note U6 U7) rfl hN), (by omega), (by first | omega | exact fun q => absurd q (by omega))⟩
def md_mo_oneReading__2 : List rec := [(904, 905, 104, 105), (904, 905, 105, 106), (904, 905, 106, 107)]
abbrev Q_mo_oneReading__2 (S : sS) (t : Int) : pst := fun r S1 => HI S1 ∧ FR md_mo_oneReading__2 S S1 ∧ (r = none ∧ (Xi S 904 106 ≠ 0 → Xi S1 904 106 ≠ 0) ∧ (Xi S1 904 106 = 0 → Xi S 904 109 ≠ 0))
set_option maxRecDepth 100000 in
theorem t_mo_oneReading__2 {S : sS} (hH : HI S) (t : Int) (ht : 0 ≤ t ∧ t ≤ 5001) (d : Nat) : Mt lay0 (d + 4) m_mo_oneReading [.ref 904, iv t] S (Q_mo_oneReading__2 S t) := by
  refine Mt_R rfl rfl ?_
  have hF : FR md_mo_oneReading__2 S S := FR.rf
  have w1 : 0 ≤ Xi S 904 106 ∧ Xi S 904 106 ≤ 9 := hH.c _ _
  have w2 : -2147483648 ≤ Xi S 904 109 ∧ Xi S 904 109 ≤ 2147483647 := Xi_rgI
  refine l_aload_n rfl rfl ?_
  refine l_aload_n rfl rfl ?_
  refine l_gfi rfl rfl rfl rfl rfl ?_
  refine l_if_le rfl rfl (by unfold rg; omega) (fun w3 => ?_) (fun w4 => ?_)
  · refine l_iconst rfl ?_
    refine l_iconst rfl ?_
    refine l_iload_n rfl rfl ?_
    refine l_callV rfl rfl rfl (t_mo_need hH 0 4 t ⟨by omega, by omega⟩ ⟨by omega, by omega⟩ ⟨by omega, by omega⟩ _) ?_
    rintro _ T1 ⟨hHT1, w9, rfl, w6, w7⟩
    have hFT1 : FR md_mo_oneReading__2 S T1 := FR.tr hF w9 rfl
    show Rl _ _ _ _ _ [] _ _
    refine l_aload_n rfl rfl ?_
    refine l_aload_n rfl rfl ?_
    refine l_gfi rfl rfl rfl rfl rfl ?_
    have w10 : (Xi T1 904 109) = (Xi S 904 109) := (show Xi T1 904 109 = Xi S 904 109 from w9.x _ _ rfl)
    rw [w10]
    refine l_iconst rfl ?_
    refine l_icmp_ge rfl rfl (by unfold rg; omega) (by unfold rg; omega) (fun w11 => ?_) (fun w12 => ?_)
    · refine l_iconst rfl ?_
      refine l_bipush rfl rfl ?_
      refine l_iload_n rfl rfl ?_
      have w13 : 0 ≤ Xi T1 904 106 ∧ Xi T1 904 106 ≤ 9 := hHT1.c _ _
      refine l_callV rfl rfl rfl (t_mo_need hHT1 0 7 t ⟨by omega, by omega⟩ ⟨by omega, by omega⟩ ⟨by omega, by omega⟩ _) ?_
      rintro _ T2 ⟨hHT2, w17, rfl, w14, w15⟩
      have hFT2 : FR md_mo_oneReading__2 S T2 := FR.tr hFT1 w17 rfl
      show Rl _ _ _ _ _ [] _ _
      refine l_return rfl rfl ?_
      have w18 : 0 ≤ Xi T2 904 106 ∧ Xi T2 904 106 ≤ 9 := hHT2.c _ _
      exact ⟨hHT2, hFT2, rfl, (by first | assumption | omega), (by omega)⟩
    · refine l_iconst rfl ?_
      refine l_goto rfl rfl ?_
      refine l_bipush rfl rfl ?_
      refine l_iload_n rfl rfl ?_
      have w19 : 0 ≤ Xi T1 904 106 ∧ Xi T1 904 106 ≤ 9 := hHT1.c _ _
      refine l_callV rfl rfl rfl (t_mo_need hHT1 1 7 t ⟨by omega, by omega⟩ ⟨by omega, by omega⟩ ⟨by omega, by omega⟩ _) ?_
      rintro _ T3 ⟨hHT3, w23, rfl, w20, w21⟩
      have hFT3 : FR md_mo_oneReading__2 S T3 := FR.tr hFT1 w23 rfl
      show Rl _ _ _ _ _ [] _ _
      refine l_return rfl rfl ?_
      have w24 : 0 ≤ Xi T3 904 106 ∧ Xi T3 904 106 ≤ 9 := hHT3.c _ _
      exact ⟨hHT3, hFT3, rfl, (by first | assumption | omega), (by omega)⟩
  · refine l_iconst rfl ?_
    refine l_goto rfl rfl ?_
    refine l_iconst rfl ?_
    refine l_iload_n rfl rfl ?_
    refine l_callV rfl rfl rfl (t_mo_need hH 1 4 t ⟨by omega, by omega⟩ ⟨by omega, by omega⟩ ⟨by omega, by omega⟩ _) ?_
    rintro _ T4 ⟨hHT4, w29, rfl, w26, w27⟩
    have hFT4 : FR md_mo_oneReading__2 S T4 := FR.tr hF w29 rfl
    show Rl _ _ _ _ _ [] _ _
    refine l_aload_n rfl rfl ?_
    refine l_aload_n rfl rfl ?_
    refine l_gfi rfl rfl rfl rfl rfl ?_
    have w30 : (Xi T4 904 109) = (Xi S 904 109) := (show Xi T4 904 109 = Xi S 904 109 from w29.x _ _ rfl)
    rw [w30]
    refine l_iconst rfl ?_
    refine l_icmp_ge rfl rfl (by unfold rg; omega) (by unfold rg; omega) (fun w31 => ?_) (fun w32 => ?_)
    · refine l_iconst rfl ?_
      refine l_bipush rfl rfl ?_
      refine l_iload_n rfl rfl ?_
      have w33 : 0 ≤ Xi T4 904 106 ∧ Xi T4 904 106 ≤ 9 := hHT4.c _ _
      refine l_callV rfl rfl rfl (t_mo_need hHT4 0 7 t ⟨by omega, by omega⟩ ⟨by omega, by omega⟩ ⟨by omega, by omega⟩ _) ?_
      rintro _ T5 ⟨hHT5, w37, rfl, w34, w35⟩
      have hFT5 : FR md_mo_oneReading__2 S T5 := FR.tr hFT4 w37 rfl
      show Rl _ _ _ _ _ [] _ _
      refine l_return rfl rfl ?_
      have w38 : 0 ≤ Xi T5 904 106 ∧ Xi T5 904 106 ≤ 9 := hHT5.c _ _
      exact ⟨hHT5, hFT5, rfl, (by first | assumption | omega), (by omega)⟩
    · refine l_iconst rfl ?_
      refine l_goto rfl rfl ?_
      refine l_bipush rfl rfl ?_
      refine l_iload_n rfl rfl ?_
      have w39 : 0 ≤ Xi T4 904 106 ∧ Xi T4 904 106 ≤ 9 := hHT4.c _ _
      refine l_callV rfl rfl rfl (t_mo_need hHT4 1 7 t ⟨by omega, by omega⟩ ⟨by omega, by omega⟩ ⟨by omega, by omega⟩ _) ?_
      rintro _ T6 ⟨hHT6, w43, rfl, w40, w41⟩
      have hFT6 : FR md_mo_oneReading__2 S T6 := FR.tr hFT4 w43 rfl
      show Rl _ _ _ _ _ [] _ _
      refine l_return rfl rfl ?_
      have w44 : 0 ≤ Xi T6 904 106 ∧ Xi T6 904 106 ≤ 9 := hHT6.c _ _
      exact ⟨hHT6, hFT6, rfl, (by first | assumption | omega), (by omega)⟩
def md_mo_addKind__2 : List rec := [(904, 905, 16, 17), (917, 918, 0, 100000), (926, 927, 0, 100000), (929, 930, 0, 100000), (933, 934, 0, 100000)]
abbrev Q_mo_addKind__2 (S : sS) (par : Int) : pst := fun r S1 => HI S1 ∧ FR md_mo_addKind__2 S S1 ∧ (∃ z : Int, r = some (iv z) ∧ (0 ≤ z ∧ z ≤ 15) ∧ (z = Xi S 904 16) ∧ (Xi S1 904 16 = Xi S 904 16 + 1) ∧ (ABV S1) ∧ (TXM S1) ∧ (∀ j : Nat, (j : Int) < 12 * Xi S 904 16 → Xi S1 933 j = Xi S 933 j) ∧ (∀ p : Int, 0 ≤ p → p < 12 → Xi S1 933 (12 * Xi S 904 16 + p).toNat = 0))
set_option maxRecDepth 100000 in
theorem t_mo_addKind__2 {S : sS} (hH : HI S) (par : Int) (hpar : -1 ≤ par ∧ par ≤ 15) (h : Xi S 904 16 ≤ 15) (hp : par < Xi S 904 16) (hB : ABV S) (hX : TXM S) (d : Nat) : Mt lay0 (d + 1) m_mo_addKind [.ref 904, iv par] S (Q_mo_addKind__2 S par) := by
  refine Mt_R rfl rfl ?_
  have hF : FR md_mo_addKind__2 S S := FR.rf
  have w1 : 0 ≤ Xi S 904 16 ∧ Xi S 904 16 ≤ 16 := hH.c _ _
  have hc16 : 0 ≤ Xi S 904 16 ∧ Xi S 904 16 ≤ 16 := hH.c _ _
  have C12 : ∀ (n12 : Nat) (T1 : sS) (_ : HI T1) (_ : FR md_mo_addKind__2 S T1) (v2 : Int), (0 ≤ v2 ∧ v2 ≤ 12) → (Xi T1 904 16 = Xi S 904 16) → (ABV T1) → (∀ j : Nat, (j : Int) < 12 * Xi S 904 16 → Xi T1 933 j = Xi S 933 j) → (∀ p : Int, 0 ≤ p → p < v2 → Xi T1 933 (12 * Xi S 904 16 + p).toNat = 0) → n12 = (13 - v2).toNat → Rl lay0 (d + 0) m_mo_addKind 12 [(0, .ref 904), (2, iv v2)] [] T1 (Q_mo_addKind__2 S par) := by
    intro n12
    induction n12 using Nat.strongRecOn with
    | ind n12 ih12 =>
      intro T1 hHT1 hFT1 v2 w2 w3 B12 O12 Z12 hm12
      have w4 : 0 ≤ Xi T1 904 16 ∧ Xi T1 904 16 ≤ 16 := hHT1.c _ _
      have C56 : ∀ (n56 : Nat) (T2 : sS) (_ : HI T2) (_ : FR md_mo_addKind__2 S T2) (v2 : Int), (0 ≤ v2 ∧ v2 ≤ 24) → (Xi T2 904 16 = Xi S 904 16) → (ABV T2) → (∀ j : Nat, (j : Int) < 12 * Xi S 904 16 → Xi T2 933 j = Xi S 933 j) → (∀ p : Int, 0 ≤ p → p < 12 → Xi T2 933 (12 * Xi S 904 16 + p).toNat = 0) → n56 = (25 - v2).toNat → Rl lay0 (d + 0) m_mo_addKind 56 [(0, .ref 904), (2, iv v2)] [] T2 (Q_mo_addKind__2 S par) := by
        intro n56
        induction n56 using Nat.strongRecOn with
        | ind n56 ih56 =>
          intro T2 hHT2 hFT2 v2 w5 w6 B56 O56 Z56 hm56
          have w7 : 0 ≤ Xi T2 904 16 ∧ Xi T2 904 16 ≤ 16 := hHT2.c _ _
          refine l_iload_n rfl rfl ?_
          refine l_bipush rfl rfl ?_
          refine l_icmp_ge rfl rfl (by unfold rg; omega) (by unfold rg; omega) (fun w8 => ?_) (fun w9 => ?_)
          · refine l_aload_n rfl rfl ?_
            refine l_dup rfl rfl ?_
            refine l_gfi rfl rfl rfl rfl rfl ?_
            refine l_iconst rfl ?_
            refine l_iadd rfl ?_
            refine l_pfi rfl rfl rfl rfl ?_
            obtain ⟨U3, eU3⟩ : ∃ T : sS, T = uI T2 904 16 (Int32.ofInt ((Xi T2 904 16) + 1)) := ⟨_, rfl⟩
            rw [← eU3]
            have hHU3 : HI U3 := by rw [eU3]; exact HI_w hHT2 (show 0 ≤ ((Xi T2 904 16) + 1) by omega) (show ((Xi T2 904 16) + 1) ≤ 16 by omega)
            have hFU3 : FR md_mo_addKind__2 S U3 := by rw [eU3]; exact FR.wI hFT2 (mdf_i (r := (904, 905, 16, 17)) (List.mem_of_getElem? (i := 0) rfl) (inR_i (by omega) (by omega) (by omega) (by omega)))
            have w10 : Xi U3 904 16 = ((Xi T2 904 16) + 1) := by rw [eU3]; exact Xi_same (by unfold rg; omega)
            have b90 : ABV U3 := ABV_FR (FR_e eU3) rfl B56
            have x90 : TXM U3 := txm_k2 hX (by omega) (fun j hj => by rw [eU3, Xi_ne (by omega)]; exact O56 j hj) (fun p a b => by rw [eU3, Xi_ne (by omega)]; exact Z56 p a b) (fun j => (hFU3.cx 918 rfl j).1) (fun j => (hFU3.cx 928 rfl j).1) (fun j => (hFU3.cx 930 rfl j).1) (fun j => (hFU3.cx 931 rfl j).1) (fun j => (hFU3.cx 932 rfl j).1) (fun j => (hFU3.cx 934 rfl j).1) (fun j => (hFU3.cx 935 rfl j).1) (hFU3.x 904 19 rfl) (hFU3.x 904 32 rfl)
            refine l_aload_n rfl rfl ?_
            refine l_gfi rfl rfl rfl rfl rfl ?_
            refine l_iconst rfl ?_
            refine l_isub rfl ?_
            refine l_ireturn rfl rfl ?_
            have w11 : 0 ≤ Xi U3 904 16 ∧ Xi U3 904 16 ≤ 16 := hHU3.c _ _
            exact ⟨hHU3, hFU3, _, rfl, ⟨by omega, by omega⟩, (by omega), (by omega), (b90), (x90), (fun j hj => by rw [eU3, Xi_ne (by omega)]; exact O56 j hj), (fun p a b => by rw [eU3, Xi_ne (by omega)]; exact Z56 p a b)⟩
          · refine l_aload_n rfl rfl ?_
            refine l_gfr rfl rfl rfl rfl rfl (hHT2.r 904 29 926 rfl) ?_
            refine l_bipush rfl rfl ?_
            refine l_aload_n rfl rfl ?_
            refine l_gfi rfl rfl rfl rfl rfl ?_
            refine l_imul rfl ?_
            refine l_iload_n rfl rfl ?_
            refine l_iadd rfl ?_
            refine l_iconst rfl ?_
            refine l_iastore (n := 384) rfl rfl (by omega) (by omega) (by unfold rg; omega) ?_
            obtain ⟨U4, eU4⟩ : ∃ T : sS, T = uI T2 926 ((((24 * (Xi T2 904 16)) + v2)).toNat) (Int32.ofInt 0) := ⟨_, rfl⟩
            rw [← eU4]
            have hHU4 : HI U4 := by rw [eU4]; exact HI_w hHT2 (show 0 ≤ 0 by omega) (show 0 ≤ 2 by omega)
            have hFU4 : FR md_mo_addKind__2 S U4 := by rw [eU4]; exact FR.wI hFT2 (mdf_i (r := (926, 927, 0, 100000)) (List.mem_of_getElem? (i := 2) rfl) (inR_i (by omega) (by omega) (by omega) (by omega)))
            have w12 : Xi U4 926 ((((24 * (Xi T2 904 16)) + v2)).toNat) = 0 := by rw [eU4]; exact Xi_same (by unfold rg; omega)
            have b76 : ABV U4 := ABV_FR (FR_e eU4) rfl B56
            have o76 : ∀ j : Nat, (j : Int) < 12 * Xi S 904 16 → Xi U4 933 j = Xi S 933 j := fun j hj => by rw [eU4, Xi_ne (by omega)]; exact O56 j hj
            have z76 : ∀ p : Int, 0 ≤ p → p < 12 → Xi U4 933 (12 * Xi S 904 16 + p).toNat = 0 := fun p a b => by rw [eU4, Xi_ne (by omega)]; exact Z56 p a b
            refine l_iinc rfl rfl rfl rfl ?_
            refine l_goto rfl rfl ?_
            have w13 : Xi U4 904 16 = Xi T2 904 16 := (show Xi U4 904 16 = Xi T2 904 16 from by rw [eU4]; exact Xi_ne (by omega))
            exact Rl_weak (ih56 _ (by omega) U4 hHU4 hFU4 ((v2 + 1)) (by omega) (by omega) (by first | exact b76 | exact B12) (by first | exact o76 | exact O12) (by first | exact z76 | exact fun p a b => Z12 p a (by omega)) rfl) (And.intro rfl (And.intro rfl (True.intro)))
      refine l_iload_n rfl rfl ?_
      refine l_bipush rfl rfl ?_
      refine l_icmp_ge rfl rfl (by unfold rg; omega) (by unfold rg; omega) (fun w15 => ?_) (fun w16 => ?_)
      · refine l_iconst rfl ?_
        refine l_istore_n rfl rfl rfl ?_
        exact Rl_weak (C56 _ T1 hHT1 hFT1 (0) (by omega) (by omega) (by first | exact b76 | exact B12) (by first | exact o76 | exact O12) (by first | exact z76 | exact fun p a b => Z12 p a (by omega)) rfl) (And.intro rfl (And.intro rfl (True.intro)))
      · refine l_aload_n rfl rfl ?_
        refine l_gfr rfl rfl rfl rfl rfl (hHT1.r 904 34 929 rfl) ?_
        refine l_bipush rfl rfl ?_
        refine l_aload_n rfl rfl ?_
        refine l_gfi rfl rfl rfl rfl rfl ?_
        refine l_imul rfl ?_
        refine l_iload_n rfl rfl ?_
        refine l_iadd rfl ?_
        refine l_iconst rfl ?_
        refine l_bastoreZ1 (n := 192) rfl rfl (by omega) (by omega) (by unfold rg; omega) ⟨by omega, by omega⟩ ?_
        obtain ⟨U5, eU5⟩ : ∃ T : sS, T = uI T1 929 ((((12 * (Xi T1 904 16)) + v2)).toNat) (Int32.ofInt 0) := ⟨_, rfl⟩
        rw [← eU5]
        have hHU5 : HI U5 := by rw [eU5]; exact HI_w hHT1 (show 0 ≤ 0 by omega) (show 0 ≤ 1 by omega)
        have hFU5 : FR md_mo_addKind__2 S U5 := by rw [eU5]; exact FR.wI hFT1 (mdf_i (r := (929, 930, 0, 100000)) (List.mem_of_getElem? (i := 3) rfl) (inR_i (by omega) (by omega) (by omega) (by omega)))
        have w18 : Xi U5 929 ((((12 * (Xi T1 904 16)) + v2)).toNat) = 0 := by rw [eU5]; exact Xi_same (by unfold rg; omega)
        have b32 : ABV U5 := ABV_FR (FR_e eU5) rfl B12
        have o32 : ∀ j : Nat, (j : Int) < 12 * Xi S 904 16 → Xi U5 933 j = Xi S 933 j := fun j hj => by rw [eU5, Xi_ne (by omega)]; exact O12 j hj
        have z32 : ∀ p : Int, 0 ≤ p → p < v2 → Xi U5 933 (12 * Xi S 904 16 + p).toNat = 0 := fun p a b => by rw [eU5, Xi_ne (by omega)]; exact Z12 p a b
        refine l_aload_n rfl rfl ?_
        refine l_gfr rfl rfl rfl rfl rfl (hHU5.r 904 38 933 rfl) ?_
        refine l_bipush rfl rfl ?_
        refine l_aload_n rfl rfl ?_
        refine l_gfi rfl rfl rfl rfl rfl ?_
        have w19 : (Xi U5 904 16) = (Xi T1 904 16) := (show Xi U5 904 16 = Xi T1 904 16 from by rw [eU5]; exact Xi_ne (by omega))
        rw [w19]
        refine l_imul rfl ?_
        refine l_iload_n rfl rfl ?_
        refine l_iadd rfl ?_
        refine l_iconst rfl ?_
        refine l_bastoreZ1 (n := 192) rfl rfl (by omega) (by omega) (by unfold rg; omega) ⟨by omega, by omega⟩ ?_
        obtain ⟨U6, eU6⟩ : ∃ T : sS, T = uI U5 933 ((((12 * (Xi T1 904 16)) + v2)).toNat) (Int32.ofInt 0) := ⟨_, rfl⟩
        rw [← eU6]
        have hHU6 : HI U6 := by rw [eU6]; exact HI_w hHU5 (show 0 ≤ 0 by omega) (show 0 ≤ 1 by omega)
        have hFU6 : FR md_mo_addKind__2 S U6 := by rw [eU6]; exact FR.wI hFU5 (mdf_i (r := (933, 934, 0, 100000)) (List.mem_of_getElem? (i := 4) rfl) (inR_i (by omega) (by omega) (by omega) (by omega)))
        have w20 : Xi U6 933 ((((12 * (Xi T1 904 16)) + v2)).toNat) = 0 := by rw [eU6]; exact Xi_same (by unfold rg; omega)
        have b47 : ABV U6 := ABV_FR (FR_e eU6) rfl b32
        have o47 : ∀ j : Nat, (j : Int) < 12 * Xi S 904 16 → Xi U6 933 j = Xi S 933 j := fun j hj => by rw [eU6, Xi_ne (by omega)]; exact o32 j hj
        have z47 : ∀ p : Int, 0 ≤ p → p < v2 + 1 → Xi U6 933 (12 * Xi S 904 16 + p).toNat = 0 := fun p a b => (by by_cases g : p = v2; (rw [g, show (12 * Xi S 904 16 + v2).toNat = (12 * Xi U5 904 16 + v2).toNat by omega]; first | assumption | (rw [show (12 * Xi U5 904 16 + v2).toNat = (12 * Xi T1 904 16 + v2).toNat by omega]; assumption)); (rw [eU6, Xi_ne (by omega)]; exact z32 p a (by omega)))
        refine l_iinc rfl rfl rfl rfl ?_
        refine l_goto rfl rfl ?_
        have w21 : Xi U6 904 16 = Xi T1 904 16 := (show Xi U6 904 16 = Xi U5 904 16 from by rw [eU6]; exact Xi_ne (by omega)).trans ((show Xi U5 904 16 = Xi T1 904 16 from by rw [eU5]; exact Xi_ne (by omega)))
        exact Rl_weak (ih12 _ (by omega) U6 hHU6 hFU6 ((v2 + 1)) (by omega) (by omega) (by first | exact b47 | exact b9) (by first | exact o47 | exact o9) (by first | exact z47 | exact fun p a b => absurd b (by omega)) rfl) (And.intro rfl (And.intro rfl (True.intro)))
  refine l_aload_n rfl rfl ?_
  refine l_gfr rfl rfl rfl rfl rfl (hH.r 904 17 917 rfl) ?_
  refine l_aload_n rfl rfl ?_
  refine l_gfi rfl rfl rfl rfl rfl ?_
  refine l_iload_n rfl rfl ?_
  refine l_iastore (n := 16) rfl rfl (by omega) (by omega) (by unfold rg; omega) ?_
  obtain ⟨U7, eU7⟩ : ∃ T : sS, T = uI S 917 (((Xi S 904 16)).toNat) (Int32.ofInt par) := ⟨_, rfl⟩
  rw [← eU7]
  have hHU7 : HI U7 := by rw [eU7]; exact HI_w hH (show -1 ≤ par by omega) (show par ≤ 15 by omega)
  have hFU7 : FR md_mo_addKind__2 S U7 := by rw [eU7]; exact FR.wI hF (mdf_i (r := (917, 918, 0, 100000)) (List.mem_of_getElem? (i := 1) rfl) (inR_i (by omega) (by omega) (by omega) (by omega)))
  have w23 : Xi U7 917 (((Xi S 904 16)).toNat) = par := by rw [eU7]; exact Xi_same (by unfold rg; omega)
  have b9 : ABV U7 := abv_w eU7 hB (by omega) (by omega) (by unfold rg; omega)
  have o9 : ∀ j : Nat, (j : Int) < 12 * Xi S 904 16 → Xi U7 933 j = Xi S 933 j := fun j hj => by rw [eU7, Xi_ne (by omega)]
  refine l_iconst rfl ?_
  refine l_istore_n rfl rfl rfl ?_
  have w24 : Xi U7 904 16 = Xi S 904 16 := (show Xi U7 904 16 = Xi S 904 16 from by rw [eU7]; exact Xi_ne (by omega))
  exact Rl_weak (C12 _ U7 hHU7 hFU7 (0) (by omega) (by omega) (by first | exact b47 | exact b9) (by first | exact o47 | exact o9) (by first | exact z47 | exact fun p a b => absurd b (by omega)) rfl) (And.intro rfl (And.intro rfl (True.intro)))
def KZK (S : sS) : Prop := (Xi S 904 78 = -2 → Xi S 904 18 + Xi S 904 72 ≤ 8) ∧ (Xi S 904 78 ≠ -2 → Xi S 904 16 + Xi S 904 72 ≤ 16) ∧ (0 ≤ Xi S 904 78 → rnR S (Xi S 904 78) 0 ≠ -1)
def VKY (S : sS) (v : Int) : Prop := (v ≠ 0 → Xi S 904 78 = -2) ∧ (v = 0 → Xi S 904 78 ≠ -2)
def KCT (S T : sS) (v m : Int) : Prop := (v = 0 → Xi T 904 16 = Xi S 904 16 + m ∧ Xi T 904 18 = Xi S 904 18) ∧ (v ≠ 0 → Xi T 904 18 = Xi S 904 18 + m ∧ Xi T 904 16 = Xi S 904 16)
def md_mo_doKinds : List rec := [(904, 905, 15, 16), (904, 905, 16, 17), (904, 905, 18, 19), (912, 913, 0, 100000), (913, 914, 0, 100000), (914, 915, 0, 100000), (915, 916, 0, 100000), (916, 917, 0, 100000), (917, 918, 0, 100000), (926, 927, 0, 100000), (929, 930, 0, 100000), (933, 934, 0, 100000)]
abbrev Q_mo_doKinds (S : sS) (n : Nat) : pst := fun r S1 => HI S1 ∧ FR md_mo_doKinds S S1 ∧ (r = none ∧ (TXM S1) ∧ (ABV S1) ∧ (LXM S1) ∧ (LCN S1) ∧ (GR S1 S))
set_option maxRecDepth 100000 in
set_option maxHeartbeats 4000000 in
theorem c124_mo_doKinds {S : sS} (hH : HI S) (n : Nat) (hT : TK S n) (hv : RNV S n) (hM : LXM S) (hX : TXM S) (hLC : LCN S) (hB : ABV S) (hl : Xi S 904 71 + Xi S 904 72 ≤ Xi S 904 69) (hw : Xi S 904 78 < Xi S 904 69) (hT2 : Xi S 904 78 = -2 → Xi S 904 18 + Xi S 904 72 ≤ 8) (hK2 : Xi S 904 78 ≠ -2 → Xi S 904 16 + Xi S 904 72 ≤ 16) (h0 : 0 ≤ Xi S 904 78 → rnR S (Xi S 904 78) 0 ≠ -1) (h3 : ∀ i : Int, 0 ≤ i → i < Xi S 904 72 → Xi S 951 (Xi S 904 71 + i).toNat ≤ 3) (h1 : 1 ≤ Xi S 904 16) (d : Nat) : ∀ (n124 : Nat) (T1 : sS) (_ : HI T1) (_ : FR md_mo_doKinds S T1) (v1 : Int) (v2 : Int) (v3 : Int) (v5 : Int), (0 ≤ v1 ∧ v1 ≤ 16) → (0 ≤ v2 ∧ v2 ≤ 8) → (0 ≤ v3 ∧ v3 ≤ 1) → (0 ≤ v5 ∧ v5 ≤ 2600) → (v1 = Xi S 904 16) → (v2 = Xi S 904 18) → (VKY S v3) → (v5 ≤ Xi S 904 72) → (Xi T1 904 69 = Xi S 904 69) → (Xi T1 904 71 = Xi S 904 71) → (Xi T1 904 72 = Xi S 904 72) → (KCT S T1 v3 (Xi S 904 72)) → (TXM T1) → (ABV T1) → (LXM T1) → (LCN T1) → (GR T1 S) → (PLB T1 (v1 + v5) (v2 + v5)) → n124 = (2601 - v5).toNat → Rl lay0 (d + 4) m_mo_doKinds 124 [(0, .ref 904), (1, iv v1), (2, iv v2), (3, iv v3), (5, iv v5)] [] T1 (Q_mo_doKinds S n) := by
  have hF : FR md_mo_doKinds S S := FR.rf
  have w1 : 0 ≤ Xi S 904 16 ∧ Xi S 904 16 ≤ 16 := hH.c _ _
  have w2 : 0 ≤ Xi S 904 18 ∧ Xi S 904 18 ≤ 8 := hH.c _ _
  have w3 : 0 ≤ Xi S 904 69 ∧ Xi S 904 69 ≤ 2600 := hH.c _ _
  have w4 : 0 ≤ Xi S 904 71 ∧ Xi S 904 71 ≤ 2600 := hH.c _ _
  have w5 : 0 ≤ Xi S 904 72 ∧ Xi S 904 72 ≤ 2600 := hH.c _ _
  have w6 : -2 ≤ Xi S 904 78 ∧ Xi S 904 78 ≤ 5010 := hH.c _ _
  have hn5 := hT.1
  have hc69 : 0 ≤ Xi S 904 69 ∧ Xi S 904 69 ≤ 2600 := hH.c _ _
  have hc71 : 0 ≤ Xi S 904 71 ∧ Xi S 904 71 ≤ 2600 := hH.c _ _
  have hc72 : 0 ≤ Xi S 904 72 ∧ Xi S 904 72 ≤ 2600 := hH.c _ _
  have hrf : ∀ r : Int, 0 ≤ r → r < Xi S 904 69 → Xi S 950 r.toNat ≤ n := fun r a b => by have := hv r.toNat (by omega); omega
  have hc15 : 0 ≤ Xi S 904 15 ∧ Xi S 904 15 ≤ 300 := hH.c _ _
  have hl9 := lcn_le hH hLC
  have hc16 : 0 ≤ Xi S 904 16 ∧ Xi S 904 16 ≤ 16 := hH.c _ _
  have hc18 : 0 ≤ Xi S 904 18 ∧ Xi S 904 18 ≤ 8 := hH.c _ _
  have hc78 : -2 ≤ Xi S 904 78 := (hH.c 904 78).1
  have hZ : KZK S := ⟨hT2, hK2, h0⟩
  clear hT2 hK2 h0
  have hrg : ∀ i : Int, 0 ≤ i → i < Xi S 904 72 → Xi S 950 (Xi S 904 71 + i).toNat + Xi S 951 (Xi S 904 71 + i).toNat ≤ n ∧ 1 ≤ Xi S 951 (Xi S 904 71 + i).toNat := fun i a b => hv (Xi S 904 71 + i).toNat (by omega)
  intro n124
  induction n124 using Nat.strongRecOn with
  | ind n124 ih124 =>
    intro T1 hHT1 hFT1 v1 v2 v3 v5 w7 w8 w9 w10 w11 w12 Y124 w13 w14 w15 w16 C124 X124 B124 M124 L124 G124 P124 hm124
    have w17 : Xi T1 904 69 = Xi S 904 69 := hFT1.x _ _ rfl
    have w18 : Xi T1 904 71 = Xi S 904 71 := hFT1.x _ _ rfl
    have w19 : Xi T1 904 72 = Xi S 904 72 := hFT1.x _ _ rfl
    have w20 : Xi T1 904 78 = Xi S 904 78 := hFT1.x _ _ rfl
    have w21 : 0 ≤ Xi T1 904 69 ∧ Xi T1 904 69 ≤ 2600 := hHT1.c _ _
    have w22 : 0 ≤ Xi T1 904 71 ∧ Xi T1 904 71 ≤ 2600 := hHT1.c _ _
    have w23 : 0 ≤ Xi T1 904 72 ∧ Xi T1 904 72 ≤ 2600 := hHT1.c _ _
    have C348 : ∀  (T2 : sS) (_ : HI T2) (_ : FR md_mo_doKinds S T2) (v1 : Int) (v2 : Int) (v3 : Int) (v5 : Int), (0 ≤ v1 ∧ v1 ≤ 16) → (0 ≤ v2 ∧ v2 ≤ 8) → (0 ≤ v3 ∧ v3 ≤ 1) → (0 ≤ v5 ∧ v5 ≤ 2599) → (v1 = Xi S 904 16) → (v2 = Xi S 904 18) → (VKY S v3) → (v5 < Xi S 904 72) → (Xi T2 904 69 = Xi S 904 69) → (Xi T2 904 71 = Xi S 904 71) → (Xi T2 904 72 = Xi S 904 72) → (KCT S T2 v3 (Xi S 904 72)) → (TXM T2) → (ABV T2) → (LXM T2) → (LCN T2) → (GR T2 S) → (PLB T2 (v1 + (v5 + 1)) (v2 + (v5 + 1))) → ((2601 - v5).toNat ≤ n124) → Rl lay0 (d + 4) m_mo_doKinds 348 [(0, .ref 904), (1, iv v1), (2, iv v2), (3, iv v3), (5, iv v5)] [] T2 (Q_mo_doKinds S n) := by
      intro T2 hHT2 hFT2 v1 v2 v3 v5 w24 w25 w26 w27 w28 w29 Y348 w30 w31 w32 w33 C348 X348 B348 M348 L348 G348 P348 w34
      have w35 : Xi T2 904 69 = Xi S 904 69 := hFT2.x _ _ rfl
      have w36 : Xi T2 904 71 = Xi S 904 71 := hFT2.x _ _ rfl
      have w37 : Xi T2 904 72 = Xi S 904 72 := hFT2.x _ _ rfl
      have w38 : Xi T2 904 78 = Xi S 904 78 := hFT2.x _ _ rfl
      have w39 : 0 ≤ Xi T2 904 69 ∧ Xi T2 904 69 ≤ 2600 := hHT2.c _ _
      have w40 : 0 ≤ Xi T2 904 71 ∧ Xi T2 904 71 ≤ 2600 := hHT2.c _ _
      have w41 : 0 ≤ Xi T2 904 72 ∧ Xi T2 904 72 ≤ 2600 := hHT2.c _ _
      refine l_iinc rfl rfl rfl rfl ?_
      refine l_goto rfl rfl ?_
      have w42 : 0 ≤ Xi T2 904 15 ∧ Xi T2 904 15 ≤ 300 := hHT2.c _ _
      have w43 : 0 ≤ Xi T2 904 16 ∧ Xi T2 904 16 ≤ 16 := hHT2.c _ _
      have w44 : 0 ≤ Xi T2 904 18 ∧ Xi T2 904 18 ≤ 8 := hHT2.c _ _
      exact Rl_weak (ih124 _ (by omega) T2 hHT2 hFT2 (v1) (v2) (v3) ((v5 + 1)) (by omega) (by omega) (by omega) (by omega) (by omega) (by omega) (by assumption) (by omega) (by omega) (by omega) (by omega) (by first | exact C348 | (rw [show Xi S 904 72 = v5 by omega]; exact C55) | (rw [show Xi S 904 72 = Xi T2 904 72 by omega, show Xi T2 904 72 = v5 by omega]; exact C55)) (by first | assumption | exact (by assumption : TXM T2)) (by first | assumption | exact (by assumption : ABV T2)) (by first | assumption | exact (by assumption : LXM T2)) (by first | assumption | exact (by assumption : LCN T2)) (by assumption) (by first | exact P55.up (by omega) (by omega) | exact P348) rfl) (And.intro rfl (And.intro rfl (And.intro rfl (And.intro rfl (And.intro rfl (True.intro))))))
    have C299 : ∀  (T3 : sS) (_ : HI T3) (_ : FR md_mo_doKinds S T3) (v1 : Int) (v2 : Int) (v3 : Int) (v5 : Int) (v7 : Int) (v10 : Int) (v13 : Int) (v15 : Int) (v17 : Int), (0 ≤ v1 ∧ v1 ≤ 16) → (0 ≤ v2 ∧ v2 ≤ 8) → (0 ≤ v3 ∧ v3 ≤ 1) → (0 ≤ v5 ∧ v5 ≤ 2599) → (1 ≤ v7 ∧ v7 ≤ 5010) → (0 ≤ v10 ∧ v10 ≤ 1) → (v1 = Xi S 904 16) → (v2 = Xi S 904 18) → (VKY S v3) → (Xi T3 904 69 = Xi S 904 69) → (Xi T3 904 71 = Xi S 904 71) → (Xi T3 904 72 = Xi S 904 72) → (TXM T3) → (ABV T3) → (LXM T3) → (LCN T3) → (GR T3 S) → (v5 < Xi S 904 72) → (PLB T3 (v1 + v5) (v2 + v5)) → (KCT S T3 v3 (Xi S 904 72)) → (1 ≤ v7 ∧ v7 ≤ 3) → ((2601 - v5).toNat ≤ n124) → Rl lay0 (d + 4) m_mo_doKinds 299 [(0, .ref 904), (1, iv v1), (2, iv v2), (3, iv v3), (5, iv v5), (7, iv v7), (10, iv v10), (13, jw v13), (15, jw v15), (17, jw v17)] [] T3 (Q_mo_doKinds S n) := by
      intro T3 hHT3 hFT3 v1 v2 v3 v5 v7 v10 v13 v15 v17 w48 w49 w50 w51 w52 w53 w54 w55 Y299 w56 w57 w58 X299 B299 M299 L299 G299 w59 P299 C299 w60 w61
      have w62 : Xi T3 904 69 = Xi S 904 69 := hFT3.x _ _ rfl
      have w63 : Xi T3 904 71 = Xi S 904 71 := hFT3.x _ _ rfl
      have w64 : Xi T3 904 72 = Xi S 904 72 := hFT3.x _ _ rfl
      have w65 : Xi T3 904 78 = Xi S 904 78 := hFT3.x _ _ rfl
      have w66 : 0 ≤ Xi T3 904 69 ∧ Xi T3 904 69 ≤ 2600 := hHT3.c _ _
      have w67 : 0 ≤ Xi T3 904 71 ∧ Xi T3 904 71 ≤ 2600 := hHT3.c _ _
      have w68 : 0 ≤ Xi T3 904 72 ∧ Xi T3 904 72 ≤ 2600 := hHT3.c _ _
      refine l_aload_n rfl rfl ?_
      refine l_iload_n rfl rfl ?_
      refine l_if_eq rfl rfl (by unfold rg; omega) (fun w69 => ?_) (fun w70 => ?_)
      · refine l_iconst rfl ?_
        have k308 : Xi T3 904 16 = Xi S 904 16 + Xi S 904 72 ∧ Xi T3 904 18 = Xi S 904 18 := C299.1 (by omega)
        have m308 : Xi S 904 16 + Xi S 904 72 ≤ 16 := hZ.2.1 (Y299.2 (by omega))
        refine l_iload_n rfl rfl ?_
        refine l_if_eq rfl rfl (by unfold rg; omega) (fun w71 => ?_) (fun w72 => ?_)
        · refine l_iload_n rfl rfl ?_
          refine l_iload rfl rfl ?_
          refine l_iadd rfl ?_
          refine l_lload rfl rfl ?_
          refine l_lload rfl rfl ?_
          refine l_lload rfl rfl ?_
          refine l_iload rfl rfl ?_
          have w73 : 0 ≤ Xi T3 904 15 ∧ Xi T3 904 15 ≤ 300 := hHT3.c _ _
          have w74 : 0 ≤ Xi T3 904 16 ∧ Xi T3 904 16 ≤ 16 := hHT3.c _ _
          have w75 : 0 ≤ Xi T3 904 18 ∧ Xi T3 904 18 ≤ 8 := hHT3.c _ _
          refine l_callV rfl rfl rfl (t_mo_tell hHT3 1 (v1 + v5) v13 v15 v17 v7 ⟨by omega, by omega⟩ ⟨by omega, by omega⟩ ⟨by omega, by omega⟩ (by have t := lcn_le hHT3 L299; omega) _) ?_
          rintro _ T4 ⟨hHT4, w81, rfl, w79, e332, k332⟩
          have hFT4 : FR md_mo_doKinds S T4 := FR.tr hFT3 w81 rfl
          show Rl _ _ _ _ _ [] _ _
          refine l_aload_n rfl rfl ?_
          refine l_gfr rfl rfl rfl rfl rfl (hHT4.r 904 14 916 rfl) ?_
          refine l_aload_n rfl rfl ?_
          refine l_gfi rfl rfl rfl rfl rfl ?_
          have w82 : 0 ≤ (Xi T4 904 15) ∧ (Xi T4 904 15) ≤ 300 := hHT4.c _ _
          refine l_iconst rfl ?_
          refine l_isub rfl ?_
          refine l_iload rfl rfl ?_
          refine l_bastoreZ1 (n := 300) rfl rfl (by omega) (by omega) (by unfold rg; omega) ⟨by omega, by omega⟩ ?_
          obtain ⟨U5, eU5⟩ : ∃ T : sS, T = uI T4 916 ((((Xi T4 904 15) - 1)).toNat) (Int32.ofInt v10) := ⟨_, rfl⟩
          rw [← eU5]
          have hHU5 : HI U5 := by rw [eU5]; exact HI_w hHT4 (show 0 ≤ v10 by omega) (show v10 ≤ 1 by omega)
          have hFU5 : FR md_mo_doKinds S U5 := by rw [eU5]; exact FR.wI hFT4 (mdf_i (r := (916, 917, 0, 100000)) (List.mem_of_getElem? (i := 7) rfl) (inR_i (by omega) (by omega) (by omega) (by omega)))
          have w83 : Xi U5 916 ((((Xi T4 904 15) - 1)).toNat) = v10 := by rw [eU5]; exact Xi_same (by unfold rg; omega)
          have f347 : Xi U5 904 15 = Xi T4 904 15 ∧ Xi U5 904 16 = Xi T4 904 16 ∧ Xi U5 904 18 = Xi T4 904 18 := ⟨by rw [eU5, Xi_ne (by omega)], by rw [eU5, Xi_ne (by omega)], by rw [eU5, Xi_ne (by omega)]⟩
          have h347 : Xi T4 904 16 = Xi T3 904 16 ∧ Xi T4 904 18 = Xi T3 904 18 := ⟨(by assumption : FR md_mo_tell T3 T4).x 904 16 rfl, (by assumption : FR md_mo_tell T3 T4).x 904 18 rfl⟩
          have x347 : LXK U5 T3 (Xi T3 904 15) := k332.wl eU5 (by omega)
          have d347 : Xi U5 914 (Xi T3 904 15).toNat = Xi T4 914 (Xi T3 904 15).toNat ∧ Xi U5 915 (Xi T3 904 15).toNat = Xi T4 915 (Xi T3 904 15).toNat := ⟨by rw [eU5, Xi_ne (by omega)], by rw [eU5, Xi_ne (by omega)]⟩
          have g347 : GR U5 T3 := GR_FR (FR_e eU5) rfl (GR_FR (by assumption : FR md_mo_tell T3 T4) rfl GR.rf)
          have G347 : GR U5 S := G299.tr g347
          have c347 : 0 ≤ Xi T3 904 15 := (hHT3.c 904 15).1
          have n347 : Xi U5 904 15 = Xi T3 904 15 + 1 := by omega
          have z347_19 : Xi U5 904 19 = Xi T3 904 19 := (hFU5.x 904 19 rfl).trans (hFT3.x 904 19 rfl).symm
          have z347_23 : Xi U5 904 23 = Xi T3 904 23 := (hFU5.x 904 23 rfl).trans (hFT3.x 904 23 rfl).symm
          have z347_30 : Xi U5 904 30 = Xi T3 904 30 := (hFU5.x 904 30 rfl).trans (hFT3.x 904 30 rfl).symm
          have z347_32 : Xi U5 904 32 = Xi T3 904 32 := (hFU5.x 904 32 rfl).trans (hFT3.x 904 32 rfl).symm
          have z347_41 : Xi U5 904 41 = Xi T3 904 41 := (hFU5.x 904 41 rfl).trans (hFT3.x 904 41 rfl).symm
          have z347_47 : Xi U5 904 47 = Xi T3 904 47 := (hFU5.x 904 47 rfl).trans (hFT3.x 904 47 rfl).symm
          have z347_49 : Xi U5 904 49 = Xi T3 904 49 := (hFU5.x 904 49 rfl).trans (hFT3.x 904 49 rfl).symm
          have u347 : Xi U5 904 16 = Xi T3 904 16 ∧ Xi U5 904 18 = Xi T3 904 18 := ⟨by omega, by omega⟩
          have M347 : LXM U5 := lxm_gr M299 x347 g347 (by omega) (Or.inr ⟨by omega, by rw [d347.1, d347.2, e332.1, e332.2]; first | (rw [cM3]; omega) | (rw [cM1]; omega)⟩)
          have N347 : lxH U5 _ _ := ⟨(Xi T3 904 15).toNat, by omega, d347.1.trans e332.1, d347.2.trans e332.2⟩
          have L347 : LCN U5 := lcn_p L299 (pls_one x347 (by omega) (by omega) (by omega) (by first | exact Or.inl ⟨rfl, by omega⟩ | exact Or.inr ⟨rfl, by omega⟩ | (exfalso; omega)) (by omega) (plb_no P299 (by first | exact Or.inl ⟨rfl, by omega⟩ | exact Or.inr ⟨rfl, by omega⟩ | (exfalso; omega))) N347) (by omega) (by omega) (by omega) (by omega) (by omega) (by omega) (by omega) (by omega) (by omega) (by omega) 
          have C347 : KCT S U5 v3 (Xi S 904 72) := ⟨fun _ => ⟨by omega, by omega⟩, fun _ => ⟨by omega, by omega⟩⟩
          have P347 : PLB U5 (v1 + v5 + 1) (v2 + v5 + 1) := plb_add (P299.up (by omega) (by omega)) x347 (by omega) (by omega) (fun _ => by rw [d347.2, e332.2]; omega) (fun _ => by rw [d347.2, e332.2]; omega)
          have w84 : Xi U5 904 15 = Xi T4 904 15 := (show Xi U5 904 15 = Xi T4 904 15 from by rw [eU5]; exact Xi_ne (by omega))
          have w85 : 0 ≤ Xi T4 904 15 ∧ Xi T4 904 15 ≤ 300 := hHT4.c _ _
          have w86 : Xi U5 904 16 = Xi T3 904 16 := (show Xi U5 904 16 = Xi T4 904 16 from by rw [eU5]; exact Xi_ne (by omega)).trans ((show Xi T4 904 16 = Xi T3 904 16 from w81.x _ _ rfl))
          have w88 : Xi U5 904 18 = Xi T3 904 18 := (show Xi U5 904 18 = Xi T4 904 18 from by rw [eU5]; exact Xi_ne (by omega)).trans ((show Xi T4 904 18 = Xi T3 904 18 from w81.x _ _ rfl))
          have w90 : Xi U5 904 69 = Xi T3 904 69 := (show Xi U5 904 69 = Xi T4 904 69 from by rw [eU5]; exact Xi_ne (by omega)).trans ((show Xi T4 904 69 = Xi T3 904 69 from w81.x _ _ rfl))
          have w92 : Xi U5 904 71 = Xi T3 904 71 := (show Xi U5 904 71 = Xi T4 904 71 from by rw [eU5]; exact Xi_ne (by omega)).trans ((show Xi T4 904 71 = Xi T3 904 71 from w81.x _ _ rfl))
          have w94 : Xi U5 904 72 = Xi T3 904 72 := (show Xi U5 904 72 = Xi T4 904 72 from by rw [eU5]; exact Xi_ne (by omega)).trans ((show Xi T4 904 72 = Xi T3 904 72 from w81.x _ _ rfl))
          exact Rl_weak (C348 U5 hHU5 hFU5 (v1) (v2) (v3) (v5) (by omega) (by omega) (by omega) (by omega) (by omega) (by omega) (by assumption) (by omega) (by omega) (by omega) (by omega) (by assumption) (by first | assumption | exact (TXM_FR (FR_e eU5) rfl (TXM_FR w81 rfl (by assumption : TXM T3)))) (by first | assumption | exact (ABV_FR (FR_e eU5) rfl (ABV_FR w81 rfl (by assumption : ABV T3)))) (by first | assumption | exact (LXM_FR (FR_e eU5) rfl (by assumption : LXM T4))) (by first | assumption | exact (by assumption : LCN U5)) (by assumption) (by first | exact P347.up (by omega) (by omega) | exact P278.up (by omega) (by omega)) (by omega)) (And.intro rfl (And.intro rfl (And.intro rfl (And.intro rfl (And.intro rfl (True.intro))))))
        · refine l_iload_n rfl rfl ?_
          refine l_iload rfl rfl ?_
          refine l_iadd rfl ?_
          refine l_goto rfl rfl ?_
          refine l_lload rfl rfl ?_
          refine l_lload rfl rfl ?_
          refine l_lload rfl rfl ?_
          refine l_iload rfl rfl ?_
          have w96 : 0 ≤ Xi T3 904 15 ∧ Xi T3 904 15 ≤ 300 := hHT3.c _ _
          have w97 : 0 ≤ Xi T3 904 16 ∧ Xi T3 904 16 ≤ 16 := hHT3.c _ _
          have w98 : 0 ≤ Xi T3 904 18 ∧ Xi T3 904 18 ≤ 8 := hHT3.c _ _
          refine l_callV rfl rfl rfl (t_mo_tell hHT3 1 (v2 + v5) v13 v15 v17 v7 ⟨by omega, by omega⟩ ⟨by omega, by omega⟩ ⟨by omega, by omega⟩ (by have t := lcn_le hHT3 L299; omega) _) ?_
          rintro _ T6 ⟨hHT6, w104, rfl, w102, e332, k332⟩
          have hFT6 : FR md_mo_doKinds S T6 := FR.tr hFT3 w104 rfl
          show Rl _ _ _ _ _ [] _ _
          refine l_aload_n rfl rfl ?_
          refine l_gfr rfl rfl rfl rfl rfl (hHT6.r 904 14 916 rfl) ?_
          refine l_aload_n rfl rfl ?_
          refine l_gfi rfl rfl rfl rfl rfl ?_
          have w105 : 0 ≤ (Xi T6 904 15) ∧ (Xi T6 904 15) ≤ 300 := hHT6.c _ _
          refine l_iconst rfl ?_
          refine l_isub rfl ?_
          refine l_iload rfl rfl ?_
          refine l_bastoreZ1 (n := 300) rfl rfl (by omega) (by omega) (by unfold rg; omega) ⟨by omega, by omega⟩ ?_
          obtain ⟨U7, eU7⟩ : ∃ T : sS, T = uI T6 916 ((((Xi T6 904 15) - 1)).toNat) (Int32.ofInt v10) := ⟨_, rfl⟩
          rw [← eU7]
          have hHU7 : HI U7 := by rw [eU7]; exact HI_w hHT6 (show 0 ≤ v10 by omega) (show v10 ≤ 1 by omega)
          have hFU7 : FR md_mo_doKinds S U7 := by rw [eU7]; exact FR.wI hFT6 (mdf_i (r := (916, 917, 0, 100000)) (List.mem_of_getElem? (i := 7) rfl) (inR_i (by omega) (by omega) (by omega) (by omega)))
          have w106 : Xi U7 916 ((((Xi T6 904 15) - 1)).toNat) = v10 := by rw [eU7]; exact Xi_same (by unfold rg; omega)
          have f347 : Xi U7 904 15 = Xi T6 904 15 ∧ Xi U7 904 16 = Xi T6 904 16 ∧ Xi U7 904 18 = Xi T6 904 18 := ⟨by rw [eU7, Xi_ne (by omega)], by rw [eU7, Xi_ne (by omega)], by rw [eU7, Xi_ne (by omega)]⟩
          have h347 : Xi T6 904 16 = Xi T3 904 16 ∧ Xi T6 904 18 = Xi T3 904 18 := ⟨(by assumption : FR md_mo_tell T3 T6).x 904 16 rfl, (by assumption : FR md_mo_tell T3 T6).x 904 18 rfl⟩
          have x347 : LXK U7 T3 (Xi T3 904 15) := k332.wl eU7 (by omega)
          have d347 : Xi U7 914 (Xi T3 904 15).toNat = Xi T6 914 (Xi T3 904 15).toNat ∧ Xi U7 915 (Xi T3 904 15).toNat = Xi T6 915 (Xi T3 904 15).toNat := ⟨by rw [eU7, Xi_ne (by omega)], by rw [eU7, Xi_ne (by omega)]⟩
          have g347 : GR U7 T3 := GR_FR (FR_e eU7) rfl (GR_FR (by assumption : FR md_mo_tell T3 T6) rfl GR.rf)
          have G347 : GR U7 S := G299.tr g347
          have c347 : 0 ≤ Xi T3 904 15 := (hHT3.c 904 15).1
          have n347 : Xi U7 904 15 = Xi T3 904 15 + 1 := by omega
          have z347_19 : Xi U7 904 19 = Xi T3 904 19 := (hFU7.x 904 19 rfl).trans (hFT3.x 904 19 rfl).symm
          have z347_23 : Xi U7 904 23 = Xi T3 904 23 := (hFU7.x 904 23 rfl).trans (hFT3.x 904 23 rfl).symm
          have z347_30 : Xi U7 904 30 = Xi T3 904 30 := (hFU7.x 904 30 rfl).trans (hFT3.x 904 30 rfl).symm
          have z347_32 : Xi U7 904 32 = Xi T3 904 32 := (hFU7.x 904 32 rfl).trans (hFT3.x 904 32 rfl).symm
          have z347_41 : Xi U7 904 41 = Xi T3 904 41 := (hFU7.x 904 41 rfl).trans (hFT3.x 904 41 rfl).symm
          have z347_47 : Xi U7 904 47 = Xi T3 904 47 := (hFU7.x 904 47 rfl).trans (hFT3.x 904 47 rfl).symm
          have z347_49 : Xi U7 904 49 = Xi T3 904 49 := (hFU7.x 904 49 rfl).trans (hFT3.x 904 49 rfl).symm
          have u347 : Xi U7 904 16 = Xi T3 904 16 ∧ Xi U7 904 18 = Xi T3 904 18 := ⟨by omega, by omega⟩
          have M347 : LXM U7 := lxm_gr M299 x347 g347 (by omega) (Or.inr ⟨by omega, by rw [d347.1, d347.2, e332.1, e332.2]; first | (rw [cM3]; omega) | (rw [cM1]; omega)⟩)
          have N347 : lxH U7 _ _ := ⟨(Xi T3 904 15).toNat, by omega, d347.1.trans e332.1, d347.2.trans e332.2⟩
          have L347 : LCN U7 := lcn_p L299 (pls_one x347 (by omega) (by omega) (by omega) (by first | exact Or.inl ⟨rfl, by omega⟩ | exact Or.inr ⟨rfl, by omega⟩ | (exfalso; omega)) (by omega) (plb_no P299 (by first | exact Or.inl ⟨rfl, by omega⟩ | exact Or.inr ⟨rfl, by omega⟩ | (exfalso; omega))) N347) (by omega) (by omega) (by omega) (by omega) (by omega) (by omega) (by omega) (by omega) (by omega) (by omega) 
          have C347 : KCT S U7 v3 (Xi S 904 72) := ⟨fun _ => ⟨by omega, by omega⟩, fun _ => ⟨by omega, by omega⟩⟩
          have P347 : PLB U7 (v1 + v5 + 1) (v2 + v5 + 1) := plb_add (P299.up (by omega) (by omega)) x347 (by omega) (by omega) (fun _ => by rw [d347.2, e332.2]; omega) (fun _ => by rw [d347.2, e332.2]; omega)
          have w107 : Xi U7 904 15 = Xi T6 904 15 := (show Xi U7 904 15 = Xi T6 904 15 from by rw [eU7]; exact Xi_ne (by omega))
          have w108 : 0 ≤ Xi T6 904 15 ∧ Xi T6 904 15 ≤ 300 := hHT6.c _ _
          have w109 : Xi U7 904 16 = Xi T3 904 16 := (show Xi U7 904 16 = Xi T6 904 16 from by rw [eU7]; exact Xi_ne (by omega)).trans ((show Xi T6 904 16 = Xi T3 904 16 from w104.x _ _ rfl))
          have w111 : Xi U7 904 18 = Xi T3 904 18 := (show Xi U7 904 18 = Xi T6 904 18 from by rw [eU7]; exact Xi_ne (by omega)).trans ((show Xi T6 904 18 = Xi T3 904 18 from w104.x _ _ rfl))
          have w113 : Xi U7 904 69 = Xi T3 904 69 := (show Xi U7 904 69 = Xi T6 904 69 from by rw [eU7]; exact Xi_ne (by omega)).trans ((show Xi T6 904 69 = Xi T3 904 69 from w104.x _ _ rfl))
          have w115 : Xi U7 904 71 = Xi T3 904 71 := (show Xi U7 904 71 = Xi T6 904 71 from by rw [eU7]; exact Xi_ne (by omega)).trans ((show Xi T6 904 71 = Xi T3 904 71 from w104.x _ _ rfl))
          have w117 : Xi U7 904 72 = Xi T3 904 72 := (show Xi U7 904 72 = Xi T6 904 72 from by rw [eU7]; exact Xi_ne (by omega)).trans ((show Xi T6 904 72 = Xi T3 904 72 from w104.x _ _ rfl))
          exact Rl_weak (C348 U7 hHU7 hFU7 (v1) (v2) (v3) (v5) (by omega) (by omega) (by omega) (by omega) (by omega) (by omega) (by assumption) (by omega) (by omega) (by omega) (by omega) (by assumption) (by first | assumption | exact (TXM_FR (FR_e eU7) rfl (TXM_FR w104 rfl (by assumption : TXM T3)))) (by first | assumption | exact (ABV_FR (FR_e eU7) rfl (ABV_FR w104 rfl (by assumption : ABV T3)))) (by first | assumption | exact (LXM_FR (FR_e eU7) rfl (by assumption : LXM T6))) (by first | assumption | exact (by assumption : LCN U7)) (by assumption) (by first | exact P347.up (by omega) (by omega) | exact P278.up (by omega) (by omega)) (by omega)) (And.intro rfl (And.intro rfl (And.intro rfl (And.intro rfl (And.intro rfl (True.intro))))))
      · refine l_iconst rfl ?_
        have k304 : Xi T3 904 18 = Xi S 904 18 + Xi S 904 72 ∧ Xi T3 904 16 = Xi S 904 16 := C299.2 (by omega)
        have m304 : Xi S 904 18 + Xi S 904 72 ≤ 8 := hZ.1 (Y299.1 (by omega))
        refine l_goto rfl rfl ?_
        refine l_iload_n rfl rfl ?_
        refine l_if_eq rfl rfl (by unfold rg; omega) (fun w119 => ?_) (fun w120 => ?_)
        · refine l_iload_n rfl rfl ?_
          refine l_iload rfl rfl ?_
          refine l_iadd rfl ?_
          refine l_lload rfl rfl ?_
          refine l_lload rfl rfl ?_
          refine l_lload rfl rfl ?_
          refine l_iload rfl rfl ?_
          have w121 : 0 ≤ Xi T3 904 15 ∧ Xi T3 904 15 ≤ 300 := hHT3.c _ _
          have w122 : 0 ≤ Xi T3 904 16 ∧ Xi T3 904 16 ≤ 16 := hHT3.c _ _
          have w123 : 0 ≤ Xi T3 904 18 ∧ Xi T3 904 18 ≤ 8 := hHT3.c _ _
          refine l_callV rfl rfl rfl (t_mo_tell hHT3 3 (v1 + v5) v13 v15 v17 v7 ⟨by omega, by omega⟩ ⟨by omega, by omega⟩ ⟨by omega, by omega⟩ (by have t := lcn_le hHT3 L299; omega) _) ?_
          rintro _ T8 ⟨hHT8, w129, rfl, w127, e332, k332⟩
          have hFT8 : FR md_mo_doKinds S T8 := FR.tr hFT3 w129 rfl
          show Rl _ _ _ _ _ [] _ _
          refine l_aload_n rfl rfl ?_
          refine l_gfr rfl rfl rfl rfl rfl (hHT8.r 904 14 916 rfl) ?_
          refine l_aload_n rfl rfl ?_
          refine l_gfi rfl rfl rfl rfl rfl ?_
          have w130 : 0 ≤ (Xi T8 904 15) ∧ (Xi T8 904 15) ≤ 300 := hHT8.c _ _
          refine l_iconst rfl ?_
          refine l_isub rfl ?_
          refine l_iload rfl rfl ?_
          refine l_bastoreZ1 (n := 300) rfl rfl (by omega) (by omega) (by unfold rg; omega) ⟨by omega, by omega⟩ ?_
          obtain ⟨U9, eU9⟩ : ∃ T : sS, T = uI T8 916 ((((Xi T8 904 15) - 1)).toNat) (Int32.ofInt v10) := ⟨_, rfl⟩
          rw [← eU9]
          have hHU9 : HI U9 := by rw [eU9]; exact HI_w hHT8 (show 0 ≤ v10 by omega) (show v10 ≤ 1 by omega)
          have hFU9 : FR md_mo_doKinds S U9 := by rw [eU9]; exact FR.wI hFT8 (mdf_i (r := (916, 917, 0, 100000)) (List.mem_of_getElem? (i := 7) rfl) (inR_i (by omega) (by omega) (by omega) (by omega)))
          have w131 : Xi U9 916 ((((Xi T8 904 15) - 1)).toNat) = v10 := by rw [eU9]; exact Xi_same (by unfold rg; omega)
          have f347 : Xi U9 904 15 = Xi T8 904 15 ∧ Xi U9 904 16 = Xi T8 904 16 ∧ Xi U9 904 18 = Xi T8 904 18 := ⟨by rw [eU9, Xi_ne (by omega)], by rw [eU9, Xi_ne (by omega)], by rw [eU9, Xi_ne (by omega)]⟩
          have h347 : Xi T8 904 16 = Xi T3 904 16 ∧ Xi T8 904 18 = Xi T3 904 18 := ⟨(by assumption : FR md_mo_tell T3 T8).x 904 16 rfl, (by assumption : FR md_mo_tell T3 T8).x 904 18 rfl⟩
          have x347 : LXK U9 T3 (Xi T3 904 15) := k332.wl eU9 (by omega)
          have d347 : Xi U9 914 (Xi T3 904 15).toNat = Xi T8 914 (Xi T3 904 15).toNat ∧ Xi U9 915 (Xi T3 904 15).toNat = Xi T8 915 (Xi T3 904 15).toNat := ⟨by rw [eU9, Xi_ne (by omega)], by rw [eU9, Xi_ne (by omega)]⟩
          have g347 : GR U9 T3 := GR_FR (FR_e eU9) rfl (GR_FR (by assumption : FR md_mo_tell T3 T8) rfl GR.rf)
          have G347 : GR U9 S := G299.tr g347
          have c347 : 0 ≤ Xi T3 904 15 := (hHT3.c 904 15).1
          have n347 : Xi U9 904 15 = Xi T3 904 15 + 1 := by omega
          have z347_19 : Xi U9 904 19 = Xi T3 904 19 := (hFU9.x 904 19 rfl).trans (hFT3.x 904 19 rfl).symm
          have z347_23 : Xi U9 904 23 = Xi T3 904 23 := (hFU9.x 904 23 rfl).trans (hFT3.x 904 23 rfl).symm
          have z347_30 : Xi U9 904 30 = Xi T3 904 30 := (hFU9.x 904 30 rfl).trans (hFT3.x 904 30 rfl).symm
          have z347_32 : Xi U9 904 32 = Xi T3 904 32 := (hFU9.x 904 32 rfl).trans (hFT3.x 904 32 rfl).symm
          have z347_41 : Xi U9 904 41 = Xi T3 904 41 := (hFU9.x 904 41 rfl).trans (hFT3.x 904 41 rfl).symm
          have z347_47 : Xi U9 904 47 = Xi T3 904 47 := (hFU9.x 904 47 rfl).trans (hFT3.x 904 47 rfl).symm
          have z347_49 : Xi U9 904 49 = Xi T3 904 49 := (hFU9.x 904 49 rfl).trans (hFT3.x 904 49 rfl).symm
          have u347 : Xi U9 904 16 = Xi T3 904 16 ∧ Xi U9 904 18 = Xi T3 904 18 := ⟨by omega, by omega⟩
          have M347 : LXM U9 := lxm_gr M299 x347 g347 (by omega) (Or.inr ⟨by omega, by rw [d347.1, d347.2, e332.1, e332.2]; first | (rw [cM3]; omega) | (rw [cM1]; omega)⟩)
          have N347 : lxH U9 _ _ := ⟨(Xi T3 904 15).toNat, by omega, d347.1.trans e332.1, d347.2.trans e332.2⟩
          have L347 : LCN U9 := lcn_p L299 (pls_one x347 (by omega) (by omega) (by omega) (by first | exact Or.inl ⟨rfl, by omega⟩ | exact Or.inr ⟨rfl, by omega⟩ | (exfalso; omega)) (by omega) (plb_no P299 (by first | exact Or.inl ⟨rfl, by omega⟩ | exact Or.inr ⟨rfl, by omega⟩ | (exfalso; omega))) N347) (by omega) (by omega) (by omega) (by omega) (by omega) (by omega) (by omega) (by omega) (by omega) (by omega) 
          have C347 : KCT S U9 v3 (Xi S 904 72) := ⟨fun _ => ⟨by omega, by omega⟩, fun _ => ⟨by omega, by omega⟩⟩
          have P347 : PLB U9 (v1 + v5 + 1) (v2 + v5 + 1) := plb_add (P299.up (by omega) (by omega)) x347 (by omega) (by omega) (fun _ => by rw [d347.2, e332.2]; omega) (fun _ => by rw [d347.2, e332.2]; omega)
          have w132 : Xi U9 904 15 = Xi T8 904 15 := (show Xi U9 904 15 = Xi T8 904 15 from by rw [eU9]; exact Xi_ne (by omega))
          have w133 : 0 ≤ Xi T8 904 15 ∧ Xi T8 904 15 ≤ 300 := hHT8.c _ _
          have w134 : Xi U9 904 16 = Xi T3 904 16 := (show Xi U9 904 16 = Xi T8 904 16 from by rw [eU9]; exact Xi_ne (by omega)).trans ((show Xi T8 904 16 = Xi T3 904 16 from w129.x _ _ rfl))
          have w136 : Xi U9 904 18 = Xi T3 904 18 := (show Xi U9 904 18 = Xi T8 904 18 from by rw [eU9]; exact Xi_ne (by omega)).trans ((show Xi T8 904 18 = Xi T3 904 18 from w129.x _ _ rfl))
          have w138 : Xi U9 904 69 = Xi T3 904 69 := (show Xi U9 904 69 = Xi T8 904 69 from by rw [eU9]; exact Xi_ne (by omega)).trans ((show Xi T8 904 69 = Xi T3 904 69 from w129.x _ _ rfl))
          have w140 : Xi U9 904 71 = Xi T3 904 71 := (show Xi U9 904 71 = Xi T8 904 71 from by rw [eU9]; exact Xi_ne (by omega)).trans ((show Xi T8 904 71 = Xi T3 904 71 from w129.x _ _ rfl))
          have w142 : Xi U9 904 72 = Xi T3 904 72 := (show Xi U9 904 72 = Xi T8 904 72 from by rw [eU9]; exact Xi_ne (by omega)).trans ((show Xi T8 904 72 = Xi T3 904 72 from w129.x _ _ rfl))
          exact Rl_weak (C348 U9 hHU9 hFU9 (v1) (v2) (v3) (v5) (by omega) (by omega) (by omega) (by omega) (by omega) (by omega) (by assumption) (by omega) (by omega) (by omega) (by omega) (by assumption) (by first | assumption | exact (TXM_FR (FR_e eU9) rfl (TXM_FR w129 rfl (by assumption : TXM T3)))) (by first | assumption | exact (ABV_FR (FR_e eU9) rfl (ABV_FR w129 rfl (by assumption : ABV T3)))) (by first | assumption | exact (LXM_FR (FR_e eU9) rfl (by assumption : LXM T8))) (by first | assumption | exact (by assumption : LCN U9)) (by assumption) (by first | exact P347.up (by omega) (by omega) | exact P278.up (by omega) (by omega)) (by omega)) (And.intro rfl (And.intro rfl (And.intro rfl (And.intro rfl (And.intro rfl (True.intro))))))
        · refine l_iload_n rfl rfl ?_
          refine l_iload rfl rfl ?_
          refine l_iadd rfl ?_
          refine l_goto rfl rfl ?_
          refine l_lload rfl rfl ?_
          refine l_lload rfl rfl ?_
          refine l_lload rfl rfl ?_
          refine l_iload rfl rfl ?_
          have w144 : 0 ≤ Xi T3 904 15 ∧ Xi T3 904 15 ≤ 300 := hHT3.c _ _
          have w145 : 0 ≤ Xi T3 904 16 ∧ Xi T3 904 16 ≤ 16 := hHT3.c _ _
          have w146 : 0 ≤ Xi T3 904 18 ∧ Xi T3 904 18 ≤ 8 := hHT3.c _ _
          refine l_callV rfl rfl rfl (t_mo_tell hHT3 3 (v2 + v5) v13 v15 v17 v7 ⟨by omega, by omega⟩ ⟨by omega, by omega⟩ ⟨by omega, by omega⟩ (by have t := lcn_le hHT3 L299; omega) _) ?_
          rintro _ T10 ⟨hHT10, w152, rfl, w150, e332, k332⟩
          have hFT10 : FR md_mo_doKinds S T10 := FR.tr hFT3 w152 rfl
          show Rl _ _ _ _ _ [] _ _
          refine l_aload_n rfl rfl ?_
          refine l_gfr rfl rfl rfl rfl rfl (hHT10.r 904 14 916 rfl) ?_
          refine l_aload_n rfl rfl ?_
          refine l_gfi rfl rfl rfl rfl rfl ?_
          have w153 : 0 ≤ (Xi T10 904 15) ∧ (Xi T10 904 15) ≤ 300 := hHT10.c _ _
          refine l_iconst rfl ?_
          refine l_isub rfl ?_
          refine l_iload rfl rfl ?_
          refine l_bastoreZ1 (n := 300) rfl rfl (by omega) (by omega) (by unfold rg; omega) ⟨by omega, by omega⟩ ?_
          obtain ⟨U11, eU11⟩ : ∃ T : sS, T = uI T10 916 ((((Xi T10 904 15) - 1)).toNat) (Int32.ofInt v10) := ⟨_, rfl⟩
          rw [← eU11]
          have hHU11 : HI U11 := by rw [eU11]; exact HI_w hHT10 (show 0 ≤ v10 by omega) (show v10 ≤ 1 by omega)
          have hFU11 : FR md_mo_doKinds S U11 := by rw [eU11]; exact FR.wI hFT10 (mdf_i (r := (916, 917, 0, 100000)) (List.mem_of_getElem? (i := 7) rfl) (inR_i (by omega) (by omega) (by omega) (by omega)))
          have w154 : Xi U11 916 ((((Xi T10 904 15) - 1)).toNat) = v10 := by rw [eU11]; exact Xi_same (by unfold rg; omega)
          have f347 : Xi U11 904 15 = Xi T10 904 15 ∧ Xi U11 904 16 = Xi T10 904 16 ∧ Xi U11 904 18 = Xi T10 904 18 := ⟨by rw [eU11, Xi_ne (by omega)], by rw [eU11, Xi_ne (by omega)], by rw [eU11, Xi_ne (by omega)]⟩
          have h347 : Xi T10 904 16 = Xi T3 904 16 ∧ Xi T10 904 18 = Xi T3 904 18 := ⟨(by assumption : FR md_mo_tell T3 T10).x 904 16 rfl, (by assumption : FR md_mo_tell T3 T10).x 904 18 rfl⟩
          have x347 : LXK U11 T3 (Xi T3 904 15) := k332.wl eU11 (by omega)
          have d347 : Xi U11 914 (Xi T3 904 15).toNat = Xi T10 914 (Xi T3 904 15).toNat ∧ Xi U11 915 (Xi T3 904 15).toNat = Xi T10 915 (Xi T3 904 15).toNat := ⟨by rw [eU11, Xi_ne (by omega)], by rw [eU11, Xi_ne (by omega)]⟩
          have g347 : GR U11 T3 := GR_FR (FR_e eU11) rfl (GR_FR (by assumption : FR md_mo_tell T3 T10) rfl GR.rf)
          have G347 : GR U11 S := G299.tr g347
          have c347 : 0 ≤ Xi T3 904 15 := (hHT3.c 904 15).1
          have n347 : Xi U11 904 15 = Xi T3 904 15 + 1 := by omega
          have z347_19 : Xi U11 904 19 = Xi T3 904 19 := (hFU11.x 904 19 rfl).trans (hFT3.x 904 19 rfl).symm
          have z347_23 : Xi U11 904 23 = Xi T3 904 23 := (hFU11.x 904 23 rfl).trans (hFT3.x 904 23 rfl).symm
          have z347_30 : Xi U11 904 30 = Xi T3 904 30 := (hFU11.x 904 30 rfl).trans (hFT3.x 904 30 rfl).symm
          have z347_32 : Xi U11 904 32 = Xi T3 904 32 := (hFU11.x 904 32 rfl).trans (hFT3.x 904 32 rfl).symm
          have z347_41 : Xi U11 904 41 = Xi T3 904 41 := (hFU11.x 904 41 rfl).trans (hFT3.x 904 41 rfl).symm
          have z347_47 : Xi U11 904 47 = Xi T3 904 47 := (hFU11.x 904 47 rfl).trans (hFT3.x 904 47 rfl).symm
          have z347_49 : Xi U11 904 49 = Xi T3 904 49 := (hFU11.x 904 49 rfl).trans (hFT3.x 904 49 rfl).symm
          have u347 : Xi U11 904 16 = Xi T3 904 16 ∧ Xi U11 904 18 = Xi T3 904 18 := ⟨by omega, by omega⟩
          have M347 : LXM U11 := lxm_gr M299 x347 g347 (by omega) (Or.inr ⟨by omega, by rw [d347.1, d347.2, e332.1, e332.2]; first | (rw [cM3]; omega) | (rw [cM1]; omega)⟩)
          have N347 : lxH U11 _ _ := ⟨(Xi T3 904 15).toNat, by omega, d347.1.trans e332.1, d347.2.trans e332.2⟩
          have L347 : LCN U11 := lcn_p L299 (pls_one x347 (by omega) (by omega) (by omega) (by first | exact Or.inl ⟨rfl, by omega⟩ | exact Or.inr ⟨rfl, by omega⟩ | (exfalso; omega)) (by omega) (plb_no P299 (by first | exact Or.inl ⟨rfl, by omega⟩ | exact Or.inr ⟨rfl, by omega⟩ | (exfalso; omega))) N347) (by omega) (by omega) (by omega) (by omega) (by omega) (by omega) (by omega) (by omega) (by omega) (by omega) 
          have C347 : KCT S U11 v3 (Xi S 904 72) := ⟨fun _ => ⟨by omega, by omega⟩, fun _ => ⟨by omega, by omega⟩⟩
          have P347 : PLB U11 (v1 + v5 + 1) (v2 + v5 + 1) := plb_add (P299.up (by omega) (by omega)) x347 (by omega) (by omega) (fun _ => by rw [d347.2, e332.2]; omega) (fun _ => by rw [d347.2, e332.2]; omega)
          have w155 : Xi U11 904 15 = Xi T10 904 15 := (show Xi U11 904 15 = Xi T10 904 15 from by rw [eU11]; exact Xi_ne (by omega))
          have w156 : 0 ≤ Xi T10 904 15 ∧ Xi T10 904 15 ≤ 300 := hHT10.c _ _
          have w157 : Xi U11 904 16 = Xi T3 904 16 := (show Xi U11 904 16 = Xi T10 904 16 from by rw [eU11]; exact Xi_ne (by omega)).trans ((show Xi T10 904 16 = Xi T3 904 16 from w152.x _ _ rfl))
          have w159 : Xi U11 904 18 = Xi T3 904 18 := (show Xi U11 904 18 = Xi T10 904 18 from by rw [eU11]; exact Xi_ne (by omega)).trans ((show Xi T10 904 18 = Xi T3 904 18 from w152.x _ _ rfl))
          have w161 : Xi U11 904 69 = Xi T3 904 69 := (show Xi U11 904 69 = Xi T10 904 69 from by rw [eU11]; exact Xi_ne (by omega)).trans ((show Xi T10 904 69 = Xi T3 904 69 from w152.x _ _ rfl))
          have w163 : Xi U11 904 71 = Xi T3 904 71 := (show Xi U11 904 71 = Xi T10 904 71 from by rw [eU11]; exact Xi_ne (by omega)).trans ((show Xi T10 904 71 = Xi T3 904 71 from w152.x _ _ rfl))
          have w165 : Xi U11 904 72 = Xi T3 904 72 := (show Xi U11 904 72 = Xi T10 904 72 from by rw [eU11]; exact Xi_ne (by omega)).trans ((show Xi T10 904 72 = Xi T3 904 72 from w152.x _ _ rfl))
          exact Rl_weak (C348 U11 hHU11 hFU11 (v1) (v2) (v3) (v5) (by omega) (by omega) (by omega) (by omega) (by omega) (by omega) (by assumption) (by omega) (by omega) (by omega) (by omega) (by assumption) (by first | assumption | exact (TXM_FR (FR_e eU11) rfl (TXM_FR w152 rfl (by assumption : TXM T3)))) (by first | assumption | exact (ABV_FR (FR_e eU11) rfl (ABV_FR w152 rfl (by assumption : ABV T3)))) (by first | assumption | exact (LXM_FR (FR_e eU11) rfl (by assumption : LXM T10))) (by first | assumption | exact (by assumption : LCN U11)) (by assumption) (by first | exact P347.up (by omega) (by omega) | exact P278.up (by omega) (by omega)) (by omega)) (And.intro rfl (And.intro rfl (And.intro rfl (And.intro rfl (And.intro rfl (True.intro))))))
    have C278 : ∀  (T12 : sS) (_ : HI T12) (_ : FR md_mo_doKinds S T12) (v1 : Int) (v2 : Int) (v3 : Int) (v5 : Int) (v7 : Int) (v10 : Int) (v13 : Int) (v15 : Int) (v17 : Int), (0 ≤ v1 ∧ v1 ≤ 16) → (0 ≤ v2 ∧ v2 ≤ 8) → (0 ≤ v3 ∧ v3 ≤ 1) → (0 ≤ v5 ∧ v5 ≤ 2599) → (1 ≤ v7 ∧ v7 ≤ 5010) → (0 ≤ v10 ∧ v10 ≤ 1) → (v1 = Xi S 904 16) → (v2 = Xi S 904 18) → (VKY S v3) → (Xi T12 904 69 = Xi S 904 69) → (Xi T12 904 71 = Xi S 904 71) → (Xi T12 904 72 = Xi S 904 72) → (TXM T12) → (ABV T12) → (LXM T12) → (LCN T12) → (GR T12 S) → (v5 < Xi S 904 72) → (PLB T12 (v1 + v5) (v2 + v5)) → (KCT S T12 v3 (Xi S 904 72)) → (1 ≤ v7 ∧ v7 ≤ 3) → ((2601 - v5).toNat ≤ n124) → Rl lay0 (d + 4) m_mo_doKinds 278 [(0, .ref 904), (1, iv v1), (2, iv v2), (3, iv v3), (5, iv v5), (7, iv v7), (10, iv v10), (13, jw v13), (15, jw v15), (17, jw v17)] [] T12 (Q_mo_doKinds S n) := by
      intro T12 hHT12 hFT12 v1 v2 v3 v5 v7 v10 v13 v15 v17 w167 w168 w169 w170 w171 w172 w173 w174 Y278 w175 w176 w177 X278 B278 M278 L278 G278 w178 P278 C278 w179 w180
      have w181 : Xi T12 904 69 = Xi S 904 69 := hFT12.x _ _ rfl
      have w182 : Xi T12 904 71 = Xi S 904 71 := hFT12.x _ _ rfl
      have w183 : Xi T12 904 72 = Xi S 904 72 := hFT12.x _ _ rfl
      have w184 : Xi T12 904 78 = Xi S 904 78 := hFT12.x _ _ rfl
      have w185 : 0 ≤ Xi T12 904 69 ∧ Xi T12 904 69 ≤ 2600 := hHT12.c _ _
      have w186 : 0 ≤ Xi T12 904 71 ∧ Xi T12 904 71 ≤ 2600 := hHT12.c _ _
      have w187 : 0 ≤ Xi T12 904 72 ∧ Xi T12 904 72 ≤ 2600 := hHT12.c _ _
      refine l_iload rfl rfl ?_
      refine l_if_ne rfl rfl (by unfold rg; omega) (fun w188 => ?_) (fun w189 => ?_)
      · have w190 : 0 ≤ Xi T12 904 15 ∧ Xi T12 904 15 ≤ 300 := hHT12.c _ _
        have w191 : 0 ≤ Xi T12 904 16 ∧ Xi T12 904 16 ≤ 16 := hHT12.c _ _
        have w192 : 0 ≤ Xi T12 904 18 ∧ Xi T12 904 18 ≤ 8 := hHT12.c _ _
        exact Rl_weak (C299 T12 hHT12 hFT12 (v1) (v2) (v3) (v5) (v7) (v10) (v13) (v15) (v17) (by omega) (by omega) (by omega) (by omega) (by omega) (by omega) (by omega) (by omega) (by assumption) (by omega) (by omega) (by omega) (by first | assumption | exact (by assumption : TXM T12)) (by first | assumption | exact (by assumption : ABV T12)) (by first | assumption | exact (by assumption : LXM T12)) (by first | assumption | exact (by assumption : LCN T12)) (by assumption) (by omega) (by assumption) (by assumption) (by omega) (by omega)) (And.intro rfl (And.intro rfl (And.intro rfl (And.intro rfl (And.intro rfl (And.intro rfl (And.intro rfl (And.intro rfl (And.intro rfl (And.intro rfl (True.intro)))))))))))
      · refine l_aload_n rfl rfl ?_
        refine l_lload rfl rfl ?_
        refine l_lload rfl rfl ?_
        refine l_lload rfl rfl ?_
        refine l_iload rfl rfl ?_
        have w196 : 0 ≤ Xi T12 904 15 ∧ Xi T12 904 15 ≤ 300 := hHT12.c _ _
        refine l_callV rfl rfl rfl (t_mo_find hHT12 v13 v15 v17 v7 ⟨by omega, by omega⟩ _) ?_
        rintro _ _ ⟨rfl, z203, rfl, w203, w202⟩
        show Rl _ _ _ _ _ [iv z203] _ _
        refine l_iconst rfl ?_
        refine l_icmp_ne rfl rfl (by unfold rg; omega) (by unfold rg; omega) (fun w204 => ?_) (fun w205 => ?_)
        · have w206 : 0 ≤ Xi T12 904 15 ∧ Xi T12 904 15 ≤ 300 := hHT12.c _ _
          have w207 : 0 ≤ Xi T12 904 16 ∧ Xi T12 904 16 ≤ 16 := hHT12.c _ _
          have w208 : 0 ≤ Xi T12 904 18 ∧ Xi T12 904 18 ≤ 8 := hHT12.c _ _
          exact Rl_weak (C348 T12 hHT12 hFT12 (v1) (v2) (v3) (v5) (by omega) (by omega) (by omega) (by omega) (by omega) (by omega) (by assumption) (by omega) (by omega) (by omega) (by omega) (by assumption) (by first | assumption | exact (by assumption : TXM T12)) (by first | assumption | exact (by assumption : ABV T12)) (by first | assumption | exact (by assumption : LXM T12)) (by first | assumption | exact (by assumption : LCN T12)) (by assumption) (by first | exact P347.up (by omega) (by omega) | exact P278.up (by omega) (by omega)) (by omega)) (And.intro rfl (And.intro rfl (And.intro rfl (And.intro rfl (And.intro rfl (True.intro))))))
        · have w212 : 0 ≤ Xi T12 904 15 ∧ Xi T12 904 15 ≤ 300 := hHT12.c _ _
          have w213 : 0 ≤ Xi T12 904 16 ∧ Xi T12 904 16 ≤ 16 := hHT12.c _ _
          have w214 : 0 ≤ Xi T12 904 18 ∧ Xi T12 904 18 ≤ 8 := hHT12.c _ _
          exact Rl_weak (C299 T12 hHT12 hFT12 (v1) (v2) (v3) (v5) (v7) (v10) (v13) (v15) (v17) (by omega) (by omega) (by omega) (by omega) (by omega) (by omega) (by omega) (by omega) (by assumption) (by omega) (by omega) (by omega) (by first | assumption | exact (by assumption : TXM T12)) (by first | assumption | exact (by assumption : ABV T12)) (by first | assumption | exact (by assumption : LXM T12)) (by first | assumption | exact (by assumption : LCN T12)) (by assumption) (by omega) (by assumption) (by assumption) (by omega) (by omega)) (And.intro rfl (And.intro rfl (And.intro rfl (And.intro rfl (And.intro rfl (And.intro rfl (And.intro rfl (And.intro rfl (And.intro rfl (And.intro rfl (True.intro)))))))))))
    have C232 : ∀  (T13 : sS) (_ : HI T13) (_ : FR md_mo_doKinds S T13) (v1 : Int) (v2 : Int) (v3 : Int) (v5 : Int) (v6 : Int) (v7 : Int) (v10 : Int) (v11 : Int) (v13 : Int), (0 ≤ v1 ∧ v1 ≤ 16) → (0 ≤ v2 ∧ v2 ≤ 8) → (0 ≤ v3 ∧ v3 ≤ 1) → (0 ≤ v5 ∧ v5 ≤ 2599) → (0 ≤ v6 ∧ v6 ≤ 5001) → (1 ≤ v7 ∧ v7 ≤ 5010) → (0 ≤ v10 ∧ v10 ≤ 1) → (v1 = Xi S 904 16) → (v2 = Xi S 904 18) → (VKY S v3) → (Xi T13 904 69 = Xi S 904 69) → (Xi T13 904 71 = Xi S 904 71) → (Xi T13 904 72 = Xi S 904 72) → (TXM T13) → (ABV T13) → (LXM T13) → (LCN T13) → (GR T13 S) → (v5 < Xi S 904 72) → (PLB T13 (v1 + v5) (v2 + v5)) → (KCT S T13 v3 (Xi S 904 72)) → (1 ≤ v7 ∧ v7 ≤ 3) → (v6 + v7 ≤ n) → ((2601 - v5).toNat ≤ n124) → Rl lay0 (d + 4) m_mo_doKinds 232 [(0, .ref 904), (1, iv v1), (2, iv v2), (3, iv v3), (5, iv v5), (6, iv v6), (7, iv v7), (10, iv v10), (11, jw v11), (13, jw v13)] [] T13 (Q_mo_doKinds S n) := by
      intro T13 hHT13 hFT13 v1 v2 v3 v5 v6 v7 v10 v11 v13 w218 w219 w220 w221 w222 w223 w224 w225 w226 Y232 w227 w228 w229 X232 B232 M232 L232 G232 w230 P232 C232 w231 w232 w233
      have w234 : Xi T13 904 69 = Xi S 904 69 := hFT13.x _ _ rfl
      have w235 : Xi T13 904 71 = Xi S 904 71 := hFT13.x _ _ rfl
      have w236 : Xi T13 904 72 = Xi S 904 72 := hFT13.x _ _ rfl
      have w237 : Xi T13 904 78 = Xi S 904 78 := hFT13.x _ _ rfl
      have w238 : 0 ≤ Xi T13 904 69 ∧ Xi T13 904 69 ≤ 2600 := hHT13.c _ _
      have w239 : 0 ≤ Xi T13 904 71 ∧ Xi T13 904 71 ≤ 2600 := hHT13.c _ _
      have w240 : 0 ≤ Xi T13 904 72 ∧ Xi T13 904 72 ≤ 2600 := hHT13.c _ _
      refine l_iload rfl rfl ?_
      refine l_iconst rfl ?_
      refine l_icmp_ne rfl rfl (by unfold rg; omega) (by unfold rg; omega) (fun w241 => ?_) (fun w242 => ?_)
      · refine l_iload rfl rfl ?_
        refine l_iconst rfl ?_
        refine l_icmp_le rfl rfl (by unfold rg; omega) (by unfold rg; omega) (fun w243 => ?_) (fun w244 => ?_)
        · refine l_lconst (z := 0) rfl rfl ?_
          refine l_lstore rfl rfl rfl rfl ?_
          refine l_iload rfl rfl ?_
          refine l_iconst rfl ?_
          refine l_icmp_ne rfl rfl (by unfold rg; omega) (by unfold rg; omega) (fun w245 => ?_) (fun w246 => ?_)
          · refine l_lconst (z := 0) rfl rfl ?_
            refine l_lstore rfl rfl rfl rfl ?_
            have w247 : 0 ≤ Xi T13 904 15 ∧ Xi T13 904 15 ≤ 300 := hHT13.c _ _
            have w248 : 0 ≤ Xi T13 904 16 ∧ Xi T13 904 16 ≤ 16 := hHT13.c _ _
            have w249 : 0 ≤ Xi T13 904 18 ∧ Xi T13 904 18 ≤ 8 := hHT13.c _ _
            exact Rl_weak (C278 T13 hHT13 hFT13 (v1) (v2) (v3) (v5) (v7) (v10) (v13) (0) (0) (by omega) (by omega) (by omega) (by omega) (by omega) (by omega) (by omega) (by omega) (by assumption) (by omega) (by omega) (by omega) (by first | assumption | exact (by assumption : TXM T13)) (by first | assumption | exact (by assumption : ABV T13)) (by first | assumption | exact (by assumption : LXM T13)) (by first | assumption | exact (by assumption : LCN T13)) (by assumption) (by omega) (by assumption) (by assumption) (by omega) (by omega)) (And.intro rfl (And.intro rfl (And.intro rfl (And.intro rfl (And.intro rfl (And.intro rfl (And.intro rfl (And.intro rfl (And.intro rfl (And.intro rfl (True.intro)))))))))))
          · refine l_lload rfl rfl ?_
            refine l_goto rfl rfl ?_
            refine l_lstore rfl rfl rfl rfl ?_
            have w253 : 0 ≤ Xi T13 904 15 ∧ Xi T13 904 15 ≤ 300 := hHT13.c _ _
            have w254 : 0 ≤ Xi T13 904 16 ∧ Xi T13 904 16 ≤ 16 := hHT13.c _ _
            have w255 : 0 ≤ Xi T13 904 18 ∧ Xi T13 904 18 ≤ 8 := hHT13.c _ _
            exact Rl_weak (C278 T13 hHT13 hFT13 (v1) (v2) (v3) (v5) (v7) (v10) (v13) (0) (v11) (by omega) (by omega) (by omega) (by omega) (by omega) (by omega) (by omega) (by omega) (by assumption) (by omega) (by omega) (by omega) (by first | assumption | exact (by assumption : TXM T13)) (by first | assumption | exact (by assumption : ABV T13)) (by first | assumption | exact (by assumption : LXM T13)) (by first | assumption | exact (by assumption : LCN T13)) (by assumption) (by omega) (by assumption) (by assumption) (by omega) (by omega)) (And.intro rfl (And.intro rfl (And.intro rfl (And.intro rfl (And.intro rfl (And.intro rfl (And.intro rfl (And.intro rfl (And.intro rfl (And.intro rfl (True.intro)))))))))))
        · refine l_aload_n rfl rfl ?_
          refine l_gfr rfl rfl rfl rfl rfl (hHT13.r 904 7 910 rfl) ?_
          refine l_iload rfl rfl ?_
          refine l_iconst rfl ?_
          refine l_iadd rfl ?_
          refine l_laload (n := 5002) rfl rfl (by omega) (by omega) (by unfold rg; omega) ?_
          have w259 : -9223372036854775808 ≤ (Xj T13 910 (((v6 + 1)).toNat)) ∧ (Xj T13 910 (((v6 + 1)).toNat)) < 9223372036854775808 := Xj_rg
          refine l_goto rfl rfl ?_
          refine l_lstore rfl rfl rfl rfl ?_
          refine l_iload rfl rfl ?_
          refine l_iconst rfl ?_
          refine l_icmp_ne rfl rfl (by unfold rg; omega) (by unfold rg; omega) (fun w260 => ?_) (fun w261 => ?_)
          · refine l_lconst (z := 0) rfl rfl ?_
            refine l_lstore rfl rfl rfl rfl ?_
            have w262 : 0 ≤ Xi T13 904 15 ∧ Xi T13 904 15 ≤ 300 := hHT13.c _ _
            have w263 : 0 ≤ Xi T13 904 16 ∧ Xi T13 904 16 ≤ 16 := hHT13.c _ _
            have w264 : 0 ≤ Xi T13 904 18 ∧ Xi T13 904 18 ≤ 8 := hHT13.c _ _
            exact Rl_weak (C278 T13 hHT13 hFT13 (v1) (v2) (v3) (v5) (v7) (v10) (v13) ((Xj T13 910 (((v6 + 1)).toNat))) (0) (by omega) (by omega) (by omega) (by omega) (by omega) (by omega) (by omega) (by omega) (by assumption) (by omega) (by omega) (by omega) (by first | assumption | exact (by assumption : TXM T13)) (by first | assumption | exact (by assumption : ABV T13)) (by first | assumption | exact (by assumption : LXM T13)) (by first | assumption | exact (by assumption : LCN T13)) (by assumption) (by omega) (by assumption) (by assumption) (by omega) (by omega)) (And.intro rfl (And.intro rfl (And.intro rfl (And.intro rfl (And.intro rfl (And.intro rfl (And.intro rfl (And.intro rfl (And.intro rfl (And.intro rfl (True.intro)))))))))))
          · refine l_lload rfl rfl ?_
            refine l_goto rfl rfl ?_
            refine l_lstore rfl rfl rfl rfl ?_
            have w268 : 0 ≤ Xi T13 904 15 ∧ Xi T13 904 15 ≤ 300 := hHT13.c _ _
            have w269 : 0 ≤ Xi T13 904 16 ∧ Xi T13 904 16 ≤ 16 := hHT13.c _ _
            have w270 : 0 ≤ Xi T13 904 18 ∧ Xi T13 904 18 ≤ 8 := hHT13.c _ _
            exact Rl_weak (C278 T13 hHT13 hFT13 (v1) (v2) (v3) (v5) (v7) (v10) (v13) ((Xj T13 910 (((v6 + 1)).toNat))) (v11) (by omega) (by omega) (by omega) (by omega) (by omega) (by omega) (by omega) (by omega) (by assumption) (by omega) (by omega) (by omega) (by first | assumption | exact (by assumption : TXM T13)) (by first | assumption | exact (by assumption : ABV T13)) (by first | assumption | exact (by assumption : LXM T13)) (by first | assumption | exact (by assumption : LCN T13)) (by assumption) (by omega) (by assumption) (by assumption) (by omega) (by omega)) (And.intro rfl (And.intro rfl (And.intro rfl (And.intro rfl (And.intro rfl (And.intro rfl (And.intro rfl (And.intro rfl (And.intro rfl (And.intro rfl (True.intro)))))))))))
      · refine l_lload rfl rfl ?_
        refine l_goto rfl rfl ?_
        refine l_lstore rfl rfl rfl rfl ?_
        refine l_iload rfl rfl ?_
        refine l_iconst rfl ?_
        refine l_icmp_ne rfl rfl (by unfold rg; omega) (by unfold rg; omega) (fun w274 => ?_) (fun w275 => ?_)
        · refine l_lconst (z := 0) rfl rfl ?_
          refine l_lstore rfl rfl rfl rfl ?_
          have w276 : 0 ≤ Xi T13 904 15 ∧ Xi T13 904 15 ≤ 300 := hHT13.c _ _
          have w277 : 0 ≤ Xi T13 904 16 ∧ Xi T13 904 16 ≤ 16 := hHT13.c _ _
          have w278 : 0 ≤ Xi T13 904 18 ∧ Xi T13 904 18 ≤ 8 := hHT13.c _ _
          exact Rl_weak (C278 T13 hHT13 hFT13 (v1) (v2) (v3) (v5) (v7) (v10) (v13) (v11) (0) (by omega) (by omega) (by omega) (by omega) (by omega) (by omega) (by omega) (by omega) (by assumption) (by omega) (by omega) (by omega) (by first | assumption | exact (by assumption : TXM T13)) (by first | assumption | exact (by assumption : ABV T13)) (by first | assumption | exact (by assumption : LXM T13)) (by first | assumption | exact (by assumption : LCN T13)) (by assumption) (by omega) (by assumption) (by assumption) (by omega) (by omega)) (And.intro rfl (And.intro rfl (And.intro rfl (And.intro rfl (And.intro rfl (And.intro rfl (And.intro rfl (And.intro rfl (And.intro rfl (And.intro rfl (True.intro)))))))))))
        · refine l_lload rfl rfl ?_
          refine l_goto rfl rfl ?_
          refine l_lstore rfl rfl rfl rfl ?_
          have w282 : 0 ≤ Xi T13 904 15 ∧ Xi T13 904 15 ≤ 300 := hHT13.c _ _
          have w283 : 0 ≤ Xi T13 904 16 ∧ Xi T13 904 16 ≤ 16 := hHT13.c _ _
          have w284 : 0 ≤ Xi T13 904 18 ∧ Xi T13 904 18 ≤ 8 := hHT13.c _ _
          exact Rl_weak (C278 T13 hHT13 hFT13 (v1) (v2) (v3) (v5) (v7) (v10) (v13) (v11) (v11) (by omega) (by omega) (by omega) (by omega) (by omega) (by omega) (by omega) (by omega) (by assumption) (by omega) (by omega) (by omega) (by first | assumption | exact (by assumption : TXM T13)) (by first | assumption | exact (by assumption : ABV T13)) (by first | assumption | exact (by assumption : LXM T13)) (by first | assumption | exact (by assumption : LCN T13)) (by assumption) (by omega) (by assumption) (by assumption) (by omega) (by omega)) (And.intro rfl (And.intro rfl (And.intro rfl (And.intro rfl (And.intro rfl (And.intro rfl (And.intro rfl (And.intro rfl (And.intro rfl (And.intro rfl (True.intro)))))))))))
    refine l_iload rfl rfl ?_
    refine l_aload_n rfl rfl ?_
    refine l_gfi rfl rfl rfl rfl rfl ?_
    refine l_icmp_ge rfl rfl (by unfold rg; omega) (by unfold rg; omega) (fun w288 => ?_) (fun w289 => ?_)
    · refine l_return rfl rfl ?_
      exact ⟨hHT1, hFT1, rfl, (by assumption), (by assumption), (by assumption), (by assumption), (by assumption)⟩
    · refine l_aload_n rfl rfl ?_
      refine l_gfr rfl rfl rfl rfl rfl (hHT1.r 904 67 950 rfl) ?_
      refine l_aload_n rfl rfl ?_
      refine l_gfi rfl rfl rfl rfl rfl ?_
      refine l_iload rfl rfl ?_
      refine l_iadd rfl ?_
      refine l_iaload (n := 2600) rfl rfl (by omega) (by omega) (by unfold rg; omega) ?_
      have w296 : 0 ≤ (Xi T1 950 ((((Xi T1 904 71) + v5)).toNat)) ∧ (Xi T1 950 ((((Xi T1 904 71) + v5)).toNat)) ≤ 5010 := hHT1.c _ _
      have e144 : (Xi T1 950 ((((Xi T1 904 71) + v5)).toNat)) = Xi S 950 (Xi S 904 71 + v5).toNat := by rw [(hFT1.cx 950 rfl _).1]; exact congrArg (fun t : Int => Xi S 950 t.toNat) (by omega)
      refine l_istore rfl rfl rfl ?_
      refine l_aload_n rfl rfl ?_
      refine l_gfr rfl rfl rfl rfl rfl (hHT1.r 904 68 951 rfl) ?_
      refine l_aload_n rfl rfl ?_
      refine l_gfi rfl rfl rfl rfl rfl ?_
      refine l_iload rfl rfl ?_
      refine l_iadd rfl ?_
      refine l_iaload (n := 2600) rfl rfl (by omega) (by omega) (by unfold rg; omega) ?_
      have w297 : 0 ≤ (Xi T1 951 ((((Xi T1 904 71) + v5)).toNat)) ∧ (Xi T1 951 ((((Xi T1 904 71) + v5)).toNat)) ≤ 5010 := hHT1.c _ _
      have e158 : (Xi T1 951 ((((Xi T1 904 71) + v5)).toNat)) = Xi S 951 (Xi S 904 71 + v5).toNat := by rw [(hFT1.cx 951 rfl _).1]; exact congrArg (fun t : Int => Xi S 951 t.toNat) (by omega)
      have r158 := hrg v5 (by omega) (by omega)
      have s158 := h3 v5 (by omega) (by omega)
      refine l_istore rfl rfl rfl ?_
      refine l_aload_n rfl rfl ?_
      refine l_gfr rfl rfl rfl rfl rfl (hHT1.r 904 7 910 rfl) ?_
      refine l_iload rfl rfl ?_
      refine l_iload rfl rfl ?_
      refine l_iadd rfl ?_
      refine l_iconst rfl ?_
      refine l_isub rfl ?_
      refine l_laload (n := 5002) rfl rfl (by omega) (by omega) (by unfold rg; omega) ?_
      have w298 : -9223372036854775808 ≤ (Xj T1 910 (((((Xi T1 950 ((((Xi T1 904 71) + v5)).toNat)) + (Xi T1 951 ((((Xi T1 904 71) + v5)).toNat))) - 1)).toNat)) ∧ (Xj T1 910 (((((Xi T1 950 ((((Xi T1 904 71) + v5)).toNat)) + (Xi T1 951 ((((Xi T1 904 71) + v5)).toNat))) - 1)).toNat)) < 9223372036854775808 := Xj_rg
      refine l_lstore rfl rfl rfl rfl ?_
      refine l_lload rfl rfl ?_
      refine l_bipush rfl rfl ?_
      refine l_lshrF rfl ?_
      have w299 : rgL (lshrF (Xj T1 910 (((((Xi T1 950 ((((Xi T1 904 71) + v5)).toNat)) + (Xi T1 951 ((((Xi T1 904 71) + v5)).toNat))) - 1)).toNat)) 55) := lshrF_rg
      refine l_lconst (z := 0) rfl rfl ?_
      refine l_lcmpA rfl (fun c300 w300 => ?_)
      refine l_if_eq rfl rfl (by unfold rg; omega) (fun w301 => ?_) (fun w302 => ?_)
      · refine l_iconst rfl ?_
        refine l_istore rfl rfl rfl ?_
        refine l_iload rfl rfl ?_
        refine l_if_eq rfl rfl (by unfold rg; omega) (fun w303 => ?_) (fun w304 => absurd w304 (by omega))
        · refine l_lload rfl rfl ?_
          refine l_iconst rfl ?_
          refine l_lshlF rfl ?_
          have w305 : rgL (lshlF (Xj T1 910 (((((Xi T1 950 ((((Xi T1 904 71) + v5)).toNat)) + (Xi T1 951 ((((Xi T1 904 71) + v5)).toNat))) - 1)).toNat)) 5) := lshlF_rg
          refine l_ldc2 (z := 19) rfl rfl ?_
          refine l_lorF rfl ?_
          have w306 : rgL (lorF (lshlF (Xj T1 910 (((((Xi T1 950 ((((Xi T1 904 71) + v5)).toNat)) + (Xi T1 951 ((((Xi T1 904 71) + v5)).toNat))) - 1)).toNat)) 5) 19) := lorF_rg
          refine l_lstore rfl rfl rfl rfl ?_
          refine l_iload rfl rfl ?_
          refine l_iconst rfl ?_
          refine l_icmp_ne rfl rfl (by unfold rg; omega) (by unfold rg; omega) (fun w307 => ?_) (fun w308 => ?_)
          · refine l_aload_n rfl rfl ?_
            refine l_gfr rfl rfl rfl rfl rfl (hHT1.r 904 7 910 rfl) ?_
            refine l_iload rfl rfl ?_
            refine l_laload (n := 5002) rfl rfl (by omega) (by omega) (by unfold rg; omega) ?_
            have w309 : -9223372036854775808 ≤ (Xj T1 910 (((Xi T1 950 ((((Xi T1 904 71) + v5)).toNat))).toNat)) ∧ (Xj T1 910 (((Xi T1 950 ((((Xi T1 904 71) + v5)).toNat))).toNat)) < 9223372036854775808 := Xj_rg
            refine l_lstore rfl rfl rfl rfl ?_
            have w310 : 0 ≤ Xi T1 904 15 ∧ Xi T1 904 15 ≤ 300 := hHT1.c _ _
            have w311 : 0 ≤ Xi T1 904 16 ∧ Xi T1 904 16 ≤ 16 := hHT1.c _ _
            have w312 : 0 ≤ Xi T1 904 18 ∧ Xi T1 904 18 ≤ 8 := hHT1.c _ _
            exact Rl_weak (C232 T1 hHT1 hFT1 (v1) (v2) (v3) (v5) ((Xi T1 950 ((((Xi T1 904 71) + v5)).toNat))) ((Xi T1 951 ((((Xi T1 904 71) + v5)).toNat))) (0) ((lorF (lshlF (Xj T1 910 (((((Xi T1 950 ((((Xi T1 904 71) + v5)).toNat)) + (Xi T1 951 ((((Xi T1 904 71) + v5)).toNat))) - 1)).toNat)) 5) 19)) ((Xj T1 910 (((Xi T1 950 ((((Xi T1 904 71) + v5)).toNat))).toNat))) (by omega) (by omega) (by omega) (by omega) (by omega) (by omega) (by omega) (by omega) (by omega) (by assumption) (by omega) (by omega) (by omega) (by first | assumption | exact (by assumption : TXM T1)) (by first | assumption | exact (by assumption : ABV T1)) (by first | assumption | exact (by assumption : LXM T1)) (by first | assumption | exact (by assumption : LCN T1)) (by assumption) (by omega) (by assumption) (by assumption) (by omega) (by omega) (by omega)) (And.intro rfl (And.intro rfl (And.intro rfl (And.intro rfl (And.intro rfl (And.intro rfl (And.intro rfl (And.intro rfl (And.intro rfl (And.intro rfl (True.intro)))))))))))
          · refine l_lload rfl rfl ?_
            refine l_goto rfl rfl ?_
            refine l_lstore rfl rfl rfl rfl ?_
            have w316 : 0 ≤ Xi T1 904 15 ∧ Xi T1 904 15 ≤ 300 := hHT1.c _ _
            have w317 : 0 ≤ Xi T1 904 16 ∧ Xi T1 904 16 ≤ 16 := hHT1.c _ _
            have w318 : 0 ≤ Xi T1 904 18 ∧ Xi T1 904 18 ≤ 8 := hHT1.c _ _
            exact Rl_weak (C232 T1 hHT1 hFT1 (v1) (v2) (v3) (v5) ((Xi T1 950 ((((Xi T1 904 71) + v5)).toNat))) ((Xi T1 951 ((((Xi T1 904 71) + v5)).toNat))) (0) ((lorF (lshlF (Xj T1 910 (((((Xi T1 950 ((((Xi T1 904 71) + v5)).toNat)) + (Xi T1 951 ((((Xi T1 904 71) + v5)).toNat))) - 1)).toNat)) 5) 19)) ((lorF (lshlF (Xj T1 910 (((((Xi T1 950 ((((Xi T1 904 71) + v5)).toNat)) + (Xi T1 951 ((((Xi T1 904 71) + v5)).toNat))) - 1)).toNat)) 5) 19)) (by omega) (by omega) (by omega) (by omega) (by omega) (by omega) (by omega) (by omega) (by omega) (by assumption) (by omega) (by omega) (by omega) (by first | assumption | exact (by assumption : TXM T1)) (by first | assumption | exact (by assumption : ABV T1)) (by first | assumption | exact (by assumption : LXM T1)) (by first | assumption | exact (by assumption : LCN T1)) (by assumption) (by omega) (by assumption) (by assumption) (by omega) (by omega) (by omega)) (And.intro rfl (And.intro rfl (And.intro rfl (And.intro rfl (And.intro rfl (And.intro rfl (And.intro rfl (And.intro rfl (And.intro rfl (And.intro rfl (True.intro)))))))))))
      · refine l_iconst rfl ?_
        refine l_goto rfl rfl ?_
        refine l_istore rfl rfl rfl ?_
        refine l_iload rfl rfl ?_
        refine l_if_eq rfl rfl (by unfold rg; omega) (fun w322 => absurd w322 (by omega)) (fun w323 => ?_)
        · refine l_lload rfl rfl ?_
          refine l_goto rfl rfl ?_
          refine l_lstore rfl rfl rfl rfl ?_
          refine l_iload rfl rfl ?_
          refine l_iconst rfl ?_
          refine l_icmp_ne rfl rfl (by unfold rg; omega) (by unfold rg; omega) (fun w324 => ?_) (fun w325 => ?_)
          · refine l_aload_n rfl rfl ?_
            refine l_gfr rfl rfl rfl rfl rfl (hHT1.r 904 7 910 rfl) ?_
            refine l_iload rfl rfl ?_
            refine l_laload (n := 5002) rfl rfl (by omega) (by omega) (by unfold rg; omega) ?_
            have w326 : -9223372036854775808 ≤ (Xj T1 910 (((Xi T1 950 ((((Xi T1 904 71) + v5)).toNat))).toNat)) ∧ (Xj T1 910 (((Xi T1 950 ((((Xi T1 904 71) + v5)).toNat))).toNat)) < 9223372036854775808 := Xj_rg
            refine l_lstore rfl rfl rfl rfl ?_
            have w327 : 0 ≤ Xi T1 904 15 ∧ Xi T1 904 15 ≤ 300 := hHT1.c _ _
            have w328 : 0 ≤ Xi T1 904 16 ∧ Xi T1 904 16 ≤ 16 := hHT1.c _ _
            have w329 : 0 ≤ Xi T1 904 18 ∧ Xi T1 904 18 ≤ 8 := hHT1.c _ _
            exact Rl_weak (C232 T1 hHT1 hFT1 (v1) (v2) (v3) (v5) ((Xi T1 950 ((((Xi T1 904 71) + v5)).toNat))) ((Xi T1 951 ((((Xi T1 904 71) + v5)).toNat))) (1) ((Xj T1 910 (((((Xi T1 950 ((((Xi T1 904 71) + v5)).toNat)) + (Xi T1 951 ((((Xi T1 904 71) + v5)).toNat))) - 1)).toNat))) ((Xj T1 910 (((Xi T1 950 ((((Xi T1 904 71) + v5)).toNat))).toNat))) (by omega) (by omega) (by omega) (by omega) (by omega) (by omega) (by omega) (by omega) (by omega) (by assumption) (by omega) (by omega) (by omega) (by first | assumption | exact (by assumption : TXM T1)) (by first | assumption | exact (by assumption : ABV T1)) (by first | assumption | exact (by assumption : LXM T1)) (by first | assumption | exact (by assumption : LCN T1)) (by assumption) (by omega) (by assumption) (by assumption) (by omega) (by omega) (by omega)) (And.intro rfl (And.intro rfl (And.intro rfl (And.intro rfl (And.intro rfl (And.intro rfl (And.intro rfl (And.intro rfl (And.intro rfl (And.intro rfl (True.intro)))))))))))
          · refine l_lload rfl rfl ?_
            refine l_goto rfl rfl ?_
            refine l_lstore rfl rfl rfl rfl ?_
            have w333 : 0 ≤ Xi T1 904 15 ∧ Xi T1 904 15 ≤ 300 := hHT1.c _ _
            have w334 : 0 ≤ Xi T1 904 16 ∧ Xi T1 904 16 ≤ 16 := hHT1.c _ _
            have w335 : 0 ≤ Xi T1 904 18 ∧ Xi T1 904 18 ≤ 8 := hHT1.c _ _
            exact Rl_weak (C232 T1 hHT1 hFT1 (v1) (v2) (v3) (v5) ((Xi T1 950 ((((Xi T1 904 71) + v5)).toNat))) ((Xi T1 951 ((((Xi T1 904 71) + v5)).toNat))) (1) ((Xj T1 910 (((((Xi T1 950 ((((Xi T1 904 71) + v5)).toNat)) + (Xi T1 951 ((((Xi T1 904 71) + v5)).toNat))) - 1)).toNat))) ((Xj T1 910 (((((Xi T1 950 ((((Xi T1 904 71) + v5)).toNat)) + (Xi T1 951 ((((Xi T1 904 71) + v5)).toNat))) - 1)).toNat))) (by omega) (by omega) (by omega) (by omega) (by omega) (by omega) (by omega) (by omega) (by omega) (by assumption) (by omega) (by omega) (by omega) (by first | assumption | exact (by assumption : TXM T1)) (by first | assumption | exact (by assumption : ABV T1)) (by first | assumption | exact (by assumption : LXM T1)) (by first | assumption | exact (by assumption : LCN T1)) (by assumption) (by omega) (by assumption) (by assumption) (by omega) (by omega) (by omega)) (And.intro rfl (And.intro rfl (And.intro rfl (And.intro rfl (And.intro rfl (And.intro rfl (And.intro rfl (And.intro rfl (And.intro rfl (And.intro rfl (True.intro)))))))))))
set_option maxRecDepth 100000 in
set_option maxHeartbeats 4000000 in
theorem c55_mo_doKinds {S : sS} (hH : HI S) (n : Nat) (hT : TK S n) (hv : RNV S n) (hM : LXM S) (hX : TXM S) (hLC : LCN S) (hB : ABV S) (hl : Xi S 904 71 + Xi S 904 72 ≤ Xi S 904 69) (hw : Xi S 904 78 < Xi S 904 69) (hT2 : Xi S 904 78 = -2 → Xi S 904 18 + Xi S 904 72 ≤ 8) (hK2 : Xi S 904 78 ≠ -2 → Xi S 904 16 + Xi S 904 72 ≤ 16) (h0 : 0 ≤ Xi S 904 78 → rnR S (Xi S 904 78) 0 ≠ -1) (h3 : ∀ i : Int, 0 ≤ i → i < Xi S 904 72 → Xi S 951 (Xi S 904 71 + i).toNat ≤ 3) (h1 : 1 ≤ Xi S 904 16) (d : Nat) : ∀ (n55 : Nat) (T14 : sS) (_ : HI T14) (_ : FR md_mo_doKinds S T14) (v1 : Int) (v2 : Int) (v3 : Int) (v4 : Int) (v5 : Int), (0 ≤ v1 ∧ v1 ≤ 16) → (0 ≤ v2 ∧ v2 ≤ 8) → (0 ≤ v3 ∧ v3 ≤ 1) → (0 ≤ v4 ∧ v4 ≤ 15) → (0 ≤ v5 ∧ v5 ≤ 2600) → (v1 = Xi S 904 16) → (v2 = Xi S 904 18) → (VKY S v3) → (v4 < Xi S 904 16) → (v5 ≤ Xi S 904 72) → (Xi T14 904 69 = Xi S 904 69) → (Xi T14 904 71 = Xi S 904 71) → (Xi T14 904 72 = Xi S 904 72) → (KCT S T14 v3 v5) → (TXM T14) → (ABV T14) → (LXM T14) → (LCN T14) → (GR T14 S) → (PLB T14 v1 v2) → n55 = (2601 - v5).toNat → Rl lay0 (d + 4) m_mo_doKinds 55 [(0, .ref 904), (1, iv v1), (2, iv v2), (3, iv v3), (4, iv v4), (5, iv v5)] [] T14 (Q_mo_doKinds S n) := by
  have C124 := c124_mo_doKinds hH n hT hv hM hX hLC hB hl hw hT2 hK2 h0 h3 h1 d 
  have hF : FR md_mo_doKinds S S := FR.rf
  have w1 : 0 ≤ Xi S 904 16 ∧ Xi S 904 16 ≤ 16 := hH.c _ _
  have w2 : 0 ≤ Xi S 904 18 ∧ Xi S 904 18 ≤ 8 := hH.c _ _
  have w3 : 0 ≤ Xi S 904 69 ∧ Xi S 904 69 ≤ 2600 := hH.c _ _
  have w4 : 0 ≤ Xi S 904 71 ∧ Xi S 904 71 ≤ 2600 := hH.c _ _
  have w5 : 0 ≤ Xi S 904 72 ∧ Xi S 904 72 ≤ 2600 := hH.c _ _
  have w6 : -2 ≤ Xi S 904 78 ∧ Xi S 904 78 ≤ 5010 := hH.c _ _
  have hn5 := hT.1
  have hc69 : 0 ≤ Xi S 904 69 ∧ Xi S 904 69 ≤ 2600 := hH.c _ _
  have hc71 : 0 ≤ Xi S 904 71 ∧ Xi S 904 71 ≤ 2600 := hH.c _ _
  have hc72 : 0 ≤ Xi S 904 72 ∧ Xi S 904 72 ≤ 2600 := hH.c _ _
  have hrf : ∀ r : Int, 0 ≤ r → r < Xi S 904 69 → Xi S 950 r.toNat ≤ n := fun r a b => by have := hv r.toNat (by omega); omega
  have hc15 : 0 ≤ Xi S 904 15 ∧ Xi S 904 15 ≤ 300 := hH.c _ _
  have hl9 := lcn_le hH hLC
  have hc16 : 0 ≤ Xi S 904 16 ∧ Xi S 904 16 ≤ 16 := hH.c _ _
  have hc18 : 0 ≤ Xi S 904 18 ∧ Xi S 904 18 ≤ 8 := hH.c _ _
  have hc78 : -2 ≤ Xi S 904 78 := (hH.c 904 78).1
  have hZ : KZK S := ⟨hT2, hK2, h0⟩
  clear hT2 hK2 h0
  have hrg : ∀ i : Int, 0 ≤ i → i < Xi S 904 72 → Xi S 950 (Xi S 904 71 + i).toNat + Xi S 951 (Xi S 904 71 + i).toNat ≤ n ∧ 1 ≤ Xi S 951 (Xi S 904 71 + i).toNat := fun i a b => hv (Xi S 904 71 + i).toNat (by omega)
  intro n55
  induction n55 using Nat.strongRecOn with
  | ind n55 ih55 =>
    intro T14 hHT14 hFT14 v1 v2 v3 v4 v5 w339 w340 w341 w342 w343 w344 w345 Y55 w346 w347 w348 w349 w350 C55 X55 B55 M55 L55 G55 P55 hm55
    have w351 : Xi T14 904 69 = Xi S 904 69 := hFT14.x _ _ rfl
    have w352 : Xi T14 904 71 = Xi S 904 71 := hFT14.x _ _ rfl
    have w353 : Xi T14 904 72 = Xi S 904 72 := hFT14.x _ _ rfl
    have w354 : Xi T14 904 78 = Xi S 904 78 := hFT14.x _ _ rfl
    have w355 : 0 ≤ Xi T14 904 69 ∧ Xi T14 904 69 ≤ 2600 := hHT14.c _ _
    have w356 : 0 ≤ Xi T14 904 71 ∧ Xi T14 904 71 ≤ 2600 := hHT14.c _ _
    have w357 : 0 ≤ Xi T14 904 72 ∧ Xi T14 904 72 ≤ 2600 := hHT14.c _ _
    refine l_iload rfl rfl ?_
    refine l_aload_n rfl rfl ?_
    refine l_gfi rfl rfl rfl rfl rfl ?_
    refine l_icmp_ge rfl rfl (by unfold rg; omega) (by unfold rg; omega) (fun w358 => ?_) (fun w359 => ?_)
    · refine l_iconst rfl ?_
      refine l_istore rfl rfl rfl ?_
      have w360 : 0 ≤ Xi T14 904 15 ∧ Xi T14 904 15 ≤ 300 := hHT14.c _ _
      have w361 : 0 ≤ Xi T14 904 16 ∧ Xi T14 904 16 ≤ 16 := hHT14.c _ _
      have w362 : 0 ≤ Xi T14 904 18 ∧ Xi T14 904 18 ≤ 8 := hHT14.c _ _
      exact Rl_weak (C124 _ T14 hHT14 hFT14 (v1) (v2) (v3) (0) (by omega) (by omega) (by omega) (by omega) (by omega) (by omega) (by assumption) (by omega) (by omega) (by omega) (by omega) (by first | exact C348 | (rw [show Xi S 904 72 = v5 by omega]; exact C55) | (rw [show Xi S 904 72 = Xi T14 904 72 by omega, show Xi T14 904 72 = v5 by omega]; exact C55)) (by first | assumption | exact (by assumption : TXM T14)) (by first | assumption | exact (by assumption : ABV T14)) (by first | assumption | exact (by assumption : LXM T14)) (by first | assumption | exact (by assumption : LCN T14)) (by assumption) (by first | exact P55.up (by omega) (by omega) | exact P348) rfl) (And.intro rfl (And.intro rfl (And.intro rfl (And.intro rfl (And.intro rfl (True.intro))))))
    · refine l_iload_n rfl rfl ?_
      refine l_if_eq rfl rfl (by unfold rg; omega) (fun w366 => ?_) (fun w367 => ?_)
      · refine l_aload_n rfl rfl ?_
        refine l_iconst rfl ?_
        have k98 : Xi T14 904 16 = Xi S 904 16 + v5 ∧ Xi T14 904 18 = Xi S 904 18 := C55.1 (by omega)
        have m98 : Xi S 904 16 + Xi S 904 72 ≤ 16 := hZ.2.1 (Y55.2 (by omega))
        refine l_aload_n rfl rfl ?_
        refine l_iload rfl rfl ?_
        have w368 : 0 ≤ Xi T14 904 15 ∧ Xi T14 904 15 ≤ 300 := hHT14.c _ _
        have w369 : 0 ≤ Xi T14 904 16 ∧ Xi T14 904 16 ≤ 16 := hHT14.c _ _
        have w370 : 0 ≤ Xi T14 904 18 ∧ Xi T14 904 18 ≤ 8 := hHT14.c _ _
        refine l_callV rfl rfl rfl (t_mo_addKind hHT14 v4 ⟨by omega, by omega⟩ (by first | assumption | omega) (by first | assumption | omega) (by first | assumption | exact (by assumption : ABV T14)) (by first | assumption | exact (by assumption : TXM T14)) _) ?_
        rintro _ T15 ⟨hHT15, w379, z378, rfl, w378, w374, w375, w376, w377⟩
        have hFT15 : FR md_mo_doKinds S T15 := FR.tr hFT14 w379 rfl
        show Rl _ _ _ _ _ [iv z378, iv 0, .ref 904] _ _
        have h102 : Xi T15 904 18 = Xi T14 904 18 := (by assumption : FR md_mo_addKind T14 T15).x 904 18 rfl
        have g102 : GR T15 T14 := gr_m GR.rf (by omega) (Int.le_of_eq ((by assumption : FR md_mo_addKind T14 T15).x 904 18 rfl).symm) (Int.le_of_eq ((by assumption : FR md_mo_addKind T14 T15).x 904 19 rfl).symm) (Int.le_of_eq ((by assumption : FR md_mo_addKind T14 T15).x 904 23 rfl).symm) (Int.le_of_eq ((by assumption : FR md_mo_addKind T14 T15).x 904 30 rfl).symm) (Int.le_of_eq ((by assumption : FR md_mo_addKind T14 T15).x 904 32 rfl).symm) (Int.le_of_eq ((by assumption : FR md_mo_addKind T14 T15).x 904 41 rfl).symm) (Int.le_of_eq ((by assumption : FR md_mo_addKind T14 T15).x 904 47 rfl).symm) (Int.le_of_eq ((by assumption : FR md_mo_addKind T14 T15).x 904 49 rfl).symm) (fun i _ => ⟨((by assumption : FR md_mo_addKind T14 T15).cx 922 rfl i).1, ((by assumption : FR md_mo_addKind T14 T15).cx 923 rfl i).1, ((by assumption : FR md_mo_addKind T14 T15).cx 924 rfl i).1⟩) (fun i _ => ((by assumption : FR md_mo_addKind T14 T15).cx 928 rfl i).1) (fun i _ => ((by assumption : FR md_mo_addKind T14 T15).cx 942 rfl i).1)
        have x102 : LXK T15 T14 (Xi T14 904 15) := LXK_FR (by assumption : FR md_mo_addKind T14 T15) rfl
        have c102 : Xi T15 904 15 = Xi T14 904 15 := (by assumption : FR md_mo_addKind T14 T15).x 904 15 rfl
        refine l_aload_n rfl rfl ?_
        refine l_gfi rfl rfl rfl rfl rfl ?_
        have w380 : (Xi T15 904 71) = (Xi T14 904 71) := (show Xi T15 904 71 = Xi T14 904 71 from w379.x _ _ rfl)
        rw [w380]
        refine l_iload rfl rfl ?_
        refine l_iadd rfl ?_
        have w381 : Xi T15 904 15 = Xi T14 904 15 := (show Xi T15 904 15 = Xi T14 904 15 from w379.x _ _ rfl)
        have w383 : 0 ≤ Xi T15 904 16 ∧ Xi T15 904 16 ≤ 16 := hHT15.c _ _
        have w384 : Xi T15 904 18 = Xi T14 904 18 := (show Xi T15 904 18 = Xi T14 904 18 from w379.x _ _ rfl)
        have w386 : Xi T15 904 69 = Xi T14 904 69 := (show Xi T15 904 69 = Xi T14 904 69 from w379.x _ _ rfl)
        have w388 : Xi T15 904 71 = Xi T14 904 71 := (show Xi T15 904 71 = Xi T14 904 71 from w379.x _ _ rfl)
        have w390 : Xi T15 904 72 = Xi T14 904 72 := (show Xi T15 904 72 = Xi T14 904 72 from w379.x _ _ rfl)
        refine l_callV rfl rfl rfl (t_mo_tellRun hHT15 n 0 z378 ((Xi T14 904 71) + v5) ⟨by omega, by omega⟩ ⟨by omega, by omega⟩ ⟨by omega, by omega⟩ (by first | assumption | exact (TK_FR hFT15 rfl (by assumption : TK S _))) (by first | assumption | exact (RNV_FR hFT15 rfl (by assumption : RNV S _))) (by first | assumption | omega) (by rw [(hFT15.cx 951 rfl _).1]; have t := h3 v5 (by omega) (by omega); rw [show Xi T14 904 71 = Xi S 904 71 by omega]; exact t) (by have t := lcn_le hHT14 L55; omega) _) ?_
        rintro _ T16 ⟨hHT16, w394, rfl, w392, e112, k112⟩
        have hFT16 : FR md_mo_doKinds S T16 := FR.tr hFT15 w394 rfl
        show Rl _ _ _ _ _ [] _ _
        have f112 : Xi T16 904 16 = Xi T15 904 16 ∧ Xi T16 904 18 = Xi T15 904 18 := ⟨(by assumption : FR md_mo_tellRun T15 T16).x 904 16 rfl, (by assumption : FR md_mo_tellRun T15 T16).x 904 18 rfl⟩
        have g112 : GR T16 T14 := GR_FR (by assumption : FR md_mo_tellRun T15 T16) rfl g102
        have x112 : LXK T16 T14 (Xi T14 904 15) := x102.tr k112 (by omega)
        have d112 : Xi T16 914 (Xi T14 904 15).toNat = 0 ∧ Xi T16 915 (Xi T14 904 15).toNat = Xi T14 904 16 := by rw [← c102]; exact ⟨e112.1, by rw [e112.2]; omega⟩
        have c112 : 0 ≤ Xi T14 904 15 := (hHT14.c 904 15).1
        have M112 : LXM T16 := lxm_gr M55 x112 g112 (by omega) (Or.inr ⟨by omega, by rw [d112.1, d112.2, cM0]; omega⟩)
        have P112 : PLB T16 v1 v2 := plb_add P55 x112 (by omega) (by omega) (fun q => by rw [d112.1] at q; omega) (fun q => by rw [d112.1] at q; omega)
        have z112_19 : Xi T16 904 19 = Xi T14 904 19 := (hFT16.x 904 19 rfl).trans (hFT14.x 904 19 rfl).symm
        have z112_23 : Xi T16 904 23 = Xi T14 904 23 := (hFT16.x 904 23 rfl).trans (hFT14.x 904 23 rfl).symm
        have z112_30 : Xi T16 904 30 = Xi T14 904 30 := (hFT16.x 904 30 rfl).trans (hFT14.x 904 30 rfl).symm
        have z112_32 : Xi T16 904 32 = Xi T14 904 32 := (hFT16.x 904 32 rfl).trans (hFT14.x 904 32 rfl).symm
        have z112_41 : Xi T16 904 41 = Xi T14 904 41 := (hFT16.x 904 41 rfl).trans (hFT14.x 904 41 rfl).symm
        have z112_47 : Xi T16 904 47 = Xi T14 904 47 := (hFT16.x 904 47 rfl).trans (hFT14.x 904 47 rfl).symm
        have z112_49 : Xi T16 904 49 = Xi T14 904 49 := (hFT16.x 904 49 rfl).trans (hFT14.x 904 49 rfl).symm
        have L112 : LCN T16 := lcn_i L55 (pls_le x112 (by omega) (by omega) (by omega)) (by omega)
        have G112 : GR T16 S := G55.tr g112
        have C112 : KCT S T16 v3 (v5 + 1) := ⟨fun _ => ⟨by omega, by omega⟩, fun q => absurd q (by omega)⟩
        refine l_iinc rfl rfl rfl rfl ?_
        refine l_goto rfl rfl ?_
        have w395 : 0 ≤ Xi T16 904 15 ∧ Xi T16 904 15 ≤ 300 := hHT16.c _ _
        have w396 : Xi T16 904 16 = Xi T15 904 16 := (show Xi T16 904 16 = Xi T15 904 16 from w394.x _ _ rfl)
        have w398 : Xi T16 904 18 = Xi T14 904 18 := (show Xi T16 904 18 = Xi T15 904 18 from w394.x _ _ rfl).trans ((show Xi T15 904 18 = Xi T14 904 18 from w379.x _ _ rfl))
        have w400 : Xi T16 904 69 = Xi T14 904 69 := (show Xi T16 904 69 = Xi T15 904 69 from w394.x _ _ rfl).trans ((show Xi T15 904 69 = Xi T14 904 69 from w379.x _ _ rfl))
        have w402 : Xi T16 904 71 = Xi T14 904 71 := (show Xi T16 904 71 = Xi T15 904 71 from w394.x _ _ rfl).trans ((show Xi T15 904 71 = Xi T14 904 71 from w379.x _ _ rfl))
        have w404 : Xi T16 904 72 = Xi T14 904 72 := (show Xi T16 904 72 = Xi T15 904 72 from w394.x _ _ rfl).trans ((show Xi T15 904 72 = Xi T14 904 72 from w379.x _ _ rfl))
        exact Rl_weak (ih55 _ (by omega) T16 hHT16 hFT16 (v1) (v2) (v3) (v4) ((v5 + 1)) (by omega) (by omega) (by omega) (by omega) (by omega) (by omega) (by omega) (by assumption) (by omega) (by omega) (by omega) (by omega) (by omega) (by first | exact C91 | exact C112 | exact ⟨fun _ => ⟨by omega, by omega⟩, fun _ => ⟨by omega, by omega⟩⟩) (by first | assumption | exact (TXM_FR w394 rfl (by assumption : TXM T15))) (by first | assumption | exact (ABV_FR w394 rfl (by assumption : ABV T15))) (by first | assumption | exact (by assumption : LXM T16)) (by first | assumption | exact (by assumption : LCN T16)) (by first | assumption | exact GR.rf) (by first | assumption | (rw [show v1 = Xi S 904 16 by omega, show v2 = Xi S 904 18 by omega]; exact plb_0 hM)) rfl) (And.intro rfl (And.intro rfl (And.intro rfl (And.intro rfl (And.intro rfl (And.intro rfl (True.intro)))))))
      · refine l_aload_n rfl rfl ?_
        refine l_iconst rfl ?_
        have k69 : Xi T14 904 18 = Xi S 904 18 + v5 ∧ Xi T14 904 16 = Xi S 904 16 := C55.2 (by omega)
        have m69 : Xi S 904 18 + Xi S 904 72 ≤ 8 := hZ.1 (Y55.1 (by omega))
        refine l_aload_n rfl rfl ?_
        refine l_gfi rfl rfl rfl rfl rfl ?_
        have w406 : 0 ≤ (Xi T14 904 18) ∧ (Xi T14 904 18) ≤ 8 := hHT14.c _ _
        refine l_aload_n rfl rfl ?_
        refine l_gfi rfl rfl rfl rfl rfl ?_
        refine l_iload rfl rfl ?_
        refine l_iadd rfl ?_
        have w407 : 0 ≤ Xi T14 904 15 ∧ Xi T14 904 15 ≤ 300 := hHT14.c _ _
        have w408 : 0 ≤ Xi T14 904 16 ∧ Xi T14 904 16 ≤ 16 := hHT14.c _ _
        have w409 : 0 ≤ Xi T14 904 18 ∧ Xi T14 904 18 ≤ 8 := hHT14.c _ _
        refine l_callV rfl rfl rfl (t_mo_tellRun hHT14 n 2 (Xi T14 904 18) ((Xi T14 904 71) + v5) ⟨by omega, by omega⟩ ⟨by omega, by omega⟩ ⟨by omega, by omega⟩ (by first | assumption | exact (TK_FR hFT14 rfl (by assumption : TK S _))) (by first | assumption | exact (RNV_FR hFT14 rfl (by assumption : RNV S _))) (by first | assumption | omega) (by rw [(hFT14.cx 951 rfl _).1]; have t := h3 v5 (by omega) (by omega); rw [show Xi T14 904 71 = Xi S 904 71 by omega]; exact t) (by have t := lcn_le hHT14 L55; omega) _) ?_
        rintro _ T17 ⟨hHT17, w415, rfl, w413, e81, k81⟩
        have hFT17 : FR md_mo_doKinds S T17 := FR.tr hFT14 w415 rfl
        show Rl _ _ _ _ _ [] _ _
        have f81 : Xi T17 904 16 = Xi T14 904 16 ∧ Xi T17 904 18 = Xi T14 904 18 := ⟨(by assumption : FR md_mo_tellRun T14 T17).x 904 16 rfl, (by assumption : FR md_mo_tellRun T14 T17).x 904 18 rfl⟩
        have t81 : Xi T17 904 15 = Xi T14 904 15 + 1 := by omega
        have g81 : GR T17 T14 := GR_FR (by assumption : FR md_mo_tellRun T14 T17) rfl GR.rf
        refine l_aload_n rfl rfl ?_
        refine l_dup rfl rfl ?_
        refine l_gfi rfl rfl rfl rfl rfl ?_
        have w416 : (Xi T17 904 18) = (Xi T14 904 18) := (show Xi T17 904 18 = Xi T14 904 18 from w415.x _ _ rfl)
        rw [w416]
        refine l_iconst rfl ?_
        refine l_iadd rfl ?_
        refine l_pfi rfl rfl rfl rfl ?_
        obtain ⟨U18, eU18⟩ : ∃ T : sS, T = uI T17 904 18 (Int32.ofInt ((Xi T14 904 18) + 1)) := ⟨_, rfl⟩
        rw [← eU18]
        have hHU18 : HI U18 := by rw [eU18]; exact HI_w hHT17 (show 0 ≤ ((Xi T14 904 18) + 1) by omega) (show ((Xi T14 904 18) + 1) ≤ 8 by omega)
        have hFU18 : FR md_mo_doKinds S U18 := by rw [eU18]; exact FR.wI hFT17 (mdf_i (r := (904, 905, 18, 19)) (List.mem_of_getElem? (i := 2) rfl) (inR_i (by omega) (by omega) (by omega) (by omega)))
        have w417 : Xi U18 904 18 = ((Xi T14 904 18) + 1) := by rw [eU18]; exact Xi_same (by unfold rg; omega)
        have f91 : Xi U18 904 16 = Xi T17 904 16 ∧ Xi U18 904 15 = Xi T17 904 15 := ⟨by rw [eU18, Xi_ne (by omega)], by rw [eU18, Xi_ne (by omega)]⟩
        have g91 : GR U18 T14 := GR.w g81 eU18 (by unfold rg; omega) (by omega)
        have x91 : LXK U18 T14 (Xi T14 904 15) := k81.fr (FR_e eU18) rfl
        have d91 : Xi U18 914 (Xi T14 904 15).toNat = 2 ∧ Xi U18 915 (Xi T14 904 15).toNat = Xi T14 904 18 := ⟨by rw [eU18, Xi_ne (by omega)]; exact e81.1, by rw [eU18, Xi_ne (by omega)]; exact e81.2⟩
        have c91 : 0 ≤ Xi T14 904 15 := (hHT14.c 904 15).1
        have M91 : LXM U18 := lxm_gr M55 x91 g91 (by omega) (Or.inr ⟨by omega, by rw [d91.1, d91.2, cM2]; omega⟩)
        have P91 : PLB U18 v1 v2 := plb_add P55 x91 (by omega) (by omega) (fun q => by rw [d91.1] at q; omega) (fun q => by rw [d91.1] at q; omega)
        have z91_19 : Xi U18 904 19 = Xi T14 904 19 := (hFU18.x 904 19 rfl).trans (hFT14.x 904 19 rfl).symm
        have z91_23 : Xi U18 904 23 = Xi T14 904 23 := (hFU18.x 904 23 rfl).trans (hFT14.x 904 23 rfl).symm
        have z91_30 : Xi U18 904 30 = Xi T14 904 30 := (hFU18.x 904 30 rfl).trans (hFT14.x 904 30 rfl).symm
        have z91_32 : Xi U18 904 32 = Xi T14 904 32 := (hFU18.x 904 32 rfl).trans (hFT14.x 904 32 rfl).symm
        have z91_41 : Xi U18 904 41 = Xi T14 904 41 := (hFU18.x 904 41 rfl).trans (hFT14.x 904 41 rfl).symm
        have z91_47 : Xi U18 904 47 = Xi T14 904 47 := (hFU18.x 904 47 rfl).trans (hFT14.x 904 47 rfl).symm
        have z91_49 : Xi U18 904 49 = Xi T14 904 49 := (hFU18.x 904 49 rfl).trans (hFT14.x 904 49 rfl).symm
        have L91 : LCN U18 := lcn_i L55 (pls_le x91 (by omega) (by omega) (by omega)) (by omega)
        have G91 : GR U18 S := G55.tr g91
        have C91 : KCT S U18 v3 (v5 + 1) := ⟨fun q => absurd q (by omega), fun _ => ⟨by omega, by omega⟩⟩
        have X91 : TXM U18 := TXM_FR (FR_e eU18) rfl (TXM_FR (by assumption : FR md_mo_tellRun T14 T17) rfl X55)
        refine l_goto rfl rfl ?_
        refine l_iinc rfl rfl rfl rfl ?_
        refine l_goto rfl rfl ?_
        have w418 : Xi U18 904 15 = Xi T17 904 15 := (show Xi U18 904 15 = Xi T17 904 15 from by rw [eU18]; exact Xi_ne (by omega))
        have w419 : 0 ≤ Xi T17 904 15 ∧ Xi T17 904 15 ≤ 300 := hHT17.c _ _
        have w420 : Xi U18 904 16 = Xi T14 904 16 := (show Xi U18 904 16 = Xi T17 904 16 from by rw [eU18]; exact Xi_ne (by omega)).trans ((show Xi T17 904 16 = Xi T14 904 16 from w415.x _ _ rfl))
        have w422 : 0 ≤ Xi U18 904 18 ∧ Xi U18 904 18 ≤ 8 := hHU18.c _ _
        have w423 : Xi U18 904 69 = Xi T14 904 69 := (show Xi U18 904 69 = Xi T17 904 69 from by rw [eU18]; exact Xi_ne (by omega)).trans ((show Xi T17 904 69 = Xi T14 904 69 from w415.x _ _ rfl))
        have w425 : Xi U18 904 71 = Xi T14 904 71 := (show Xi U18 904 71 = Xi T17 904 71 from by rw [eU18]; exact Xi_ne (by omega)).trans ((show Xi T17 904 71 = Xi T14 904 71 from w415.x _ _ rfl))
        have w427 : Xi U18 904 72 = Xi T14 904 72 := (show Xi U18 904 72 = Xi T17 904 72 from by rw [eU18]; exact Xi_ne (by omega)).trans ((show Xi T17 904 72 = Xi T14 904 72 from w415.x _ _ rfl))
        exact Rl_weak (ih55 _ (by omega) U18 hHU18 hFU18 (v1) (v2) (v3) (v4) ((v5 + 1)) (by omega) (by omega) (by omega) (by omega) (by omega) (by omega) (by omega) (by assumption) (by omega) (by omega) (by omega) (by omega) (by omega) (by first | exact C91 | exact C112 | exact ⟨fun _ => ⟨by omega, by omega⟩, fun _ => ⟨by omega, by omega⟩⟩) (by first | assumption | exact (TXM_FR (FR_e eU18) rfl (TXM_FR w415 rfl (by assumption : TXM T14)))) (by first | assumption | exact (ABV_FR (FR_e eU18) rfl (ABV_FR w415 rfl (by assumption : ABV T14)))) (by first | assumption | exact (by assumption : LXM U18)) (by first | assumption | exact (by assumption : LCN U18)) (by first | assumption | exact GR.rf) (by first | assumption | (rw [show v1 = Xi S 904 16 by omega, show v2 = Xi S 904 18 by omega]; exact plb_0 hM)) rfl) (And.intro rfl (And.intro rfl (And.intro rfl (And.intro rfl (And.intro rfl (And.intro rfl (True.intro)))))))
set_option maxRecDepth 100000 in
set_option maxHeartbeats 4000000 in
theorem c52_mo_doKinds {S : sS} (hH : HI S) (n : Nat) (hT : TK S n) (hv : RNV S n) (hM : LXM S) (hX : TXM S) (hLC : LCN S) (hB : ABV S) (hl : Xi S 904 71 + Xi S 904 72 ≤ Xi S 904 69) (hw : Xi S 904 78 < Xi S 904 69) (hT2 : Xi S 904 78 = -2 → Xi S 904 18 + Xi S 904 72 ≤ 8) (hK2 : Xi S 904 78 ≠ -2 → Xi S 904 16 + Xi S 904 72 ≤ 16) (h0 : 0 ≤ Xi S 904 78 → rnR S (Xi S 904 78) 0 ≠ -1) (h3 : ∀ i : Int, 0 ≤ i → i < Xi S 904 72 → Xi S 951 (Xi S 904 71 + i).toNat ≤ 3) (h1 : 1 ≤ Xi S 904 16) (d : Nat) : ∀  (v1 : Int) (v2 : Int) (v3 : Int) (v4 : Int), (0 ≤ v1 ∧ v1 ≤ 16) → (0 ≤ v2 ∧ v2 ≤ 8) → (0 ≤ v3 ∧ v3 ≤ 1) → (0 ≤ v4 ∧ v4 ≤ 15) → (v1 = Xi S 904 16) → (v2 = Xi S 904 18) → (VKY S v3) → (v4 < Xi S 904 16) → Rl lay0 (d + 4) m_mo_doKinds 52 [(0, .ref 904), (1, iv v1), (2, iv v2), (3, iv v3), (4, iv v4)] [] S (Q_mo_doKinds S n) := by
  have C55 := c55_mo_doKinds hH n hT hv hM hX hLC hB hl hw hT2 hK2 h0 h3 h1 d 
  have hF : FR md_mo_doKinds S S := FR.rf
  have w1 : 0 ≤ Xi S 904 16 ∧ Xi S 904 16 ≤ 16 := hH.c _ _
  have w2 : 0 ≤ Xi S 904 18 ∧ Xi S 904 18 ≤ 8 := hH.c _ _
  have w3 : 0 ≤ Xi S 904 69 ∧ Xi S 904 69 ≤ 2600 := hH.c _ _
  have w4 : 0 ≤ Xi S 904 71 ∧ Xi S 904 71 ≤ 2600 := hH.c _ _
  have w5 : 0 ≤ Xi S 904 72 ∧ Xi S 904 72 ≤ 2600 := hH.c _ _
  have w6 : -2 ≤ Xi S 904 78 ∧ Xi S 904 78 ≤ 5010 := hH.c _ _
  have hn5 := hT.1
  have hc69 : 0 ≤ Xi S 904 69 ∧ Xi S 904 69 ≤ 2600 := hH.c _ _
  have hc71 : 0 ≤ Xi S 904 71 ∧ Xi S 904 71 ≤ 2600 := hH.c _ _
  have hc72 : 0 ≤ Xi S 904 72 ∧ Xi S 904 72 ≤ 2600 := hH.c _ _
  have hrf : ∀ r : Int, 0 ≤ r → r < Xi S 904 69 → Xi S 950 r.toNat ≤ n := fun r a b => by have := hv r.toNat (by omega); omega
  have hc15 : 0 ≤ Xi S 904 15 ∧ Xi S 904 15 ≤ 300 := hH.c _ _
  have hl9 := lcn_le hH hLC
  have hc16 : 0 ≤ Xi S 904 16 ∧ Xi S 904 16 ≤ 16 := hH.c _ _
  have hc18 : 0 ≤ Xi S 904 18 ∧ Xi S 904 18 ≤ 8 := hH.c _ _
  have hc78 : -2 ≤ Xi S 904 78 := (hH.c 904 78).1
  have hZ : KZK S := ⟨hT2, hK2, h0⟩
  clear hT2 hK2 h0
  have hrg : ∀ i : Int, 0 ≤ i → i < Xi S 904 72 → Xi S 950 (Xi S 904 71 + i).toNat + Xi S 951 (Xi S 904 71 + i).toNat ≤ n ∧ 1 ≤ Xi S 951 (Xi S 904 71 + i).toNat := fun i a b => hv (Xi S 904 71 + i).toNat (by omega)
  intro v1 v2 v3 v4 w429 w430 w431 w432 w433 w434 Y52 w435
  refine l_iconst rfl ?_
  refine l_istore rfl rfl rfl ?_
  have w436 : 0 ≤ Xi S 904 15 ∧ Xi S 904 15 ≤ 300 := hH.c _ _
  exact Rl_weak (C55 _ S hH hF (v1) (v2) (v3) (v4) (0) (by omega) (by omega) (by omega) (by omega) (by omega) (by omega) (by omega) (by assumption) (by omega) (by omega) (by omega) (by omega) (by omega) (by first | exact C91 | exact C112 | exact ⟨fun _ => ⟨by omega, by omega⟩, fun _ => ⟨by omega, by omega⟩⟩) (by first | assumption | exact (by assumption : TXM S)) (by first | assumption | exact (by assumption : ABV S)) (by first | assumption | exact (by assumption : LXM S)) (by first | assumption | exact (by assumption : LCN S)) (by first | assumption | exact GR.rf) (by first | assumption | (rw [show v1 = Xi S 904 16 by omega, show v2 = Xi S 904 18 by omega]; exact plb_0 hM)) rfl) (And.intro rfl (And.intro rfl (And.intro rfl (And.intro rfl (And.intro rfl (And.intro rfl (True.intro)))))))
set_option maxRecDepth 100000 in
set_option maxHeartbeats 4000000 in
theorem c25_mo_doKinds {S : sS} (hH : HI S) (n : Nat) (hT : TK S n) (hv : RNV S n) (hM : LXM S) (hX : TXM S) (hLC : LCN S) (hB : ABV S) (hl : Xi S 904 71 + Xi S 904 72 ≤ Xi S 904 69) (hw : Xi S 904 78 < Xi S 904 69) (hT2 : Xi S 904 78 = -2 → Xi S 904 18 + Xi S 904 72 ≤ 8) (hK2 : Xi S 904 78 ≠ -2 → Xi S 904 16 + Xi S 904 72 ≤ 16) (h0 : 0 ≤ Xi S 904 78 → rnR S (Xi S 904 78) 0 ≠ -1) (h3 : ∀ i : Int, 0 ≤ i → i < Xi S 904 72 → Xi S 951 (Xi S 904 71 + i).toNat ≤ 3) (h1 : 1 ≤ Xi S 904 16) (d : Nat) : ∀  (v1 : Int) (v2 : Int) (v3 : Int), (0 ≤ v1 ∧ v1 ≤ 16) → (0 ≤ v2 ∧ v2 ≤ 8) → (0 ≤ v3 ∧ v3 ≤ 1) → (v1 = Xi S 904 16) → (v2 = Xi S 904 18) → (VKY S v3) → Rl lay0 (d + 4) m_mo_doKinds 25 [(0, .ref 904), (1, iv v1), (2, iv v2), (3, iv v3)] [] S (Q_mo_doKinds S n) := by
  have C52 := c52_mo_doKinds hH n hT hv hM hX hLC hB hl hw hT2 hK2 h0 h3 h1 d 
  have hF : FR md_mo_doKinds S S := FR.rf
  have w1 : 0 ≤ Xi S 904 16 ∧ Xi S 904 16 ≤ 16 := hH.c _ _
  have w2 : 0 ≤ Xi S 904 18 ∧ Xi S 904 18 ≤ 8 := hH.c _ _
  have w3 : 0 ≤ Xi S 904 69 ∧ Xi S 904 69 ≤ 2600 := hH.c _ _
  have w4 : 0 ≤ Xi S 904 71 ∧ Xi S 904 71 ≤ 2600 := hH.c _ _
  have w5 : 0 ≤ Xi S 904 72 ∧ Xi S 904 72 ≤ 2600 := hH.c _ _
  have w6 : -2 ≤ Xi S 904 78 ∧ Xi S 904 78 ≤ 5010 := hH.c _ _
  have hn5 := hT.1
  have hc69 : 0 ≤ Xi S 904 69 ∧ Xi S 904 69 ≤ 2600 := hH.c _ _
  have hc71 : 0 ≤ Xi S 904 71 ∧ Xi S 904 71 ≤ 2600 := hH.c _ _
  have hc72 : 0 ≤ Xi S 904 72 ∧ Xi S 904 72 ≤ 2600 := hH.c _ _
  have hrf : ∀ r : Int, 0 ≤ r → r < Xi S 904 69 → Xi S 950 r.toNat ≤ n := fun r a b => by have := hv r.toNat (by omega); omega
  have hc15 : 0 ≤ Xi S 904 15 ∧ Xi S 904 15 ≤ 300 := hH.c _ _
  have hl9 := lcn_le hH hLC
  have hc16 : 0 ≤ Xi S 904 16 ∧ Xi S 904 16 ≤ 16 := hH.c _ _
  have hc18 : 0 ≤ Xi S 904 18 ∧ Xi S 904 18 ≤ 8 := hH.c _ _
  have hc78 : -2 ≤ Xi S 904 78 := (hH.c 904 78).1
  have hZ : KZK S := ⟨hT2, hK2, h0⟩
  clear hT2 hK2 h0
  have hrg : ∀ i : Int, 0 ≤ i → i < Xi S 904 72 → Xi S 950 (Xi S 904 71 + i).toNat + Xi S 951 (Xi S 904 71 + i).toNat ≤ n ∧ 1 ≤ Xi S 951 (Xi S 904 71 + i).toNat := fun i a b => hv (Xi S 904 71 + i).toNat (by omega)
  intro v1 v2 v3 w442 w443 w444 w445 w446 Y25
  refine l_iload_n rfl rfl ?_
  refine l_if_ne rfl rfl (by unfold rg; omega) (fun w447 => ?_) (fun w448 => ?_)
  · refine l_iconst rfl ?_
    refine l_goto rfl rfl ?_
    refine l_istore rfl rfl rfl ?_
    have w449 : 0 ≤ Xi S 904 15 ∧ Xi S 904 15 ≤ 300 := hH.c _ _
    exact Rl_weak (C52 (v1) (v2) (v3) (0) (by omega) (by omega) (by omega) (by omega) (by omega) (by omega) (by assumption) (by omega)) (And.intro rfl (And.intro rfl (And.intro rfl (And.intro rfl (And.intro rfl (True.intro))))))
  · refine l_aload_n rfl rfl ?_
    have n29 : Xi S 904 78 ≠ -2 := Y25.2 (by omega)
    refine l_gfi rfl rfl rfl rfl rfl ?_
    refine l_iconst rfl ?_
    refine l_icmp_ne rfl rfl (by unfold rg; omega) (by unfold rg; omega) (fun w455 => ?_) (fun w456 => ?_)
    · refine l_aload_n rfl rfl ?_
      refine l_aload_n rfl rfl ?_
      refine l_gfi rfl rfl rfl rfl rfl ?_
      refine l_iconst rfl ?_
      refine l_callV rfl rfl rfl (t_mo_meansRun__2 hH n (Xi S 904 78) 0 ⟨by omega, by omega⟩ ⟨by omega, by omega⟩ (by first | assumption | exact (TK_FR hF rfl (by assumption : TK S _))) (by first | assumption | exact (RNV_FR hF rfl (by assumption : RNV S _))) (by first | assumption | omega) (by first | assumption | exact (by assumption : LXM S)) _) ?_
      rintro _ _ ⟨rfl, z465, rfl, w465, w463, w464⟩
      show Rl _ _ _ _ _ [iv z465] _ _
      have x47 : z465 ≠ -1 → z465 < Xi S 904 16 := fun q => by have t := (by assumption : z465 ≠ -1 → z465 < cM S 0) q; rw [cM0] at t; exact t
      have r47 : z465 = rnR S (Xi S 904 78) 0 := by assumption
      have z47 : rnR S (Xi S 904 78) 0 ≠ -1 := hZ.2.2 (by omega)
      refine l_istore rfl rfl rfl ?_
      have w466 : 0 ≤ Xi S 904 15 ∧ Xi S 904 15 ≤ 300 := hH.c _ _
      exact Rl_weak (C52 (v1) (v2) (v3) (z465) (by omega) (by omega) (by omega) (by omega) (by omega) (by omega) (by assumption) (by omega)) (And.intro rfl (And.intro rfl (And.intro rfl (And.intro rfl (And.intro rfl (True.intro))))))
    · refine l_iconst rfl ?_
      refine l_goto rfl rfl ?_
      refine l_istore rfl rfl rfl ?_
      have w472 : 0 ≤ Xi S 904 15 ∧ Xi S 904 15 ≤ 300 := hH.c _ _
      exact Rl_weak (C52 (v1) (v2) (v3) (0) (by omega) (by omega) (by omega) (by omega) (by omega) (by omega) (by assumption) (by omega)) (And.intro rfl (And.intro rfl (And.intro rfl (And.intro rfl (And.intro rfl (True.intro))))))
set_option maxRecDepth 100000 in
set_option maxHeartbeats 4000000 in
theorem t_mo_doKinds {S : sS} (hH : HI S) (n : Nat) (hT : TK S n) (hv : RNV S n) (hM : LXM S) (hX : TXM S) (hLC : LCN S) (hB : ABV S) (hl : Xi S 904 71 + Xi S 904 72 ≤ Xi S 904 69) (hw : Xi S 904 78 < Xi S 904 69) (hT2 : Xi S 904 78 = -2 → Xi S 904 18 + Xi S 904 72 ≤ 8) (hK2 : Xi S 904 78 ≠ -2 → Xi S 904 16 + Xi S 904 72 ≤ 16) (h0 : 0 ≤ Xi S 904 78 → rnR S (Xi S 904 78) 0 ≠ -1) (h3 : ∀ i : Int, 0 ≤ i → i < Xi S 904 72 → Xi S 951 (Xi S 904 71 + i).toNat ≤ 3) (h1 : 1 ≤ Xi S 904 16) (d : Nat) : Mt lay0 (d + 5) m_mo_doKinds [.ref 904] S (Q_mo_doKinds S n) := by
  refine Mt_R rfl rfl ?_
  have C124 := c124_mo_doKinds hH n hT hv hM hX hLC hB hl hw hT2 hK2 h0 h3 h1 d 
  have C55 := c55_mo_doKinds hH n hT hv hM hX hLC hB hl hw hT2 hK2 h0 h3 h1 d 
  have C52 := c52_mo_doKinds hH n hT hv hM hX hLC hB hl hw hT2 hK2 h0 h3 h1 d 
  have C25 := c25_mo_doKinds hH n hT hv hM hX hLC hB hl hw hT2 hK2 h0 h3 h1 d 
  have hF : FR md_mo_doKinds S S := FR.rf
  have w1 : 0 ≤ Xi S 904 16 ∧ Xi S 904 16 ≤ 16 := hH.c _ _
  have w2 : 0 ≤ Xi S 904 18 ∧ Xi S 904 18 ≤ 8 := hH.c _ _
  have w3 : 0 ≤ Xi S 904 69 ∧ Xi S 904 69 ≤ 2600 := hH.c _ _
  have w4 : 0 ≤ Xi S 904 71 ∧ Xi S 904 71 ≤ 2600 := hH.c _ _
  have w5 : 0 ≤ Xi S 904 72 ∧ Xi S 904 72 ≤ 2600 := hH.c _ _
  have w6 : -2 ≤ Xi S 904 78 ∧ Xi S 904 78 ≤ 5010 := hH.c _ _
  have hn5 := hT.1
  have hc69 : 0 ≤ Xi S 904 69 ∧ Xi S 904 69 ≤ 2600 := hH.c _ _
  have hc71 : 0 ≤ Xi S 904 71 ∧ Xi S 904 71 ≤ 2600 := hH.c _ _
  have hc72 : 0 ≤ Xi S 904 72 ∧ Xi S 904 72 ≤ 2600 := hH.c _ _
  have hrf : ∀ r : Int, 0 ≤ r → r < Xi S 904 69 → Xi S 950 r.toNat ≤ n := fun r a b => by have := hv r.toNat (by omega); omega
  have hc15 : 0 ≤ Xi S 904 15 ∧ Xi S 904 15 ≤ 300 := hH.c _ _
  have hl9 := lcn_le hH hLC
  have hc16 : 0 ≤ Xi S 904 16 ∧ Xi S 904 16 ≤ 16 := hH.c _ _
  have hc18 : 0 ≤ Xi S 904 18 ∧ Xi S 904 18 ≤ 8 := hH.c _ _
  have hc78 : -2 ≤ Xi S 904 78 := (hH.c 904 78).1
  have hZ : KZK S := ⟨hT2, hK2, h0⟩
  clear hT2 hK2 h0
  have hrg : ∀ i : Int, 0 ≤ i → i < Xi S 904 72 → Xi S 950 (Xi S 904 71 + i).toNat + Xi S 951 (Xi S 904 71 + i).toNat ≤ n ∧ 1 ≤ Xi S 951 (Xi S 904 71 + i).toNat := fun i a b => hv (Xi S 904 71 + i).toNat (by omega)
  refine l_aload_n rfl rfl ?_
  refine l_gfi rfl rfl rfl rfl rfl ?_
  refine l_istore_n rfl rfl rfl ?_
  refine l_aload_n rfl rfl ?_
  refine l_gfi rfl rfl rfl rfl rfl ?_
  refine l_istore_n rfl rfl rfl ?_
  refine l_aload_n rfl rfl ?_
  refine l_gfi rfl rfl rfl rfl rfl ?_
  refine l_bipush rfl rfl ?_
  refine l_icmp_ne rfl rfl (by unfold rg; omega) (by unfold rg; omega) (fun w478 => ?_) (fun w479 => ?_)
  · refine l_iconst rfl ?_
    refine l_istore_n rfl rfl rfl ?_
    have w480 : 0 ≤ Xi S 904 15 ∧ Xi S 904 15 ≤ 300 := hH.c _ _
    exact Rl_weak (C25 ((Xi S 904 16)) ((Xi S 904 18)) (0) (by omega) (by omega) (by omega) (by omega) (by omega) (⟨fun q => by omega, fun q => by omega⟩)) (And.intro rfl (And.intro rfl (And.intro rfl (And.intro rfl (True.intro)))))
  · refine l_iconst rfl ?_
    refine l_goto rfl rfl ?_
    refine l_istore_n rfl rfl rfl ?_
    have w486 : 0 ≤ Xi S 904 15 ∧ Xi S 904 15 ≤ 300 := hH.c _ _
    exact Rl_weak (C25 ((Xi S 904 16)) ((Xi S 904 18)) (1) (by omega) (by omega) (by omega) (by omega) (by omega) (⟨fun q => by omega, fun q => by omega⟩)) (And.intro rfl (And.intro rfl (And.intro rfl (And.intro rfl (True.intro)))))
