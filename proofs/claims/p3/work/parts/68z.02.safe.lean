/-! SAFETY of methods: printed by wip/safe (vc.py, decl.py) -/
def md_mo_mustBeNew__2 : List rec := [(904, 905, 104, 105), (904, 905, 105, 106), (904, 905, 106, 107), (904, 905, 108, 109), (966, 967, 0, 100000)]
abbrev Q_mo_mustBeNew__2 (S : sS) (n : Nat) (rn : Int) (there : Int) (most : Int) : pst := fun r S1 => HI S1 ∧ FR md_mo_mustBeNew__2 S S1 ∧ (r = none ∧ (Xi S 904 106 ≠ 0 → Xi S1 904 106 ≠ 0) ∧ (Xi S1 904 106 = 0 → there < most ∧ nwR S rn) ∧ (NWV S1) ∧ (Xi S 904 108 ≤ Xi S1 904 108 ∧ Xi S1 904 108 ≤ Xi S 904 108 + 1) ∧ (Xi S1 904 106 = 0 → Xi S1 904 108 = Xi S 904 108 + 1))
set_option maxRecDepth 100000 in
theorem t_mo_mustBeNew__2 {S : sS} (hH : HI S) (n : Nat) (rn : Int) (there : Int) (most : Int) (hrn : 0 ≤ rn ∧ rn ≤ 2599) (hthere : -2147483648 ≤ there ∧ there ≤ 2147483647) (hmost : -2147483648 ≤ most ∧ most ≤ 2147483647) (hT : TK S n) (hv : RNV S n) (hrr : rn < Xi S 904 69) (hN : NWV S) (h9 : Xi S 904 108 ≤ 2599) (d : Nat) : Mt lay0 (d + 4) m_mo_mustBeNew [.ref 904, iv rn, iv there, iv most] S (Q_mo_mustBeNew__2 S n rn there most) := by
  refine Mt_R rfl rfl ?_
  have hF : FR md_mo_mustBeNew__2 S S := FR.rf
  have w1 : 0 ≤ Xi S 904 106 ∧ Xi S 904 106 ≤ 9 := hH.c _ _
  have w2 : 0 ≤ Xi S 904 108 ∧ Xi S 904 108 ≤ 2600 := hH.c _ _
  have w3 : 0 ≤ Xi S 904 69 ∧ Xi S 904 69 ≤ 2600 := hH.c _ _
  have hn5 := hT.1
  have hq := hv rn.toNat (by omega)
  have hq0 : 0 ≤ Xi S 950 rn.toNat ∧ Xi S 950 rn.toNat ≤ 5010 := hH.c 950 rn.toNat
  have hc69 : 0 ≤ Xi S 904 69 ∧ Xi S 904 69 ≤ 2600 := hH.c _ _
  refine l_aload_n rfl rfl ?_
  refine l_iload_n rfl rfl ?_
  have w4 : 0 ≤ Xi S 904 106 ∧ Xi S 904 106 ≤ 9 := hH.c _ _
  have w5 : 0 ≤ Xi S 904 108 ∧ Xi S 904 108 ≤ 2600 := hH.c _ _
  have w6 : 0 ≤ Xi S 904 69 ∧ Xi S 904 69 ≤ 2600 := hH.c _ _
  refine l_callV rfl rfl rfl (t_mo_isNew hH n rn ⟨by omega, by omega⟩ (by first | assumption | exact (TK_FR hF rfl (by assumption : TK S _))) (by first | assumption | exact (RNV_FR hF rfl (by assumption : RNV S _))) (by first | assumption | omega) (by first | assumption | exact (by assumption : NWV S)) _) ?_
  rintro _ _ ⟨rfl, z7, rfl, w7, f2⟩
  show Rl _ _ _ _ _ [iv z7] _ _
  refine l_if_eq rfl rfl (by unfold rg; omega) (fun w8 => ?_) (fun w9 => ?_)
  · refine l_aload_n rfl rfl ?_
    refine l_iconst rfl ?_
    refine l_aload_n rfl rfl ?_
    refine l_gfr rfl rfl rfl rfl rfl (hH.r 904 67 950 rfl) ?_
    refine l_iload_n rfl rfl ?_
    refine l_iaload (n := 2600) rfl rfl (by omega) (by omega) (by unfold rg; omega) ?_
    have w10 : 0 ≤ (Xi S 950 ((rn).toNat)) ∧ (Xi S 950 ((rn).toNat)) ≤ 5010 := hH.c _ _
    have w11 : 0 ≤ Xi S 904 106 ∧ Xi S 904 106 ≤ 9 := hH.c _ _
    have w12 : 0 ≤ Xi S 904 108 ∧ Xi S 904 108 ≤ 2600 := hH.c _ _
    have w13 : 0 ≤ Xi S 904 69 ∧ Xi S 904 69 ≤ 2600 := hH.c _ _
    refine l_callV rfl rfl rfl (t_mo_note hH 3 (Xi S 950 ((rn).toNat)) ⟨by omega, by omega⟩ ⟨by omega, by omega⟩ _) ?_
    rintro _ T1 ⟨hHT1, w16, rfl, w14⟩
    have hFT1 : FR md_mo_mustBeNew__2 S T1 := FR.tr hF w16 rfl
    show Rl _ _ _ _ _ [] _ _
    refine l_return rfl rfl ?_
    have w17 : 0 ≤ Xi T1 904 106 ∧ Xi T1 904 106 ≤ 9 := hHT1.c _ _
    have w18 : Xi T1 904 108 = Xi S 904 108 := (show Xi T1 904 108 = Xi S 904 108 from w16.x _ _ rfl)
    have w19 : 0 ≤ Xi S 904 108 ∧ Xi S 904 108 ≤ 2600 := hH.c _ _
    have w20 : Xi T1 904 69 = Xi S 904 69 := (show Xi T1 904 69 = Xi S 904 69 from w16.x _ _ rfl)
    have w21 : 0 ≤ Xi S 904 69 ∧ Xi S 904 69 ≤ 2600 := hH.c _ _
    exact ⟨hHT1, hFT1, rfl, (by omega), (fun q => by first | exact ⟨by omega, f2.1 (by omega)⟩ | (exfalso; omega)), (by first | exact N47 | exact NWV_FR (by assumption : FR md_mo_note S T1) rfl hN), (by omega), (by first | omega | exact fun q => absurd q (by omega))⟩
  · refine l_aload_n rfl rfl ?_
    refine l_iload_n rfl rfl ?_
    refine l_iload_n rfl rfl ?_
    refine l_icmp_ge rfl rfl (by unfold rg; omega) (by unfold rg; omega) (fun w22 => ?_) (fun w23 => ?_)
    · refine l_iconst rfl ?_
      refine l_bipush rfl rfl ?_
      refine l_aload_n rfl rfl ?_
      refine l_gfr rfl rfl rfl rfl rfl (hH.r 904 67 950 rfl) ?_
      refine l_iload_n rfl rfl ?_
      refine l_iaload (n := 2600) rfl rfl (by omega) (by omega) (by unfold rg; omega) ?_
      have w24 : 0 ≤ (Xi S 950 ((rn).toNat)) ∧ (Xi S 950 ((rn).toNat)) ≤ 5010 := hH.c _ _
      have w25 : 0 ≤ Xi S 904 106 ∧ Xi S 904 106 ≤ 9 := hH.c _ _
      have w26 : 0 ≤ Xi S 904 108 ∧ Xi S 904 108 ≤ 2600 := hH.c _ _
      have w27 : 0 ≤ Xi S 904 69 ∧ Xi S 904 69 ≤ 2600 := hH.c _ _
      refine l_callV rfl rfl rfl (t_mo_need hH 0 9 (Xi S 950 ((rn).toNat)) ⟨by omega, by omega⟩ ⟨by omega, by omega⟩ ⟨by omega, by omega⟩ _) ?_
      rintro _ T2 ⟨hHT2, w31, rfl, w28, w29⟩
      have hFT2 : FR md_mo_mustBeNew__2 S T2 := FR.tr hF w31 rfl
      show Rl _ _ _ _ _ [] _ _
      refine l_aload_n rfl rfl ?_
      refine l_gfr rfl rfl rfl rfl rfl (hHT2.r 904 107 966 rfl) ?_
      refine l_aload_n rfl rfl ?_
      refine l_gfi rfl rfl rfl rfl rfl ?_
      have w32 : (Xi T2 904 108) = (Xi S 904 108) := (show Xi T2 904 108 = Xi S 904 108 from w31.x _ _ rfl)
      rw [w32]
      refine l_iload_n rfl rfl ?_
      refine l_iastore (n := 2600) rfl rfl (by omega) (by omega) (by unfold rg; omega) ?_
      obtain ⟨U3, eU3⟩ : ∃ T : sS, T = uI T2 966 (((Xi S 904 108)).toNat) (Int32.ofInt rn) := ⟨_, rfl⟩
      rw [← eU3]
      have hHU3 : HI U3 := by rw [eU3]; exact HI_w hHT2 (show 0 ≤ rn by omega) (show rn ≤ 2600 by omega)
      have hFU3 : FR md_mo_mustBeNew__2 S U3 := by rw [eU3]; exact FR.wI hFT2 (mdf_i (r := (966, 967, 0, 100000)) (List.mem_of_getElem? (i := 4) rfl) (inR_i (by omega) (by omega) (by omega) (by omega)))
      have w33 : Xi U3 966 (((Xi S 904 108)).toNat) = rn := by rw [eU3]; exact Xi_same (by unfold rg; omega)
      have n39 : ∀ k : Nat, (k : Int) < Xi S 904 108 → Xi U3 966 k < Xi S 904 69 := fun k hk => by rw [eU3, Xi_ne (by omega), ((by assumption : FR md_mo_need S T2).cx 966 rfl _).1]; exact hN k hk
      refine l_aload_n rfl rfl ?_
      refine l_dup rfl rfl ?_
      refine l_gfi rfl rfl rfl rfl rfl ?_
      have w34 : (Xi U3 904 108) = (Xi S 904 108) := (show Xi U3 904 108 = Xi T2 904 108 from by rw [eU3]; exact Xi_ne (by omega)).trans ((show Xi T2 904 108 = Xi S 904 108 from w31.x _ _ rfl))
      rw [w34]
      refine l_iconst rfl ?_
      refine l_iadd rfl ?_
      refine l_pfi rfl rfl rfl rfl ?_
      obtain ⟨U4, eU4⟩ : ∃ T : sS, T = uI U3 904 108 (Int32.ofInt ((Xi S 904 108) + 1)) := ⟨_, rfl⟩
      rw [← eU4]
      have hHU4 : HI U4 := by rw [eU4]; exact HI_w hHU3 (show 0 ≤ ((Xi S 904 108) + 1) by omega) (show ((Xi S 904 108) + 1) ≤ 2600 by omega)
      have hFU4 : FR md_mo_mustBeNew__2 S U4 := by rw [eU4]; exact FR.wI hFU3 (mdf_i (r := (904, 905, 108, 109)) (List.mem_of_getElem? (i := 3) rfl) (inR_i (by omega) (by omega) (by omega) (by omega)))
      have w35 : Xi U4 904 108 = ((Xi S 904 108) + 1) := by rw [eU4]; exact Xi_same (by unfold rg; omega)
      have N47 : NWV U4 := nwv_add n39 eU3 eU4 (by omega) (by omega) (by omega) (hFU4.x 904 69 rfl) (by omega) (by omega)
      refine l_goto rfl rfl ?_
      refine l_return rfl rfl ?_
      have w36 : Xi U4 904 106 = Xi T2 904 106 := (show Xi U4 904 106 = Xi U3 904 106 from by rw [eU4]; exact Xi_ne (by omega)).trans ((show Xi U3 904 106 = Xi T2 904 106 from by rw [eU3]; exact Xi_ne (by omega)))
      have w37 : 0 ≤ Xi T2 904 106 ∧ Xi T2 904 106 ≤ 9 := hHT2.c _ _
      have w38 : 0 ≤ Xi U4 904 108 ∧ Xi U4 904 108 ≤ 2600 := hHU4.c _ _
      have w39 : Xi U4 904 69 = Xi S 904 69 := (show Xi U4 904 69 = Xi U3 904 69 from by rw [eU4]; exact Xi_ne (by omega)).trans ( (show Xi U3 904 69 = Xi T2 904 69 from by rw [eU3]; exact Xi_ne (by omega)).trans ((show Xi T2 904 69 = Xi S 904 69 from w31.x _ _ rfl)))
      have w40 : 0 ≤ Xi S 904 69 ∧ Xi S 904 69 ≤ 2600 := hH.c _ _
      exact ⟨hHU4, hFU4, rfl, (by omega), (fun q => by first | exact ⟨by omega, f2.1 (by omega)⟩ | (exfalso; omega)), (by first | exact N47 | exact NWV_FR (by assumption : FR md_mo_note U3 U4) rfl hN), (by omega), (by first | omega | exact fun q => absurd q (by omega))⟩
    · refine l_iconst rfl ?_
      refine l_goto rfl rfl ?_
      refine l_bipush rfl rfl ?_
      refine l_aload_n rfl rfl ?_
      refine l_gfr rfl rfl rfl rfl rfl (hH.r 904 67 950 rfl) ?_
      refine l_iload_n rfl rfl ?_
      refine l_iaload (n := 2600) rfl rfl (by omega) (by omega) (by unfold rg; omega) ?_
      have w41 : 0 ≤ (Xi S 950 ((rn).toNat)) ∧ (Xi S 950 ((rn).toNat)) ≤ 5010 := hH.c _ _
      have w42 : 0 ≤ Xi S 904 106 ∧ Xi S 904 106 ≤ 9 := hH.c _ _
      have w43 : 0 ≤ Xi S 904 108 ∧ Xi S 904 108 ≤ 2600 := hH.c _ _
      have w44 : 0 ≤ Xi S 904 69 ∧ Xi S 904 69 ≤ 2600 := hH.c _ _
      refine l_callV rfl rfl rfl (t_mo_need hH 1 9 (Xi S 950 ((rn).toNat)) ⟨by omega, by omega⟩ ⟨by omega, by omega⟩ ⟨by omega, by omega⟩ _) ?_
      rintro _ T5 ⟨hHT5, w48, rfl, w45, w46⟩
      have hFT5 : FR md_mo_mustBeNew__2 S T5 := FR.tr hF w48 rfl
      show Rl _ _ _ _ _ [] _ _
      refine l_aload_n rfl rfl ?_
      refine l_gfr rfl rfl rfl rfl rfl (hHT5.r 904 107 966 rfl) ?_
      refine l_aload_n rfl rfl ?_
      refine l_gfi rfl rfl rfl rfl rfl ?_
      have w49 : (Xi T5 904 108) = (Xi S 904 108) := (show Xi T5 904 108 = Xi S 904 108 from w48.x _ _ rfl)
      rw [w49]
      refine l_iload_n rfl rfl ?_
      refine l_iastore (n := 2600) rfl rfl (by omega) (by omega) (by unfold rg; omega) ?_
      obtain ⟨U6, eU6⟩ : ∃ T : sS, T = uI T5 966 (((Xi S 904 108)).toNat) (Int32.ofInt rn) := ⟨_, rfl⟩
      rw [← eU6]
      have hHU6 : HI U6 := by rw [eU6]; exact HI_w hHT5 (show 0 ≤ rn by omega) (show rn ≤ 2600 by omega)
      have hFU6 : FR md_mo_mustBeNew__2 S U6 := by rw [eU6]; exact FR.wI hFT5 (mdf_i (r := (966, 967, 0, 100000)) (List.mem_of_getElem? (i := 4) rfl) (inR_i (by omega) (by omega) (by omega) (by omega)))
      have w50 : Xi U6 966 (((Xi S 904 108)).toNat) = rn := by rw [eU6]; exact Xi_same (by unfold rg; omega)
      have n39 : ∀ k : Nat, (k : Int) < Xi S 904 108 → Xi U6 966 k < Xi S 904 69 := fun k hk => by rw [eU6, Xi_ne (by omega), ((by assumption : FR md_mo_need S T5).cx 966 rfl _).1]; exact hN k hk
      refine l_aload_n rfl rfl ?_
      refine l_dup rfl rfl ?_
      refine l_gfi rfl rfl rfl rfl rfl ?_
      have w51 : (Xi U6 904 108) = (Xi S 904 108) := (show Xi U6 904 108 = Xi T5 904 108 from by rw [eU6]; exact Xi_ne (by omega)).trans ((show Xi T5 904 108 = Xi S 904 108 from w48.x _ _ rfl))
      rw [w51]
      refine l_iconst rfl ?_
      refine l_iadd rfl ?_
      refine l_pfi rfl rfl rfl rfl ?_
      obtain ⟨U7, eU7⟩ : ∃ T : sS, T = uI U6 904 108 (Int32.ofInt ((Xi S 904 108) + 1)) := ⟨_, rfl⟩
      rw [← eU7]
      have hHU7 : HI U7 := by rw [eU7]; exact HI_w hHU6 (show 0 ≤ ((Xi S 904 108) + 1) by omega) (show ((Xi S 904 108) + 1) ≤ 2600 by omega)
      have hFU7 : FR md_mo_mustBeNew__2 S U7 := by rw [eU7]; exact FR.wI hFU6 (mdf_i (r := (904, 905, 108, 109)) (List.mem_of_getElem? (i := 3) rfl) (inR_i (by omega) (by omega) (by omega) (by omega)))
      have w52 : Xi U7 904 108 = ((Xi S 904 108) + 1) := by rw [eU7]; exact Xi_same (by unfold rg; omega)
      have N47 : NWV U7 := nwv_add n39 eU6 eU7 (by omega) (by omega) (by omega) (hFU7.x 904 69 rfl) (by omega) (by omega)
      refine l_goto rfl rfl ?_
      refine l_return rfl rfl ?_
      have w53 : Xi U7 904 106 = Xi T5 904 106 := (show Xi U7 904 106 = Xi U6 904 106 from by rw [eU7]; exact Xi_ne (by omega)).trans ((show Xi U6 904 106 = Xi T5 904 106 from by rw [eU6]; exact Xi_ne (by omega)))
      have w54 : 0 ≤ Xi T5 904 106 ∧ Xi T5 904 106 ≤ 9 := hHT5.c _ _
      have w55 : 0 ≤ Xi U7 904 108 ∧ Xi U7 904 108 ≤ 2600 := hHU7.c _ _
      have w56 : Xi U7 904 69 = Xi S 904 69 := (show Xi U7 904 69 = Xi U6 904 69 from by rw [eU7]; exact Xi_ne (by omega)).trans ( (show Xi U6 904 69 = Xi T5 904 69 from by rw [eU6]; exact Xi_ne (by omega)).trans ((show Xi T5 904 69 = Xi S 904 69 from w48.x _ _ rfl)))
      have w57 : 0 ≤ Xi S 904 69 ∧ Xi S 904 69 ≤ 2600 := hH.c _ _
      exact ⟨hHU7, hFU7, rfl, (by omega), (fun q => by first | exact ⟨by omega, f2.1 (by omega)⟩ | (exfalso; omega)), (by first | exact N47 | exact NWV_FR (by assumption : FR md_mo_note U6 U7) rfl hN), (by omega), (by first | omega | exact fun q => absurd q (by omega))⟩
def md_mo_oneReading__2 : List rec := [(904, 905, 104, 105), (904, 905, 105, 106), (904, 905, 106, 107)]
abbrev Q_mo_oneReading__2 (S : sS) (t : Int) : pst := fun r S1 => HI S1 ∧ FR md_mo_oneReading__2 S S1 ∧ (r = none ∧ (Xi S 904 106 ≠ 0 → Xi S1 904 106 ≠ 0) ∧ (Xi S1 904 106 = 0 → Xi S 904 109 ≠ 0))
set_option maxRecDepth 100000 in
theorem t_mo_oneReading__2 {S : sS} (hH : HI S) (t : Int) (ht : 0 ≤ t ∧ t ≤ 5001) (d : Nat) : Mt lay0 (d + 4) m_mo_oneReading [.ref 904, iv t] S (Q_mo_oneReading__2 S t) := by
  refine Mt_R rfl rfl ?_
  have hF : FR md_mo_oneReading__2 S S := FR.rf
  have w1 : 0 ≤ Xi S 904 106 ∧ Xi S 904 106 ≤ 9 := hH.c _ _
  have w2 : -2147483648 ≤ Xi S 904 109 ∧ Xi S 904 109 ≤ 2147483647 := Xi_rgI
  refine l_aload_n rfl rfl ?_
  refine l_aload_n rfl rfl ?_
  refine l_gfi rfl rfl rfl rfl rfl ?_
  refine l_if_le rfl rfl (by unfold rg; omega) (fun w3 => ?_) (fun w4 => ?_)
  · refine l_iconst rfl ?_
    refine l_iconst rfl ?_
    refine l_iload_n rfl rfl ?_
    have w5 : 0 ≤ Xi S 904 106 ∧ Xi S 904 106 ≤ 9 := hH.c _ _
    refine l_callV rfl rfl rfl (t_mo_need hH 0 4 t ⟨by omega, by omega⟩ ⟨by omega, by omega⟩ ⟨by omega, by omega⟩ _) ?_
    rintro _ T1 ⟨hHT1, w9, rfl, w6, w7⟩
    have hFT1 : FR md_mo_oneReading__2 S T1 := FR.tr hF w9 rfl
    show Rl _ _ _ _ _ [] _ _
    refine l_aload_n rfl rfl ?_
    refine l_aload_n rfl rfl ?_
    refine l_gfi rfl rfl rfl rfl rfl ?_
    have w10 : (Xi T1 904 109) = (Xi S 904 109) := (show Xi T1 904 109 = Xi S 904 109 from w9.x _ _ rfl)
    rw [w10]
    refine l_iconst rfl ?_
    refine l_icmp_ge rfl rfl (by unfold rg; omega) (by unfold rg; omega) (fun w11 => ?_) (fun w12 => ?_)
    · refine l_iconst rfl ?_
      refine l_bipush rfl rfl ?_
      refine l_iload_n rfl rfl ?_
      have w13 : 0 ≤ Xi T1 904 106 ∧ Xi T1 904 106 ≤ 9 := hHT1.c _ _
      refine l_callV rfl rfl rfl (t_mo_need hHT1 0 7 t ⟨by omega, by omega⟩ ⟨by omega, by omega⟩ ⟨by omega, by omega⟩ _) ?_
      rintro _ T2 ⟨hHT2, w17, rfl, w14, w15⟩
      have hFT2 : FR md_mo_oneReading__2 S T2 := FR.tr hFT1 w17 rfl
      show Rl _ _ _ _ _ [] _ _
      refine l_return rfl rfl ?_
      have w18 : 0 ≤ Xi T2 904 106 ∧ Xi T2 904 106 ≤ 9 := hHT2.c _ _
      exact ⟨hHT2, hFT2, rfl, (by first | assumption | omega), (by omega)⟩
    · refine l_iconst rfl ?_
      refine l_goto rfl rfl ?_
      refine l_bipush rfl rfl ?_
      refine l_iload_n rfl rfl ?_
      have w19 : 0 ≤ Xi T1 904 106 ∧ Xi T1 904 106 ≤ 9 := hHT1.c _ _
      refine l_callV rfl rfl rfl (t_mo_need hHT1 1 7 t ⟨by omega, by omega⟩ ⟨by omega, by omega⟩ ⟨by omega, by omega⟩ _) ?_
      rintro _ T3 ⟨hHT3, w23, rfl, w20, w21⟩
      have hFT3 : FR md_mo_oneReading__2 S T3 := FR.tr hFT1 w23 rfl
      show Rl _ _ _ _ _ [] _ _
      refine l_return rfl rfl ?_
      have w24 : 0 ≤ Xi T3 904 106 ∧ Xi T3 904 106 ≤ 9 := hHT3.c _ _
      exact ⟨hHT3, hFT3, rfl, (by first | assumption | omega), (by omega)⟩
  · refine l_iconst rfl ?_
    refine l_goto rfl rfl ?_
    refine l_iconst rfl ?_
    refine l_iload_n rfl rfl ?_
    have w25 : 0 ≤ Xi S 904 106 ∧ Xi S 904 106 ≤ 9 := hH.c _ _
    refine l_callV rfl rfl rfl (t_mo_need hH 1 4 t ⟨by omega, by omega⟩ ⟨by omega, by omega⟩ ⟨by omega, by omega⟩ _) ?_
    rintro _ T4 ⟨hHT4, w29, rfl, w26, w27⟩
    have hFT4 : FR md_mo_oneReading__2 S T4 := FR.tr hF w29 rfl
    show Rl _ _ _ _ _ [] _ _
    refine l_aload_n rfl rfl ?_
    refine l_aload_n rfl rfl ?_
    refine l_gfi rfl rfl rfl rfl rfl ?_
    have w30 : (Xi T4 904 109) = (Xi S 904 109) := (show Xi T4 904 109 = Xi S 904 109 from w29.x _ _ rfl)
    rw [w30]
    refine l_iconst rfl ?_
    refine l_icmp_ge rfl rfl (by unfold rg; omega) (by unfold rg; omega) (fun w31 => ?_) (fun w32 => ?_)
    · refine l_iconst rfl ?_
      refine l_bipush rfl rfl ?_
      refine l_iload_n rfl rfl ?_
      have w33 : 0 ≤ Xi T4 904 106 ∧ Xi T4 904 106 ≤ 9 := hHT4.c _ _
      refine l_callV rfl rfl rfl (t_mo_need hHT4 0 7 t ⟨by omega, by omega⟩ ⟨by omega, by omega⟩ ⟨by omega, by omega⟩ _) ?_
      rintro _ T5 ⟨hHT5, w37, rfl, w34, w35⟩
      have hFT5 : FR md_mo_oneReading__2 S T5 := FR.tr hFT4 w37 rfl
      show Rl _ _ _ _ _ [] _ _
      refine l_return rfl rfl ?_
      have w38 : 0 ≤ Xi T5 904 106 ∧ Xi T5 904 106 ≤ 9 := hHT5.c _ _
      exact ⟨hHT5, hFT5, rfl, (by first | assumption | omega), (by omega)⟩
    · refine l_iconst rfl ?_
      refine l_goto rfl rfl ?_
      refine l_bipush rfl rfl ?_
      refine l_iload_n rfl rfl ?_
      have w39 : 0 ≤ Xi T4 904 106 ∧ Xi T4 904 106 ≤ 9 := hHT4.c _ _
      refine l_callV rfl rfl rfl (t_mo_need hHT4 1 7 t ⟨by omega, by omega⟩ ⟨by omega, by omega⟩ ⟨by omega, by omega⟩ _) ?_
      rintro _ T6 ⟨hHT6, w43, rfl, w40, w41⟩
      have hFT6 : FR md_mo_oneReading__2 S T6 := FR.tr hFT4 w43 rfl
      show Rl _ _ _ _ _ [] _ _
      refine l_return rfl rfl ?_
      have w44 : 0 ≤ Xi T6 904 106 ∧ Xi T6 904 106 ≤ 9 := hHT6.c _ _
      exact ⟨hHT6, hFT6, rfl, (by first | assumption | omega), (by omega)⟩
def md_mo_addKind__2 : List rec := [(904, 905, 16, 17), (917, 918, 0, 100000), (926, 927, 0, 100000), (929, 930, 0, 100000), (933, 934, 0, 100000)]
abbrev Q_mo_addKind__2 (S : sS) (par : Int) : pst := fun r S1 => HI S1 ∧ FR md_mo_addKind__2 S S1 ∧ (∃ z : Int, r = some (iv z) ∧ (0 ≤ z ∧ z ≤ 15) ∧ (z = Xi S 904 16) ∧ (Xi S1 904 16 = Xi S 904 16 + 1) ∧ (ABV S1) ∧ (TXM S1) ∧ (∀ j : Nat, (j : Int) < 12 * Xi S 904 16 → Xi S1 933 j = Xi S 933 j) ∧ (∀ p : Int, 0 ≤ p → p < 12 → Xi S1 933 (12 * Xi S 904 16 + p).toNat = 0))
set_option maxRecDepth 100000 in
theorem t_mo_addKind__2 {S : sS} (hH : HI S) (par : Int) (hpar : -1 ≤ par ∧ par ≤ 15) (h : Xi S 904 16 ≤ 15) (hp : par < Xi S 904 16) (hB : ABV S) (hX : TXM S) (d : Nat) : Mt lay0 (d + 1) m_mo_addKind [.ref 904, iv par] S (Q_mo_addKind__2 S par) := by
  refine Mt_R rfl rfl ?_
  have hF : FR md_mo_addKind__2 S S := FR.rf
  have w1 : 0 ≤ Xi S 904 16 ∧ Xi S 904 16 ≤ 16 := hH.c _ _
  have hc16 : 0 ≤ Xi S 904 16 ∧ Xi S 904 16 ≤ 16 := hH.c _ _
  have C12 : ∀ (n12 : Nat) (T1 : sS) (_ : HI T1) (_ : FR md_mo_addKind__2 S T1) (v2 : Int), (0 ≤ v2 ∧ v2 ≤ 12) → (Xi T1 904 16 = Xi S 904 16) → (ABV T1) → (∀ j : Nat, (j : Int) < 12 * Xi S 904 16 → Xi T1 933 j = Xi S 933 j) → (∀ p : Int, 0 ≤ p → p < v2 → Xi T1 933 (12 * Xi S 904 16 + p).toNat = 0) → n12 = (13 - v2).toNat → Rl lay0 (d + 0) m_mo_addKind 12 [(0, .ref 904), (2, iv v2)] [] T1 (Q_mo_addKind__2 S par) := by
    intro n12
    induction n12 using Nat.strongRecOn with
    | ind n12 ih12 =>
      intro T1 hHT1 hFT1 v2 w2 w3 B12 O12 Z12 hm12
      have w4 : 0 ≤ Xi T1 904 16 ∧ Xi T1 904 16 ≤ 16 := hHT1.c _ _
      have C56 : ∀ (n56 : Nat) (T2 : sS) (_ : HI T2) (_ : FR md_mo_addKind__2 S T2) (v2 : Int), (0 ≤ v2 ∧ v2 ≤ 24) → (Xi T2 904 16 = Xi S 904 16) → (ABV T2) → (∀ j : Nat, (j : Int) < 12 * Xi S 904 16 → Xi T2 933 j = Xi S 933 j) → (∀ p : Int, 0 ≤ p → p < 12 → Xi T2 933 (12 * Xi S 904 16 + p).toNat = 0) → n56 = (25 - v2).toNat → Rl lay0 (d + 0) m_mo_addKind 56 [(0, .ref 904), (2, iv v2)] [] T2 (Q_mo_addKind__2 S par) := by
        intro n56
        induction n56 using Nat.strongRecOn with
        | ind n56 ih56 =>
          intro T2 hHT2 hFT2 v2 w5 w6 B56 O56 Z56 hm56
          have w7 : 0 ≤ Xi T2 904 16 ∧ Xi T2 904 16 ≤ 16 := hHT2.c _ _
          refine l_iload_n rfl rfl ?_
          refine l_bipush rfl rfl ?_
          refine l_icmp_ge rfl rfl (by unfold rg; omega) (by unfold rg; omega) (fun w8 => ?_) (fun w9 => ?_)
          · refine l_aload_n rfl rfl ?_
            refine l_dup rfl rfl ?_
            refine l_gfi rfl rfl rfl rfl rfl ?_
            refine l_iconst rfl ?_
            refine l_iadd rfl ?_
            refine l_pfi rfl rfl rfl rfl ?_
            obtain ⟨U3, eU3⟩ : ∃ T : sS, T = uI T2 904 16 (Int32.ofInt ((Xi T2 904 16) + 1)) := ⟨_, rfl⟩
            rw [← eU3]
            have hHU3 : HI U3 := by rw [eU3]; exact HI_w hHT2 (show 0 ≤ ((Xi T2 904 16) + 1) by omega) (show ((Xi T2 904 16) + 1) ≤ 16 by omega)
            have hFU3 : FR md_mo_addKind__2 S U3 := by rw [eU3]; exact FR.wI hFT2 (mdf_i (r := (904, 905, 16, 17)) (List.mem_of_getElem? (i := 0) rfl) (inR_i (by omega) (by omega) (by omega) (by omega)))
            have w10 : Xi U3 904 16 = ((Xi T2 904 16) + 1) := by rw [eU3]; exact Xi_same (by unfold rg; omega)
            have b90 : ABV U3 := ABV_FR (FR_e eU3) rfl B56
            have x90 : TXM U3 := txm_k2 hX (by omega) (fun j hj => by rw [eU3, Xi_ne (by omega)]; exact O56 j hj) (fun p a b => by rw [eU3, Xi_ne (by omega)]; exact Z56 p a b) (fun j => (hFU3.cx 918 rfl j).1) (fun j => (hFU3.cx 928 rfl j).1) (fun j => (hFU3.cx 930 rfl j).1) (fun j => (hFU3.cx 931 rfl j).1) (fun j => (hFU3.cx 932 rfl j).1) (fun j => (hFU3.cx 934 rfl j).1) (fun j => (hFU3.cx 935 rfl j).1) (hFU3.x 904 19 rfl) (hFU3.x 904 32 rfl)
            refine l_aload_n rfl rfl ?_
            refine l_gfi rfl rfl rfl rfl rfl ?_
            refine l_iconst rfl ?_
            refine l_isub rfl ?_
            refine l_ireturn rfl rfl ?_
            have w11 : 0 ≤ Xi U3 904 16 ∧ Xi U3 904 16 ≤ 16 := hHU3.c _ _
            exact ⟨hHU3, hFU3, _, rfl, ⟨by omega, by omega⟩, (by omega), (by omega), (b90), (x90), (fun j hj => by rw [eU3, Xi_ne (by omega)]; exact O56 j hj), (fun p a b => by rw [eU3, Xi_ne (by omega)]; exact Z56 p a b)⟩
          · refine l_aload_n rfl rfl ?_
            refine l_gfr rfl rfl rfl rfl rfl (hHT2.r 904 29 926 rfl) ?_
            refine l_bipush rfl rfl ?_
            refine l_aload_n rfl rfl ?_
            refine l_gfi rfl rfl rfl rfl rfl ?_
            refine l_imul rfl ?_
            refine l_iload_n rfl rfl ?_
            refine l_iadd rfl ?_
            refine l_iconst rfl ?_
            refine l_iastore (n := 384) rfl rfl (by omega) (by omega) (by unfold rg; omega) ?_
            obtain ⟨U4, eU4⟩ : ∃ T : sS, T = uI T2 926 ((((24 * (Xi T2 904 16)) + v2)).toNat) (Int32.ofInt 0) := ⟨_, rfl⟩
            rw [← eU4]
            have hHU4 : HI U4 := by rw [eU4]; exact HI_w hHT2 (show 0 ≤ 0 by omega) (show 0 ≤ 2 by omega)
            have hFU4 : FR md_mo_addKind__2 S U4 := by rw [eU4]; exact FR.wI hFT2 (mdf_i (r := (926, 927, 0, 100000)) (List.mem_of_getElem? (i := 2) rfl) (inR_i (by omega) (by omega) (by omega) (by omega)))
            have w12 : Xi U4 926 ((((24 * (Xi T2 904 16)) + v2)).toNat) = 0 := by rw [eU4]; exact Xi_same (by unfold rg; omega)
            have b76 : ABV U4 := ABV_FR (FR_e eU4) rfl B56
            have o76 : ∀ j : Nat, (j : Int) < 12 * Xi S 904 16 → Xi U4 933 j = Xi S 933 j := fun j hj => by rw [eU4, Xi_ne (by omega)]; exact O56 j hj
            have z76 : ∀ p : Int, 0 ≤ p → p < 12 → Xi U4 933 (12 * Xi S 904 16 + p).toNat = 0 := fun p a b => by rw [eU4, Xi_ne (by omega)]; exact Z56 p a b
            refine l_iinc rfl rfl rfl rfl ?_
            refine l_goto rfl rfl ?_
            have w13 : Xi U4 904 16 = Xi T2 904 16 := (show Xi U4 904 16 = Xi T2 904 16 from by rw [eU4]; exact Xi_ne (by omega))
            have w14 : 0 ≤ Xi T2 904 16 ∧ Xi T2 904 16 ≤ 16 := hHT2.c _ _
            exact Rl_weak (ih56 _ (by omega) U4 hHU4 hFU4 ((v2 + 1)) (by omega) (by omega) (by first | exact b76 | exact B12) (by first | exact o76 | exact O12) (by first | exact z76 | exact fun p a b => Z12 p a (by omega)) rfl) (And.intro rfl (And.intro rfl (True.intro)))
      refine l_iload_n rfl rfl ?_
      refine l_bipush rfl rfl ?_
      refine l_icmp_ge rfl rfl (by unfold rg; omega) (by unfold rg; omega) (fun w15 => ?_) (fun w16 => ?_)
      · refine l_iconst rfl ?_
        refine l_istore_n rfl rfl rfl ?_
        have w17 : 0 ≤ Xi T1 904 16 ∧ Xi T1 904 16 ≤ 16 := hHT1.c _ _
        exact Rl_weak (C56 _ T1 hHT1 hFT1 (0) (by omega) (by omega) (by first | exact b76 | exact B12) (by first | exact o76 | exact O12) (by first | exact z76 | exact fun p a b => Z12 p a (by omega)) rfl) (And.intro rfl (And.intro rfl (True.intro)))
      · refine l_aload_n rfl rfl ?_
        refine l_gfr rfl rfl rfl rfl rfl (hHT1.r 904 34 929 rfl) ?_
        refine l_bipush rfl rfl ?_
        refine l_aload_n rfl rfl ?_
        refine l_gfi rfl rfl rfl rfl rfl ?_
        refine l_imul rfl ?_
        refine l_iload_n rfl rfl ?_
        refine l_iadd rfl ?_
        refine l_iconst rfl ?_
        refine l_bastoreZ1 (n := 192) rfl rfl (by omega) (by omega) (by unfold rg; omega) ⟨by omega, by omega⟩ ?_
        obtain ⟨U5, eU5⟩ : ∃ T : sS, T = uI T1 929 ((((12 * (Xi T1 904 16)) + v2)).toNat) (Int32.ofInt 0) := ⟨_, rfl⟩
        rw [← eU5]
        have hHU5 : HI U5 := by rw [eU5]; exact HI_w hHT1 (show 0 ≤ 0 by omega) (show 0 ≤ 1 by omega)
        have hFU5 : FR md_mo_addKind__2 S U5 := by rw [eU5]; exact FR.wI hFT1 (mdf_i (r := (929, 930, 0, 100000)) (List.mem_of_getElem? (i := 3) rfl) (inR_i (by omega) (by omega) (by omega) (by omega)))
        have w18 : Xi U5 929 ((((12 * (Xi T1 904 16)) + v2)).toNat) = 0 := by rw [eU5]; exact Xi_same (by unfold rg; omega)
        have b32 : ABV U5 := ABV_FR (FR_e eU5) rfl B12
        have o32 : ∀ j : Nat, (j : Int) < 12 * Xi S 904 16 → Xi U5 933 j = Xi S 933 j := fun j hj => by rw [eU5, Xi_ne (by omega)]; exact O12 j hj
        have z32 : ∀ p : Int, 0 ≤ p → p < v2 → Xi U5 933 (12 * Xi S 904 16 + p).toNat = 0 := fun p a b => by rw [eU5, Xi_ne (by omega)]; exact Z12 p a b
        refine l_aload_n rfl rfl ?_
        refine l_gfr rfl rfl rfl rfl rfl (hHU5.r 904 38 933 rfl) ?_
        refine l_bipush rfl rfl ?_
        refine l_aload_n rfl rfl ?_
        refine l_gfi rfl rfl rfl rfl rfl ?_
        have w19 : (Xi U5 904 16) = (Xi T1 904 16) := (show Xi U5 904 16 = Xi T1 904 16 from by rw [eU5]; exact Xi_ne (by omega))
        rw [w19]
        refine l_imul rfl ?_
        refine l_iload_n rfl rfl ?_
        refine l_iadd rfl ?_
        refine l_iconst rfl ?_
        refine l_bastoreZ1 (n := 192) rfl rfl (by omega) (by omega) (by unfold rg; omega) ⟨by omega, by omega⟩ ?_
        obtain ⟨U6, eU6⟩ : ∃ T : sS, T = uI U5 933 ((((12 * (Xi T1 904 16)) + v2)).toNat) (Int32.ofInt 0) := ⟨_, rfl⟩
        rw [← eU6]
        have hHU6 : HI U6 := by rw [eU6]; exact HI_w hHU5 (show 0 ≤ 0 by omega) (show 0 ≤ 1 by omega)
        have hFU6 : FR md_mo_addKind__2 S U6 := by rw [eU6]; exact FR.wI hFU5 (mdf_i (r := (933, 934, 0, 100000)) (List.mem_of_getElem? (i := 4) rfl) (inR_i (by omega) (by omega) (by omega) (by omega)))
        have w20 : Xi U6 933 ((((12 * (Xi T1 904 16)) + v2)).toNat) = 0 := by rw [eU6]; exact Xi_same (by unfold rg; omega)
        have b47 : ABV U6 := ABV_FR (FR_e eU6) rfl b32
        have o47 : ∀ j : Nat, (j : Int) < 12 * Xi S 904 16 → Xi U6 933 j = Xi S 933 j := fun j hj => by rw [eU6, Xi_ne (by omega)]; exact o32 j hj
        have z47 : ∀ p : Int, 0 ≤ p → p < v2 + 1 → Xi U6 933 (12 * Xi S 904 16 + p).toNat = 0 := fun p a b => (by by_cases g : p = v2; (rw [g, show (12 * Xi S 904 16 + v2).toNat = (12 * Xi U5 904 16 + v2).toNat by omega]; first | assumption | (rw [show (12 * Xi U5 904 16 + v2).toNat = (12 * Xi T1 904 16 + v2).toNat by omega]; assumption)); (rw [eU6, Xi_ne (by omega)]; exact z32 p a (by omega)))
        refine l_iinc rfl rfl rfl rfl ?_
        refine l_goto rfl rfl ?_
        have w21 : Xi U6 904 16 = Xi T1 904 16 := (show Xi U6 904 16 = Xi U5 904 16 from by rw [eU6]; exact Xi_ne (by omega)).trans ((show Xi U5 904 16 = Xi T1 904 16 from by rw [eU5]; exact Xi_ne (by omega)))
        have w22 : 0 ≤ Xi T1 904 16 ∧ Xi T1 904 16 ≤ 16 := hHT1.c _ _
        exact Rl_weak (ih12 _ (by omega) U6 hHU6 hFU6 ((v2 + 1)) (by omega) (by omega) (by first | exact b47 | exact b9) (by first | exact o47 | exact o9) (by first | exact z47 | exact fun p a b => absurd b (by omega)) rfl) (And.intro rfl (And.intro rfl (True.intro)))
  refine l_aload_n rfl rfl ?_
  refine l_gfr rfl rfl rfl rfl rfl (hH.r 904 17 917 rfl) ?_
  refine l_aload_n rfl rfl ?_
  refine l_gfi rfl rfl rfl rfl rfl ?_
  refine l_iload_n rfl rfl ?_
  refine l_iastore (n := 16) rfl rfl (by omega) (by omega) (by unfold rg; omega) ?_
  obtain ⟨U7, eU7⟩ : ∃ T : sS, T = uI S 917 (((Xi S 904 16)).toNat) (Int32.ofInt par) := ⟨_, rfl⟩
  rw [← eU7]
  have hHU7 : HI U7 := by rw [eU7]; exact HI_w hH (show -1 ≤ par by omega) (show par ≤ 15 by omega)
  have hFU7 : FR md_mo_addKind__2 S U7 := by rw [eU7]; exact FR.wI hF (mdf_i (r := (917, 918, 0, 100000)) (List.mem_of_getElem? (i := 1) rfl) (inR_i (by omega) (by omega) (by omega) (by omega)))
  have w23 : Xi U7 917 (((Xi S 904 16)).toNat) = par := by rw [eU7]; exact Xi_same (by unfold rg; omega)
  have b9 : ABV U7 := abv_w eU7 hB (by omega) (by omega) (by unfold rg; omega)
  have o9 : ∀ j : Nat, (j : Int) < 12 * Xi S 904 16 → Xi U7 933 j = Xi S 933 j := fun j hj => by rw [eU7, Xi_ne (by omega)]
  refine l_iconst rfl ?_
  refine l_istore_n rfl rfl rfl ?_
  have w24 : Xi U7 904 16 = Xi S 904 16 := (show Xi U7 904 16 = Xi S 904 16 from by rw [eU7]; exact Xi_ne (by omega))
  have w25 : 0 ≤ Xi S 904 16 ∧ Xi S 904 16 ≤ 16 := hH.c _ _
  exact Rl_weak (C12 _ U7 hHU7 hFU7 (0) (by omega) (by omega) (by first | exact b47 | exact b9) (by first | exact o47 | exact o9) (by first | exact z47 | exact fun p a b => absurd b (by omega)) rfl) (And.intro rfl (And.intro rfl (True.intro)))
def KZK (S : sS) : Prop := (Xi S 904 78 = -2 → Xi S 904 18 + Xi S 904 72 ≤ 8) ∧ (Xi S 904 78 ≠ -2 → Xi S 904 16 + Xi S 904 72 ≤ 16) ∧ (0 ≤ Xi S 904 78 → rnR S (Xi S 904 78) 0 ≠ -1)
def VKY (S : sS) (v : Int) : Prop := (v ≠ 0 → Xi S 904 78 = -2) ∧ (v = 0 → Xi S 904 78 ≠ -2)
def KCT (S T : sS) (v m : Int) : Prop := (v = 0 → Xi T 904 16 = Xi S 904 16 + m ∧ Xi T 904 18 = Xi S 904 18) ∧ (v ≠ 0 → Xi T 904 18 = Xi S 904 18 + m ∧ Xi T 904 16 = Xi S 904 16)
def md_mo_doKinds : List rec := [(904, 905, 15, 16), (904, 905, 16, 17), (904, 905, 18, 19), (912, 913, 0, 100000), (913, 914, 0, 100000), (914, 915, 0, 100000), (915, 916, 0, 100000), (916, 917, 0, 100000), (917, 918, 0, 100000), (926, 927, 0, 100000), (929, 930, 0, 100000), (933, 934, 0, 100000)]
abbrev Q_mo_doKinds (S : sS) (n : Nat) : pst := fun r S1 => HI S1 ∧ FR md_mo_doKinds S S1 ∧ (r = none ∧ (TXM S1) ∧ (ABV S1) ∧ (LXM S1) ∧ (LCN S1) ∧ (GR S1 S))
set_option maxRecDepth 100000 in
set_option maxHeartbeats 4000000 in
theorem t_mo_doKinds {S : sS} (hH : HI S) (n : Nat) (hT : TK S n) (hv : RNV S n) (hM : LXM S) (hX : TXM S) (hLC : LCN S) (hB : ABV S) (hl : Xi S 904 71 + Xi S 904 72 ≤ Xi S 904 69) (hw : Xi S 904 78 < Xi S 904 69) (hT2 : Xi S 904 78 = -2 → Xi S 904 18 + Xi S 904 72 ≤ 8) (hK2 : Xi S 904 78 ≠ -2 → Xi S 904 16 + Xi S 904 72 ≤ 16) (h0 : 0 ≤ Xi S 904 78 → rnR S (Xi S 904 78) 0 ≠ -1) (h3 : ∀ i : Int, 0 ≤ i → i < Xi S 904 72 → Xi S 951 (Xi S 904 71 + i).toNat ≤ 3) (h1 : 1 ≤ Xi S 904 16) (d : Nat) : Mt lay0 (d + 5) m_mo_doKinds [.ref 904] S (Q_mo_doKinds S n) := by
  refine Mt_R rfl rfl ?_
  have hF : FR md_mo_doKinds S S := FR.rf
  have w1 : 0 ≤ Xi S 904 16 ∧ Xi S 904 16 ≤ 16 := hH.c _ _
  have w2 : 0 ≤ Xi S 904 18 ∧ Xi S 904 18 ≤ 8 := hH.c _ _
  have w3 : 0 ≤ Xi S 904 69 ∧ Xi S 904 69 ≤ 2600 := hH.c _ _
  have w4 : 0 ≤ Xi S 904 71 ∧ Xi S 904 71 ≤ 2600 := hH.c _ _
  have w5 : 0 ≤ Xi S 904 72 ∧ Xi S 904 72 ≤ 2600 := hH.c _ _
  have w6 : -2 ≤ Xi S 904 78 ∧ Xi S 904 78 ≤ 5010 := hH.c _ _
  have hn5 := hT.1
  have hc69 : 0 ≤ Xi S 904 69 ∧ Xi S 904 69 ≤ 2600 := hH.c _ _
  have hc71 : 0 ≤ Xi S 904 71 ∧ Xi S 904 71 ≤ 2600 := hH.c _ _
  have hc72 : 0 ≤ Xi S 904 72 ∧ Xi S 904 72 ≤ 2600 := hH.c _ _
  have hrf : ∀ r : Int, 0 ≤ r → r < Xi S 904 69 → Xi S 950 r.toNat ≤ n := fun r a b => by have := hv r.toNat (by omega); omega
  have hc15 : 0 ≤ Xi S 904 15 ∧ Xi S 904 15 ≤ 300 := hH.c _ _
  have hl9 := lcn_le hH hLC
  have hc16 : 0 ≤ Xi S 904 16 ∧ Xi S 904 16 ≤ 16 := hH.c _ _
  have hc18 : 0 ≤ Xi S 904 18 ∧ Xi S 904 18 ≤ 8 := hH.c _ _
  have hc78 : -2 ≤ Xi S 904 78 := (hH.c 904 78).1
  have hZ : KZK S := ⟨hT2, hK2, h0⟩
  clear hT2 hK2 h0
  have hrg : ∀ i : Int, 0 ≤ i → i < Xi S 904 72 → Xi S 950 (Xi S 904 71 + i).toNat + Xi S 951 (Xi S 904 71 + i).toNat ≤ n ∧ 1 ≤ Xi S 951 (Xi S 904 71 + i).toNat := fun i a b => hv (Xi S 904 71 + i).toNat (by omega)
  have C25 : ∀  (v1 : Int) (v2 : Int) (v3 : Int), (0 ≤ v1 ∧ v1 ≤ 16) → (0 ≤ v2 ∧ v2 ≤ 8) → (0 ≤ v3 ∧ v3 ≤ 1) → (v1 = Xi S 904 16) → (v2 = Xi S 904 18) → (VKY S v3) → Rl lay0 (d + 4) m_mo_doKinds 25 [(0, .ref 904), (1, iv v1), (2, iv v2), (3, iv v3)] [] S (Q_mo_doKinds S n) := by
    intro v1 v2 v3 w7 w8 w9 w10 w11 Y25
    have C52 : ∀  (v1 : Int) (v2 : Int) (v3 : Int) (v4 : Int), (0 ≤ v1 ∧ v1 ≤ 16) → (0 ≤ v2 ∧ v2 ≤ 8) → (0 ≤ v3 ∧ v3 ≤ 1) → (0 ≤ v4 ∧ v4 ≤ 15) → (v1 = Xi S 904 16) → (v2 = Xi S 904 18) → (VKY S v3) → (v4 < Xi S 904 16) → Rl lay0 (d + 4) m_mo_doKinds 52 [(0, .ref 904), (1, iv v1), (2, iv v2), (3, iv v3), (4, iv v4)] [] S (Q_mo_doKinds S n) := by
      intro v1 v2 v3 v4 w12 w13 w14 w15 w16 w17 Y52 w18
      have C55 : ∀ (n55 : Nat) (T1 : sS) (_ : HI T1) (_ : FR md_mo_doKinds S T1) (v1 : Int) (v2 : Int) (v3 : Int) (v4 : Int) (v5 : Int), (0 ≤ v1 ∧ v1 ≤ 16) → (0 ≤ v2 ∧ v2 ≤ 8) → (0 ≤ v3 ∧ v3 ≤ 1) → (0 ≤ v4 ∧ v4 ≤ 15) → (0 ≤ v5 ∧ v5 ≤ 2600) → (v1 = Xi S 904 16) → (v2 = Xi S 904 18) → (VKY S v3) → (v4 < Xi S 904 16) → (v5 ≤ Xi S 904 72) → (Xi T1 904 69 = Xi S 904 69) → (Xi T1 904 71 = Xi S 904 71) → (Xi T1 904 72 = Xi S 904 72) → (KCT S T1 v3 v5) → (TXM T1) → (ABV T1) → (LXM T1) → (LCN T1) → (GR T1 S) → (PLB T1 v1 v2) → n55 = (2601 - v5).toNat → Rl lay0 (d + 4) m_mo_doKinds 55 [(0, .ref 904), (1, iv v1), (2, iv v2), (3, iv v3), (4, iv v4), (5, iv v5)] [] T1 (Q_mo_doKinds S n) := by
        intro n55
        induction n55 using Nat.strongRecOn with
        | ind n55 ih55 =>
          intro T1 hHT1 hFT1 v1 v2 v3 v4 v5 w19 w20 w21 w22 w23 w24 w25 Y55 w26 w27 w28 w29 w30 C55 X55 B55 M55 L55 G55 P55 hm55
          have w31 : Xi T1 904 69 = Xi S 904 69 := hFT1.x _ _ rfl
          have w32 : Xi T1 904 71 = Xi S 904 71 := hFT1.x _ _ rfl
          have w33 : Xi T1 904 72 = Xi S 904 72 := hFT1.x _ _ rfl
          have w34 : Xi T1 904 78 = Xi S 904 78 := hFT1.x _ _ rfl
          have w35 : 0 ≤ Xi T1 904 69 ∧ Xi T1 904 69 ≤ 2600 := hHT1.c _ _
          have w36 : 0 ≤ Xi T1 904 71 ∧ Xi T1 904 71 ≤ 2600 := hHT1.c _ _
          have w37 : 0 ≤ Xi T1 904 72 ∧ Xi T1 904 72 ≤ 2600 := hHT1.c _ _
          have C124 : ∀ (n124 : Nat) (T2 : sS) (_ : HI T2) (_ : FR md_mo_doKinds S T2) (v1 : Int) (v2 : Int) (v3 : Int) (v5 : Int), (0 ≤ v1 ∧ v1 ≤ 16) → (0 ≤ v2 ∧ v2 ≤ 8) → (0 ≤ v3 ∧ v3 ≤ 1) → (0 ≤ v5 ∧ v5 ≤ 2600) → (v1 = Xi S 904 16) → (v2 = Xi S 904 18) → (VKY S v3) → (v5 ≤ Xi S 904 72) → (Xi T2 904 69 = Xi S 904 69) → (Xi T2 904 71 = Xi S 904 71) → (Xi T2 904 72 = Xi S 904 72) → (KCT S T2 v3 (Xi S 904 72)) → (TXM T2) → (ABV T2) → (LXM T2) → (LCN T2) → (GR T2 S) → (PLB T2 (v1 + v5) (v2 + v5)) → n124 = (2601 - v5).toNat → Rl lay0 (d + 4) m_mo_doKinds 124 [(0, .ref 904), (1, iv v1), (2, iv v2), (3, iv v3), (5, iv v5)] [] T2 (Q_mo_doKinds S n) := by
            intro n124
            induction n124 using Nat.strongRecOn with
            | ind n124 ih124 =>
              intro T2 hHT2 hFT2 v1 v2 v3 v5 w38 w39 w40 w41 w42 w43 Y124 w44 w45 w46 w47 C124 X124 B124 M124 L124 G124 P124 hm124
              have w48 : Xi T2 904 69 = Xi S 904 69 := hFT2.x _ _ rfl
              have w49 : Xi T2 904 71 = Xi S 904 71 := hFT2.x _ _ rfl
              have w50 : Xi T2 904 72 = Xi S 904 72 := hFT2.x _ _ rfl
              have w51 : Xi T2 904 78 = Xi S 904 78 := hFT2.x _ _ rfl
              have w52 : 0 ≤ Xi T2 904 69 ∧ Xi T2 904 69 ≤ 2600 := hHT2.c _ _
              have w53 : 0 ≤ Xi T2 904 71 ∧ Xi T2 904 71 ≤ 2600 := hHT2.c _ _
              have w54 : 0 ≤ Xi T2 904 72 ∧ Xi T2 904 72 ≤ 2600 := hHT2.c _ _
              have C232 : ∀  (T3 : sS) (_ : HI T3) (_ : FR md_mo_doKinds S T3) (v1 : Int) (v2 : Int) (v3 : Int) (v5 : Int) (v6 : Int) (v7 : Int) (v10 : Int) (v11 : Int) (v13 : Int), (0 ≤ v1 ∧ v1 ≤ 16) → (0 ≤ v2 ∧ v2 ≤ 8) → (0 ≤ v3 ∧ v3 ≤ 1) → (0 ≤ v5 ∧ v5 ≤ 2599) → (0 ≤ v6 ∧ v6 ≤ 5001) → (1 ≤ v7 ∧ v7 ≤ 5010) → (0 ≤ v10 ∧ v10 ≤ 1) → (v1 = Xi S 904 16) → (v2 = Xi S 904 18) → (VKY S v3) → (Xi T3 904 69 = Xi S 904 69) → (Xi T3 904 71 = Xi S 904 71) → (Xi T3 904 72 = Xi S 904 72) → (TXM T3) → (ABV T3) → (LXM T3) → (LCN T3) → (GR T3 S) → (v5 < Xi S 904 72) → (PLB T3 (v1 + v5) (v2 + v5)) → (KCT S T3 v3 (Xi S 904 72)) → (1 ≤ v7 ∧ v7 ≤ 3) → (v6 + v7 ≤ n) → ((2601 - v5).toNat ≤ n124) → Rl lay0 (d + 4) m_mo_doKinds 232 [(0, .ref 904), (1, iv v1), (2, iv v2), (3, iv v3), (5, iv v5), (6, iv v6), (7, iv v7), (10, iv v10), (11, jw v11), (13, jw v13)] [] T3 (Q_mo_doKinds S n) := by
                intro T3 hHT3 hFT3 v1 v2 v3 v5 v6 v7 v10 v11 v13 w55 w56 w57 w58 w59 w60 w61 w62 w63 Y232 w64 w65 w66 X232 B232 M232 L232 G232 w67 P232 C232 w68 w69 w70
                have w71 : Xi T3 904 69 = Xi S 904 69 := hFT3.x _ _ rfl
                have w72 : Xi T3 904 71 = Xi S 904 71 := hFT3.x _ _ rfl
                have w73 : Xi T3 904 72 = Xi S 904 72 := hFT3.x _ _ rfl
                have w74 : Xi T3 904 78 = Xi S 904 78 := hFT3.x _ _ rfl
                have w75 : 0 ≤ Xi T3 904 69 ∧ Xi T3 904 69 ≤ 2600 := hHT3.c _ _
                have w76 : 0 ≤ Xi T3 904 71 ∧ Xi T3 904 71 ≤ 2600 := hHT3.c _ _
                have w77 : 0 ≤ Xi T3 904 72 ∧ Xi T3 904 72 ≤ 2600 := hHT3.c _ _
                have C278 : ∀  (T4 : sS) (_ : HI T4) (_ : FR md_mo_doKinds S T4) (v1 : Int) (v2 : Int) (v3 : Int) (v5 : Int) (v7 : Int) (v10 : Int) (v13 : Int) (v15 : Int) (v17 : Int), (0 ≤ v1 ∧ v1 ≤ 16) → (0 ≤ v2 ∧ v2 ≤ 8) → (0 ≤ v3 ∧ v3 ≤ 1) → (0 ≤ v5 ∧ v5 ≤ 2599) → (1 ≤ v7 ∧ v7 ≤ 5010) → (0 ≤ v10 ∧ v10 ≤ 1) → (v1 = Xi S 904 16) → (v2 = Xi S 904 18) → (VKY S v3) → (Xi T4 904 69 = Xi S 904 69) → (Xi T4 904 71 = Xi S 904 71) → (Xi T4 904 72 = Xi S 904 72) → (TXM T4) → (ABV T4) → (LXM T4) → (LCN T4) → (GR T4 S) → (v5 < Xi S 904 72) → (PLB T4 (v1 + v5) (v2 + v5)) → (KCT S T4 v3 (Xi S 904 72)) → (1 ≤ v7 ∧ v7 ≤ 3) → (v6 + v7 ≤ n) → ((2601 - v5).toNat ≤ n124) → Rl lay0 (d + 4) m_mo_doKinds 278 [(0, .ref 904), (1, iv v1), (2, iv v2), (3, iv v3), (5, iv v5), (7, iv v7), (10, iv v10), (13, jw v13), (15, jw v15), (17, jw v17)] [] T4 (Q_mo_doKinds S n) := by
                  intro T4 hHT4 hFT4 v1 v2 v3 v5 v7 v10 v13 v15 v17 w78 w79 w80 w81 w82 w83 w84 w85 Y278 w86 w87 w88 X278 B278 M278 L278 G278 w89 P278 C278 w90 w91 w92
                  have w93 : Xi T4 904 69 = Xi S 904 69 := hFT4.x _ _ rfl
                  have w94 : Xi T4 904 71 = Xi S 904 71 := hFT4.x _ _ rfl
                  have w95 : Xi T4 904 72 = Xi S 904 72 := hFT4.x _ _ rfl
                  have w96 : Xi T4 904 78 = Xi S 904 78 := hFT4.x _ _ rfl
                  have w97 : 0 ≤ Xi T4 904 69 ∧ Xi T4 904 69 ≤ 2600 := hHT4.c _ _
                  have w98 : 0 ≤ Xi T4 904 71 ∧ Xi T4 904 71 ≤ 2600 := hHT4.c _ _
                  have w99 : 0 ≤ Xi T4 904 72 ∧ Xi T4 904 72 ≤ 2600 := hHT4.c _ _
                  have C348 : ∀  (T5 : sS) (_ : HI T5) (_ : FR md_mo_doKinds S T5) (v1 : Int) (v2 : Int) (v3 : Int) (v5 : Int), (0 ≤ v1 ∧ v1 ≤ 16) → (0 ≤ v2 ∧ v2 ≤ 8) → (0 ≤ v3 ∧ v3 ≤ 1) → (0 ≤ v5 ∧ v5 ≤ 2599) → (v1 = Xi S 904 16) → (v2 = Xi S 904 18) → (VKY S v3) → (v5 < Xi S 904 72) → (Xi T5 904 69 = Xi S 904 69) → (Xi T5 904 71 = Xi S 904 71) → (Xi T5 904 72 = Xi S 904 72) → (KCT S T5 v3 (Xi S 904 72)) → (TXM T5) → (ABV T5) → (LXM T5) → (LCN T5) → (GR T5 S) → (PLB T5 (v1 + (v5 + 1)) (v2 + (v5 + 1))) → ((2601 - v5).toNat ≤ n124) → Rl lay0 (d + 4) m_mo_doKinds 348 [(0, .ref 904), (1, iv v1), (2, iv v2), (3, iv v3), (5, iv v5)] [] T5 (Q_mo_doKinds S n) := by
                    intro T5 hHT5 hFT5 v1 v2 v3 v5 w100 w101 w102 w103 w104 w105 Y348 w106 w107 w108 w109 C348 X348 B348 M348 L348 G348 P348 w110
                    have w111 : Xi T5 904 69 = Xi S 904 69 := hFT5.x _ _ rfl
                    have w112 : Xi T5 904 71 = Xi S 904 71 := hFT5.x _ _ rfl
                    have w113 : Xi T5 904 72 = Xi S 904 72 := hFT5.x _ _ rfl
                    have w114 : Xi T5 904 78 = Xi S 904 78 := hFT5.x _ _ rfl
                    have w115 : 0 ≤ Xi T5 904 69 ∧ Xi T5 904 69 ≤ 2600 := hHT5.c _ _
                    have w116 : 0 ≤ Xi T5 904 71 ∧ Xi T5 904 71 ≤ 2600 := hHT5.c _ _
                    have w117 : 0 ≤ Xi T5 904 72 ∧ Xi T5 904 72 ≤ 2600 := hHT5.c _ _
                    refine l_iinc rfl rfl rfl rfl ?_
                    refine l_goto rfl rfl ?_
                    have w118 : 0 ≤ Xi T5 904 15 ∧ Xi T5 904 15 ≤ 300 := hHT5.c _ _
                    have w119 : 0 ≤ Xi T5 904 16 ∧ Xi T5 904 16 ≤ 16 := hHT5.c _ _
                    have w120 : 0 ≤ Xi T5 904 18 ∧ Xi T5 904 18 ≤ 8 := hHT5.c _ _
                    have w121 : 0 ≤ Xi T5 904 69 ∧ Xi T5 904 69 ≤ 2600 := hHT5.c _ _
                    have w122 : 0 ≤ Xi T5 904 71 ∧ Xi T5 904 71 ≤ 2600 := hHT5.c _ _
                    have w123 : 0 ≤ Xi T5 904 72 ∧ Xi T5 904 72 ≤ 2600 := hHT5.c _ _
                    exact Rl_weak (ih124 _ (by omega) T5 hHT5 hFT5 (v1) (v2) (v3) ((v5 + 1)) (by omega) (by omega) (by omega) (by omega) (by omega) (by omega) (by assumption) (by omega) (by omega) (by omega) (by omega) (by first | exact C348 | (rw [show Xi S 904 72 = v5 by omega]; exact C55) | (rw [show Xi S 904 72 = Xi T5 904 72 by omega, show Xi T5 904 72 = v5 by omega]; exact C55)) (by first | assumption | exact (by assumption : TXM T5)) (by first | assumption | exact (by assumption : ABV T5)) (by first | assumption | exact (by assumption : LXM T5)) (by first | assumption | exact (by assumption : LCN T5)) (by assumption) (by first | exact P55.up (by omega) (by omega) | exact P348) rfl) (And.intro rfl (And.intro rfl (And.intro rfl (And.intro rfl (And.intro rfl (True.intro))))))
                  have C299 : ∀  (T6 : sS) (_ : HI T6) (_ : FR md_mo_doKinds S T6) (v1 : Int) (v2 : Int) (v3 : Int) (v5 : Int) (v7 : Int) (v10 : Int) (v13 : Int) (v15 : Int) (v17 : Int), (0 ≤ v1 ∧ v1 ≤ 16) → (0 ≤ v2 ∧ v2 ≤ 8) → (0 ≤ v3 ∧ v3 ≤ 1) → (0 ≤ v5 ∧ v5 ≤ 2599) → (1 ≤ v7 ∧ v7 ≤ 5010) → (0 ≤ v10 ∧ v10 ≤ 1) → (v1 = Xi S 904 16) → (v2 = Xi S 904 18) → (VKY S v3) → (Xi T6 904 69 = Xi S 904 69) → (Xi T6 904 71 = Xi S 904 71) → (Xi T6 904 72 = Xi S 904 72) → (TXM T6) → (ABV T6) → (LXM T6) → (LCN T6) → (GR T6 S) → (v5 < Xi S 904 72) → (PLB T6 (v1 + v5) (v2 + v5)) → (KCT S T6 v3 (Xi S 904 72)) → (1 ≤ v7 ∧ v7 ≤ 3) → ((2601 - v5).toNat ≤ n124) → Rl lay0 (d + 4) m_mo_doKinds 299 [(0, .ref 904), (1, iv v1), (2, iv v2), (3, iv v3), (5, iv v5), (7, iv v7), (10, iv v10), (13, jw v13), (15, jw v15), (17, jw v17)] [] T6 (Q_mo_doKinds S n) := by
                    intro T6 hHT6 hFT6 v1 v2 v3 v5 v7 v10 v13 v15 v17 w124 w125 w126 w127 w128 w129 w130 w131 Y299 w132 w133 w134 X299 B299 M299 L299 G299 w135 P299 C299 w136 w137
                    have w138 : Xi T6 904 69 = Xi S 904 69 := hFT6.x _ _ rfl
                    have w139 : Xi T6 904 71 = Xi S 904 71 := hFT6.x _ _ rfl
                    have w140 : Xi T6 904 72 = Xi S 904 72 := hFT6.x _ _ rfl
                    have w141 : Xi T6 904 78 = Xi S 904 78 := hFT6.x _ _ rfl
                    have w142 : 0 ≤ Xi T6 904 69 ∧ Xi T6 904 69 ≤ 2600 := hHT6.c _ _
                    have w143 : 0 ≤ Xi T6 904 71 ∧ Xi T6 904 71 ≤ 2600 := hHT6.c _ _
                    have w144 : 0 ≤ Xi T6 904 72 ∧ Xi T6 904 72 ≤ 2600 := hHT6.c _ _
                    refine l_aload_n rfl rfl ?_
                    refine l_iload_n rfl rfl ?_
                    refine l_if_eq rfl rfl (by unfold rg; omega) (fun w145 => ?_) (fun w146 => ?_)
                    · refine l_iconst rfl ?_
                      have k308 : Xi T6 904 16 = Xi S 904 16 + Xi S 904 72 ∧ Xi T6 904 18 = Xi S 904 18 := C299.1 (by omega)
                      have m308 : Xi S 904 16 + Xi S 904 72 ≤ 16 := hZ.2.1 (Y299.2 (by omega))
                      refine l_iload_n rfl rfl ?_
                      refine l_if_eq rfl rfl (by unfold rg; omega) (fun w147 => ?_) (fun w148 => ?_)
                      · refine l_iload_n rfl rfl ?_
                        refine l_iload rfl rfl ?_
                        refine l_iadd rfl ?_
                        refine l_lload rfl rfl ?_
                        refine l_lload rfl rfl ?_
                        refine l_lload rfl rfl ?_
                        refine l_iload rfl rfl ?_
                        have w149 : 0 ≤ Xi T6 904 15 ∧ Xi T6 904 15 ≤ 300 := hHT6.c _ _
                        have w150 : 0 ≤ Xi T6 904 16 ∧ Xi T6 904 16 ≤ 16 := hHT6.c _ _
                        have w151 : 0 ≤ Xi T6 904 18 ∧ Xi T6 904 18 ≤ 8 := hHT6.c _ _
                        have w152 : 0 ≤ Xi T6 904 69 ∧ Xi T6 904 69 ≤ 2600 := hHT6.c _ _
                        have w153 : 0 ≤ Xi T6 904 71 ∧ Xi T6 904 71 ≤ 2600 := hHT6.c _ _
                        have w154 : 0 ≤ Xi T6 904 72 ∧ Xi T6 904 72 ≤ 2600 := hHT6.c _ _
                        refine l_callV rfl rfl rfl (t_mo_tell hHT6 1 (v1 + v5) v13 v15 v17 v7 ⟨by omega, by omega⟩ ⟨by omega, by omega⟩ ⟨by omega, by omega⟩ (by have t := lcn_le hHT6 L299; omega) _) ?_
                        rintro _ T7 ⟨hHT7, w157, rfl, w155, e332, k332⟩
                        have hFT7 : FR md_mo_doKinds S T7 := FR.tr hFT6 w157 rfl
                        show Rl _ _ _ _ _ [] _ _
                        refine l_aload_n rfl rfl ?_
                        refine l_gfr rfl rfl rfl rfl rfl (hHT7.r 904 14 916 rfl) ?_
                        refine l_aload_n rfl rfl ?_
                        refine l_gfi rfl rfl rfl rfl rfl ?_
                        have w158 : 0 ≤ (Xi T7 904 15) ∧ (Xi T7 904 15) ≤ 300 := hHT7.c _ _
                        refine l_iconst rfl ?_
                        refine l_isub rfl ?_
                        refine l_iload rfl rfl ?_
                        refine l_bastoreZ1 (n := 300) rfl rfl (by omega) (by omega) (by unfold rg; omega) ⟨by omega, by omega⟩ ?_
                        obtain ⟨U8, eU8⟩ : ∃ T : sS, T = uI T7 916 ((((Xi T7 904 15) - 1)).toNat) (Int32.ofInt v10) := ⟨_, rfl⟩
                        rw [← eU8]
                        have hHU8 : HI U8 := by rw [eU8]; exact HI_w hHT7 (show 0 ≤ v10 by omega) (show v10 ≤ 1 by omega)
                        have hFU8 : FR md_mo_doKinds S U8 := by rw [eU8]; exact FR.wI hFT7 (mdf_i (r := (916, 917, 0, 100000)) (List.mem_of_getElem? (i := 7) rfl) (inR_i (by omega) (by omega) (by omega) (by omega)))
                        have w159 : Xi U8 916 ((((Xi T7 904 15) - 1)).toNat) = v10 := by rw [eU8]; exact Xi_same (by unfold rg; omega)
                        have f347 : Xi U8 904 15 = Xi T7 904 15 ∧ Xi U8 904 16 = Xi T7 904 16 ∧ Xi U8 904 18 = Xi T7 904 18 := ⟨by rw [eU8, Xi_ne (by omega)], by rw [eU8, Xi_ne (by omega)], by rw [eU8, Xi_ne (by omega)]⟩
                        have h347 : Xi T7 904 16 = Xi T6 904 16 ∧ Xi T7 904 18 = Xi T6 904 18 := ⟨(by assumption : FR md_mo_tell T6 T7).x 904 16 rfl, (by assumption : FR md_mo_tell T6 T7).x 904 18 rfl⟩
                        have x347 : LXK U8 T6 (Xi T6 904 15) := k332.wl eU8 (by omega)
                        have d347 : Xi U8 914 (Xi T6 904 15).toNat = Xi T7 914 (Xi T6 904 15).toNat ∧ Xi U8 915 (Xi T6 904 15).toNat = Xi T7 915 (Xi T6 904 15).toNat := ⟨by rw [eU8, Xi_ne (by omega)], by rw [eU8, Xi_ne (by omega)]⟩
                        have g347 : GR U8 T6 := GR_FR (FR_e eU8) rfl (GR_FR (by assumption : FR md_mo_tell T6 T7) rfl GR.rf)
                        have G347 : GR U8 S := G299.tr g347
                        have c347 : 0 ≤ Xi T6 904 15 := (hHT6.c 904 15).1
                        have n347 : Xi U8 904 15 = Xi T6 904 15 + 1 := by omega
                        have z347_19 : Xi U8 904 19 = Xi T6 904 19 := (hFU8.x 904 19 rfl).trans (hFT6.x 904 19 rfl).symm
                        have z347_23 : Xi U8 904 23 = Xi T6 904 23 := (hFU8.x 904 23 rfl).trans (hFT6.x 904 23 rfl).symm
                        have z347_30 : Xi U8 904 30 = Xi T6 904 30 := (hFU8.x 904 30 rfl).trans (hFT6.x 904 30 rfl).symm
                        have z347_32 : Xi U8 904 32 = Xi T6 904 32 := (hFU8.x 904 32 rfl).trans (hFT6.x 904 32 rfl).symm
                        have z347_41 : Xi U8 904 41 = Xi T6 904 41 := (hFU8.x 904 41 rfl).trans (hFT6.x 904 41 rfl).symm
                        have z347_47 : Xi U8 904 47 = Xi T6 904 47 := (hFU8.x 904 47 rfl).trans (hFT6.x 904 47 rfl).symm
                        have z347_49 : Xi U8 904 49 = Xi T6 904 49 := (hFU8.x 904 49 rfl).trans (hFT6.x 904 49 rfl).symm
                        have u347 : Xi U8 904 16 = Xi T6 904 16 ∧ Xi U8 904 18 = Xi T6 904 18 := ⟨by omega, by omega⟩
                        have M347 : LXM U8 := lxm_gr M299 x347 g347 (by omega) (Or.inr ⟨by omega, by rw [d347.1, d347.2, e332.1, e332.2]; first | (rw [cM3]; omega) | (rw [cM1]; omega)⟩)
                        have N347 : lxH U8 _ _ := ⟨(Xi T6 904 15).toNat, by omega, d347.1.trans e332.1, d347.2.trans e332.2⟩
                        have L347 : LCN U8 := lcn_p L299 (pls_one x347 (by omega) (by omega) (by omega) (by first | exact Or.inl ⟨rfl, by omega⟩ | exact Or.inr ⟨rfl, by omega⟩ | (exfalso; omega)) (by omega) (plb_no P299 (by first | exact Or.inl ⟨rfl, by omega⟩ | exact Or.inr ⟨rfl, by omega⟩ | (exfalso; omega))) N347) (by omega) (by omega) (by omega) (by omega) (by omega) (by omega) (by omega) (by omega) (by omega) (by omega) 
                        have C347 : KCT S U8 v3 (Xi S 904 72) := ⟨fun _ => ⟨by omega, by omega⟩, fun _ => ⟨by omega, by omega⟩⟩
                        have P347 : PLB U8 (v1 + v5 + 1) (v2 + v5 + 1) := plb_add (P299.up (by omega) (by omega)) x347 (by omega) (by omega) (fun _ => by rw [d347.2, e332.2]; omega) (fun _ => by rw [d347.2, e332.2]; omega)
                        have w160 : Xi U8 904 15 = Xi T7 904 15 := (show Xi U8 904 15 = Xi T7 904 15 from by rw [eU8]; exact Xi_ne (by omega))
                        have w161 : 0 ≤ Xi T7 904 15 ∧ Xi T7 904 15 ≤ 300 := hHT7.c _ _
                        have w162 : Xi U8 904 16 = Xi T6 904 16 := (show Xi U8 904 16 = Xi T7 904 16 from by rw [eU8]; exact Xi_ne (by omega)).trans ((show Xi T7 904 16 = Xi T6 904 16 from w157.x _ _ rfl))
                        have w163 : 0 ≤ Xi T6 904 16 ∧ Xi T6 904 16 ≤ 16 := hHT6.c _ _
                        have w164 : Xi U8 904 18 = Xi T6 904 18 := (show Xi U8 904 18 = Xi T7 904 18 from by rw [eU8]; exact Xi_ne (by omega)).trans ((show Xi T7 904 18 = Xi T6 904 18 from w157.x _ _ rfl))
                        have w165 : 0 ≤ Xi T6 904 18 ∧ Xi T6 904 18 ≤ 8 := hHT6.c _ _
                        have w166 : Xi U8 904 69 = Xi T6 904 69 := (show Xi U8 904 69 = Xi T7 904 69 from by rw [eU8]; exact Xi_ne (by omega)).trans ((show Xi T7 904 69 = Xi T6 904 69 from w157.x _ _ rfl))
                        have w167 : 0 ≤ Xi T6 904 69 ∧ Xi T6 904 69 ≤ 2600 := hHT6.c _ _
                        have w168 : Xi U8 904 71 = Xi T6 904 71 := (show Xi U8 904 71 = Xi T7 904 71 from by rw [eU8]; exact Xi_ne (by omega)).trans ((show Xi T7 904 71 = Xi T6 904 71 from w157.x _ _ rfl))
                        have w169 : 0 ≤ Xi T6 904 71 ∧ Xi T6 904 71 ≤ 2600 := hHT6.c _ _
                        have w170 : Xi U8 904 72 = Xi T6 904 72 := (show Xi U8 904 72 = Xi T7 904 72 from by rw [eU8]; exact Xi_ne (by omega)).trans ((show Xi T7 904 72 = Xi T6 904 72 from w157.x _ _ rfl))
                        have w171 : 0 ≤ Xi T6 904 72 ∧ Xi T6 904 72 ≤ 2600 := hHT6.c _ _
                        exact Rl_weak (C348 U8 hHU8 hFU8 (v1) (v2) (v3) (v5) (by omega) (by omega) (by omega) (by omega) (by omega) (by omega) (by assumption) (by omega) (by omega) (by omega) (by omega) (by assumption) (by first | assumption | exact (TXM_FR (FR_e eU8) rfl (TXM_FR w157 rfl (by assumption : TXM T6)))) (by first | assumption | exact (ABV_FR (FR_e eU8) rfl (ABV_FR w157 rfl (by assumption : ABV T6)))) (by first | assumption | exact (LXM_FR (FR_e eU8) rfl (by assumption : LXM T7))) (by first | assumption | exact (by assumption : LCN U8)) (by assumption) (by first | exact P347.up (by omega) (by omega) | exact P278.up (by omega) (by omega)) (by omega)) (And.intro rfl (And.intro rfl (And.intro rfl (And.intro rfl (And.intro rfl (True.intro))))))
                      · refine l_iload_n rfl rfl ?_
                        refine l_iload rfl rfl ?_
                        refine l_iadd rfl ?_
                        refine l_goto rfl rfl ?_
                        refine l_lload rfl rfl ?_
                        refine l_lload rfl rfl ?_
                        refine l_lload rfl rfl ?_
                        refine l_iload rfl rfl ?_
                        have w172 : 0 ≤ Xi T6 904 15 ∧ Xi T6 904 15 ≤ 300 := hHT6.c _ _
                        have w173 : 0 ≤ Xi T6 904 16 ∧ Xi T6 904 16 ≤ 16 := hHT6.c _ _
                        have w174 : 0 ≤ Xi T6 904 18 ∧ Xi T6 904 18 ≤ 8 := hHT6.c _ _
                        have w175 : 0 ≤ Xi T6 904 69 ∧ Xi T6 904 69 ≤ 2600 := hHT6.c _ _
                        have w176 : 0 ≤ Xi T6 904 71 ∧ Xi T6 904 71 ≤ 2600 := hHT6.c _ _
                        have w177 : 0 ≤ Xi T6 904 72 ∧ Xi T6 904 72 ≤ 2600 := hHT6.c _ _
                        refine l_callV rfl rfl rfl (t_mo_tell hHT6 1 (v2 + v5) v13 v15 v17 v7 ⟨by omega, by omega⟩ ⟨by omega, by omega⟩ ⟨by omega, by omega⟩ (by have t := lcn_le hHT6 L299; omega) _) ?_
                        rintro _ T9 ⟨hHT9, w180, rfl, w178, e332, k332⟩
                        have hFT9 : FR md_mo_doKinds S T9 := FR.tr hFT6 w180 rfl
                        show Rl _ _ _ _ _ [] _ _
                        refine l_aload_n rfl rfl ?_
                        refine l_gfr rfl rfl rfl rfl rfl (hHT9.r 904 14 916 rfl) ?_
                        refine l_aload_n rfl rfl ?_
                        refine l_gfi rfl rfl rfl rfl rfl ?_
                        have w181 : 0 ≤ (Xi T9 904 15) ∧ (Xi T9 904 15) ≤ 300 := hHT9.c _ _
                        refine l_iconst rfl ?_
                        refine l_isub rfl ?_
                        refine l_iload rfl rfl ?_
                        refine l_bastoreZ1 (n := 300) rfl rfl (by omega) (by omega) (by unfold rg; omega) ⟨by omega, by omega⟩ ?_
                        obtain ⟨U10, eU10⟩ : ∃ T : sS, T = uI T9 916 ((((Xi T9 904 15) - 1)).toNat) (Int32.ofInt v10) := ⟨_, rfl⟩
                        rw [← eU10]
                        have hHU10 : HI U10 := by rw [eU10]; exact HI_w hHT9 (show 0 ≤ v10 by omega) (show v10 ≤ 1 by omega)
                        have hFU10 : FR md_mo_doKinds S U10 := by rw [eU10]; exact FR.wI hFT9 (mdf_i (r := (916, 917, 0, 100000)) (List.mem_of_getElem? (i := 7) rfl) (inR_i (by omega) (by omega) (by omega) (by omega)))
                        have w182 : Xi U10 916 ((((Xi T9 904 15) - 1)).toNat) = v10 := by rw [eU10]; exact Xi_same (by unfold rg; omega)
                        have f347 : Xi U10 904 15 = Xi T9 904 15 ∧ Xi U10 904 16 = Xi T9 904 16 ∧ Xi U10 904 18 = Xi T9 904 18 := ⟨by rw [eU10, Xi_ne (by omega)], by rw [eU10, Xi_ne (by omega)], by rw [eU10, Xi_ne (by omega)]⟩
                        have h347 : Xi T9 904 16 = Xi T6 904 16 ∧ Xi T9 904 18 = Xi T6 904 18 := ⟨(by assumption : FR md_mo_tell T6 T9).x 904 16 rfl, (by assumption : FR md_mo_tell T6 T9).x 904 18 rfl⟩
                        have x347 : LXK U10 T6 (Xi T6 904 15) := k332.wl eU10 (by omega)
                        have d347 : Xi U10 914 (Xi T6 904 15).toNat = Xi T9 914 (Xi T6 904 15).toNat ∧ Xi U10 915 (Xi T6 904 15).toNat = Xi T9 915 (Xi T6 904 15).toNat := ⟨by rw [eU10, Xi_ne (by omega)], by rw [eU10, Xi_ne (by omega)]⟩
                        have g347 : GR U10 T6 := GR_FR (FR_e eU10) rfl (GR_FR (by assumption : FR md_mo_tell T6 T9) rfl GR.rf)
                        have G347 : GR U10 S := G299.tr g347
                        have c347 : 0 ≤ Xi T6 904 15 := (hHT6.c 904 15).1
                        have n347 : Xi U10 904 15 = Xi T6 904 15 + 1 := by omega
                        have z347_19 : Xi U10 904 19 = Xi T6 904 19 := (hFU10.x 904 19 rfl).trans (hFT6.x 904 19 rfl).symm
                        have z347_23 : Xi U10 904 23 = Xi T6 904 23 := (hFU10.x 904 23 rfl).trans (hFT6.x 904 23 rfl).symm
                        have z347_30 : Xi U10 904 30 = Xi T6 904 30 := (hFU10.x 904 30 rfl).trans (hFT6.x 904 30 rfl).symm
                        have z347_32 : Xi U10 904 32 = Xi T6 904 32 := (hFU10.x 904 32 rfl).trans (hFT6.x 904 32 rfl).symm
                        have z347_41 : Xi U10 904 41 = Xi T6 904 41 := (hFU10.x 904 41 rfl).trans (hFT6.x 904 41 rfl).symm
                        have z347_47 : Xi U10 904 47 = Xi T6 904 47 := (hFU10.x 904 47 rfl).trans (hFT6.x 904 47 rfl).symm
                        have z347_49 : Xi U10 904 49 = Xi T6 904 49 := (hFU10.x 904 49 rfl).trans (hFT6.x 904 49 rfl).symm
                        have u347 : Xi U10 904 16 = Xi T6 904 16 ∧ Xi U10 904 18 = Xi T6 904 18 := ⟨by omega, by omega⟩
                        have M347 : LXM U10 := lxm_gr M299 x347 g347 (by omega) (Or.inr ⟨by omega, by rw [d347.1, d347.2, e332.1, e332.2]; first | (rw [cM3]; omega) | (rw [cM1]; omega)⟩)
                        have N347 : lxH U10 _ _ := ⟨(Xi T6 904 15).toNat, by omega, d347.1.trans e332.1, d347.2.trans e332.2⟩
                        have L347 : LCN U10 := lcn_p L299 (pls_one x347 (by omega) (by omega) (by omega) (by first | exact Or.inl ⟨rfl, by omega⟩ | exact Or.inr ⟨rfl, by omega⟩ | (exfalso; omega)) (by omega) (plb_no P299 (by first | exact Or.inl ⟨rfl, by omega⟩ | exact Or.inr ⟨rfl, by omega⟩ | (exfalso; omega))) N347) (by omega) (by omega) (by omega) (by omega) (by omega) (by omega) (by omega) (by omega) (by omega) (by omega) 
                        have C347 : KCT S U10 v3 (Xi S 904 72) := ⟨fun _ => ⟨by omega, by omega⟩, fun _ => ⟨by omega, by omega⟩⟩
                        have P347 : PLB U10 (v1 + v5 + 1) (v2 + v5 + 1) := plb_add (P299.up (by omega) (by omega)) x347 (by omega) (by omega) (fun _ => by rw [d347.2, e332.2]; omega) (fun _ => by rw [d347.2, e332.2]; omega)
                        have w183 : Xi U10 904 15 = Xi T9 904 15 := (show Xi U10 904 15 = Xi T9 904 15 from by rw [eU10]; exact Xi_ne (by omega))
                        have w184 : 0 ≤ Xi T9 904 15 ∧ Xi T9 904 15 ≤ 300 := hHT9.c _ _
                        have w185 : Xi U10 904 16 = Xi T6 904 16 := (show Xi U10 904 16 = Xi T9 904 16 from by rw [eU10]; exact Xi_ne (by omega)).trans ((show Xi T9 904 16 = Xi T6 904 16 from w180.x _ _ rfl))
                        have w186 : 0 ≤ Xi T6 904 16 ∧ Xi T6 904 16 ≤ 16 := hHT6.c _ _
                        have w187 : Xi U10 904 18 = Xi T6 904 18 := (show Xi U10 904 18 = Xi T9 904 18 from by rw [eU10]; exact Xi_ne (by omega)).trans ((show Xi T9 904 18 = Xi T6 904 18 from w180.x _ _ rfl))
                        have w188 : 0 ≤ Xi T6 904 18 ∧ Xi T6 904 18 ≤ 8 := hHT6.c _ _
                        have w189 : Xi U10 904 69 = Xi T6 904 69 := (show Xi U10 904 69 = Xi T9 904 69 from by rw [eU10]; exact Xi_ne (by omega)).trans ((show Xi T9 904 69 = Xi T6 904 69 from w180.x _ _ rfl))
                        have w190 : 0 ≤ Xi T6 904 69 ∧ Xi T6 904 69 ≤ 2600 := hHT6.c _ _
                        have w191 : Xi U10 904 71 = Xi T6 904 71 := (show Xi U10 904 71 = Xi T9 904 71 from by rw [eU10]; exact Xi_ne (by omega)).trans ((show Xi T9 904 71 = Xi T6 904 71 from w180.x _ _ rfl))
                        have w192 : 0 ≤ Xi T6 904 71 ∧ Xi T6 904 71 ≤ 2600 := hHT6.c _ _
                        have w193 : Xi U10 904 72 = Xi T6 904 72 := (show Xi U10 904 72 = Xi T9 904 72 from by rw [eU10]; exact Xi_ne (by omega)).trans ((show Xi T9 904 72 = Xi T6 904 72 from w180.x _ _ rfl))
                        have w194 : 0 ≤ Xi T6 904 72 ∧ Xi T6 904 72 ≤ 2600 := hHT6.c _ _
                        exact Rl_weak (C348 U10 hHU10 hFU10 (v1) (v2) (v3) (v5) (by omega) (by omega) (by omega) (by omega) (by omega) (by omega) (by assumption) (by omega) (by omega) (by omega) (by omega) (by assumption) (by first | assumption | exact (TXM_FR (FR_e eU10) rfl (TXM_FR w180 rfl (by assumption : TXM T6)))) (by first | assumption | exact (ABV_FR (FR_e eU10) rfl (ABV_FR w180 rfl (by assumption : ABV T6)))) (by first | assumption | exact (LXM_FR (FR_e eU10) rfl (by assumption : LXM T9))) (by first | assumption | exact (by assumption : LCN U10)) (by assumption) (by first | exact P347.up (by omega) (by omega) | exact P278.up (by omega) (by omega)) (by omega)) (And.intro rfl (And.intro rfl (And.intro rfl (And.intro rfl (And.intro rfl (True.intro))))))
                    · refine l_iconst rfl ?_
                      have k304 : Xi T6 904 18 = Xi S 904 18 + Xi S 904 72 ∧ Xi T6 904 16 = Xi S 904 16 := C299.2 (by omega)
                      have m304 : Xi S 904 18 + Xi S 904 72 ≤ 8 := hZ.1 (Y299.1 (by omega))
                      refine l_goto rfl rfl ?_
                      refine l_iload_n rfl rfl ?_
                      refine l_if_eq rfl rfl (by unfold rg; omega) (fun w195 => ?_) (fun w196 => ?_)
                      · refine l_iload_n rfl rfl ?_
                        refine l_iload rfl rfl ?_
                        refine l_iadd rfl ?_
                        refine l_lload rfl rfl ?_
                        refine l_lload rfl rfl ?_
                        refine l_lload rfl rfl ?_
                        refine l_iload rfl rfl ?_
                        have w197 : 0 ≤ Xi T6 904 15 ∧ Xi T6 904 15 ≤ 300 := hHT6.c _ _
                        have w198 : 0 ≤ Xi T6 904 16 ∧ Xi T6 904 16 ≤ 16 := hHT6.c _ _
                        have w199 : 0 ≤ Xi T6 904 18 ∧ Xi T6 904 18 ≤ 8 := hHT6.c _ _
                        have w200 : 0 ≤ Xi T6 904 69 ∧ Xi T6 904 69 ≤ 2600 := hHT6.c _ _
                        have w201 : 0 ≤ Xi T6 904 71 ∧ Xi T6 904 71 ≤ 2600 := hHT6.c _ _
                        have w202 : 0 ≤ Xi T6 904 72 ∧ Xi T6 904 72 ≤ 2600 := hHT6.c _ _
                        refine l_callV rfl rfl rfl (t_mo_tell hHT6 3 (v1 + v5) v13 v15 v17 v7 ⟨by omega, by omega⟩ ⟨by omega, by omega⟩ ⟨by omega, by omega⟩ (by have t := lcn_le hHT6 L299; omega) _) ?_
                        rintro _ T11 ⟨hHT11, w205, rfl, w203, e332, k332⟩
                        have hFT11 : FR md_mo_doKinds S T11 := FR.tr hFT6 w205 rfl
                        show Rl _ _ _ _ _ [] _ _
                        refine l_aload_n rfl rfl ?_
                        refine l_gfr rfl rfl rfl rfl rfl (hHT11.r 904 14 916 rfl) ?_
                        refine l_aload_n rfl rfl ?_
                        refine l_gfi rfl rfl rfl rfl rfl ?_
                        have w206 : 0 ≤ (Xi T11 904 15) ∧ (Xi T11 904 15) ≤ 300 := hHT11.c _ _
                        refine l_iconst rfl ?_
                        refine l_isub rfl ?_
                        refine l_iload rfl rfl ?_
                        refine l_bastoreZ1 (n := 300) rfl rfl (by omega) (by omega) (by unfold rg; omega) ⟨by omega, by omega⟩ ?_
                        obtain ⟨U12, eU12⟩ : ∃ T : sS, T = uI T11 916 ((((Xi T11 904 15) - 1)).toNat) (Int32.ofInt v10) := ⟨_, rfl⟩
                        rw [← eU12]
                        have hHU12 : HI U12 := by rw [eU12]; exact HI_w hHT11 (show 0 ≤ v10 by omega) (show v10 ≤ 1 by omega)
                        have hFU12 : FR md_mo_doKinds S U12 := by rw [eU12]; exact FR.wI hFT11 (mdf_i (r := (916, 917, 0, 100000)) (List.mem_of_getElem? (i := 7) rfl) (inR_i (by omega) (by omega) (by omega) (by omega)))
                        have w207 : Xi U12 916 ((((Xi T11 904 15) - 1)).toNat) = v10 := by rw [eU12]; exact Xi_same (by unfold rg; omega)
                        have f347 : Xi U12 904 15 = Xi T11 904 15 ∧ Xi U12 904 16 = Xi T11 904 16 ∧ Xi U12 904 18 = Xi T11 904 18 := ⟨by rw [eU12, Xi_ne (by omega)], by rw [eU12, Xi_ne (by omega)], by rw [eU12, Xi_ne (by omega)]⟩
                        have h347 : Xi T11 904 16 = Xi T6 904 16 ∧ Xi T11 904 18 = Xi T6 904 18 := ⟨(by assumption : FR md_mo_tell T6 T11).x 904 16 rfl, (by assumption : FR md_mo_tell T6 T11).x 904 18 rfl⟩
                        have x347 : LXK U12 T6 (Xi T6 904 15) := k332.wl eU12 (by omega)
                        have d347 : Xi U12 914 (Xi T6 904 15).toNat = Xi T11 914 (Xi T6 904 15).toNat ∧ Xi U12 915 (Xi T6 904 15).toNat = Xi T11 915 (Xi T6 904 15).toNat := ⟨by rw [eU12, Xi_ne (by omega)], by rw [eU12, Xi_ne (by omega)]⟩
                        have g347 : GR U12 T6 := GR_FR (FR_e eU12) rfl (GR_FR (by assumption : FR md_mo_tell T6 T11) rfl GR.rf)
                        have G347 : GR U12 S := G299.tr g347
                        have c347 : 0 ≤ Xi T6 904 15 := (hHT6.c 904 15).1
                        have n347 : Xi U12 904 15 = Xi T6 904 15 + 1 := by omega
                        have z347_19 : Xi U12 904 19 = Xi T6 904 19 := (hFU12.x 904 19 rfl).trans (hFT6.x 904 19 rfl).symm
                        have z347_23 : Xi U12 904 23 = Xi T6 904 23 := (hFU12.x 904 23 rfl).trans (hFT6.x 904 23 rfl).symm
                        have z347_30 : Xi U12 904 30 = Xi T6 904 30 := (hFU12.x 904 30 rfl).trans (hFT6.x 904 30 rfl).symm
                        have z347_32 : Xi U12 904 32 = Xi T6 904 32 := (hFU12.x 904 32 rfl).trans (hFT6.x 904 32 rfl).symm
                        have z347_41 : Xi U12 904 41 = Xi T6 904 41 := (hFU12.x 904 41 rfl).trans (hFT6.x 904 41 rfl).symm
                        have z347_47 : Xi U12 904 47 = Xi T6 904 47 := (hFU12.x 904 47 rfl).trans (hFT6.x 904 47 rfl).symm
                        have z347_49 : Xi U12 904 49 = Xi T6 904 49 := (hFU12.x 904 49 rfl).trans (hFT6.x 904 49 rfl).symm
                        have u347 : Xi U12 904 16 = Xi T6 904 16 ∧ Xi U12 904 18 = Xi T6 904 18 := ⟨by omega, by omega⟩
                        have M347 : LXM U12 := lxm_gr M299 x347 g347 (by omega) (Or.inr ⟨by omega, by rw [d347.1, d347.2, e332.1, e332.2]; first | (rw [cM3]; omega) | (rw [cM1]; omega)⟩)
                        have N347 : lxH U12 _ _ := ⟨(Xi T6 904 15).toNat, by omega, d347.1.trans e332.1, d347.2.trans e332.2⟩
                        have L347 : LCN U12 := lcn_p L299 (pls_one x347 (by omega) (by omega) (by omega) (by first | exact Or.inl ⟨rfl, by omega⟩ | exact Or.inr ⟨rfl, by omega⟩ | (exfalso; omega)) (by omega) (plb_no P299 (by first | exact Or.inl ⟨rfl, by omega⟩ | exact Or.inr ⟨rfl, by omega⟩ | (exfalso; omega))) N347) (by omega) (by omega) (by omega) (by omega) (by omega) (by omega) (by omega) (by omega) (by omega) (by omega) 
                        have C347 : KCT S U12 v3 (Xi S 904 72) := ⟨fun _ => ⟨by omega, by omega⟩, fun _ => ⟨by omega, by omega⟩⟩
                        have P347 : PLB U12 (v1 + v5 + 1) (v2 + v5 + 1) := plb_add (P299.up (by omega) (by omega)) x347 (by omega) (by omega) (fun _ => by rw [d347.2, e332.2]; omega) (fun _ => by rw [d347.2, e332.2]; omega)
                        have w208 : Xi U12 904 15 = Xi T11 904 15 := (show Xi U12 904 15 = Xi T11 904 15 from by rw [eU12]; exact Xi_ne (by omega))
                        have w209 : 0 ≤ Xi T11 904 15 ∧ Xi T11 904 15 ≤ 300 := hHT11.c _ _
                        have w210 : Xi U12 904 16 = Xi T6 904 16 := (show Xi U12 904 16 = Xi T11 904 16 from by rw [eU12]; exact Xi_ne (by omega)).trans ((show Xi T11 904 16 = Xi T6 904 16 from w205.x _ _ rfl))
                        have w211 : 0 ≤ Xi T6 904 16 ∧ Xi T6 904 16 ≤ 16 := hHT6.c _ _
                        have w212 : Xi U12 904 18 = Xi T6 904 18 := (show Xi U12 904 18 = Xi T11 904 18 from by rw [eU12]; exact Xi_ne (by omega)).trans ((show Xi T11 904 18 = Xi T6 904 18 from w205.x _ _ rfl))
                        have w213 : 0 ≤ Xi T6 904 18 ∧ Xi T6 904 18 ≤ 8 := hHT6.c _ _
                        have w214 : Xi U12 904 69 = Xi T6 904 69 := (show Xi U12 904 69 = Xi T11 904 69 from by rw [eU12]; exact Xi_ne (by omega)).trans ((show Xi T11 904 69 = Xi T6 904 69 from w205.x _ _ rfl))
                        have w215 : 0 ≤ Xi T6 904 69 ∧ Xi T6 904 69 ≤ 2600 := hHT6.c _ _
                        have w216 : Xi U12 904 71 = Xi T6 904 71 := (show Xi U12 904 71 = Xi T11 904 71 from by rw [eU12]; exact Xi_ne (by omega)).trans ((show Xi T11 904 71 = Xi T6 904 71 from w205.x _ _ rfl))
                        have w217 : 0 ≤ Xi T6 904 71 ∧ Xi T6 904 71 ≤ 2600 := hHT6.c _ _
                        have w218 : Xi U12 904 72 = Xi T6 904 72 := (show Xi U12 904 72 = Xi T11 904 72 from by rw [eU12]; exact Xi_ne (by omega)).trans ((show Xi T11 904 72 = Xi T6 904 72 from w205.x _ _ rfl))
                        have w219 : 0 ≤ Xi T6 904 72 ∧ Xi T6 904 72 ≤ 2600 := hHT6.c _ _
                        exact Rl_weak (C348 U12 hHU12 hFU12 (v1) (v2) (v3) (v5) (by omega) (by omega) (by omega) (by omega) (by omega) (by omega) (by assumption) (by omega) (by omega) (by omega) (by omega) (by assumption) (by first | assumption | exact (TXM_FR (FR_e eU12) rfl (TXM_FR w205 rfl (by assumption : TXM T6)))) (by first | assumption | exact (ABV_FR (FR_e eU12) rfl (ABV_FR w205 rfl (by assumption : ABV T6)))) (by first | assumption | exact (LXM_FR (FR_e eU12) rfl (by assumption : LXM T11))) (by first | assumption | exact (by assumption : LCN U12)) (by assumption) (by first | exact P347.up (by omega) (by omega) | exact P278.up (by omega) (by omega)) (by omega)) (And.intro rfl (And.intro rfl (And.intro rfl (And.intro rfl (And.intro rfl (True.intro))))))
                      · refine l_iload_n rfl rfl ?_
                        refine l_iload rfl rfl ?_
                        refine l_iadd rfl ?_
                        refine l_goto rfl rfl ?_
                        refine l_lload rfl rfl ?_
                        refine l_lload rfl rfl ?_
                        refine l_lload rfl rfl ?_
                        refine l_iload rfl rfl ?_
                        have w220 : 0 ≤ Xi T6 904 15 ∧ Xi T6 904 15 ≤ 300 := hHT6.c _ _
                        have w221 : 0 ≤ Xi T6 904 16 ∧ Xi T6 904 16 ≤ 16 := hHT6.c _ _
                        have w222 : 0 ≤ Xi T6 904 18 ∧ Xi T6 904 18 ≤ 8 := hHT6.c _ _
                        have w223 : 0 ≤ Xi T6 904 69 ∧ Xi T6 904 69 ≤ 2600 := hHT6.c _ _
                        have w224 : 0 ≤ Xi T6 904 71 ∧ Xi T6 904 71 ≤ 2600 := hHT6.c _ _
                        have w225 : 0 ≤ Xi T6 904 72 ∧ Xi T6 904 72 ≤ 2600 := hHT6.c _ _
                        refine l_callV rfl rfl rfl (t_mo_tell hHT6 3 (v2 + v5) v13 v15 v17 v7 ⟨by omega, by omega⟩ ⟨by omega, by omega⟩ ⟨by omega, by omega⟩ (by have t := lcn_le hHT6 L299; omega) _) ?_
                        rintro _ T13 ⟨hHT13, w228, rfl, w226, e332, k332⟩
                        have hFT13 : FR md_mo_doKinds S T13 := FR.tr hFT6 w228 rfl
                        show Rl _ _ _ _ _ [] _ _
                        refine l_aload_n rfl rfl ?_
                        refine l_gfr rfl rfl rfl rfl rfl (hHT13.r 904 14 916 rfl) ?_
                        refine l_aload_n rfl rfl ?_
                        refine l_gfi rfl rfl rfl rfl rfl ?_
                        have w229 : 0 ≤ (Xi T13 904 15) ∧ (Xi T13 904 15) ≤ 300 := hHT13.c _ _
                        refine l_iconst rfl ?_
                        refine l_isub rfl ?_
                        refine l_iload rfl rfl ?_
                        refine l_bastoreZ1 (n := 300) rfl rfl (by omega) (by omega) (by unfold rg; omega) ⟨by omega, by omega⟩ ?_
                        obtain ⟨U14, eU14⟩ : ∃ T : sS, T = uI T13 916 ((((Xi T13 904 15) - 1)).toNat) (Int32.ofInt v10) := ⟨_, rfl⟩
                        rw [← eU14]
                        have hHU14 : HI U14 := by rw [eU14]; exact HI_w hHT13 (show 0 ≤ v10 by omega) (show v10 ≤ 1 by omega)
                        have hFU14 : FR md_mo_doKinds S U14 := by rw [eU14]; exact FR.wI hFT13 (mdf_i (r := (916, 917, 0, 100000)) (List.mem_of_getElem? (i := 7) rfl) (inR_i (by omega) (by omega) (by omega) (by omega)))
                        have w230 : Xi U14 916 ((((Xi T13 904 15) - 1)).toNat) = v10 := by rw [eU14]; exact Xi_same (by unfold rg; omega)
                        have f347 : Xi U14 904 15 = Xi T13 904 15 ∧ Xi U14 904 16 = Xi T13 904 16 ∧ Xi U14 904 18 = Xi T13 904 18 := ⟨by rw [eU14, Xi_ne (by omega)], by rw [eU14, Xi_ne (by omega)], by rw [eU14, Xi_ne (by omega)]⟩
                        have h347 : Xi T13 904 16 = Xi T6 904 16 ∧ Xi T13 904 18 = Xi T6 904 18 := ⟨(by assumption : FR md_mo_tell T6 T13).x 904 16 rfl, (by assumption : FR md_mo_tell T6 T13).x 904 18 rfl⟩
                        have x347 : LXK U14 T6 (Xi T6 904 15) := k332.wl eU14 (by omega)
                        have d347 : Xi U14 914 (Xi T6 904 15).toNat = Xi T13 914 (Xi T6 904 15).toNat ∧ Xi U14 915 (Xi T6 904 15).toNat = Xi T13 915 (Xi T6 904 15).toNat := ⟨by rw [eU14, Xi_ne (by omega)], by rw [eU14, Xi_ne (by omega)]⟩
                        have g347 : GR U14 T6 := GR_FR (FR_e eU14) rfl (GR_FR (by assumption : FR md_mo_tell T6 T13) rfl GR.rf)
                        have G347 : GR U14 S := G299.tr g347
                        have c347 : 0 ≤ Xi T6 904 15 := (hHT6.c 904 15).1
                        have n347 : Xi U14 904 15 = Xi T6 904 15 + 1 := by omega
                        have z347_19 : Xi U14 904 19 = Xi T6 904 19 := (hFU14.x 904 19 rfl).trans (hFT6.x 904 19 rfl).symm
                        have z347_23 : Xi U14 904 23 = Xi T6 904 23 := (hFU14.x 904 23 rfl).trans (hFT6.x 904 23 rfl).symm
                        have z347_30 : Xi U14 904 30 = Xi T6 904 30 := (hFU14.x 904 30 rfl).trans (hFT6.x 904 30 rfl).symm
                        have z347_32 : Xi U14 904 32 = Xi T6 904 32 := (hFU14.x 904 32 rfl).trans (hFT6.x 904 32 rfl).symm
                        have z347_41 : Xi U14 904 41 = Xi T6 904 41 := (hFU14.x 904 41 rfl).trans (hFT6.x 904 41 rfl).symm
                        have z347_47 : Xi U14 904 47 = Xi T6 904 47 := (hFU14.x 904 47 rfl).trans (hFT6.x 904 47 rfl).symm
                        have z347_49 : Xi U14 904 49 = Xi T6 904 49 := (hFU14.x 904 49 rfl).trans (hFT6.x 904 49 rfl).symm
                        have u347 : Xi U14 904 16 = Xi T6 904 16 ∧ Xi U14 904 18 = Xi T6 904 18 := ⟨by omega, by omega⟩
                        have M347 : LXM U14 := lxm_gr M299 x347 g347 (by omega) (Or.inr ⟨by omega, by rw [d347.1, d347.2, e332.1, e332.2]; first | (rw [cM3]; omega) | (rw [cM1]; omega)⟩)
                        have N347 : lxH U14 _ _ := ⟨(Xi T6 904 15).toNat, by omega, d347.1.trans e332.1, d347.2.trans e332.2⟩
                        have L347 : LCN U14 := lcn_p L299 (pls_one x347 (by omega) (by omega) (by omega) (by first | exact Or.inl ⟨rfl, by omega⟩ | exact Or.inr ⟨rfl, by omega⟩ | (exfalso; omega)) (by omega) (plb_no P299 (by first | exact Or.inl ⟨rfl, by omega⟩ | exact Or.inr ⟨rfl, by omega⟩ | (exfalso; omega))) N347) (by omega) (by omega) (by omega) (by omega) (by omega) (by omega) (by omega) (by omega) (by omega) (by omega) 
                        have C347 : KCT S U14 v3 (Xi S 904 72) := ⟨fun _ => ⟨by omega, by omega⟩, fun _ => ⟨by omega, by omega⟩⟩
                        have P347 : PLB U14 (v1 + v5 + 1) (v2 + v5 + 1) := plb_add (P299.up (by omega) (by omega)) x347 (by omega) (by omega) (fun _ => by rw [d347.2, e332.2]; omega) (fun _ => by rw [d347.2, e332.2]; omega)
                        have w231 : Xi U14 904 15 = Xi T13 904 15 := (show Xi U14 904 15 = Xi T13 904 15 from by rw [eU14]; exact Xi_ne (by omega))
                        have w232 : 0 ≤ Xi T13 904 15 ∧ Xi T13 904 15 ≤ 300 := hHT13.c _ _
                        have w233 : Xi U14 904 16 = Xi T6 904 16 := (show Xi U14 904 16 = Xi T13 904 16 from by rw [eU14]; exact Xi_ne (by omega)).trans ((show Xi T13 904 16 = Xi T6 904 16 from w228.x _ _ rfl))
                        have w234 : 0 ≤ Xi T6 904 16 ∧ Xi T6 904 16 ≤ 16 := hHT6.c _ _
                        have w235 : Xi U14 904 18 = Xi T6 904 18 := (show Xi U14 904 18 = Xi T13 904 18 from by rw [eU14]; exact Xi_ne (by omega)).trans ((show Xi T13 904 18 = Xi T6 904 18 from w228.x _ _ rfl))
                        have w236 : 0 ≤ Xi T6 904 18 ∧ Xi T6 904 18 ≤ 8 := hHT6.c _ _
                        have w237 : Xi U14 904 69 = Xi T6 904 69 := (show Xi U14 904 69 = Xi T13 904 69 from by rw [eU14]; exact Xi_ne (by omega)).trans ((show Xi T13 904 69 = Xi T6 904 69 from w228.x _ _ rfl))
                        have w238 : 0 ≤ Xi T6 904 69 ∧ Xi T6 904 69 ≤ 2600 := hHT6.c _ _
                        have w239 : Xi U14 904 71 = Xi T6 904 71 := (show Xi U14 904 71 = Xi T13 904 71 from by rw [eU14]; exact Xi_ne (by omega)).trans ((show Xi T13 904 71 = Xi T6 904 71 from w228.x _ _ rfl))
                        have w240 : 0 ≤ Xi T6 904 71 ∧ Xi T6 904 71 ≤ 2600 := hHT6.c _ _
                        have w241 : Xi U14 904 72 = Xi T6 904 72 := (show Xi U14 904 72 = Xi T13 904 72 from by rw [eU14]; exact Xi_ne (by omega)).trans ((show Xi T13 904 72 = Xi T6 904 72 from w228.x _ _ rfl))
                        have w242 : 0 ≤ Xi T6 904 72 ∧ Xi T6 904 72 ≤ 2600 := hHT6.c _ _
                        exact Rl_weak (C348 U14 hHU14 hFU14 (v1) (v2) (v3) (v5) (by omega) (by omega) (by omega) (by omega) (by omega) (by omega) (by assumption) (by omega) (by omega) (by omega) (by omega) (by assumption) (by first | assumption | exact (TXM_FR (FR_e eU14) rfl (TXM_FR w228 rfl (by assumption : TXM T6)))) (by first | assumption | exact (ABV_FR (FR_e eU14) rfl (ABV_FR w228 rfl (by assumption : ABV T6)))) (by first | assumption | exact (LXM_FR (FR_e eU14) rfl (by assumption : LXM T13))) (by first | assumption | exact (by assumption : LCN U14)) (by assumption) (by first | exact P347.up (by omega) (by omega) | exact P278.up (by omega) (by omega)) (by omega)) (And.intro rfl (And.intro rfl (And.intro rfl (And.intro rfl (And.intro rfl (True.intro))))))
                  refine l_iload rfl rfl ?_
                  refine l_if_ne rfl rfl (by unfold rg; omega) (fun w243 => ?_) (fun w244 => ?_)
                  · have w245 : 0 ≤ Xi T4 904 15 ∧ Xi T4 904 15 ≤ 300 := hHT4.c _ _
                    have w246 : 0 ≤ Xi T4 904 16 ∧ Xi T4 904 16 ≤ 16 := hHT4.c _ _
                    have w247 : 0 ≤ Xi T4 904 18 ∧ Xi T4 904 18 ≤ 8 := hHT4.c _ _
                    have w248 : 0 ≤ Xi T4 904 69 ∧ Xi T4 904 69 ≤ 2600 := hHT4.c _ _
                    have w249 : 0 ≤ Xi T4 904 71 ∧ Xi T4 904 71 ≤ 2600 := hHT4.c _ _
                    have w250 : 0 ≤ Xi T4 904 72 ∧ Xi T4 904 72 ≤ 2600 := hHT4.c _ _
                    exact Rl_weak (C299 T4 hHT4 hFT4 (v1) (v2) (v3) (v5) (v7) (v10) (v13) (v15) (v17) (by omega) (by omega) (by omega) (by omega) (by omega) (by omega) (by omega) (by omega) (by assumption) (by omega) (by omega) (by omega) (by first | assumption | exact (by assumption : TXM T4)) (by first | assumption | exact (by assumption : ABV T4)) (by first | assumption | exact (by assumption : LXM T4)) (by first | assumption | exact (by assumption : LCN T4)) (by assumption) (by omega) (by assumption) (by assumption) (by omega) (by omega)) (And.intro rfl (And.intro rfl (And.intro rfl (And.intro rfl (And.intro rfl (And.intro rfl (And.intro rfl (And.intro rfl (And.intro rfl (And.intro rfl (True.intro)))))))))))
                  · refine l_aload_n rfl rfl ?_
                    refine l_lload rfl rfl ?_
                    refine l_lload rfl rfl ?_
                    refine l_lload rfl rfl ?_
                    refine l_iload rfl rfl ?_
                    have w251 : 0 ≤ Xi T4 904 15 ∧ Xi T4 904 15 ≤ 300 := hHT4.c _ _
                    have w252 : 0 ≤ Xi T4 904 16 ∧ Xi T4 904 16 ≤ 16 := hHT4.c _ _
                    have w253 : 0 ≤ Xi T4 904 18 ∧ Xi T4 904 18 ≤ 8 := hHT4.c _ _
                    have w254 : 0 ≤ Xi T4 904 69 ∧ Xi T4 904 69 ≤ 2600 := hHT4.c _ _
                    have w255 : 0 ≤ Xi T4 904 71 ∧ Xi T4 904 71 ≤ 2600 := hHT4.c _ _
                    have w256 : 0 ≤ Xi T4 904 72 ∧ Xi T4 904 72 ≤ 2600 := hHT4.c _ _
                    refine l_callV rfl rfl rfl (t_mo_find hHT4 v13 v15 v17 v7 ⟨by omega, by omega⟩ _) ?_
                    rintro _ _ ⟨rfl, z258, rfl, w258, w257⟩
                    show Rl _ _ _ _ _ [iv z258] _ _
                    refine l_iconst rfl ?_
                    refine l_icmp_ne rfl rfl (by unfold rg; omega) (by unfold rg; omega) (fun w259 => ?_) (fun w260 => ?_)
                    · have w261 : 0 ≤ Xi T4 904 15 ∧ Xi T4 904 15 ≤ 300 := hHT4.c _ _
                      have w262 : 0 ≤ Xi T4 904 16 ∧ Xi T4 904 16 ≤ 16 := hHT4.c _ _
                      have w263 : 0 ≤ Xi T4 904 18 ∧ Xi T4 904 18 ≤ 8 := hHT4.c _ _
                      have w264 : 0 ≤ Xi T4 904 69 ∧ Xi T4 904 69 ≤ 2600 := hHT4.c _ _
                      have w265 : 0 ≤ Xi T4 904 71 ∧ Xi T4 904 71 ≤ 2600 := hHT4.c _ _
                      have w266 : 0 ≤ Xi T4 904 72 ∧ Xi T4 904 72 ≤ 2600 := hHT4.c _ _
                      exact Rl_weak (C348 T4 hHT4 hFT4 (v1) (v2) (v3) (v5) (by omega) (by omega) (by omega) (by omega) (by omega) (by omega) (by assumption) (by omega) (by omega) (by omega) (by omega) (by assumption) (by first | assumption | exact (by assumption : TXM T4)) (by first | assumption | exact (by assumption : ABV T4)) (by first | assumption | exact (by assumption : LXM T4)) (by first | assumption | exact (by assumption : LCN T4)) (by assumption) (by first | exact P347.up (by omega) (by omega) | exact P278.up (by omega) (by omega)) (by omega)) (And.intro rfl (And.intro rfl (And.intro rfl (And.intro rfl (And.intro rfl (True.intro))))))
                    · have w267 : 0 ≤ Xi T4 904 15 ∧ Xi T4 904 15 ≤ 300 := hHT4.c _ _
                      have w268 : 0 ≤ Xi T4 904 16 ∧ Xi T4 904 16 ≤ 16 := hHT4.c _ _
                      have w269 : 0 ≤ Xi T4 904 18 ∧ Xi T4 904 18 ≤ 8 := hHT4.c _ _
                      have w270 : 0 ≤ Xi T4 904 69 ∧ Xi T4 904 69 ≤ 2600 := hHT4.c _ _
                      have w271 : 0 ≤ Xi T4 904 71 ∧ Xi T4 904 71 ≤ 2600 := hHT4.c _ _
                      have w272 : 0 ≤ Xi T4 904 72 ∧ Xi T4 904 72 ≤ 2600 := hHT4.c _ _
                      exact Rl_weak (C299 T4 hHT4 hFT4 (v1) (v2) (v3) (v5) (v7) (v10) (v13) (v15) (v17) (by omega) (by omega) (by omega) (by omega) (by omega) (by omega) (by omega) (by omega) (by assumption) (by omega) (by omega) (by omega) (by first | assumption | exact (by assumption : TXM T4)) (by first | assumption | exact (by assumption : ABV T4)) (by first | assumption | exact (by assumption : LXM T4)) (by first | assumption | exact (by assumption : LCN T4)) (by assumption) (by omega) (by assumption) (by assumption) (by omega) (by omega)) (And.intro rfl (And.intro rfl (And.intro rfl (And.intro rfl (And.intro rfl (And.intro rfl (And.intro rfl (And.intro rfl (And.intro rfl (And.intro rfl (True.intro)))))))))))
                refine l_iload rfl rfl ?_
                refine l_iconst rfl ?_
                refine l_icmp_ne rfl rfl (by unfold rg; omega) (by unfold rg; omega) (fun w273 => ?_) (fun w274 => ?_)
                · refine l_iload rfl rfl ?_
                  refine l_iconst rfl ?_
                  refine l_icmp_le rfl rfl (by unfold rg; omega) (by unfold rg; omega) (fun w275 => ?_) (fun w276 => ?_)
                  · refine l_lconst (z := 0) rfl rfl ?_
                    refine l_lstore rfl rfl rfl rfl ?_
                    refine l_iload rfl rfl ?_
                    refine l_iconst rfl ?_
                    refine l_icmp_ne rfl rfl (by unfold rg; omega) (by unfold rg; omega) (fun w277 => ?_) (fun w278 => ?_)
                    · refine l_lconst (z := 0) rfl rfl ?_
                      refine l_lstore rfl rfl rfl rfl ?_
                      have w279 : 0 ≤ Xi T3 904 15 ∧ Xi T3 904 15 ≤ 300 := hHT3.c _ _
                      have w280 : 0 ≤ Xi T3 904 16 ∧ Xi T3 904 16 ≤ 16 := hHT3.c _ _
                      have w281 : 0 ≤ Xi T3 904 18 ∧ Xi T3 904 18 ≤ 8 := hHT3.c _ _
                      have w282 : 0 ≤ Xi T3 904 69 ∧ Xi T3 904 69 ≤ 2600 := hHT3.c _ _
                      have w283 : 0 ≤ Xi T3 904 71 ∧ Xi T3 904 71 ≤ 2600 := hHT3.c _ _
                      have w284 : 0 ≤ Xi T3 904 72 ∧ Xi T3 904 72 ≤ 2600 := hHT3.c _ _
                      exact Rl_weak (C278 T3 hHT3 hFT3 (v1) (v2) (v3) (v5) (v7) (v10) (v13) (0) (0) (by omega) (by omega) (by omega) (by omega) (by omega) (by omega) (by omega) (by omega) (by assumption) (by omega) (by omega) (by omega) (by first | assumption | exact (by assumption : TXM T3)) (by first | assumption | exact (by assumption : ABV T3)) (by first | assumption | exact (by assumption : LXM T3)) (by first | assumption | exact (by assumption : LCN T3)) (by assumption) (by omega) (by assumption) (by assumption) (by omega) (by omega) (by omega)) (And.intro rfl (And.intro rfl (And.intro rfl (And.intro rfl (And.intro rfl (And.intro rfl (And.intro rfl (And.intro rfl (And.intro rfl (And.intro rfl (True.intro)))))))))))
                    · refine l_lload rfl rfl ?_
                      refine l_goto rfl rfl ?_
                      refine l_lstore rfl rfl rfl rfl ?_
                      have w285 : 0 ≤ Xi T3 904 15 ∧ Xi T3 904 15 ≤ 300 := hHT3.c _ _
                      have w286 : 0 ≤ Xi T3 904 16 ∧ Xi T3 904 16 ≤ 16 := hHT3.c _ _
                      have w287 : 0 ≤ Xi T3 904 18 ∧ Xi T3 904 18 ≤ 8 := hHT3.c _ _
                      have w288 : 0 ≤ Xi T3 904 69 ∧ Xi T3 904 69 ≤ 2600 := hHT3.c _ _
                      have w289 : 0 ≤ Xi T3 904 71 ∧ Xi T3 904 71 ≤ 2600 := hHT3.c _ _
                      have w290 : 0 ≤ Xi T3 904 72 ∧ Xi T3 904 72 ≤ 2600 := hHT3.c _ _
                      exact Rl_weak (C278 T3 hHT3 hFT3 (v1) (v2) (v3) (v5) (v7) (v10) (v13) (0) (v11) (by omega) (by omega) (by omega) (by omega) (by omega) (by omega) (by omega) (by omega) (by assumption) (by omega) (by omega) (by omega) (by first | assumption | exact (by assumption : TXM T3)) (by first | assumption | exact (by assumption : ABV T3)) (by first | assumption | exact (by assumption : LXM T3)) (by first | assumption | exact (by assumption : LCN T3)) (by assumption) (by omega) (by assumption) (by assumption) (by omega) (by omega) (by omega)) (And.intro rfl (And.intro rfl (And.intro rfl (And.intro rfl (And.intro rfl (And.intro rfl (And.intro rfl (And.intro rfl (And.intro rfl (And.intro rfl (True.intro)))))))))))
                  · refine l_aload_n rfl rfl ?_
                    refine l_gfr rfl rfl rfl rfl rfl (hHT3.r 904 7 910 rfl) ?_
                    refine l_iload rfl rfl ?_
                    refine l_iconst rfl ?_
                    refine l_iadd rfl ?_
                    refine l_laload (n := 5002) rfl rfl (by omega) (by omega) (by unfold rg; omega) ?_
                    have w291 : -9223372036854775808 ≤ (Xj T3 910 (((v6 + 1)).toNat)) ∧ (Xj T3 910 (((v6 + 1)).toNat)) < 9223372036854775808 := Xj_rg
                    refine l_goto rfl rfl ?_
                    refine l_lstore rfl rfl rfl rfl ?_
                    refine l_iload rfl rfl ?_
                    refine l_iconst rfl ?_
                    refine l_icmp_ne rfl rfl (by unfold rg; omega) (by unfold rg; omega) (fun w292 => ?_) (fun w293 => ?_)
                    · refine l_lconst (z := 0) rfl rfl ?_
                      refine l_lstore rfl rfl rfl rfl ?_
                      have w294 : 0 ≤ Xi T3 904 15 ∧ Xi T3 904 15 ≤ 300 := hHT3.c _ _
                      have w295 : 0 ≤ Xi T3 904 16 ∧ Xi T3 904 16 ≤ 16 := hHT3.c _ _
                      have w296 : 0 ≤ Xi T3 904 18 ∧ Xi T3 904 18 ≤ 8 := hHT3.c _ _
                      have w297 : 0 ≤ Xi T3 904 69 ∧ Xi T3 904 69 ≤ 2600 := hHT3.c _ _
                      have w298 : 0 ≤ Xi T3 904 71 ∧ Xi T3 904 71 ≤ 2600 := hHT3.c _ _
                      have w299 : 0 ≤ Xi T3 904 72 ∧ Xi T3 904 72 ≤ 2600 := hHT3.c _ _
                      exact Rl_weak (C278 T3 hHT3 hFT3 (v1) (v2) (v3) (v5) (v7) (v10) (v13) ((Xj T3 910 (((v6 + 1)).toNat))) (0) (by omega) (by omega) (by omega) (by omega) (by omega) (by omega) (by omega) (by omega) (by assumption) (by omega) (by omega) (by omega) (by first | assumption | exact (by assumption : TXM T3)) (by first | assumption | exact (by assumption : ABV T3)) (by first | assumption | exact (by assumption : LXM T3)) (by first | assumption | exact (by assumption : LCN T3)) (by assumption) (by omega) (by assumption) (by assumption) (by omega) (by omega) (by omega)) (And.intro rfl (And.intro rfl (And.intro rfl (And.intro rfl (And.intro rfl (And.intro rfl (And.intro rfl (And.intro rfl (And.intro rfl (And.intro rfl (True.intro)))))))))))
                    · refine l_lload rfl rfl ?_
                      refine l_goto rfl rfl ?_
                      refine l_lstore rfl rfl rfl rfl ?_
                      have w300 : 0 ≤ Xi T3 904 15 ∧ Xi T3 904 15 ≤ 300 := hHT3.c _ _
                      have w301 : 0 ≤ Xi T3 904 16 ∧ Xi T3 904 16 ≤ 16 := hHT3.c _ _
                      have w302 : 0 ≤ Xi T3 904 18 ∧ Xi T3 904 18 ≤ 8 := hHT3.c _ _
                      have w303 : 0 ≤ Xi T3 904 69 ∧ Xi T3 904 69 ≤ 2600 := hHT3.c _ _
                      have w304 : 0 ≤ Xi T3 904 71 ∧ Xi T3 904 71 ≤ 2600 := hHT3.c _ _
                      have w305 : 0 ≤ Xi T3 904 72 ∧ Xi T3 904 72 ≤ 2600 := hHT3.c _ _
                      exact Rl_weak (C278 T3 hHT3 hFT3 (v1) (v2) (v3) (v5) (v7) (v10) (v13) ((Xj T3 910 (((v6 + 1)).toNat))) (v11) (by omega) (by omega) (by omega) (by omega) (by omega) (by omega) (by omega) (by omega) (by assumption) (by omega) (by omega) (by omega) (by first | assumption | exact (by assumption : TXM T3)) (by first | assumption | exact (by assumption : ABV T3)) (by first | assumption | exact (by assumption : LXM T3)) (by first | assumption | exact (by assumption : LCN T3)) (by assumption) (by omega) (by assumption) (by assumption) (by omega) (by omega) (by omega)) (And.intro rfl (And.intro rfl (And.intro rfl (And.intro rfl (And.intro rfl (And.intro rfl (And.intro rfl (And.intro rfl (And.intro rfl (And.intro rfl (True.intro)))))))))))
                · refine l_lload rfl rfl ?_
                  refine l_goto rfl rfl ?_
                  refine l_lstore rfl rfl rfl rfl ?_
                  refine l_iload rfl rfl ?_
                  refine l_iconst rfl ?_
                  refine l_icmp_ne rfl rfl (by unfold rg; omega) (by unfold rg; omega) (fun w306 => ?_) (fun w307 => ?_)
                  · refine l_lconst (z := 0) rfl rfl ?_
                    refine l_lstore rfl rfl rfl rfl ?_
                    have w308 : 0 ≤ Xi T3 904 15 ∧ Xi T3 904 15 ≤ 300 := hHT3.c _ _
                    have w309 : 0 ≤ Xi T3 904 16 ∧ Xi T3 904 16 ≤ 16 := hHT3.c _ _
                    have w310 : 0 ≤ Xi T3 904 18 ∧ Xi T3 904 18 ≤ 8 := hHT3.c _ _
                    have w311 : 0 ≤ Xi T3 904 69 ∧ Xi T3 904 69 ≤ 2600 := hHT3.c _ _
                    have w312 : 0 ≤ Xi T3 904 71 ∧ Xi T3 904 71 ≤ 2600 := hHT3.c _ _
                    have w313 : 0 ≤ Xi T3 904 72 ∧ Xi T3 904 72 ≤ 2600 := hHT3.c _ _
                    exact Rl_weak (C278 T3 hHT3 hFT3 (v1) (v2) (v3) (v5) (v7) (v10) (v13) (v11) (0) (by omega) (by omega) (by omega) (by omega) (by omega) (by omega) (by omega) (by omega) (by assumption) (by omega) (by omega) (by omega) (by first | assumption | exact (by assumption : TXM T3)) (by first | assumption | exact (by assumption : ABV T3)) (by first | assumption | exact (by assumption : LXM T3)) (by first | assumption | exact (by assumption : LCN T3)) (by assumption) (by omega) (by assumption) (by assumption) (by omega) (by omega) (by omega)) (And.intro rfl (And.intro rfl (And.intro rfl (And.intro rfl (And.intro rfl (And.intro rfl (And.intro rfl (And.intro rfl (And.intro rfl (And.intro rfl (True.intro)))))))))))
                  · refine l_lload rfl rfl ?_
                    refine l_goto rfl rfl ?_
                    refine l_lstore rfl rfl rfl rfl ?_
                    have w314 : 0 ≤ Xi T3 904 15 ∧ Xi T3 904 15 ≤ 300 := hHT3.c _ _
                    have w315 : 0 ≤ Xi T3 904 16 ∧ Xi T3 904 16 ≤ 16 := hHT3.c _ _
                    have w316 : 0 ≤ Xi T3 904 18 ∧ Xi T3 904 18 ≤ 8 := hHT3.c _ _
                    have w317 : 0 ≤ Xi T3 904 69 ∧ Xi T3 904 69 ≤ 2600 := hHT3.c _ _
                    have w318 : 0 ≤ Xi T3 904 71 ∧ Xi T3 904 71 ≤ 2600 := hHT3.c _ _
                    have w319 : 0 ≤ Xi T3 904 72 ∧ Xi T3 904 72 ≤ 2600 := hHT3.c _ _
                    exact Rl_weak (C278 T3 hHT3 hFT3 (v1) (v2) (v3) (v5) (v7) (v10) (v13) (v11) (v11) (by omega) (by omega) (by omega) (by omega) (by omega) (by omega) (by omega) (by omega) (by assumption) (by omega) (by omega) (by omega) (by first | assumption | exact (by assumption : TXM T3)) (by first | assumption | exact (by assumption : ABV T3)) (by first | assumption | exact (by assumption : LXM T3)) (by first | assumption | exact (by assumption : LCN T3)) (by assumption) (by omega) (by assumption) (by assumption) (by omega) (by omega) (by omega)) (And.intro rfl (And.intro rfl (And.intro rfl (And.intro rfl (And.intro rfl (And.intro rfl (And.intro rfl (And.intro rfl (And.intro rfl (And.intro rfl (True.intro)))))))))))
              refine l_iload rfl rfl ?_
              refine l_aload_n rfl rfl ?_
              refine l_gfi rfl rfl rfl rfl rfl ?_
              refine l_icmp_ge rfl rfl (by unfold rg; omega) (by unfold rg; omega) (fun w320 => ?_) (fun w321 => ?_)
              · refine l_return rfl rfl ?_
                have w322 : 0 ≤ Xi T2 904 15 ∧ Xi T2 904 15 ≤ 300 := hHT2.c _ _
                have w323 : 0 ≤ Xi T2 904 16 ∧ Xi T2 904 16 ≤ 16 := hHT2.c _ _
                have w324 : 0 ≤ Xi T2 904 18 ∧ Xi T2 904 18 ≤ 8 := hHT2.c _ _
                have w325 : 0 ≤ Xi T2 904 69 ∧ Xi T2 904 69 ≤ 2600 := hHT2.c _ _
                have w326 : 0 ≤ Xi T2 904 71 ∧ Xi T2 904 71 ≤ 2600 := hHT2.c _ _
                have w327 : 0 ≤ Xi T2 904 72 ∧ Xi T2 904 72 ≤ 2600 := hHT2.c _ _
                exact ⟨hHT2, hFT2, rfl, (by assumption), (by assumption), (by assumption), (by assumption), (by assumption)⟩
              · refine l_aload_n rfl rfl ?_
                refine l_gfr rfl rfl rfl rfl rfl (hHT2.r 904 67 950 rfl) ?_
                refine l_aload_n rfl rfl ?_
                refine l_gfi rfl rfl rfl rfl rfl ?_
                refine l_iload rfl rfl ?_
                refine l_iadd rfl ?_
                refine l_iaload (n := 2600) rfl rfl (by omega) (by omega) (by unfold rg; omega) ?_
                have w328 : 0 ≤ (Xi T2 950 ((((Xi T2 904 71) + v5)).toNat)) ∧ (Xi T2 950 ((((Xi T2 904 71) + v5)).toNat)) ≤ 5010 := hHT2.c _ _
                have e144 : (Xi T2 950 ((((Xi T2 904 71) + v5)).toNat)) = Xi S 950 (Xi S 904 71 + v5).toNat := by rw [(hFT2.cx 950 rfl _).1]; exact congrArg (fun t : Int => Xi S 950 t.toNat) (by omega)
                refine l_istore rfl rfl rfl ?_
                refine l_aload_n rfl rfl ?_
                refine l_gfr rfl rfl rfl rfl rfl (hHT2.r 904 68 951 rfl) ?_
                refine l_aload_n rfl rfl ?_
                refine l_gfi rfl rfl rfl rfl rfl ?_
                refine l_iload rfl rfl ?_
                refine l_iadd rfl ?_
                refine l_iaload (n := 2600) rfl rfl (by omega) (by omega) (by unfold rg; omega) ?_
                have w329 : 0 ≤ (Xi T2 951 ((((Xi T2 904 71) + v5)).toNat)) ∧ (Xi T2 951 ((((Xi T2 904 71) + v5)).toNat)) ≤ 5010 := hHT2.c _ _
                have e158 : (Xi T2 951 ((((Xi T2 904 71) + v5)).toNat)) = Xi S 951 (Xi S 904 71 + v5).toNat := by rw [(hFT2.cx 951 rfl _).1]; exact congrArg (fun t : Int => Xi S 951 t.toNat) (by omega)
                have r158 := hrg v5 (by omega) (by omega)
                have s158 := h3 v5 (by omega) (by omega)
                refine l_istore rfl rfl rfl ?_
                refine l_aload_n rfl rfl ?_
                refine l_gfr rfl rfl rfl rfl rfl (hHT2.r 904 7 910 rfl) ?_
                refine l_iload rfl rfl ?_
                refine l_iload rfl rfl ?_
                refine l_iadd rfl ?_
                refine l_iconst rfl ?_
                refine l_isub rfl ?_
                refine l_laload (n := 5002) rfl rfl (by omega) (by omega) (by unfold rg; omega) ?_
                have w330 : -9223372036854775808 ≤ (Xj T2 910 (((((Xi T2 950 ((((Xi T2 904 71) + v5)).toNat)) + (Xi T2 951 ((((Xi T2 904 71) + v5)).toNat))) - 1)).toNat)) ∧ (Xj T2 910 (((((Xi T2 950 ((((Xi T2 904 71) + v5)).toNat)) + (Xi T2 951 ((((Xi T2 904 71) + v5)).toNat))) - 1)).toNat)) < 9223372036854775808 := Xj_rg
                refine l_lstore rfl rfl rfl rfl ?_
                refine l_lload rfl rfl ?_
                refine l_bipush rfl rfl ?_
                refine l_lshrF rfl ?_
                have w331 : rgL (lshrF (Xj T2 910 (((((Xi T2 950 ((((Xi T2 904 71) + v5)).toNat)) + (Xi T2 951 ((((Xi T2 904 71) + v5)).toNat))) - 1)).toNat)) 55) := lshrF_rg
                refine l_lconst (z := 0) rfl rfl ?_
                refine l_lcmpA rfl (fun c332 w332 => ?_)
                refine l_if_eq rfl rfl (by unfold rg; omega) (fun w333 => ?_) (fun w334 => ?_)
                · refine l_iconst rfl ?_
                  refine l_istore rfl rfl rfl ?_
                  refine l_iload rfl rfl ?_
                  refine l_if_eq rfl rfl (by unfold rg; omega) (fun w335 => ?_) (fun w336 => absurd w336 (by omega))
                  · refine l_lload rfl rfl ?_
                    refine l_iconst rfl ?_
                    refine l_lshlF rfl ?_
                    have w337 : rgL (lshlF (Xj T2 910 (((((Xi T2 950 ((((Xi T2 904 71) + v5)).toNat)) + (Xi T2 951 ((((Xi T2 904 71) + v5)).toNat))) - 1)).toNat)) 5) := lshlF_rg
                    refine l_ldc2 (z := 19) rfl rfl ?_
                    refine l_lorF rfl ?_
                    have w338 : rgL (lorF (lshlF (Xj T2 910 (((((Xi T2 950 ((((Xi T2 904 71) + v5)).toNat)) + (Xi T2 951 ((((Xi T2 904 71) + v5)).toNat))) - 1)).toNat)) 5) 19) := lorF_rg
                    refine l_lstore rfl rfl rfl rfl ?_
                    refine l_iload rfl rfl ?_
                    refine l_iconst rfl ?_
                    refine l_icmp_ne rfl rfl (by unfold rg; omega) (by unfold rg; omega) (fun w339 => ?_) (fun w340 => ?_)
                    · refine l_aload_n rfl rfl ?_
                      refine l_gfr rfl rfl rfl rfl rfl (hHT2.r 904 7 910 rfl) ?_
                      refine l_iload rfl rfl ?_
                      refine l_laload (n := 5002) rfl rfl (by omega) (by omega) (by unfold rg; omega) ?_
                      have w341 : -9223372036854775808 ≤ (Xj T2 910 (((Xi T2 950 ((((Xi T2 904 71) + v5)).toNat))).toNat)) ∧ (Xj T2 910 (((Xi T2 950 ((((Xi T2 904 71) + v5)).toNat))).toNat)) < 9223372036854775808 := Xj_rg
                      refine l_lstore rfl rfl rfl rfl ?_
                      have w342 : 0 ≤ Xi T2 904 15 ∧ Xi T2 904 15 ≤ 300 := hHT2.c _ _
                      have w343 : 0 ≤ Xi T2 904 16 ∧ Xi T2 904 16 ≤ 16 := hHT2.c _ _
                      have w344 : 0 ≤ Xi T2 904 18 ∧ Xi T2 904 18 ≤ 8 := hHT2.c _ _
                      have w345 : 0 ≤ Xi T2 904 69 ∧ Xi T2 904 69 ≤ 2600 := hHT2.c _ _
                      have w346 : 0 ≤ Xi T2 904 71 ∧ Xi T2 904 71 ≤ 2600 := hHT2.c _ _
                      have w347 : 0 ≤ Xi T2 904 72 ∧ Xi T2 904 72 ≤ 2600 := hHT2.c _ _
                      exact Rl_weak (C232 T2 hHT2 hFT2 (v1) (v2) (v3) (v5) ((Xi T2 950 ((((Xi T2 904 71) + v5)).toNat))) ((Xi T2 951 ((((Xi T2 904 71) + v5)).toNat))) (0) ((lorF (lshlF (Xj T2 910 (((((Xi T2 950 ((((Xi T2 904 71) + v5)).toNat)) + (Xi T2 951 ((((Xi T2 904 71) + v5)).toNat))) - 1)).toNat)) 5) 19)) ((Xj T2 910 (((Xi T2 950 ((((Xi T2 904 71) + v5)).toNat))).toNat))) (by omega) (by omega) (by omega) (by omega) (by omega) (by omega) (by omega) (by omega) (by omega) (by assumption) (by omega) (by omega) (by omega) (by first | assumption | exact (by assumption : TXM T2)) (by first | assumption | exact (by assumption : ABV T2)) (by first | assumption | exact (by assumption : LXM T2)) (by first | assumption | exact (by assumption : LCN T2)) (by assumption) (by omega) (by assumption) (by assumption) (by omega) (by omega) (by omega)) (And.intro rfl (And.intro rfl (And.intro rfl (And.intro rfl (And.intro rfl (And.intro rfl (And.intro rfl (And.intro rfl (And.intro rfl (And.intro rfl (True.intro)))))))))))
                    · refine l_lload rfl rfl ?_
                      refine l_goto rfl rfl ?_
                      refine l_lstore rfl rfl rfl rfl ?_
                      have w348 : 0 ≤ Xi T2 904 15 ∧ Xi T2 904 15 ≤ 300 := hHT2.c _ _
                      have w349 : 0 ≤ Xi T2 904 16 ∧ Xi T2 904 16 ≤ 16 := hHT2.c _ _
                      have w350 : 0 ≤ Xi T2 904 18 ∧ Xi T2 904 18 ≤ 8 := hHT2.c _ _
                      have w351 : 0 ≤ Xi T2 904 69 ∧ Xi T2 904 69 ≤ 2600 := hHT2.c _ _
                      have w352 : 0 ≤ Xi T2 904 71 ∧ Xi T2 904 71 ≤ 2600 := hHT2.c _ _
                      have w353 : 0 ≤ Xi T2 904 72 ∧ Xi T2 904 72 ≤ 2600 := hHT2.c _ _
                      exact Rl_weak (C232 T2 hHT2 hFT2 (v1) (v2) (v3) (v5) ((Xi T2 950 ((((Xi T2 904 71) + v5)).toNat))) ((Xi T2 951 ((((Xi T2 904 71) + v5)).toNat))) (0) ((lorF (lshlF (Xj T2 910 (((((Xi T2 950 ((((Xi T2 904 71) + v5)).toNat)) + (Xi T2 951 ((((Xi T2 904 71) + v5)).toNat))) - 1)).toNat)) 5) 19)) ((lorF (lshlF (Xj T2 910 (((((Xi T2 950 ((((Xi T2 904 71) + v5)).toNat)) + (Xi T2 951 ((((Xi T2 904 71) + v5)).toNat))) - 1)).toNat)) 5) 19)) (by omega) (by omega) (by omega) (by omega) (by omega) (by omega) (by omega) (by omega) (by omega) (by assumption) (by omega) (by omega) (by omega) (by first | assumption | exact (by assumption : TXM T2)) (by first | assumption | exact (by assumption : ABV T2)) (by first | assumption | exact (by assumption : LXM T2)) (by first | assumption | exact (by assumption : LCN T2)) (by assumption) (by omega) (by assumption) (by assumption) (by omega) (by omega) (by omega)) (And.intro rfl (And.intro rfl (And.intro rfl (And.intro rfl (And.intro rfl (And.intro rfl (And.intro rfl (And.intro rfl (And.intro rfl (And.intro rfl (True.intro)))))))))))
                · refine l_iconst rfl ?_
                  refine l_goto rfl rfl ?_
                  refine l_istore rfl rfl rfl ?_
                  refine l_iload rfl rfl ?_
                  refine l_if_eq rfl rfl (by unfold rg; omega) (fun w354 => absurd w354 (by omega)) (fun w355 => ?_)
                  · refine l_lload rfl rfl ?_
                    refine l_goto rfl rfl ?_
                    refine l_lstore rfl rfl rfl rfl ?_
                    refine l_iload rfl rfl ?_
                    refine l_iconst rfl ?_
                    refine l_icmp_ne rfl rfl (by unfold rg; omega) (by unfold rg; omega) (fun w356 => ?_) (fun w357 => ?_)
                    · refine l_aload_n rfl rfl ?_
                      refine l_gfr rfl rfl rfl rfl rfl (hHT2.r 904 7 910 rfl) ?_
                      refine l_iload rfl rfl ?_
                      refine l_laload (n := 5002) rfl rfl (by omega) (by omega) (by unfold rg; omega) ?_
                      have w358 : -9223372036854775808 ≤ (Xj T2 910 (((Xi T2 950 ((((Xi T2 904 71) + v5)).toNat))).toNat)) ∧ (Xj T2 910 (((Xi T2 950 ((((Xi T2 904 71) + v5)).toNat))).toNat)) < 9223372036854775808 := Xj_rg
                      refine l_lstore rfl rfl rfl rfl ?_
                      have w359 : 0 ≤ Xi T2 904 15 ∧ Xi T2 904 15 ≤ 300 := hHT2.c _ _
                      have w360 : 0 ≤ Xi T2 904 16 ∧ Xi T2 904 16 ≤ 16 := hHT2.c _ _
                      have w361 : 0 ≤ Xi T2 904 18 ∧ Xi T2 904 18 ≤ 8 := hHT2.c _ _
                      have w362 : 0 ≤ Xi T2 904 69 ∧ Xi T2 904 69 ≤ 2600 := hHT2.c _ _
                      have w363 : 0 ≤ Xi T2 904 71 ∧ Xi T2 904 71 ≤ 2600 := hHT2.c _ _
                      have w364 : 0 ≤ Xi T2 904 72 ∧ Xi T2 904 72 ≤ 2600 := hHT2.c _ _
                      exact Rl_weak (C232 T2 hHT2 hFT2 (v1) (v2) (v3) (v5) ((Xi T2 950 ((((Xi T2 904 71) + v5)).toNat))) ((Xi T2 951 ((((Xi T2 904 71) + v5)).toNat))) (1) ((Xj T2 910 (((((Xi T2 950 ((((Xi T2 904 71) + v5)).toNat)) + (Xi T2 951 ((((Xi T2 904 71) + v5)).toNat))) - 1)).toNat))) ((Xj T2 910 (((Xi T2 950 ((((Xi T2 904 71) + v5)).toNat))).toNat))) (by omega) (by omega) (by omega) (by omega) (by omega) (by omega) (by omega) (by omega) (by omega) (by assumption) (by omega) (by omega) (by omega) (by first | assumption | exact (by assumption : TXM T2)) (by first | assumption | exact (by assumption : ABV T2)) (by first | assumption | exact (by assumption : LXM T2)) (by first | assumption | exact (by assumption : LCN T2)) (by assumption) (by omega) (by assumption) (by assumption) (by omega) (by omega) (by omega)) (And.intro rfl (And.intro rfl (And.intro rfl (And.intro rfl (And.intro rfl (And.intro rfl (And.intro rfl (And.intro rfl (And.intro rfl (And.intro rfl (True.intro)))))))))))
                    · refine l_lload rfl rfl ?_
                      refine l_goto rfl rfl ?_
                      refine l_lstore rfl rfl rfl rfl ?_
                      have w365 : 0 ≤ Xi T2 904 15 ∧ Xi T2 904 15 ≤ 300 := hHT2.c _ _
                      have w366 : 0 ≤ Xi T2 904 16 ∧ Xi T2 904 16 ≤ 16 := hHT2.c _ _
                      have w367 : 0 ≤ Xi T2 904 18 ∧ Xi T2 904 18 ≤ 8 := hHT2.c _ _
                      have w368 : 0 ≤ Xi T2 904 69 ∧ Xi T2 904 69 ≤ 2600 := hHT2.c _ _
                      have w369 : 0 ≤ Xi T2 904 71 ∧ Xi T2 904 71 ≤ 2600 := hHT2.c _ _
                      have w370 : 0 ≤ Xi T2 904 72 ∧ Xi T2 904 72 ≤ 2600 := hHT2.c _ _
                      exact Rl_weak (C232 T2 hHT2 hFT2 (v1) (v2) (v3) (v5) ((Xi T2 950 ((((Xi T2 904 71) + v5)).toNat))) ((Xi T2 951 ((((Xi T2 904 71) + v5)).toNat))) (1) ((Xj T2 910 (((((Xi T2 950 ((((Xi T2 904 71) + v5)).toNat)) + (Xi T2 951 ((((Xi T2 904 71) + v5)).toNat))) - 1)).toNat))) ((Xj T2 910 (((((Xi T2 950 ((((Xi T2 904 71) + v5)).toNat)) + (Xi T2 951 ((((Xi T2 904 71) + v5)).toNat))) - 1)).toNat))) (by omega) (by omega) (by omega) (by omega) (by omega) (by omega) (by omega) (by omega) (by omega) (by assumption) (by omega) (by omega) (by omega) (by first | assumption | exact (by assumption : TXM T2)) (by first | assumption | exact (by assumption : ABV T2)) (by first | assumption | exact (by assumption : LXM T2)) (by first | assumption | exact (by assumption : LCN T2)) (by assumption) (by omega) (by assumption) (by assumption) (by omega) (by omega) (by omega)) (And.intro rfl (And.intro rfl (And.intro rfl (And.intro rfl (And.intro rfl (And.intro rfl (And.intro rfl (And.intro rfl (And.intro rfl (And.intro rfl (True.intro)))))))))))
          refine l_iload rfl rfl ?_
          refine l_aload_n rfl rfl ?_
          refine l_gfi rfl rfl rfl rfl rfl ?_
          refine l_icmp_ge rfl rfl (by unfold rg; omega) (by unfold rg; omega) (fun w371 => ?_) (fun w372 => ?_)
          · refine l_iconst rfl ?_
            refine l_istore rfl rfl rfl ?_
            have w373 : 0 ≤ Xi T1 904 15 ∧ Xi T1 904 15 ≤ 300 := hHT1.c _ _
            have w374 : 0 ≤ Xi T1 904 16 ∧ Xi T1 904 16 ≤ 16 := hHT1.c _ _
            have w375 : 0 ≤ Xi T1 904 18 ∧ Xi T1 904 18 ≤ 8 := hHT1.c _ _
            have w376 : 0 ≤ Xi T1 904 69 ∧ Xi T1 904 69 ≤ 2600 := hHT1.c _ _
            have w377 : 0 ≤ Xi T1 904 71 ∧ Xi T1 904 71 ≤ 2600 := hHT1.c _ _
            have w378 : 0 ≤ Xi T1 904 72 ∧ Xi T1 904 72 ≤ 2600 := hHT1.c _ _
            exact Rl_weak (C124 _ T1 hHT1 hFT1 (v1) (v2) (v3) (0) (by omega) (by omega) (by omega) (by omega) (by omega) (by omega) (by assumption) (by omega) (by omega) (by omega) (by omega) (by first | exact C348 | (rw [show Xi S 904 72 = v5 by omega]; exact C55) | (rw [show Xi S 904 72 = Xi T1 904 72 by omega, show Xi T1 904 72 = v5 by omega]; exact C55)) (by first | assumption | exact (by assumption : TXM T1)) (by first | assumption | exact (by assumption : ABV T1)) (by first | assumption | exact (by assumption : LXM T1)) (by first | assumption | exact (by assumption : LCN T1)) (by assumption) (by first | exact P55.up (by omega) (by omega) | exact P348) rfl) (And.intro rfl (And.intro rfl (And.intro rfl (And.intro rfl (And.intro rfl (True.intro))))))
          · refine l_iload_n rfl rfl ?_
            refine l_if_eq rfl rfl (by unfold rg; omega) (fun w379 => ?_) (fun w380 => ?_)
            · refine l_aload_n rfl rfl ?_
              refine l_iconst rfl ?_
              have k98 : Xi T1 904 16 = Xi S 904 16 + v5 ∧ Xi T1 904 18 = Xi S 904 18 := C55.1 (by omega)
              have m98 : Xi S 904 16 + Xi S 904 72 ≤ 16 := hZ.2.1 (Y55.2 (by omega))
              refine l_aload_n rfl rfl ?_
              refine l_iload rfl rfl ?_
              have w381 : 0 ≤ Xi T1 904 15 ∧ Xi T1 904 15 ≤ 300 := hHT1.c _ _
              have w382 : 0 ≤ Xi T1 904 16 ∧ Xi T1 904 16 ≤ 16 := hHT1.c _ _
              have w383 : 0 ≤ Xi T1 904 18 ∧ Xi T1 904 18 ≤ 8 := hHT1.c _ _
              have w384 : 0 ≤ Xi T1 904 69 ∧ Xi T1 904 69 ≤ 2600 := hHT1.c _ _
              have w385 : 0 ≤ Xi T1 904 71 ∧ Xi T1 904 71 ≤ 2600 := hHT1.c _ _
              have w386 : 0 ≤ Xi T1 904 72 ∧ Xi T1 904 72 ≤ 2600 := hHT1.c _ _
              refine l_callV rfl rfl rfl (t_mo_addKind hHT1 v4 ⟨by omega, by omega⟩ (by first | assumption | omega) (by first | assumption | omega) (by first | assumption | exact (by assumption : ABV T1)) (by first | assumption | exact (by assumption : TXM T1)) _) ?_
              rintro _ T15 ⟨hHT15, w392, z391, rfl, w391, w387, w388, w389, w390⟩
              have hFT15 : FR md_mo_doKinds S T15 := FR.tr hFT1 w392 rfl
              show Rl _ _ _ _ _ [iv z391, iv 0, .ref 904] _ _
              have h102 : Xi T15 904 18 = Xi T1 904 18 := (by assumption : FR md_mo_addKind T1 T15).x 904 18 rfl
              have g102 : GR T15 T1 := gr_m GR.rf (by omega) (Int.le_of_eq ((by assumption : FR md_mo_addKind T1 T15).x 904 18 rfl).symm) (Int.le_of_eq ((by assumption : FR md_mo_addKind T1 T15).x 904 19 rfl).symm) (Int.le_of_eq ((by assumption : FR md_mo_addKind T1 T15).x 904 23 rfl).symm) (Int.le_of_eq ((by assumption : FR md_mo_addKind T1 T15).x 904 30 rfl).symm) (Int.le_of_eq ((by assumption : FR md_mo_addKind T1 T15).x 904 32 rfl).symm) (Int.le_of_eq ((by assumption : FR md_mo_addKind T1 T15).x 904 41 rfl).symm) (Int.le_of_eq ((by assumption : FR md_mo_addKind T1 T15).x 904 47 rfl).symm) (Int.le_of_eq ((by assumption : FR md_mo_addKind T1 T15).x 904 49 rfl).symm) (fun i _ => ⟨((by assumption : FR md_mo_addKind T1 T15).cx 922 rfl i).1, ((by assumption : FR md_mo_addKind T1 T15).cx 923 rfl i).1, ((by assumption : FR md_mo_addKind T1 T15).cx 924 rfl i).1⟩) (fun i _ => ((by assumption : FR md_mo_addKind T1 T15).cx 928 rfl i).1) (fun i _ => ((by assumption : FR md_mo_addKind T1 T15).cx 942 rfl i).1)
              have x102 : LXK T15 T1 (Xi T1 904 15) := LXK_FR (by assumption : FR md_mo_addKind T1 T15) rfl
              have c102 : Xi T15 904 15 = Xi T1 904 15 := (by assumption : FR md_mo_addKind T1 T15).x 904 15 rfl
              refine l_aload_n rfl rfl ?_
              refine l_gfi rfl rfl rfl rfl rfl ?_
              have w393 : (Xi T15 904 71) = (Xi T1 904 71) := (show Xi T15 904 71 = Xi T1 904 71 from w392.x _ _ rfl)
              rw [w393]
              refine l_iload rfl rfl ?_
              refine l_iadd rfl ?_
              have w394 : Xi T15 904 15 = Xi T1 904 15 := (show Xi T15 904 15 = Xi T1 904 15 from w392.x _ _ rfl)
              have w395 : 0 ≤ Xi T1 904 15 ∧ Xi T1 904 15 ≤ 300 := hHT1.c _ _
              have w396 : 0 ≤ Xi T15 904 16 ∧ Xi T15 904 16 ≤ 16 := hHT15.c _ _
              have w397 : Xi T15 904 18 = Xi T1 904 18 := (show Xi T15 904 18 = Xi T1 904 18 from w392.x _ _ rfl)
              have w398 : 0 ≤ Xi T1 904 18 ∧ Xi T1 904 18 ≤ 8 := hHT1.c _ _
              have w399 : Xi T15 904 69 = Xi T1 904 69 := (show Xi T15 904 69 = Xi T1 904 69 from w392.x _ _ rfl)
              have w400 : 0 ≤ Xi T1 904 69 ∧ Xi T1 904 69 ≤ 2600 := hHT1.c _ _
              have w401 : Xi T15 904 71 = Xi T1 904 71 := (show Xi T15 904 71 = Xi T1 904 71 from w392.x _ _ rfl)
              have w402 : 0 ≤ Xi T1 904 71 ∧ Xi T1 904 71 ≤ 2600 := hHT1.c _ _
              have w403 : Xi T15 904 72 = Xi T1 904 72 := (show Xi T15 904 72 = Xi T1 904 72 from w392.x _ _ rfl)
              have w404 : 0 ≤ Xi T1 904 72 ∧ Xi T1 904 72 ≤ 2600 := hHT1.c _ _
              refine l_callV rfl rfl rfl (t_mo_tellRun hHT15 n 0 z391 ((Xi T1 904 71) + v5) ⟨by omega, by omega⟩ ⟨by omega, by omega⟩ ⟨by omega, by omega⟩ (by first | assumption | exact (TK_FR hFT15 rfl (by assumption : TK S _))) (by first | assumption | exact (RNV_FR hFT15 rfl (by assumption : RNV S _))) (by first | assumption | omega) (by rw [(hFT15.cx 951 rfl _).1]; have t := h3 v5 (by omega) (by omega); rw [show Xi T1 904 71 = Xi S 904 71 by omega]; exact t) (by have t := lcn_le hHT1 L55; omega) _) ?_
              rintro _ T16 ⟨hHT16, w407, rfl, w405, e112, k112⟩
              have hFT16 : FR md_mo_doKinds S T16 := FR.tr hFT15 w407 rfl
              show Rl _ _ _ _ _ [] _ _
              have f112 : Xi T16 904 16 = Xi T15 904 16 ∧ Xi T16 904 18 = Xi T15 904 18 := ⟨(by assumption : FR md_mo_tellRun T15 T16).x 904 16 rfl, (by assumption : FR md_mo_tellRun T15 T16).x 904 18 rfl⟩
              have g112 : GR T16 T1 := GR_FR (by assumption : FR md_mo_tellRun T15 T16) rfl g102
              have x112 : LXK T16 T1 (Xi T1 904 15) := x102.tr k112 (by omega)
              have d112 : Xi T16 914 (Xi T1 904 15).toNat = 0 ∧ Xi T16 915 (Xi T1 904 15).toNat = Xi T1 904 16 := by rw [← c102]; exact ⟨e112.1, by rw [e112.2]; omega⟩
              have c112 : 0 ≤ Xi T1 904 15 := (hHT1.c 904 15).1
              have M112 : LXM T16 := lxm_gr M55 x112 g112 (by omega) (Or.inr ⟨by omega, by rw [d112.1, d112.2, cM0]; omega⟩)
              have P112 : PLB T16 v1 v2 := plb_add P55 x112 (by omega) (by omega) (fun q => by rw [d112.1] at q; omega) (fun q => by rw [d112.1] at q; omega)
              have z112_19 : Xi T16 904 19 = Xi T1 904 19 := (hFT16.x 904 19 rfl).trans (hFT1.x 904 19 rfl).symm
              have z112_23 : Xi T16 904 23 = Xi T1 904 23 := (hFT16.x 904 23 rfl).trans (hFT1.x 904 23 rfl).symm
              have z112_30 : Xi T16 904 30 = Xi T1 904 30 := (hFT16.x 904 30 rfl).trans (hFT1.x 904 30 rfl).symm
              have z112_32 : Xi T16 904 32 = Xi T1 904 32 := (hFT16.x 904 32 rfl).trans (hFT1.x 904 32 rfl).symm
              have z112_41 : Xi T16 904 41 = Xi T1 904 41 := (hFT16.x 904 41 rfl).trans (hFT1.x 904 41 rfl).symm
              have z112_47 : Xi T16 904 47 = Xi T1 904 47 := (hFT16.x 904 47 rfl).trans (hFT1.x 904 47 rfl).symm
              have z112_49 : Xi T16 904 49 = Xi T1 904 49 := (hFT16.x 904 49 rfl).trans (hFT1.x 904 49 rfl).symm
              have L112 : LCN T16 := lcn_i L55 (pls_le x112 (by omega) (by omega) (by omega)) (by omega)
              have G112 : GR T16 S := G55.tr g112
              have C112 : KCT S T16 v3 (v5 + 1) := ⟨fun _ => ⟨by omega, by omega⟩, fun q => absurd q (by omega)⟩
              refine l_iinc rfl rfl rfl rfl ?_
              refine l_goto rfl rfl ?_
              have w408 : 0 ≤ Xi T16 904 15 ∧ Xi T16 904 15 ≤ 300 := hHT16.c _ _
              have w409 : Xi T16 904 16 = Xi T15 904 16 := (show Xi T16 904 16 = Xi T15 904 16 from w407.x _ _ rfl)
              have w410 : 0 ≤ Xi T15 904 16 ∧ Xi T15 904 16 ≤ 16 := hHT15.c _ _
              have w411 : Xi T16 904 18 = Xi T1 904 18 := (show Xi T16 904 18 = Xi T15 904 18 from w407.x _ _ rfl).trans ((show Xi T15 904 18 = Xi T1 904 18 from w392.x _ _ rfl))
              have w412 : 0 ≤ Xi T1 904 18 ∧ Xi T1 904 18 ≤ 8 := hHT1.c _ _
              have w413 : Xi T16 904 69 = Xi T1 904 69 := (show Xi T16 904 69 = Xi T15 904 69 from w407.x _ _ rfl).trans ((show Xi T15 904 69 = Xi T1 904 69 from w392.x _ _ rfl))
              have w414 : 0 ≤ Xi T1 904 69 ∧ Xi T1 904 69 ≤ 2600 := hHT1.c _ _
              have w415 : Xi T16 904 71 = Xi T1 904 71 := (show Xi T16 904 71 = Xi T15 904 71 from w407.x _ _ rfl).trans ((show Xi T15 904 71 = Xi T1 904 71 from w392.x _ _ rfl))
              have w416 : 0 ≤ Xi T1 904 71 ∧ Xi T1 904 71 ≤ 2600 := hHT1.c _ _
              have w417 : Xi T16 904 72 = Xi T1 904 72 := (show Xi T16 904 72 = Xi T15 904 72 from w407.x _ _ rfl).trans ((show Xi T15 904 72 = Xi T1 904 72 from w392.x _ _ rfl))
              have w418 : 0 ≤ Xi T1 904 72 ∧ Xi T1 904 72 ≤ 2600 := hHT1.c _ _
              exact Rl_weak (ih55 _ (by omega) T16 hHT16 hFT16 (v1) (v2) (v3) (v4) ((v5 + 1)) (by omega) (by omega) (by omega) (by omega) (by omega) (by omega) (by omega) (by assumption) (by omega) (by omega) (by omega) (by omega) (by omega) (by first | exact C91 | exact C112 | exact ⟨fun _ => ⟨by omega, by omega⟩, fun _ => ⟨by omega, by omega⟩⟩) (by first | assumption | exact (TXM_FR w407 rfl (by assumption : TXM T15))) (by first | assumption | exact (ABV_FR w407 rfl (by assumption : ABV T15))) (by first | assumption | exact (by assumption : LXM T16)) (by first | assumption | exact (by assumption : LCN T16)) (by first | assumption | exact GR.rf) (by first | assumption | (rw [show v1 = Xi S 904 16 by omega, show v2 = Xi S 904 18 by omega]; exact plb_0 hM)) rfl) (And.intro rfl (And.intro rfl (And.intro rfl (And.intro rfl (And.intro rfl (And.intro rfl (True.intro)))))))
            · refine l_aload_n rfl rfl ?_
              refine l_iconst rfl ?_
              have k69 : Xi T1 904 18 = Xi S 904 18 + v5 ∧ Xi T1 904 16 = Xi S 904 16 := C55.2 (by omega)
              have m69 : Xi S 904 18 + Xi S 904 72 ≤ 8 := hZ.1 (Y55.1 (by omega))
              refine l_aload_n rfl rfl ?_
              refine l_gfi rfl rfl rfl rfl rfl ?_
              have w419 : 0 ≤ (Xi T1 904 18) ∧ (Xi T1 904 18) ≤ 8 := hHT1.c _ _
              refine l_aload_n rfl rfl ?_
              refine l_gfi rfl rfl rfl rfl rfl ?_
              refine l_iload rfl rfl ?_
              refine l_iadd rfl ?_
              have w420 : 0 ≤ Xi T1 904 15 ∧ Xi T1 904 15 ≤ 300 := hHT1.c _ _
              have w421 : 0 ≤ Xi T1 904 16 ∧ Xi T1 904 16 ≤ 16 := hHT1.c _ _
              have w422 : 0 ≤ Xi T1 904 18 ∧ Xi T1 904 18 ≤ 8 := hHT1.c _ _
              have w423 : 0 ≤ Xi T1 904 69 ∧ Xi T1 904 69 ≤ 2600 := hHT1.c _ _
              have w424 : 0 ≤ Xi T1 904 71 ∧ Xi T1 904 71 ≤ 2600 := hHT1.c _ _
              have w425 : 0 ≤ Xi T1 904 72 ∧ Xi T1 904 72 ≤ 2600 := hHT1.c _ _
              refine l_callV rfl rfl rfl (t_mo_tellRun hHT1 n 2 (Xi T1 904 18) ((Xi T1 904 71) + v5) ⟨by omega, by omega⟩ ⟨by omega, by omega⟩ ⟨by omega, by omega⟩ (by first | assumption | exact (TK_FR hFT1 rfl (by assumption : TK S _))) (by first | assumption | exact (RNV_FR hFT1 rfl (by assumption : RNV S _))) (by first | assumption | omega) (by rw [(hFT1.cx 951 rfl _).1]; have t := h3 v5 (by omega) (by omega); rw [show Xi T1 904 71 = Xi S 904 71 by omega]; exact t) (by have t := lcn_le hHT1 L55; omega) _) ?_
              rintro _ T17 ⟨hHT17, w428, rfl, w426, e81, k81⟩
              have hFT17 : FR md_mo_doKinds S T17 := FR.tr hFT1 w428 rfl
              show Rl _ _ _ _ _ [] _ _
              have f81 : Xi T17 904 16 = Xi T1 904 16 ∧ Xi T17 904 18 = Xi T1 904 18 := ⟨(by assumption : FR md_mo_tellRun T1 T17).x 904 16 rfl, (by assumption : FR md_mo_tellRun T1 T17).x 904 18 rfl⟩
              have t81 : Xi T17 904 15 = Xi T1 904 15 + 1 := by omega
              have g81 : GR T17 T1 := GR_FR (by assumption : FR md_mo_tellRun T1 T17) rfl GR.rf
              refine l_aload_n rfl rfl ?_
              refine l_dup rfl rfl ?_
              refine l_gfi rfl rfl rfl rfl rfl ?_
              have w429 : (Xi T17 904 18) = (Xi T1 904 18) := (show Xi T17 904 18 = Xi T1 904 18 from w428.x _ _ rfl)
              rw [w429]
              refine l_iconst rfl ?_
              refine l_iadd rfl ?_
              refine l_pfi rfl rfl rfl rfl ?_
              obtain ⟨U18, eU18⟩ : ∃ T : sS, T = uI T17 904 18 (Int32.ofInt ((Xi T1 904 18) + 1)) := ⟨_, rfl⟩
              rw [← eU18]
              have hHU18 : HI U18 := by rw [eU18]; exact HI_w hHT17 (show 0 ≤ ((Xi T1 904 18) + 1) by omega) (show ((Xi T1 904 18) + 1) ≤ 8 by omega)
              have hFU18 : FR md_mo_doKinds S U18 := by rw [eU18]; exact FR.wI hFT17 (mdf_i (r := (904, 905, 18, 19)) (List.mem_of_getElem? (i := 2) rfl) (inR_i (by omega) (by omega) (by omega) (by omega)))
              have w430 : Xi U18 904 18 = ((Xi T1 904 18) + 1) := by rw [eU18]; exact Xi_same (by unfold rg; omega)
              have f91 : Xi U18 904 16 = Xi T17 904 16 ∧ Xi U18 904 15 = Xi T17 904 15 := ⟨by rw [eU18, Xi_ne (by omega)], by rw [eU18, Xi_ne (by omega)]⟩
              have g91 : GR U18 T1 := GR.w g81 eU18 (by unfold rg; omega) (by omega)
              have x91 : LXK U18 T1 (Xi T1 904 15) := k81.fr (FR_e eU18) rfl
              have d91 : Xi U18 914 (Xi T1 904 15).toNat = 2 ∧ Xi U18 915 (Xi T1 904 15).toNat = Xi T1 904 18 := ⟨by rw [eU18, Xi_ne (by omega)]; exact e81.1, by rw [eU18, Xi_ne (by omega)]; exact e81.2⟩
              have c91 : 0 ≤ Xi T1 904 15 := (hHT1.c 904 15).1
              have M91 : LXM U18 := lxm_gr M55 x91 g91 (by omega) (Or.inr ⟨by omega, by rw [d91.1, d91.2, cM2]; omega⟩)
              have P91 : PLB U18 v1 v2 := plb_add P55 x91 (by omega) (by omega) (fun q => by rw [d91.1] at q; omega) (fun q => by rw [d91.1] at q; omega)
              have z91_19 : Xi U18 904 19 = Xi T1 904 19 := (hFU18.x 904 19 rfl).trans (hFT1.x 904 19 rfl).symm
              have z91_23 : Xi U18 904 23 = Xi T1 904 23 := (hFU18.x 904 23 rfl).trans (hFT1.x 904 23 rfl).symm
              have z91_30 : Xi U18 904 30 = Xi T1 904 30 := (hFU18.x 904 30 rfl).trans (hFT1.x 904 30 rfl).symm
              have z91_32 : Xi U18 904 32 = Xi T1 904 32 := (hFU18.x 904 32 rfl).trans (hFT1.x 904 32 rfl).symm
              have z91_41 : Xi U18 904 41 = Xi T1 904 41 := (hFU18.x 904 41 rfl).trans (hFT1.x 904 41 rfl).symm
              have z91_47 : Xi U18 904 47 = Xi T1 904 47 := (hFU18.x 904 47 rfl).trans (hFT1.x 904 47 rfl).symm
              have z91_49 : Xi U18 904 49 = Xi T1 904 49 := (hFU18.x 904 49 rfl).trans (hFT1.x 904 49 rfl).symm
              have L91 : LCN U18 := lcn_i L55 (pls_le x91 (by omega) (by omega) (by omega)) (by omega)
              have G91 : GR U18 S := G55.tr g91
              have C91 : KCT S U18 v3 (v5 + 1) := ⟨fun q => absurd q (by omega), fun _ => ⟨by omega, by omega⟩⟩
              have X91 : TXM U18 := TXM_FR (FR_e eU18) rfl (TXM_FR (by assumption : FR md_mo_tellRun T1 T17) rfl X55)
              refine l_goto rfl rfl ?_
              refine l_iinc rfl rfl rfl rfl ?_
              refine l_goto rfl rfl ?_
              have w431 : Xi U18 904 15 = Xi T17 904 15 := (show Xi U18 904 15 = Xi T17 904 15 from by rw [eU18]; exact Xi_ne (by omega))
              have w432 : 0 ≤ Xi T17 904 15 ∧ Xi T17 904 15 ≤ 300 := hHT17.c _ _
              have w433 : Xi U18 904 16 = Xi T1 904 16 := (show Xi U18 904 16 = Xi T17 904 16 from by rw [eU18]; exact Xi_ne (by omega)).trans ((show Xi T17 904 16 = Xi T1 904 16 from w428.x _ _ rfl))
              have w434 : 0 ≤ Xi T1 904 16 ∧ Xi T1 904 16 ≤ 16 := hHT1.c _ _
              have w435 : 0 ≤ Xi U18 904 18 ∧ Xi U18 904 18 ≤ 8 := hHU18.c _ _
              have w436 : Xi U18 904 69 = Xi T1 904 69 := (show Xi U18 904 69 = Xi T17 904 69 from by rw [eU18]; exact Xi_ne (by omega)).trans ((show Xi T17 904 69 = Xi T1 904 69 from w428.x _ _ rfl))
              have w437 : 0 ≤ Xi T1 904 69 ∧ Xi T1 904 69 ≤ 2600 := hHT1.c _ _
              have w438 : Xi U18 904 71 = Xi T1 904 71 := (show Xi U18 904 71 = Xi T17 904 71 from by rw [eU18]; exact Xi_ne (by omega)).trans ((show Xi T17 904 71 = Xi T1 904 71 from w428.x _ _ rfl))
              have w439 : 0 ≤ Xi T1 904 71 ∧ Xi T1 904 71 ≤ 2600 := hHT1.c _ _
              have w440 : Xi U18 904 72 = Xi T1 904 72 := (show Xi U18 904 72 = Xi T17 904 72 from by rw [eU18]; exact Xi_ne (by omega)).trans ((show Xi T17 904 72 = Xi T1 904 72 from w428.x _ _ rfl))
              have w441 : 0 ≤ Xi T1 904 72 ∧ Xi T1 904 72 ≤ 2600 := hHT1.c _ _
              exact Rl_weak (ih55 _ (by omega) U18 hHU18 hFU18 (v1) (v2) (v3) (v4) ((v5 + 1)) (by omega) (by omega) (by omega) (by omega) (by omega) (by omega) (by omega) (by assumption) (by omega) (by omega) (by omega) (by omega) (by omega) (by first | exact C91 | exact C112 | exact ⟨fun _ => ⟨by omega, by omega⟩, fun _ => ⟨by omega, by omega⟩⟩) (by first | assumption | exact (TXM_FR (FR_e eU18) rfl (TXM_FR w428 rfl (by assumption : TXM T1)))) (by first | assumption | exact (ABV_FR (FR_e eU18) rfl (ABV_FR w428 rfl (by assumption : ABV T1)))) (by first | assumption | exact (by assumption : LXM U18)) (by first | assumption | exact (by assumption : LCN U18)) (by first | assumption | exact GR.rf) (by first | assumption | (rw [show v1 = Xi S 904 16 by omega, show v2 = Xi S 904 18 by omega]; exact plb_0 hM)) rfl) (And.intro rfl (And.intro rfl (And.intro rfl (And.intro rfl (And.intro rfl (And.intro rfl (True.intro)))))))
      refine l_iconst rfl ?_
      refine l_istore rfl rfl rfl ?_
      have w442 : 0 ≤ Xi S 904 15 ∧ Xi S 904 15 ≤ 300 := hH.c _ _
      have w443 : 0 ≤ Xi S 904 16 ∧ Xi S 904 16 ≤ 16 := hH.c _ _
      have w444 : 0 ≤ Xi S 904 18 ∧ Xi S 904 18 ≤ 8 := hH.c _ _
      have w445 : 0 ≤ Xi S 904 69 ∧ Xi S 904 69 ≤ 2600 := hH.c _ _
      have w446 : 0 ≤ Xi S 904 71 ∧ Xi S 904 71 ≤ 2600 := hH.c _ _
      have w447 : 0 ≤ Xi S 904 72 ∧ Xi S 904 72 ≤ 2600 := hH.c _ _
      exact Rl_weak (C55 _ S hH hF (v1) (v2) (v3) (v4) (0) (by omega) (by omega) (by omega) (by omega) (by omega) (by omega) (by omega) (by assumption) (by omega) (by omega) (by omega) (by omega) (by omega) (by first | exact C91 | exact C112 | exact ⟨fun _ => ⟨by omega, by omega⟩, fun _ => ⟨by omega, by omega⟩⟩) (by first | assumption | exact (by assumption : TXM S)) (by first | assumption | exact (by assumption : ABV S)) (by first | assumption | exact (by assumption : LXM S)) (by first | assumption | exact (by assumption : LCN S)) (by first | assumption | exact GR.rf) (by first | assumption | (rw [show v1 = Xi S 904 16 by omega, show v2 = Xi S 904 18 by omega]; exact plb_0 hM)) rfl) (And.intro rfl (And.intro rfl (And.intro rfl (And.intro rfl (And.intro rfl (And.intro rfl (True.intro)))))))
    refine l_iload_n rfl rfl ?_
    refine l_if_ne rfl rfl (by unfold rg; omega) (fun w448 => ?_) (fun w449 => ?_)
    · refine l_iconst rfl ?_
      refine l_goto rfl rfl ?_
      refine l_istore rfl rfl rfl ?_
      have w450 : 0 ≤ Xi S 904 15 ∧ Xi S 904 15 ≤ 300 := hH.c _ _
      have w451 : 0 ≤ Xi S 904 16 ∧ Xi S 904 16 ≤ 16 := hH.c _ _
      have w452 : 0 ≤ Xi S 904 18 ∧ Xi S 904 18 ≤ 8 := hH.c _ _
      have w453 : 0 ≤ Xi S 904 69 ∧ Xi S 904 69 ≤ 2600 := hH.c _ _
      have w454 : 0 ≤ Xi S 904 71 ∧ Xi S 904 71 ≤ 2600 := hH.c _ _
      have w455 : 0 ≤ Xi S 904 72 ∧ Xi S 904 72 ≤ 2600 := hH.c _ _
      exact Rl_weak (C52 (v1) (v2) (v3) (0) (by omega) (by omega) (by omega) (by omega) (by omega) (by omega) (by assumption) (by omega)) (And.intro rfl (And.intro rfl (And.intro rfl (And.intro rfl (And.intro rfl (True.intro))))))
    · refine l_aload_n rfl rfl ?_
      have n29 : Xi S 904 78 ≠ -2 := Y25.2 (by omega)
      refine l_gfi rfl rfl rfl rfl rfl ?_
      refine l_iconst rfl ?_
      refine l_icmp_ne rfl rfl (by unfold rg; omega) (by unfold rg; omega) (fun w456 => ?_) (fun w457 => ?_)
      · refine l_aload_n rfl rfl ?_
        refine l_aload_n rfl rfl ?_
        refine l_gfi rfl rfl rfl rfl rfl ?_
        refine l_iconst rfl ?_
        have w458 : 0 ≤ Xi S 904 15 ∧ Xi S 904 15 ≤ 300 := hH.c _ _
        have w459 : 0 ≤ Xi S 904 16 ∧ Xi S 904 16 ≤ 16 := hH.c _ _
        have w460 : 0 ≤ Xi S 904 18 ∧ Xi S 904 18 ≤ 8 := hH.c _ _
        have w461 : 0 ≤ Xi S 904 69 ∧ Xi S 904 69 ≤ 2600 := hH.c _ _
        have w462 : 0 ≤ Xi S 904 71 ∧ Xi S 904 71 ≤ 2600 := hH.c _ _
        have w463 : 0 ≤ Xi S 904 72 ∧ Xi S 904 72 ≤ 2600 := hH.c _ _
        refine l_callV rfl rfl rfl (t_mo_meansRun__2 hH n (Xi S 904 78) 0 ⟨by omega, by omega⟩ ⟨by omega, by omega⟩ (by first | assumption | exact (TK_FR hF rfl (by assumption : TK S _))) (by first | assumption | exact (RNV_FR hF rfl (by assumption : RNV S _))) (by first | assumption | omega) (by first | assumption | exact (by assumption : LXM S)) _) ?_
        rintro _ _ ⟨rfl, z466, rfl, w466, w464, w465⟩
        show Rl _ _ _ _ _ [iv z466] _ _
        have x47 : z466 ≠ -1 → z466 < Xi S 904 16 := fun q => by have t := (by assumption : z466 ≠ -1 → z466 < cM S 0) q; rw [cM0] at t; exact t
        have r47 : z466 = rnR S (Xi S 904 78) 0 := by assumption
        have z47 : rnR S (Xi S 904 78) 0 ≠ -1 := hZ.2.2 (by omega)
        refine l_istore rfl rfl rfl ?_
        have w467 : 0 ≤ Xi S 904 15 ∧ Xi S 904 15 ≤ 300 := hH.c _ _
        have w468 : 0 ≤ Xi S 904 16 ∧ Xi S 904 16 ≤ 16 := hH.c _ _
        have w469 : 0 ≤ Xi S 904 18 ∧ Xi S 904 18 ≤ 8 := hH.c _ _
        have w470 : 0 ≤ Xi S 904 69 ∧ Xi S 904 69 ≤ 2600 := hH.c _ _
        have w471 : 0 ≤ Xi S 904 71 ∧ Xi S 904 71 ≤ 2600 := hH.c _ _
        have w472 : 0 ≤ Xi S 904 72 ∧ Xi S 904 72 ≤ 2600 := hH.c _ _
        exact Rl_weak (C52 (v1) (v2) (v3) (z466) (by omega) (by omega) (by omega) (by omega) (by omega) (by omega) (by assumption) (by omega)) (And.intro rfl (And.intro rfl (And.intro rfl (And.intro rfl (And.intro rfl (True.intro))))))
      · refine l_iconst rfl ?_
        refine l_goto rfl rfl ?_
        refine l_istore rfl rfl rfl ?_
        have w473 : 0 ≤ Xi S 904 15 ∧ Xi S 904 15 ≤ 300 := hH.c _ _
        have w474 : 0 ≤ Xi S 904 16 ∧ Xi S 904 16 ≤ 16 := hH.c _ _
        have w475 : 0 ≤ Xi S 904 18 ∧ Xi S 904 18 ≤ 8 := hH.c _ _
        have w476 : 0 ≤ Xi S 904 69 ∧ Xi S 904 69 ≤ 2600 := hH.c _ _
        have w477 : 0 ≤ Xi S 904 71 ∧ Xi S 904 71 ≤ 2600 := hH.c _ _
        have w478 : 0 ≤ Xi S 904 72 ∧ Xi S 904 72 ≤ 2600 := hH.c _ _
        exact Rl_weak (C52 (v1) (v2) (v3) (0) (by omega) (by omega) (by omega) (by omega) (by omega) (by omega) (by assumption) (by omega)) (And.intro rfl (And.intro rfl (And.intro rfl (And.intro rfl (And.intro rfl (True.intro))))))
  refine l_aload_n rfl rfl ?_
  refine l_gfi rfl rfl rfl rfl rfl ?_
  refine l_istore_n rfl rfl rfl ?_
  refine l_aload_n rfl rfl ?_
  refine l_gfi rfl rfl rfl rfl rfl ?_
  refine l_istore_n rfl rfl rfl ?_
  refine l_aload_n rfl rfl ?_
  refine l_gfi rfl rfl rfl rfl rfl ?_
  refine l_bipush rfl rfl ?_
  refine l_icmp_ne rfl rfl (by unfold rg; omega) (by unfold rg; omega) (fun w479 => ?_) (fun w480 => ?_)
  · refine l_iconst rfl ?_
    refine l_istore_n rfl rfl rfl ?_
    have w481 : 0 ≤ Xi S 904 15 ∧ Xi S 904 15 ≤ 300 := hH.c _ _
    have w482 : 0 ≤ Xi S 904 16 ∧ Xi S 904 16 ≤ 16 := hH.c _ _
    have w483 : 0 ≤ Xi S 904 18 ∧ Xi S 904 18 ≤ 8 := hH.c _ _
    have w484 : 0 ≤ Xi S 904 69 ∧ Xi S 904 69 ≤ 2600 := hH.c _ _
    have w485 : 0 ≤ Xi S 904 71 ∧ Xi S 904 71 ≤ 2600 := hH.c _ _
    have w486 : 0 ≤ Xi S 904 72 ∧ Xi S 904 72 ≤ 2600 := hH.c _ _
    exact Rl_weak (C25 ((Xi S 904 16)) ((Xi S 904 18)) (0) (by omega) (by omega) (by omega) (by omega) (by omega) (⟨fun q => by omega, fun q => by omega⟩)) (And.intro rfl (And.intro rfl (And.intro rfl (And.intro rfl (True.intro)))))
  · refine l_iconst rfl ?_
    refine l_goto rfl rfl ?_
    refine l_istore_n rfl rfl rfl ?_
    have w487 : 0 ≤ Xi S 904 15 ∧ Xi S 904 15 ≤ 300 := hH.c _ _
    have w488 : 0 ≤ Xi S 904 16 ∧ Xi S 904 16 ≤ 16 := hH.c _ _
    have w489 : 0 ≤ Xi S 904 18 ∧ Xi S 904 18 ≤ 8 := hH.c _ _
    have w490 : 0 ≤ Xi S 904 69 ∧ Xi S 904 69 ≤ 2600 := hH.c _ _
    have w491 : 0 ≤ Xi S 904 71 ∧ Xi S 904 71 ≤ 2600 := hH.c _ _
    have w492 : 0 ≤ Xi S 904 72 ∧ Xi S 904 72 ≤ 2600 := hH.c _ _
    exact Rl_weak (C25 ((Xi S 904 16)) ((Xi S 904 18)) (1) (by omega) (by omega) (by omega) (by omega) (by omega) (⟨fun q => by omega, fun q => by omega⟩)) (And.intro rfl (And.intro rfl (And.intro rfl (And.intro rfl (True.intro)))))

