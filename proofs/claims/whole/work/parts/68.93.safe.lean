/-! SAFETY of methods: printed by wip/safe (vc.py, decl.py) -/
def md_mo_test__2 : List rec := [(904, 905, 8, 9), (904, 905, 65, 66), (904, 905, 66, 67), (904, 905, 69, 70), (904, 905, 78, 79), (904, 905, 93, 94), (904, 905, 99, 100), (904, 905, 100, 101), (904, 905, 101, 102), (950, 951, 0, 100000), (951, 952, 0, 100000), (952, 953, 0, 100000), (953, 954, 0, 100000), (954, 955, 0, 100000), (955, 956, 0, 100000), (956, 957, 0, 100000), (957, 958, 0, 100000), (958, 959, 0, 100000), (959, 960, 0, 100000), (960, 961, 0, 100000), (961, 962, 0, 100000), (962, 963, 0, 100000)]
abbrev Q_mo_test__2 (S : sS) (n : Nat) (c : Nat) (isNow : Int) : pst := fun r S1 => HI S1 ∧ FR md_mo_test__2 S S1 ∧ (r = none ∧ (AT S1 n (c - 1)) ∧ (Xi S 904 8 ≤ Xi S1 904 8 ∧ (Xi S1 904 8 ≤ n ∨ Xi S1 904 8 = Xi S 904 8)) ∧ (RNV S1 n) ∧ (Xi S1 904 65 = 0 → Xi S 904 65 = 0) ∧ (Xi S 904 69 ≤ Xi S1 904 69) ∧ (KT S1 S (Xi S 904 93)) ∧ (Xi S1 904 93 = Xi S 904 93 + 1) ∧ (Xi S1 904 65 = 0 → TV S1 n (Xi S 904 93).toNat) ∧ (Xi S1 904 65 = 0 → isNow = 1 → Xi S1 952 (Xi S 904 93).toNat = 0 ∨ Xi S1 952 (Xi S 904 93).toNat = 3 ∨ Xi S1 952 (Xi S 904 93).toNat = 5) ∧ (BDA S1))
set_option maxRecDepth 100000 in
set_option maxHeartbeats 8000000 in
theorem c351_mo_test__2 {S : sS} (hH : HI S) (n : Nat) (c : Nat) (isNow : Int) (hisNow : 0 ≤ isNow ∧ isNow ≤ 1) (hT : TK S n) (hA : AT S n c) (hv : RNV S n) (tc : Xi S 904 93 ≤ 1699) (hx : Xi S 904 8 ≤ n) (hc : 1 ≤ c) (hBDA : BDA S) (d : Nat) : ∀  (T1 : sS) (_ : HI T1) (_ : FR md_mo_test__2 S T1), (AT T1 n c) → (RNV T1 n) → (Xi S 904 8 ≤ Xi T1 904 8) → (Xi T1 904 8 ≤ n) → (Xi T1 904 93 = Xi S 904 93) → (Xi S 904 69 ≤ Xi T1 904 69) → (Xi T1 904 65 = 0 → Xi S 904 65 = 0) → (Xi T1 961 (Xi S 904 93).toNat = Xi S 904 8) → (KT T1 S (Xi S 904 93)) → (Xi T1 904 65 = 0 → TVx T1 n (Xi S 904 93).toNat) → (Xi T1 904 65 = 0 → isNow = 1 → Xi T1 952 (Xi S 904 93).toNat = 0 ∨ Xi T1 952 (Xi S 904 93).toNat = 3 ∨ Xi T1 952 (Xi S 904 93).toNat = 5) → (BDA T1) → Rl lay0 (d + 5) m_mo_test 351 [(0, .ref 904), (1, iv isNow)] [] T1 (Q_mo_test__2 S n c isNow) := by
  have hF : FR md_mo_test__2 S S := FR.rf
  have w1 : 0 ≤ Xi S 904 65 ∧ Xi S 904 65 ≤ 1 := hH.c _ _
  have w2 : 0 ≤ Xi S 904 69 ∧ Xi S 904 69 ≤ 2600 := hH.c _ _
  have w3 : 0 ≤ Xi S 904 8 ∧ Xi S 904 8 ≤ 5010 := hH.c _ _
  have w4 : 0 ≤ Xi S 904 93 ∧ Xi S 904 93 ≤ 1700 := hH.c _ _
  have hn5 := hT.1
  have hat := hA
  have h8 : 0 ≤ Xi S 904 8 ∧ Xi S 904 8 ≤ 5010 := hH.c _ _
  have h69 : 0 ≤ Xi S 904 69 ∧ Xi S 904 69 ≤ 2600 := hH.c _ _
  have ha0 : Xi S 904 65 = 0 → Xi S 904 8 ≤ n := fun q => (hA q).1
  have ha3 : Xi S 904 65 = 0 → 2 * Xi S 904 69 ≤ Xi S 904 8 + 1 := fun q => (hA q).2.1
  clear hat
  clear ha0 ha3
  intro T1 hHT1 hFT1 A351 V351 w5 w6 w7 w8 w9 w10 K351 E351 w11 BDA_351
  have w12 : 0 ≤ Xi T1 904 65 ∧ Xi T1 904 65 ≤ 1 := hHT1.c _ _
  have w13 : 0 ≤ Xi T1 904 69 ∧ Xi T1 904 69 ≤ 2600 := hHT1.c _ _
  have w14 : 0 ≤ Xi T1 904 8 ∧ Xi T1 904 8 ≤ 5010 := hHT1.c _ _
  have w15 : 0 ≤ Xi T1 904 93 ∧ Xi T1 904 93 ≤ 1700 := hHT1.c _ _
  refine l_aload_n rfl rfl ?_
  refine l_gfr rfl rfl rfl rfl rfl (hHT1.r 904 92 962 rfl) ?_
  refine l_aload_n rfl rfl ?_
  refine l_gfi rfl rfl rfl rfl rfl ?_
  refine l_aload_n rfl rfl ?_
  refine l_gfi rfl rfl rfl rfl rfl ?_
  refine l_iastore (n := 1700) rfl rfl (by omega) (by omega) (by unfold rg; omega) ?_
  obtain ⟨U2, eU2⟩ : ∃ T : sS, T = uI T1 962 (((Xi T1 904 93)).toNat) (Int32.ofInt (Xi T1 904 8)) := ⟨_, rfl⟩
  rw [← eU2]
  have hHU2 : HI U2 := by rw [eU2]; exact HI_w hHT1 (show 0 ≤ (Xi T1 904 8) by omega) (show (Xi T1 904 8) ≤ 5010 by omega)
  have hFU2 : FR md_mo_test__2 S U2 := by rw [eU2]; exact FR.wI hFT1 (mdf_i (r := (962, 963, 0, 100000)) (List.mem_of_getElem? (i := 21) rfl) (inR_i (by omega) (by omega) (by omega) (by omega)))
  have w16 : Xi U2 962 (((Xi T1 904 93)).toNat) = (Xi T1 904 8) := by rw [eU2]; exact Xi_same (by unfold rg; omega)
  have e363 : Xi U2 962 (Xi S 904 93).toNat = Xi T1 904 8 := by rw [show (Xi S 904 93).toNat = (Xi T1 904 93).toNat by omega]; assumption
  have E363 : Xi U2 904 65 = 0 → TVx U2 n (Xi S 904 93).toNat := fun q => tvx_w (E351 (by rw [eU2, Xi_ne (by omega)] at q; exact q)) eU2 (by omega)
  refine l_aload_n rfl rfl ?_
  refine l_gfi rfl rfl rfl rfl rfl ?_
  have w17 : (Xi U2 904 65) = (Xi T1 904 65) := (show Xi U2 904 65 = Xi T1 904 65 from by rw [eU2]; exact Xi_ne (by omega))
  rw [w17]
  refine l_if_ne rfl rfl (by unfold rg; omega) (fun w18 => ?_) (fun w19 => ?_)
  · refine l_aload_n rfl rfl ?_
    refine l_dup rfl rfl ?_
    refine l_gfi rfl rfl rfl rfl rfl ?_
    have w20 : (Xi U2 904 93) = (Xi T1 904 93) := (show Xi U2 904 93 = Xi T1 904 93 from by rw [eU2]; exact Xi_ne (by omega))
    rw [w20]
    refine l_iconst rfl ?_
    refine l_iadd rfl ?_
    refine l_pfi rfl rfl rfl rfl ?_
    obtain ⟨U3, eU3⟩ : ∃ T : sS, T = uI U2 904 93 (Int32.ofInt ((Xi T1 904 93) + 1)) := ⟨_, rfl⟩
    rw [← eU3]
    have hHU3 : HI U3 := by rw [eU3]; exact HI_w hHU2 (show 0 ≤ ((Xi T1 904 93) + 1) by omega) (show ((Xi T1 904 93) + 1) ≤ 1700 by omega)
    have hFU3 : FR md_mo_test__2 S U3 := by rw [eU3]; exact FR.wI hFU2 (mdf_i (r := (904, 905, 93, 94)) (List.mem_of_getElem? (i := 5) rfl) (inR_i (by omega) (by omega) (by omega) (by omega)))
    have w21 : Xi U3 904 93 = ((Xi T1 904 93) + 1) := by rw [eU3]; exact Xi_same (by unfold rg; omega)
    have E399 : Xi U3 904 65 = 0 → TVx U3 n (Xi S 904 93).toNat := by first | exact fun q => tvx_w (E363 (by rw [eU3, Xi_ne (by omega)] at q; omega)) eU3 (by omega) | exact fun q => absurd q (by rw [eU3, Xi_ne (by omega)]; omega)
    refine l_return rfl rfl ?_
    have w22 : Xi U3 952 (Xi S 904 93).toNat = Xi T1 952 (Xi S 904 93).toNat := (show Xi U3 952 (Xi S 904 93).toNat = Xi U2 952 (Xi S 904 93).toNat from by rw [eU3]; exact Xi_ne (by omega)).trans ((show Xi U2 952 (Xi S 904 93).toNat = Xi T1 952 (Xi S 904 93).toNat from by rw [eU2]; exact Xi_ne (by omega)))
    have w23 : Xi U3 961 (Xi S 904 93).toNat = Xi T1 961 (Xi S 904 93).toNat := (show Xi U3 961 (Xi S 904 93).toNat = Xi U2 961 (Xi S 904 93).toNat from by rw [eU3]; exact Xi_ne (by omega)).trans ((show Xi U2 961 (Xi S 904 93).toNat = Xi T1 961 (Xi S 904 93).toNat from by rw [eU2]; exact Xi_ne (by omega)))
    have w24 : Xi U3 962 (Xi S 904 93).toNat = Xi U2 962 (Xi S 904 93).toNat := (show Xi U3 962 (Xi S 904 93).toNat = Xi U2 962 (Xi S 904 93).toNat from by rw [eU3]; exact Xi_ne (by omega))
    have w25 : Xi U3 904 65 = Xi T1 904 65 := (show Xi U3 904 65 = Xi U2 904 65 from by rw [eU3]; exact Xi_ne (by omega)).trans ((show Xi U2 904 65 = Xi T1 904 65 from by rw [eU2]; exact Xi_ne (by omega)))
    have w27 : Xi U3 904 69 = Xi T1 904 69 := (show Xi U3 904 69 = Xi U2 904 69 from by rw [eU3]; exact Xi_ne (by omega)).trans ((show Xi U2 904 69 = Xi T1 904 69 from by rw [eU2]; exact Xi_ne (by omega)))
    have w29 : Xi U3 904 8 = Xi T1 904 8 := (show Xi U3 904 8 = Xi U2 904 8 from by rw [eU3]; exact Xi_ne (by omega)).trans ((show Xi U2 904 8 = Xi T1 904 8 from by rw [eU2]; exact Xi_ne (by omega)))
    have w31 : 0 ≤ Xi U3 904 93 ∧ Xi U3 904 93 ≤ 1700 := hHU3.c _ _
    exact ⟨hHU3, hFU3, rfl, (by first | exact at_ct (by first | assumption | exact AT_FR (FR_e eU2) rfl (by assumption)) eU3 (by omega) (by omega) (by omega) | exact AT_bad (by omega)), (by omega), (by first | assumption | exact (RNV_FR (FR_e eU3) rfl (RNV_FR (FR_e eU2) rfl (by assumption : RNV T1 _)))), (by omega), (by omega), ((KT_FR (FR_e eU3) rfl (KT.w (by assumption : KT T1 S _) eU2 (by omega)))), (by omega), (fun q => ⟨⟨by omega, by omega⟩, E399 q⟩), (by omega), (by first | assumption | exact (BDA_FR (FR_e eU3) rfl (BDA_FR (FR_e eU2) rfl (by assumption : BDA T1))))⟩
  · refine l_aload_n rfl rfl ?_
    refine l_aload_n rfl rfl ?_
    refine l_gfr rfl rfl rfl rfl rfl (hHU2.r 904 4 907 rfl) ?_
    refine l_aload_n rfl rfl ?_
    refine l_gfi rfl rfl rfl rfl rfl ?_
    have w32 : (Xi U2 904 8) = (Xi T1 904 8) := (show Xi U2 904 8 = Xi T1 904 8 from by rw [eU2]; exact Xi_ne (by omega))
    rw [w32]
    refine l_iaload (n := 5002) rfl rfl (by omega) (by omega) (by unfold rg; omega) ?_
    have w33 : 0 ≤ (Xi U2 907 (((Xi T1 904 8)).toNat)) ∧ (Xi U2 907 (((Xi T1 904 8)).toNat)) ≤ 154 := hHU2.c _ _
    refine l_iload_n rfl rfl ?_
    have w34 : Xi U2 904 65 = Xi T1 904 65 := (show Xi U2 904 65 = Xi T1 904 65 from by rw [eU2]; exact Xi_ne (by omega))
    have w38 : Xi U2 904 8 = Xi T1 904 8 := (show Xi U2 904 8 = Xi T1 904 8 from by rw [eU2]; exact Xi_ne (by omega))
    have w40 : Xi U2 904 93 = Xi T1 904 93 := (show Xi U2 904 93 = Xi T1 904 93 from by rw [eU2]; exact Xi_ne (by omega))
    refine l_callV rfl rfl rfl (t_mo_endsTest hHU2 (Xi U2 907 (((Xi T1 904 8)).toNat)) isNow ⟨by omega, by omega⟩ ⟨by omega, by omega⟩ _) ?_
    rintro _ _ ⟨rfl, z43, rfl, w43, w42⟩
    show Rl _ _ _ _ _ [iv z43] _ _
    refine l_if_ne rfl rfl (by unfold rg; omega) (fun w44 => ?_) (fun w45 => ?_)
    · refine l_aload_n rfl rfl ?_
      refine l_dup rfl rfl ?_
      refine l_gfi rfl rfl rfl rfl rfl ?_
      have w46 : (Xi U2 904 93) = (Xi T1 904 93) := (show Xi U2 904 93 = Xi T1 904 93 from by rw [eU2]; exact Xi_ne (by omega))
      rw [w46]
      refine l_iconst rfl ?_
      refine l_iadd rfl ?_
      refine l_pfi rfl rfl rfl rfl ?_
      obtain ⟨U4, eU4⟩ : ∃ T : sS, T = uI U2 904 93 (Int32.ofInt ((Xi T1 904 93) + 1)) := ⟨_, rfl⟩
      rw [← eU4]
      have hHU4 : HI U4 := by rw [eU4]; exact HI_w hHU2 (show 0 ≤ ((Xi T1 904 93) + 1) by omega) (show ((Xi T1 904 93) + 1) ≤ 1700 by omega)
      have hFU4 : FR md_mo_test__2 S U4 := by rw [eU4]; exact FR.wI hFU2 (mdf_i (r := (904, 905, 93, 94)) (List.mem_of_getElem? (i := 5) rfl) (inR_i (by omega) (by omega) (by omega) (by omega)))
      have w47 : Xi U4 904 93 = ((Xi T1 904 93) + 1) := by rw [eU4]; exact Xi_same (by unfold rg; omega)
      have E399 : Xi U4 904 65 = 0 → TVx U4 n (Xi S 904 93).toNat := by first | exact fun q => tvx_w (E363 (by rw [eU4, Xi_ne (by omega)] at q; omega)) eU4 (by omega) | exact fun q => absurd q (by rw [eU4, Xi_ne (by omega)]; omega)
      refine l_return rfl rfl ?_
      have w48 : Xi U4 952 (Xi S 904 93).toNat = Xi T1 952 (Xi S 904 93).toNat := (show Xi U4 952 (Xi S 904 93).toNat = Xi U2 952 (Xi S 904 93).toNat from by rw [eU4]; exact Xi_ne (by omega)).trans ((show Xi U2 952 (Xi S 904 93).toNat = Xi T1 952 (Xi S 904 93).toNat from by rw [eU2]; exact Xi_ne (by omega)))
      have w49 : Xi U4 961 (Xi S 904 93).toNat = Xi T1 961 (Xi S 904 93).toNat := (show Xi U4 961 (Xi S 904 93).toNat = Xi U2 961 (Xi S 904 93).toNat from by rw [eU4]; exact Xi_ne (by omega)).trans ((show Xi U2 961 (Xi S 904 93).toNat = Xi T1 961 (Xi S 904 93).toNat from by rw [eU2]; exact Xi_ne (by omega)))
      have w50 : Xi U4 962 (Xi S 904 93).toNat = Xi U2 962 (Xi S 904 93).toNat := (show Xi U4 962 (Xi S 904 93).toNat = Xi U2 962 (Xi S 904 93).toNat from by rw [eU4]; exact Xi_ne (by omega))
      have w51 : Xi U4 904 65 = Xi T1 904 65 := (show Xi U4 904 65 = Xi U2 904 65 from by rw [eU4]; exact Xi_ne (by omega)).trans ((show Xi U2 904 65 = Xi T1 904 65 from by rw [eU2]; exact Xi_ne (by omega)))
      have w53 : Xi U4 904 69 = Xi T1 904 69 := (show Xi U4 904 69 = Xi U2 904 69 from by rw [eU4]; exact Xi_ne (by omega)).trans ((show Xi U2 904 69 = Xi T1 904 69 from by rw [eU2]; exact Xi_ne (by omega)))
      have w55 : Xi U4 904 8 = Xi T1 904 8 := (show Xi U4 904 8 = Xi U2 904 8 from by rw [eU4]; exact Xi_ne (by omega)).trans ((show Xi U2 904 8 = Xi T1 904 8 from by rw [eU2]; exact Xi_ne (by omega)))
      have w57 : 0 ≤ Xi U4 904 93 ∧ Xi U4 904 93 ≤ 1700 := hHU4.c _ _
      exact ⟨hHU4, hFU4, rfl, (by first | exact at_ct (by first | assumption | exact AT_FR (FR_e eU2) rfl (by assumption)) eU4 (by omega) (by omega) (by omega) | exact AT_bad (by omega)), (by omega), (by first | assumption | exact (RNV_FR (FR_e eU4) rfl (RNV_FR (FR_e eU2) rfl (by assumption : RNV T1 _)))), (by omega), (by omega), ((KT_FR (FR_e eU4) rfl (KT.w (by assumption : KT T1 S _) eU2 (by omega)))), (by omega), (fun q => ⟨⟨by omega, by omega⟩, E399 q⟩), (by omega), (by first | assumption | exact (BDA_FR (FR_e eU4) rfl (BDA_FR (FR_e eU2) rfl (by assumption : BDA T1))))⟩
    · refine l_aload_n rfl rfl ?_
      refine l_callV rfl rfl rfl (t_mo_odd__2 hHU2 (by first | assumption | exact (BDA_FR (FR_e eU2) rfl (by assumption : BDA T1))) (by first | omega | exact fun q => (by have t := ((AT_FR (FR_e eU2) rfl (by assumption : AT T1 _ _)) q).1; have u := hT.1; omega)) _) ?_
      rintro _ T5 ⟨hHT5, w70, rfl, w66, w67, w68⟩
      have hFT5 : FR md_mo_test__2 S T5 := FR.tr hFU2 w70 rfl
      show Rl _ _ _ _ _ [] _ _
      have w72 : Xi T5 904 8 = Xi T1 904 8 := (show Xi T5 904 8 = Xi U2 904 8 from w70.x _ _ rfl).trans ((show Xi U2 904 8 = Xi T1 904 8 from by rw [eU2]; exact Xi_ne (by omega)))
      have w74 : 0 ≤ Xi T5 904 65 ∧ Xi T5 904 65 ≤ 1 := hHT5.c _ _
      have w75 : Xi T5 904 69 = Xi T1 904 69 := (show Xi T5 904 69 = Xi U2 904 69 from w70.x _ _ rfl).trans ((show Xi U2 904 69 = Xi T1 904 69 from by rw [eU2]; exact Xi_ne (by omega)))
      have w77 : Xi T5 904 93 = Xi T1 904 93 := (show Xi T5 904 93 = Xi U2 904 93 from w70.x _ _ rfl).trans ((show Xi U2 904 93 = Xi T1 904 93 from by rw [eU2]; exact Xi_ne (by omega)))
      have w71 : Xi S 904 8 ≤ Xi T5 904 8 ∧ Xi T5 904 8 ≤ n ∧ Xi S 904 69 ≤ Xi T5 904 69 ∧ (Xi T5 904 65 = 0 → Xi S 904 65 = 0) := by omega
      clear w67
      refine l_aload_n rfl rfl ?_
      refine l_dup rfl rfl ?_
      refine l_gfi rfl rfl rfl rfl rfl ?_
      have w79 : (Xi T5 904 93) = (Xi T1 904 93) := (show Xi T5 904 93 = Xi U2 904 93 from w70.x _ _ rfl).trans ((show Xi U2 904 93 = Xi T1 904 93 from by rw [eU2]; exact Xi_ne (by omega)))
      rw [w79]
      refine l_iconst rfl ?_
      refine l_iadd rfl ?_
      refine l_pfi rfl rfl rfl rfl ?_
      obtain ⟨U6, eU6⟩ : ∃ T : sS, T = uI T5 904 93 (Int32.ofInt ((Xi T1 904 93) + 1)) := ⟨_, rfl⟩
      rw [← eU6]
      have hHU6 : HI U6 := by rw [eU6]; exact HI_w hHT5 (show 0 ≤ ((Xi T1 904 93) + 1) by omega) (show ((Xi T1 904 93) + 1) ≤ 1700 by omega)
      have hFU6 : FR md_mo_test__2 S U6 := by rw [eU6]; exact FR.wI hFT5 (mdf_i (r := (904, 905, 93, 94)) (List.mem_of_getElem? (i := 5) rfl) (inR_i (by omega) (by omega) (by omega) (by omega)))
      have w80 : Xi U6 904 93 = ((Xi T1 904 93) + 1) := by rw [eU6]; exact Xi_same (by unfold rg; omega)
      have E399 : Xi U6 904 65 = 0 → TVx U6 n (Xi S 904 93).toNat := by first | exact fun q => tvx_w (E363 (by rw [eU6, Xi_ne (by omega)] at q; omega)) eU6 (by omega) | exact fun q => absurd q (by rw [eU6, Xi_ne (by omega)]; omega)
      refine l_return rfl rfl ?_
      have w81 : Xi U6 952 (Xi S 904 93).toNat = Xi T1 952 (Xi S 904 93).toNat := (show Xi U6 952 (Xi S 904 93).toNat = Xi T5 952 (Xi S 904 93).toNat from by rw [eU6]; exact Xi_ne (by omega)).trans ( (show Xi T5 952 (Xi S 904 93).toNat = Xi U2 952 (Xi S 904 93).toNat from (w70.cx 952 rfl _).1).trans ((show Xi U2 952 (Xi S 904 93).toNat = Xi T1 952 (Xi S 904 93).toNat from by rw [eU2]; exact Xi_ne (by omega))))
      have w82 : Xi U6 961 (Xi S 904 93).toNat = Xi T1 961 (Xi S 904 93).toNat := (show Xi U6 961 (Xi S 904 93).toNat = Xi T5 961 (Xi S 904 93).toNat from by rw [eU6]; exact Xi_ne (by omega)).trans ( (show Xi T5 961 (Xi S 904 93).toNat = Xi U2 961 (Xi S 904 93).toNat from (w70.cx 961 rfl _).1).trans ((show Xi U2 961 (Xi S 904 93).toNat = Xi T1 961 (Xi S 904 93).toNat from by rw [eU2]; exact Xi_ne (by omega))))
      have w83 : Xi U6 962 (Xi S 904 93).toNat = Xi U2 962 (Xi S 904 93).toNat := (show Xi U6 962 (Xi S 904 93).toNat = Xi T5 962 (Xi S 904 93).toNat from by rw [eU6]; exact Xi_ne (by omega)).trans ((show Xi T5 962 (Xi S 904 93).toNat = Xi U2 962 (Xi S 904 93).toNat from (w70.cx 962 rfl _).1))
      have w84 : Xi U6 904 65 = Xi T5 904 65 := (show Xi U6 904 65 = Xi T5 904 65 from by rw [eU6]; exact Xi_ne (by omega))
      have w86 : Xi U6 904 69 = Xi T1 904 69 := (show Xi U6 904 69 = Xi T5 904 69 from by rw [eU6]; exact Xi_ne (by omega)).trans ( (show Xi T5 904 69 = Xi U2 904 69 from w70.x _ _ rfl).trans ((show Xi U2 904 69 = Xi T1 904 69 from by rw [eU2]; exact Xi_ne (by omega))))
      have w88 : Xi U6 904 8 = Xi T1 904 8 := (show Xi U6 904 8 = Xi T5 904 8 from by rw [eU6]; exact Xi_ne (by omega)).trans ( (show Xi T5 904 8 = Xi U2 904 8 from w70.x _ _ rfl).trans ((show Xi U2 904 8 = Xi T1 904 8 from by rw [eU2]; exact Xi_ne (by omega))))
      have w90 : 0 ≤ Xi U6 904 93 ∧ Xi U6 904 93 ≤ 1700 := hHU6.c _ _
      exact ⟨hHU6, hFU6, rfl, (by first | exact at_ct (by first | assumption | exact AT_FR (FR_e ) rfl (by assumption)) eU6 (by omega) (by omega) (by omega) | exact AT_bad (by omega)), (by omega), (by first | assumption | exact (RNV_FR (FR_e eU6) rfl (RNV_FR w70 rfl (RNV_FR (FR_e eU2) rfl (by assumption : RNV T1 _))))), (by omega), (by omega), ((KT_FR (FR_e eU6) rfl (KT_FR w70 rfl (KT.w (by assumption : KT T1 S _) eU2 (by omega))))), (by omega), (fun q => ⟨⟨by omega, by omega⟩, E399 q⟩), (by omega), (by first | assumption | exact (BDA_FR (FR_e eU6) rfl (by assumption : BDA T5)))⟩
set_option maxRecDepth 100000 in
set_option maxHeartbeats 8000000 in
theorem c96_mo_test__2 {S : sS} (hH : HI S) (n : Nat) (c : Nat) (isNow : Int) (hisNow : 0 ≤ isNow ∧ isNow ≤ 1) (hT : TK S n) (hA : AT S n c) (hv : RNV S n) (tc : Xi S 904 93 ≤ 1699) (hx : Xi S 904 8 ≤ n) (hc : 1 ≤ c) (hBDA : BDA S) (d : Nat) : ∀ (n96 : Nat) (T7 : sS) (_ : HI T7) (_ : FR md_mo_test__2 S T7) (v2 : Int) (v4 : Int), (0 ≤ v2 ∧ v2 ≤ 5010) → (0 ≤ v4 ∧ v4 ≤ 154) → (v2 = Xi S 904 8) → (AT T7 n c) → (RNV T7 n) → (v4 ≠ 1 → Xi T7 904 65 = 0 ∧ Xi T7 907 (Xi T7 904 8).toNat = v4) → (Xi T7 904 65 = Xi S 904 65) → (Xi T7 904 69 = Xi S 904 69) → (Xi T7 904 93 = Xi S 904 93) → (Xi S 904 8 ≤ Xi T7 904 8 ∧ Xi T7 904 8 ≤ n) → (Xi T7 952 (Xi S 904 93).toNat = 5) → (Xi T7 961 (Xi S 904 93).toNat = Xi S 904 8) → (KT T7 S (Xi S 904 93)) → (BDA T7) → n96 = (5002 - Xi T7 904 8).toNat → Rl lay0 (d + 5) m_mo_test 96 [(0, .ref 904), (1, iv isNow), (2, iv v2), (4, iv v4)] [] T7 (Q_mo_test__2 S n c isNow) := by
  have C351 := c351_mo_test__2 hH n c isNow hisNow hT hA hv tc hx hc hBDA d 
  have hF : FR md_mo_test__2 S S := FR.rf
  have w1 : 0 ≤ Xi S 904 65 ∧ Xi S 904 65 ≤ 1 := hH.c _ _
  have w2 : 0 ≤ Xi S 904 69 ∧ Xi S 904 69 ≤ 2600 := hH.c _ _
  have w3 : 0 ≤ Xi S 904 8 ∧ Xi S 904 8 ≤ 5010 := hH.c _ _
  have w4 : 0 ≤ Xi S 904 93 ∧ Xi S 904 93 ≤ 1700 := hH.c _ _
  have hn5 := hT.1
  have hat := hA
  have h8 : 0 ≤ Xi S 904 8 ∧ Xi S 904 8 ≤ 5010 := hH.c _ _
  have h69 : 0 ≤ Xi S 904 69 ∧ Xi S 904 69 ≤ 2600 := hH.c _ _
  have ha0 : Xi S 904 65 = 0 → Xi S 904 8 ≤ n := fun q => (hA q).1
  have ha3 : Xi S 904 65 = 0 → 2 * Xi S 904 69 ≤ Xi S 904 8 + 1 := fun q => (hA q).2.1
  clear hat
  clear ha0 ha3
  intro n96
  induction n96 using Nat.strongRecOn with
  | ind n96 ih96 =>
    intro T7 hHT7 hFT7 v2 v4 w91 w92 w93 A96 V96 w94 w95 w96 w97 w98 w99 w100 K96 BDA_96 hm96
    have w101 : 0 ≤ Xi T7 904 65 ∧ Xi T7 904 65 ≤ 1 := hHT7.c _ _
    have w102 : 0 ≤ Xi T7 904 69 ∧ Xi T7 904 69 ≤ 2600 := hHT7.c _ _
    have w103 : 0 ≤ Xi T7 904 8 ∧ Xi T7 904 8 ≤ 5010 := hHT7.c _ _
    have w104 : 0 ≤ Xi T7 904 93 ∧ Xi T7 904 93 ≤ 1700 := hHT7.c _ _
    refine l_iload rfl rfl ?_
    refine l_iconst rfl ?_
    refine l_icmp_eq rfl rfl (by unfold rg; omega) (by unfold rg; omega) (fun w105 => ?_) (fun w106 => ?_)
    · refine l_aload_n rfl rfl ?_
      refine l_dup rfl rfl ?_
      refine l_gfi rfl rfl rfl rfl rfl ?_
      refine l_iconst rfl ?_
      refine l_iadd rfl ?_
      refine l_pfi rfl rfl rfl rfl ?_
      obtain ⟨U8, eU8⟩ : ∃ T : sS, T = uI T7 904 8 (Int32.ofInt ((Xi T7 904 8) + 1)) := ⟨_, rfl⟩
      rw [← eU8]
      have hHU8 : HI U8 := by rw [eU8]; exact HI_w hHT7 (show 0 ≤ ((Xi T7 904 8) + 1) by omega) (show ((Xi T7 904 8) + 1) ≤ 5010 by omega)
      have hFU8 : FR md_mo_test__2 S U8 := by rw [eU8]; exact FR.wI hFT7 (mdf_i (r := (904, 905, 8, 9)) (List.mem_of_getElem? (i := 0) rfl) (inR_i (by omega) (by omega) (by omega) (by omega)))
      have w107 : Xi U8 904 8 = ((Xi T7 904 8) + 1) := by rw [eU8]; exact Xi_same (by unfold rg; omega)
      have t133 : AT U8 n c ∧ _ := at_mv (S := T7) (P := T7) (TK_FR hFT7 rfl hT) A96 (fun _ => rfl) (fun _ => rfl) rfl rfl rfl rfl eU8 (by omega) (by omega) (by omega) (by omega) (Or.inl rfl)
      have a133 : AT U8 n c := t133.1
      refine l_aload_n rfl rfl ?_
      have w108 : Xi U8 904 65 = Xi T7 904 65 := (show Xi U8 904 65 = Xi T7 904 65 from by rw [eU8]; exact Xi_ne (by omega))
      have w112 : 0 ≤ Xi U8 904 8 ∧ Xi U8 904 8 ≤ 5010 := hHU8.c _ _
      refine l_callV rfl rfl rfl (t_mo_look hHU8 n c (by first | assumption | exact (TK_FR hFU8 rfl (by assumption : TK S _))) (by first | assumption | exact (by assumption : AT U8 _ _)) _) ?_
      rintro _ _ ⟨rfl, z116, rfl, w116, w115⟩
      show Rl _ _ _ _ _ [iv z116] _ _
      have l137 : z116 ≠ 1 → Xi U8 904 65 = 0 ∧ Xi U8 907 (Xi U8 904 8).toNat = z116 := by assumption
      refine l_istore rfl rfl rfl ?_
      refine l_goto rfl rfl ?_
      have w117 : Xi U8 952 (Xi S 904 93).toNat = Xi T7 952 (Xi S 904 93).toNat := (show Xi U8 952 (Xi S 904 93).toNat = Xi T7 952 (Xi S 904 93).toNat from by rw [eU8]; exact Xi_ne (by omega))
      have w118 : Xi U8 961 (Xi S 904 93).toNat = Xi T7 961 (Xi S 904 93).toNat := (show Xi U8 961 (Xi S 904 93).toNat = Xi T7 961 (Xi S 904 93).toNat from by rw [eU8]; exact Xi_ne (by omega))
      have w119 : Xi U8 962 (Xi S 904 93).toNat = Xi T7 962 (Xi S 904 93).toNat := (show Xi U8 962 (Xi S 904 93).toNat = Xi T7 962 (Xi S 904 93).toNat from by rw [eU8]; exact Xi_ne (by omega))
      have w122 : Xi U8 904 69 = Xi T7 904 69 := (show Xi U8 904 69 = Xi T7 904 69 from by rw [eU8]; exact Xi_ne (by omega))
      have w125 : Xi U8 904 93 = Xi T7 904 93 := (show Xi U8 904 93 = Xi T7 904 93 from by rw [eU8]; exact Xi_ne (by omega))
      exact Rl_weak (ih96 _ (by omega) U8 hHU8 hFU8 (v2) (z116) (by omega) (by omega) (by omega) (by first | exact a133 | exact (by assumption : AT U8 _ _)) (by first | assumption | exact (RNV_FR (FR_e eU8) rfl (by assumption : RNV T7 _))) (by omega) (by omega) (by omega) (by omega) (by omega) (by omega) (by omega) ((KT_FR (FR_e eU8) rfl (by assumption : KT T7 S _))) (by first | assumption | exact (BDA_FR (FR_e eU8) rfl (by assumption : BDA T7))) rfl) (And.intro rfl (And.intro rfl (And.intro rfl (And.intro rfl (True.intro)))))
    · refine l_iload rfl rfl ?_
      refine l_callS rfl rfl (by decide) rfl (t_mo_isArt hHT7 v4 ⟨by omega, by omega⟩ _) ?_
      rintro _ _ ⟨rfl, z132, rfl, w132, w131⟩
      show Rl _ _ _ _ _ [iv z132] _ _
      refine l_if_ne rfl rfl (by unfold rg; omega) (fun w133 => ?_) (fun w134 => ?_)
      · refine l_aload_n rfl rfl ?_
        refine l_dup rfl rfl ?_
        refine l_gfi rfl rfl rfl rfl rfl ?_
        refine l_iconst rfl ?_
        refine l_iadd rfl ?_
        refine l_pfi rfl rfl rfl rfl ?_
        obtain ⟨U9, eU9⟩ : ∃ T : sS, T = uI T7 904 8 (Int32.ofInt ((Xi T7 904 8) + 1)) := ⟨_, rfl⟩
        rw [← eU9]
        have hHU9 : HI U9 := by rw [eU9]; exact HI_w hHT7 (show 0 ≤ ((Xi T7 904 8) + 1) by omega) (show ((Xi T7 904 8) + 1) ≤ 5010 by omega)
        have hFU9 : FR md_mo_test__2 S U9 := by rw [eU9]; exact FR.wI hFT7 (mdf_i (r := (904, 905, 8, 9)) (List.mem_of_getElem? (i := 0) rfl) (inR_i (by omega) (by omega) (by omega) (by omega)))
        have w135 : Xi U9 904 8 = ((Xi T7 904 8) + 1) := by rw [eU9]; exact Xi_same (by unfold rg; omega)
        have t133 : AT U9 n c ∧ _ := at_mv (S := T7) (P := T7) (TK_FR hFT7 rfl hT) A96 (fun _ => rfl) (fun _ => rfl) rfl rfl rfl rfl eU9 (by omega) (by omega) (by omega) (by omega) (Or.inl rfl)
        have a133 : AT U9 n c := t133.1
        refine l_aload_n rfl rfl ?_
        have w136 : Xi U9 904 65 = Xi T7 904 65 := (show Xi U9 904 65 = Xi T7 904 65 from by rw [eU9]; exact Xi_ne (by omega))
        have w140 : 0 ≤ Xi U9 904 8 ∧ Xi U9 904 8 ≤ 5010 := hHU9.c _ _
        refine l_callV rfl rfl rfl (t_mo_look hHU9 n c (by first | assumption | exact (TK_FR hFU9 rfl (by assumption : TK S _))) (by first | assumption | exact (by assumption : AT U9 _ _)) _) ?_
        rintro _ _ ⟨rfl, z144, rfl, w144, w143⟩
        show Rl _ _ _ _ _ [iv z144] _ _
        have l137 : z144 ≠ 1 → Xi U9 904 65 = 0 ∧ Xi U9 907 (Xi U9 904 8).toNat = z144 := by assumption
        refine l_istore rfl rfl rfl ?_
        refine l_goto rfl rfl ?_
        have w145 : Xi U9 952 (Xi S 904 93).toNat = Xi T7 952 (Xi S 904 93).toNat := (show Xi U9 952 (Xi S 904 93).toNat = Xi T7 952 (Xi S 904 93).toNat from by rw [eU9]; exact Xi_ne (by omega))
        have w146 : Xi U9 961 (Xi S 904 93).toNat = Xi T7 961 (Xi S 904 93).toNat := (show Xi U9 961 (Xi S 904 93).toNat = Xi T7 961 (Xi S 904 93).toNat from by rw [eU9]; exact Xi_ne (by omega))
        have w147 : Xi U9 962 (Xi S 904 93).toNat = Xi T7 962 (Xi S 904 93).toNat := (show Xi U9 962 (Xi S 904 93).toNat = Xi T7 962 (Xi S 904 93).toNat from by rw [eU9]; exact Xi_ne (by omega))
        have w150 : Xi U9 904 69 = Xi T7 904 69 := (show Xi U9 904 69 = Xi T7 904 69 from by rw [eU9]; exact Xi_ne (by omega))
        have w153 : Xi U9 904 93 = Xi T7 904 93 := (show Xi U9 904 93 = Xi T7 904 93 from by rw [eU9]; exact Xi_ne (by omega))
        exact Rl_weak (ih96 _ (by omega) U9 hHU9 hFU9 (v2) (z144) (by omega) (by omega) (by omega) (by first | exact a133 | exact (by assumption : AT U9 _ _)) (by first | assumption | exact (RNV_FR (FR_e eU9) rfl (by assumption : RNV T7 _))) (by omega) (by omega) (by omega) (by omega) (by omega) (by omega) (by omega) ((KT_FR (FR_e eU9) rfl (by assumption : KT T7 S _))) (by first | assumption | exact (BDA_FR (FR_e eU9) rfl (by assumption : BDA T7))) rfl) (And.intro rfl (And.intro rfl (And.intro rfl (And.intro rfl (True.intro)))))
      · refine l_iload rfl rfl ?_
        refine l_sipush rfl rfl ?_
        refine l_icmp_eq rfl rfl (by unfold rg; omega) (by unfold rg; omega) (fun w155 => ?_) (fun w156 => ?_)
        · refine l_aload_n rfl rfl ?_
          refine l_dup rfl rfl ?_
          refine l_gfi rfl rfl rfl rfl rfl ?_
          refine l_iconst rfl ?_
          refine l_iadd rfl ?_
          refine l_pfi rfl rfl rfl rfl ?_
          obtain ⟨U10, eU10⟩ : ∃ T : sS, T = uI T7 904 8 (Int32.ofInt ((Xi T7 904 8) + 1)) := ⟨_, rfl⟩
          rw [← eU10]
          have hHU10 : HI U10 := by rw [eU10]; exact HI_w hHT7 (show 0 ≤ ((Xi T7 904 8) + 1) by omega) (show ((Xi T7 904 8) + 1) ≤ 5010 by omega)
          have hFU10 : FR md_mo_test__2 S U10 := by rw [eU10]; exact FR.wI hFT7 (mdf_i (r := (904, 905, 8, 9)) (List.mem_of_getElem? (i := 0) rfl) (inR_i (by omega) (by omega) (by omega) (by omega)))
          have w157 : Xi U10 904 8 = ((Xi T7 904 8) + 1) := by rw [eU10]; exact Xi_same (by unfold rg; omega)
          have t133 : AT U10 n c ∧ _ := at_mv (S := T7) (P := T7) (TK_FR hFT7 rfl hT) A96 (fun _ => rfl) (fun _ => rfl) rfl rfl rfl rfl eU10 (by omega) (by omega) (by omega) (by omega) (Or.inl rfl)
          have a133 : AT U10 n c := t133.1
          refine l_aload_n rfl rfl ?_
          have w158 : Xi U10 904 65 = Xi T7 904 65 := (show Xi U10 904 65 = Xi T7 904 65 from by rw [eU10]; exact Xi_ne (by omega))
          have w162 : 0 ≤ Xi U10 904 8 ∧ Xi U10 904 8 ≤ 5010 := hHU10.c _ _
          refine l_callV rfl rfl rfl (t_mo_look hHU10 n c (by first | assumption | exact (TK_FR hFU10 rfl (by assumption : TK S _))) (by first | assumption | exact (by assumption : AT U10 _ _)) _) ?_
          rintro _ _ ⟨rfl, z166, rfl, w166, w165⟩
          show Rl _ _ _ _ _ [iv z166] _ _
          have l137 : z166 ≠ 1 → Xi U10 904 65 = 0 ∧ Xi U10 907 (Xi U10 904 8).toNat = z166 := by assumption
          refine l_istore rfl rfl rfl ?_
          refine l_goto rfl rfl ?_
          have w167 : Xi U10 952 (Xi S 904 93).toNat = Xi T7 952 (Xi S 904 93).toNat := (show Xi U10 952 (Xi S 904 93).toNat = Xi T7 952 (Xi S 904 93).toNat from by rw [eU10]; exact Xi_ne (by omega))
          have w168 : Xi U10 961 (Xi S 904 93).toNat = Xi T7 961 (Xi S 904 93).toNat := (show Xi U10 961 (Xi S 904 93).toNat = Xi T7 961 (Xi S 904 93).toNat from by rw [eU10]; exact Xi_ne (by omega))
          have w169 : Xi U10 962 (Xi S 904 93).toNat = Xi T7 962 (Xi S 904 93).toNat := (show Xi U10 962 (Xi S 904 93).toNat = Xi T7 962 (Xi S 904 93).toNat from by rw [eU10]; exact Xi_ne (by omega))
          have w172 : Xi U10 904 69 = Xi T7 904 69 := (show Xi U10 904 69 = Xi T7 904 69 from by rw [eU10]; exact Xi_ne (by omega))
          have w175 : Xi U10 904 93 = Xi T7 904 93 := (show Xi U10 904 93 = Xi T7 904 93 from by rw [eU10]; exact Xi_ne (by omega))
          exact Rl_weak (ih96 _ (by omega) U10 hHU10 hFU10 (v2) (z166) (by omega) (by omega) (by omega) (by first | exact a133 | exact (by assumption : AT U10 _ _)) (by first | assumption | exact (RNV_FR (FR_e eU10) rfl (by assumption : RNV T7 _))) (by omega) (by omega) (by omega) (by omega) (by omega) (by omega) (by omega) ((KT_FR (FR_e eU10) rfl (by assumption : KT T7 S _))) (by first | assumption | exact (BDA_FR (FR_e eU10) rfl (by assumption : BDA T7))) rfl) (And.intro rfl (And.intro rfl (And.intro rfl (And.intro rfl (True.intro)))))
        · refine l_iload rfl rfl ?_
          refine l_sipush rfl rfl ?_
          refine l_icmp_ne rfl rfl (by unfold rg; omega) (by unfold rg; omega) (fun w177 => ?_) (fun w178 => ?_)
          · refine l_aload_n rfl rfl ?_
            refine l_gfi rfl rfl rfl rfl rfl ?_
            refine l_iload_n rfl rfl ?_
            refine l_icmp_ne rfl rfl (by unfold rg; omega) (by unfold rg; omega) (fun w179 => ?_) (fun w180 => ?_)
            · refine l_goto rfl rfl ?_
              exact Rl_weak (C351 T7 hHT7 hFT7  (by first | assumption | exact AT_bad (by omega) | exact (by assumption : AT T7 _ _)) (by first | assumption | exact (by assumption : RNV T7 _)) (by omega) (by omega) (by omega) (by omega) (by omega) (by omega) ((by assumption : KT T7 S _)) (by first | exact E187 | exact E274 | exact E350 | exact (fun _ q => tvx_5 (by omega)) A96 | exact fun q => absurd q (by omega)) (by omega) (by first | assumption | exact (by assumption : BDA T7))) (And.intro rfl (And.intro rfl (True.intro)))
            · refine l_aload_n rfl rfl ?_
              refine l_callV rfl rfl rfl (t_mo_odd__2 hHT7 (by first | assumption | exact (by assumption : BDA T7)) (by first | omega | exact fun q => (by have t := ((by assumption : AT T7 _ _) q).1; have u := hT.1; omega)) _) ?_
              rintro _ T11 ⟨hHT11, w193, rfl, w189, w190, w191⟩
              have hFT11 : FR md_mo_test__2 S T11 := FR.tr hFT7 w193 rfl
              show Rl _ _ _ _ _ [] _ _
              have w195 : Xi T11 904 8 = Xi T7 904 8 := (show Xi T11 904 8 = Xi T7 904 8 from w193.x _ _ rfl)
              have w197 : 0 ≤ Xi T11 904 65 ∧ Xi T11 904 65 ≤ 1 := hHT11.c _ _
              have w198 : Xi T11 904 69 = Xi T7 904 69 := (show Xi T11 904 69 = Xi T7 904 69 from w193.x _ _ rfl)
              have w200 : Xi T11 904 93 = Xi T7 904 93 := (show Xi T11 904 93 = Xi T7 904 93 from w193.x _ _ rfl)
              have w194 : Xi S 904 8 ≤ Xi T11 904 8 ∧ Xi T11 904 8 ≤ n ∧ Xi S 904 69 ≤ Xi T11 904 69 ∧ (Xi T11 904 65 = 0 → Xi S 904 65 = 0) := by omega
              clear w190
              refine l_goto rfl rfl ?_
              have w202 : Xi T11 952 (Xi S 904 93).toNat = Xi T7 952 (Xi S 904 93).toNat := (show Xi T11 952 (Xi S 904 93).toNat = Xi T7 952 (Xi S 904 93).toNat from (w193.cx 952 rfl _).1)
              have w203 : Xi T11 961 (Xi S 904 93).toNat = Xi T7 961 (Xi S 904 93).toNat := (show Xi T11 961 (Xi S 904 93).toNat = Xi T7 961 (Xi S 904 93).toNat from (w193.cx 961 rfl _).1)
              have w204 : Xi T11 962 (Xi S 904 93).toNat = Xi T7 962 (Xi S 904 93).toNat := (show Xi T11 962 (Xi S 904 93).toNat = Xi T7 962 (Xi S 904 93).toNat from (w193.cx 962 rfl _).1)
              exact Rl_weak (C351 T11 hHT11 hFT11  (by first | assumption | exact AT_bad (by omega) | exact (by assumption : AT T11 _ _)) (by first | assumption | exact (RNV_FR w193 rfl (by assumption : RNV T7 _))) (by omega) (by omega) (by omega) (by omega) (by omega) (by omega) ((KT_FR w193 rfl (by assumption : KT T7 S _))) (by first | exact E187 | exact E274 | exact E350 | exact (fun _ q => tvx_5 (by omega)) A96 | exact fun q => absurd q (by omega)) (by omega) (by first | assumption | exact (by assumption : BDA T11))) (And.intro rfl (And.intro rfl (True.intro)))
          · refine l_aload_n rfl rfl ?_
            refine l_dup rfl rfl ?_
            refine l_gfi rfl rfl rfl rfl rfl ?_
            refine l_iconst rfl ?_
            refine l_iadd rfl ?_
            refine l_pfi rfl rfl rfl rfl ?_
            obtain ⟨U12, eU12⟩ : ∃ T : sS, T = uI T7 904 8 (Int32.ofInt ((Xi T7 904 8) + 1)) := ⟨_, rfl⟩
            rw [← eU12]
            have hHU12 : HI U12 := by rw [eU12]; exact HI_w hHT7 (show 0 ≤ ((Xi T7 904 8) + 1) by omega) (show ((Xi T7 904 8) + 1) ≤ 5010 by omega)
            have hFU12 : FR md_mo_test__2 S U12 := by rw [eU12]; exact FR.wI hFT7 (mdf_i (r := (904, 905, 8, 9)) (List.mem_of_getElem? (i := 0) rfl) (inR_i (by omega) (by omega) (by omega) (by omega)))
            have w212 : Xi U12 904 8 = ((Xi T7 904 8) + 1) := by rw [eU12]; exact Xi_same (by unfold rg; omega)
            have t133 : AT U12 n c ∧ _ := at_mv (S := T7) (P := T7) (TK_FR hFT7 rfl hT) A96 (fun _ => rfl) (fun _ => rfl) rfl rfl rfl rfl eU12 (by omega) (by omega) (by omega) (by omega) (Or.inl rfl)
            have a133 : AT U12 n c := t133.1
            refine l_aload_n rfl rfl ?_
            have w213 : Xi U12 904 65 = Xi T7 904 65 := (show Xi U12 904 65 = Xi T7 904 65 from by rw [eU12]; exact Xi_ne (by omega))
            have w217 : 0 ≤ Xi U12 904 8 ∧ Xi U12 904 8 ≤ 5010 := hHU12.c _ _
            refine l_callV rfl rfl rfl (t_mo_look hHU12 n c (by first | assumption | exact (TK_FR hFU12 rfl (by assumption : TK S _))) (by first | assumption | exact (by assumption : AT U12 _ _)) _) ?_
            rintro _ _ ⟨rfl, z221, rfl, w221, w220⟩
            show Rl _ _ _ _ _ [iv z221] _ _
            have l137 : z221 ≠ 1 → Xi U12 904 65 = 0 ∧ Xi U12 907 (Xi U12 904 8).toNat = z221 := by assumption
            refine l_istore rfl rfl rfl ?_
            refine l_goto rfl rfl ?_
            have w222 : Xi U12 952 (Xi S 904 93).toNat = Xi T7 952 (Xi S 904 93).toNat := (show Xi U12 952 (Xi S 904 93).toNat = Xi T7 952 (Xi S 904 93).toNat from by rw [eU12]; exact Xi_ne (by omega))
            have w223 : Xi U12 961 (Xi S 904 93).toNat = Xi T7 961 (Xi S 904 93).toNat := (show Xi U12 961 (Xi S 904 93).toNat = Xi T7 961 (Xi S 904 93).toNat from by rw [eU12]; exact Xi_ne (by omega))
            have w224 : Xi U12 962 (Xi S 904 93).toNat = Xi T7 962 (Xi S 904 93).toNat := (show Xi U12 962 (Xi S 904 93).toNat = Xi T7 962 (Xi S 904 93).toNat from by rw [eU12]; exact Xi_ne (by omega))
            have w227 : Xi U12 904 69 = Xi T7 904 69 := (show Xi U12 904 69 = Xi T7 904 69 from by rw [eU12]; exact Xi_ne (by omega))
            have w230 : Xi U12 904 93 = Xi T7 904 93 := (show Xi U12 904 93 = Xi T7 904 93 from by rw [eU12]; exact Xi_ne (by omega))
            exact Rl_weak (ih96 _ (by omega) U12 hHU12 hFU12 (v2) (z221) (by omega) (by omega) (by omega) (by first | exact a133 | exact (by assumption : AT U12 _ _)) (by first | assumption | exact (RNV_FR (FR_e eU12) rfl (by assumption : RNV T7 _))) (by omega) (by omega) (by omega) (by omega) (by omega) (by omega) (by omega) ((KT_FR (FR_e eU12) rfl (by assumption : KT T7 S _))) (by first | assumption | exact (BDA_FR (FR_e eU12) rfl (by assumption : BDA T7))) rfl) (And.intro rfl (And.intro rfl (And.intro rfl (And.intro rfl (True.intro)))))
set_option maxRecDepth 100000 in
set_option maxHeartbeats 8000000 in
theorem c185_mo_test__2 {S : sS} (hH : HI S) (n : Nat) (c : Nat) (isNow : Int) (hisNow : 0 ≤ isNow ∧ isNow ≤ 1) (hT : TK S n) (hA : AT S n c) (hv : RNV S n) (tc : Xi S 904 93 ≤ 1699) (hx : Xi S 904 8 ≤ n) (hc : 1 ≤ c) (hBDA : BDA S) (d : Nat) : ∀  (T13 : sS) (_ : HI T13) (_ : FR md_mo_test__2 S T13), (AT T13 n c) → (RNV T13 n) → (Xi S 904 8 ≤ Xi T13 904 8 ∧ Xi T13 904 8 ≤ n) → (Xi S 904 69 ≤ Xi T13 904 69) → (Xi T13 904 65 = 0 → Xi S 904 65 = 0) → (Xi T13 904 93 = Xi S 904 93) → (Xi T13 961 (Xi S 904 93).toNat = Xi S 904 8) → (KT T13 S (Xi S 904 93)) → (Xi T13 904 65 = 0 → Xi T13 956 (Xi S 904 93).toNat < Xi T13 904 69) → (Xi T13 904 65 = 0 → THV (Xi T13 904 69) n (Xi T13 954 (Xi S 904 93).toNat) (Xi T13 955 (Xi S 904 93).toNat)) → (BDA T13) → Rl lay0 (d + 5) m_mo_test 185 [(0, .ref 904), (1, iv isNow)] [] T13 (Q_mo_test__2 S n c isNow) := by
  have C351 := c351_mo_test__2 hH n c isNow hisNow hT hA hv tc hx hc hBDA d 
  have hF : FR md_mo_test__2 S S := FR.rf
  have w1 : 0 ≤ Xi S 904 65 ∧ Xi S 904 65 ≤ 1 := hH.c _ _
  have w2 : 0 ≤ Xi S 904 69 ∧ Xi S 904 69 ≤ 2600 := hH.c _ _
  have w3 : 0 ≤ Xi S 904 8 ∧ Xi S 904 8 ≤ 5010 := hH.c _ _
  have w4 : 0 ≤ Xi S 904 93 ∧ Xi S 904 93 ≤ 1700 := hH.c _ _
  have hn5 := hT.1
  have hat := hA
  have h8 : 0 ≤ Xi S 904 8 ∧ Xi S 904 8 ≤ 5010 := hH.c _ _
  have h69 : 0 ≤ Xi S 904 69 ∧ Xi S 904 69 ≤ 2600 := hH.c _ _
  have ha0 : Xi S 904 65 = 0 → Xi S 904 8 ≤ n := fun q => (hA q).1
  have ha3 : Xi S 904 65 = 0 → 2 * Xi S 904 69 ≤ Xi S 904 8 + 1 := fun q => (hA q).2.1
  clear hat
  clear ha0 ha3
  intro T13 hHT13 hFT13 A185 V185 w232 w233 w234 w235 w236 K185 p185 h185 BDA_185
  have w237 : 0 ≤ Xi T13 904 65 ∧ Xi T13 904 65 ≤ 1 := hHT13.c _ _
  have w238 : 0 ≤ Xi T13 904 69 ∧ Xi T13 904 69 ≤ 2600 := hHT13.c _ _
  have w239 : 0 ≤ Xi T13 904 8 ∧ Xi T13 904 8 ≤ 5010 := hHT13.c _ _
  have w240 : 0 ≤ Xi T13 904 93 ∧ Xi T13 904 93 ≤ 1700 := hHT13.c _ _
  refine l_aload_n rfl rfl ?_
  refine l_iload_n rfl rfl ?_
  refine l_callV rfl rfl rfl (t_mo_testedWhat__2 hHT13 n c isNow ⟨by omega, by omega⟩ (by first | assumption | exact (TK_FR hFT13 rfl (by assumption : TK S _))) (by first | assumption | exact (by assumption : AT T13 _ _)) (by first | assumption | exact (by assumption : RNV T13 _)) (by first | assumption | omega) (by first | assumption | exact (by assumption : BDA T13)) _) ?_
  rintro _ T14 ⟨hHT14, w252, rfl, w245, w246, w247, kb187, w248, w249, w187_, nw187_, w250⟩
  have hFT14 : FR md_mo_test__2 S T14 := FR.tr hFT13 w252 rfl
  show Rl _ _ _ _ _ [] _ _
  have w254 : 0 ≤ Xi T14 904 8 ∧ Xi T14 904 8 ≤ 5010 := hHT14.c _ _
  have w255 : 0 ≤ Xi T14 904 65 ∧ Xi T14 904 65 ≤ 1 := hHT14.c _ _
  have w256 : 0 ≤ Xi T14 904 69 ∧ Xi T14 904 69 ≤ 2600 := hHT14.c _ _
  have w257 : Xi T14 904 93 = Xi T13 904 93 := (show Xi T14 904 93 = Xi T13 904 93 from w252.x _ _ rfl)
  have w187 : Xi T14 904 65 = 0 → Xi T14 952 (Xi S 904 93).toNat ≤ 2 ∧ Xi T14 957 (Xi S 904 93).toNat ≤ n ∧ (Xi T14 952 (Xi S 904 93).toNat = 0 → Xi T13 907 (Xi T14 957 (Xi S 904 93).toNat).toNat ≠ 4 → Xi T13 907 (Xi T14 957 (Xi S 904 93).toNat).toNat ≠ 5 → 0 ≤ Xi T14 960 (Xi S 904 93).toNat ∧ Xi T14 960 (Xi S 904 93).toNat < Xi T14 904 69) := by rw [show (Xi S 904 93).toNat = (Xi T13 904 93).toNat by omega]; exact w187_
  clear w187_
  have nw187 : Xi T14 904 65 = 0 → isNow = 1 → Xi T14 952 (Xi S 904 93).toNat = 0 := by rw [show (Xi S 904 93).toNat = (Xi T13 904 93).toNat by omega]; exact nw187_
  clear nw187_
  have E187 : Xi T14 904 65 = 0 → TVx T14 n (Xi S 904 93).toNat := fun q => tvx_2 (w187 q).1 (thv_c (h185 (kb187 q)) (by omega) ((by assumption : FR md_mo_testedWhat T13 T14).cx 954 rfl _).1 ((by assumption : FR md_mo_testedWhat T13 T14).cx 955 rfl _).1) (by have t := p185 (kb187 q); rw [((by assumption : FR md_mo_testedWhat T13 T14).cx 956 rfl _).1]; omega) (w187 q).2.1 (fun a b e => (w187 q).2.2 a (by rw [(hFT13.cx 907 rfl _).1, ← (hFT14.cx 907 rfl _).1]; exact b) (by rw [(hFT13.cx 907 rfl _).1, ← (hFT14.cx 907 rfl _).1]; exact e))
  clear p185 h185 w187
  have w253 : Xi S 904 8 ≤ Xi T14 904 8 ∧ Xi T14 904 8 ≤ n ∧ Xi S 904 69 ≤ Xi T14 904 69 ∧ (Xi T14 904 65 = 0 → Xi S 904 65 = 0) := by omega
  clear w246 kb187 w248
  refine l_goto rfl rfl ?_
  have w259 : Xi T14 961 (Xi S 904 93).toNat = Xi T13 961 (Xi S 904 93).toNat := (show Xi T14 961 (Xi S 904 93).toNat = Xi T13 961 (Xi S 904 93).toNat from (w252.cx 961 rfl _).1)
  have w260 : Xi T14 962 (Xi S 904 93).toNat = Xi T13 962 (Xi S 904 93).toNat := (show Xi T14 962 (Xi S 904 93).toNat = Xi T13 962 (Xi S 904 93).toNat from (w252.cx 962 rfl _).1)
  exact Rl_weak (C351 T14 hHT14 hFT14  (by first | assumption | exact AT_bad (by omega) | exact (by assumption : AT T14 _ _)) (by first | assumption | exact (by assumption : RNV T14 _)) (by omega) (by omega) (by omega) (by omega) (by omega) (by omega) ((KT.tr (by assumption : KT T13 S _) (by assumption : KT T14 T13 _) (by omega))) (by first | exact E187 | exact E274 | exact E350 | exact (fun _ q => tvx_5 (by omega)) A96 | exact fun q => absurd q (by omega)) (by omega) (by first | assumption | exact (by assumption : BDA T14))) (And.intro rfl (And.intro rfl (True.intro)))
set_option maxRecDepth 100000 in
set_option maxHeartbeats 8000000 in
theorem c312_mo_test__2 {S : sS} (hH : HI S) (n : Nat) (c : Nat) (isNow : Int) (hisNow : 0 ≤ isNow ∧ isNow ≤ 1) (hT : TK S n) (hA : AT S n c) (hv : RNV S n) (tc : Xi S 904 93 ≤ 1699) (hx : Xi S 904 8 ≤ n) (hc : 1 ≤ c) (hBDA : BDA S) (d : Nat) : ∀  (T15 : sS) (_ : HI T15) (_ : FR md_mo_test__2 S T15), (AT T15 n c) → (RNV T15 n) → (Xi S 904 8 ≤ Xi T15 904 8 ∧ Xi T15 904 8 ≤ n) → (Xi S 904 69 ≤ Xi T15 904 69) → (Xi T15 904 65 = 0 → Xi S 904 65 = 0) → (Xi T15 904 93 = Xi S 904 93) → (Xi T15 961 (Xi S 904 93).toNat = Xi S 904 8) → (KT T15 S (Xi S 904 93)) → (Xi T15 904 65 = 0 → THV (Xi T15 904 69) n (Xi T15 954 (Xi S 904 93).toNat) (Xi T15 955 (Xi S 904 93).toNat)) → (Xi T15 952 (Xi S 904 93).toNat = 4) → (isNow = 0) → (BDA T15) → Rl lay0 (d + 5) m_mo_test 312 [(0, .ref 904), (1, iv isNow)] [] T15 (Q_mo_test__2 S n c isNow) := by
  have C351 := c351_mo_test__2 hH n c isNow hisNow hT hA hv tc hx hc hBDA d 
  have hF : FR md_mo_test__2 S S := FR.rf
  have w1 : 0 ≤ Xi S 904 65 ∧ Xi S 904 65 ≤ 1 := hH.c _ _
  have w2 : 0 ≤ Xi S 904 69 ∧ Xi S 904 69 ≤ 2600 := hH.c _ _
  have w3 : 0 ≤ Xi S 904 8 ∧ Xi S 904 8 ≤ 5010 := hH.c _ _
  have w4 : 0 ≤ Xi S 904 93 ∧ Xi S 904 93 ≤ 1700 := hH.c _ _
  have hn5 := hT.1
  have hat := hA
  have h8 : 0 ≤ Xi S 904 8 ∧ Xi S 904 8 ≤ 5010 := hH.c _ _
  have h69 : 0 ≤ Xi S 904 69 ∧ Xi S 904 69 ≤ 2600 := hH.c _ _
  have ha0 : Xi S 904 65 = 0 → Xi S 904 8 ≤ n := fun q => (hA q).1
  have ha3 : Xi S 904 65 = 0 → 2 * Xi S 904 69 ≤ Xi S 904 8 + 1 := fun q => (hA q).2.1
  clear hat
  clear ha0 ha3
  intro T15 hHT15 hFT15 A312 V312 w266 w267 w268 w269 w270 K312 h312 f312 w271 BDA_312
  have w272 : 0 ≤ Xi T15 904 65 ∧ Xi T15 904 65 ≤ 1 := hHT15.c _ _
  have w273 : 0 ≤ Xi T15 904 69 ∧ Xi T15 904 69 ≤ 2600 := hHT15.c _ _
  have w274 : 0 ≤ Xi T15 904 8 ∧ Xi T15 904 8 ≤ 5010 := hHT15.c _ _
  have w275 : 0 ≤ Xi T15 904 93 ∧ Xi T15 904 93 ≤ 1700 := hHT15.c _ _
  refine l_aload_n rfl rfl ?_
  refine l_callV rfl rfl rfl (t_mo_thing__2 hHT15 n c (by first | assumption | exact (TK_FR hFT15 rfl (by assumption : TK S _))) (by first | assumption | exact (by assumption : AT T15 _ _)) (by first | assumption | exact (by assumption : RNV T15 _)) (by first | assumption | exact (by assumption : BDA T15)) _) ?_
  rintro _ T16 ⟨hHT16, w286, rfl, w280, w281, w282, kb313, w283, o313, w284⟩
  have hFT16 : FR md_mo_test__2 S T16 := FR.tr hFT15 w286 rfl
  show Rl _ _ _ _ _ [] _ _
  have w288 : 0 ≤ Xi T16 904 8 ∧ Xi T16 904 8 ≤ 5010 := hHT16.c _ _
  have w289 : 0 ≤ Xi T16 904 65 ∧ Xi T16 904 65 ≤ 1 := hHT16.c _ _
  have w290 : 0 ≤ Xi T16 904 69 ∧ Xi T16 904 69 ≤ 2600 := hHT16.c _ _
  have w291 : Xi T16 904 93 = Xi T15 904 93 := (show Xi T16 904 93 = Xi T15 904 93 from w286.x _ _ rfl)
  have h313 : Xi T16 904 65 = 0 → THV (Xi T16 904 69) n (Xi T16 954 (Xi S 904 93).toNat) (Xi T16 955 (Xi S 904 93).toNat) := fun q => thv_c (h312 (kb313 q)) (by omega) ((by assumption : FR md_mo_thing T15 T16).cx 954 rfl _).1 ((by assumption : FR md_mo_thing T15 T16).cx 955 rfl _).1
  have f313 : Xi T16 952 (Xi S 904 93).toNat = 4 := ((by assumption : FR md_mo_thing T15 T16).cx 952 rfl _).1.trans f312
  have y313 : (0 ≤ Xi T16 904 100 ∧ Xi T16 904 100 ≤ 2) ∧ (0 ≤ Xi T16 904 101 ∧ Xi T16 904 101 ≤ 5010) ∧ 0 ≤ Xi T16 904 99 := ⟨hHT16.c 904 100, hHT16.c 904 101, (hHT16.c 904 99).1⟩
  clear h312 f312
  have w287 : Xi S 904 8 ≤ Xi T16 904 8 ∧ Xi T16 904 8 ≤ n ∧ Xi S 904 69 ≤ Xi T16 904 69 ∧ (Xi T16 904 65 = 0 → Xi S 904 65 = 0) := by omega
  clear w281 kb313 w283
  refine l_aload_n rfl rfl ?_
  refine l_gfr rfl rfl rfl rfl rfl (hHT16.r 904 89 959 rfl) ?_
  refine l_aload_n rfl rfl ?_
  refine l_gfi rfl rfl rfl rfl rfl ?_
  have w293 : (Xi T16 904 93) = (Xi T15 904 93) := (show Xi T16 904 93 = Xi T15 904 93 from w286.x _ _ rfl)
  rw [w293]
  refine l_aload_n rfl rfl ?_
  refine l_gfi rfl rfl rfl rfl rfl ?_
  have w294 : 0 ≤ (Xi T16 904 100) ∧ (Xi T16 904 100) ≤ 2 := hHT16.c _ _
  refine l_sipush rfl rfl ?_
  refine l_imul rfl ?_
  refine l_aload_n rfl rfl ?_
  refine l_gfi rfl rfl rfl rfl rfl ?_
  have w295 : 0 ≤ (Xi T16 904 101) ∧ (Xi T16 904 101) ≤ 5010 := hHT16.c _ _
  refine l_iadd rfl ?_
  refine l_iastore (n := 1700) rfl rfl (by omega) (by omega) (by unfold rg; omega) ?_
  obtain ⟨U17, eU17⟩ : ∃ T : sS, T = uI T16 959 (((Xi T15 904 93)).toNat) (Int32.ofInt (((Xi T16 904 100) * 10000) + (Xi T16 904 101))) := ⟨_, rfl⟩
  rw [← eU17]
  have hHU17 : HI U17 := by rw [eU17]; exact HI_w hHT16 (show 0 ≤ (((Xi T16 904 100) * 10000) + (Xi T16 904 101)) by omega) (show (((Xi T16 904 100) * 10000) + (Xi T16 904 101)) ≤ 25010 by omega)
  have hFU17 : FR md_mo_test__2 S U17 := by rw [eU17]; exact FR.wI hFT16 (mdf_i (r := (959, 960, 0, 100000)) (List.mem_of_getElem? (i := 18) rfl) (inR_i (by omega) (by omega) (by omega) (by omega)))
  have w296 : Xi U17 959 (((Xi T15 904 93)).toNat) = (((Xi T16 904 100) * 10000) + (Xi T16 904 101)) := by rw [eU17]; exact Xi_same (by unfold rg; omega)
  have h337 : Xi U17 904 65 = 0 → THV (Xi U17 904 69) n (Xi U17 954 (Xi S 904 93).toNat) (Xi U17 955 (Xi S 904 93).toNat) := fun q => (by rw [eU17, Xi_ne (by omega)] at q; exact thv_c (h313 q) (by rw [eU17, Xi_ne (by omega)]; exact Int.le_refl _) (by rw [eU17, Xi_ne (by omega)]) (by rw [eU17, Xi_ne (by omega)]))
  have f337 : Xi U17 952 (Xi S 904 93).toNat = 4 := by rw [eU17, Xi_ne (by omega)]; exact f313
  have o337 : Xi U17 959 (Xi S 904 93).toNat = Xi T16 904 100 * 10000 + Xi T16 904 101 := by rw [show (Xi S 904 93).toNat = (Xi T15 904 93).toNat by omega]; assumption
  have x337 : Xi U17 904 65 = Xi T16 904 65 ∧ Xi U17 904 69 = Xi T16 904 69 := ⟨by rw [eU17, Xi_ne (by omega)], by rw [eU17, Xi_ne (by omega)]⟩
  clear h313 f313
  refine l_aload_n rfl rfl ?_
  refine l_gfr rfl rfl rfl rfl rfl (hHU17.r 904 90 960 rfl) ?_
  refine l_aload_n rfl rfl ?_
  refine l_gfi rfl rfl rfl rfl rfl ?_
  have w297 : (Xi U17 904 93) = (Xi T15 904 93) := (show Xi U17 904 93 = Xi T16 904 93 from by rw [eU17]; exact Xi_ne (by omega)).trans ((show Xi T16 904 93 = Xi T15 904 93 from w286.x _ _ rfl))
  rw [w297]
  refine l_aload_n rfl rfl ?_
  refine l_gfi rfl rfl rfl rfl rfl ?_
  have w298 : 0 ≤ (Xi U17 904 99) ∧ (Xi U17 904 99) ≤ 2600 := hHU17.c _ _
  have e347 : (Xi U17 904 99) = Xi T16 904 99 := by rw [eU17]; exact Xi_ne (by omega)
  refine l_iastore (n := 1700) rfl rfl (by omega) (by omega) (by unfold rg; omega) ?_
  obtain ⟨U18, eU18⟩ : ∃ T : sS, T = uI U17 960 (((Xi T15 904 93)).toNat) (Int32.ofInt (Xi U17 904 99)) := ⟨_, rfl⟩
  rw [← eU18]
  have hHU18 : HI U18 := by rw [eU18]; exact HI_w hHU17 (show -1 ≤ (Xi U17 904 99) by omega) (show (Xi U17 904 99) ≤ 2600 by omega)
  have hFU18 : FR md_mo_test__2 S U18 := by rw [eU18]; exact FR.wI hFU17 (mdf_i (r := (960, 961, 0, 100000)) (List.mem_of_getElem? (i := 19) rfl) (inR_i (by omega) (by omega) (by omega) (by omega)))
  have w299 : Xi U18 960 (((Xi T15 904 93)).toNat) = (Xi U17 904 99) := by rw [eU18]; exact Xi_same (by unfold rg; omega)
  have h350 : Xi U18 904 65 = 0 → THV (Xi U18 904 69) n (Xi U18 954 (Xi S 904 93).toNat) (Xi U18 955 (Xi S 904 93).toNat) := fun q => (by rw [eU18, Xi_ne (by omega)] at q; exact thv_c (h337 q) (by rw [eU18, Xi_ne (by omega)]; exact Int.le_refl _) (by rw [eU18, Xi_ne (by omega)]) (by rw [eU18, Xi_ne (by omega)]))
  have f350 : Xi U18 952 (Xi S 904 93).toNat = 4 := by rw [eU18, Xi_ne (by omega)]; exact f337
  have x350 : Xi U18 904 65 = Xi U17 904 65 ∧ Xi U18 904 69 = Xi U17 904 69 ∧ Xi U18 959 (Xi S 904 93).toNat = Xi U17 959 (Xi S 904 93).toNat := ⟨by rw [eU18, Xi_ne (by omega)], by rw [eU18, Xi_ne (by omega)], by rw [eU18, Xi_ne (by omega)]⟩
  have o350 : Xi U18 960 (Xi S 904 93).toNat = Xi T16 904 99 := by rw [show (Xi S 904 93).toNat = (Xi T15 904 93).toNat by omega]; omega
  have E350 : Xi U18 904 65 = 0 → TVx U18 n (Xi S 904 93).toNat := fun q => tvx_4 f350 (h350 q) (thv_i (s := Xi T16 904 100) (t := Xi T16 904 101) (r := Xi T16 904 99) (by omega) (by omega) y313.1 y313.2.1 (by have t := o313 (by omega); omega) y313.2.2 (fun w => by have t := (o313 (by omega)).2 w; omega))
  clear h337 h350 f337 o313
  have w300 : Xi U18 952 (Xi S 904 93).toNat = Xi T15 952 (Xi S 904 93).toNat := (show Xi U18 952 (Xi S 904 93).toNat = Xi U17 952 (Xi S 904 93).toNat from by rw [eU18]; exact Xi_ne (by omega)).trans ( (show Xi U17 952 (Xi S 904 93).toNat = Xi T16 952 (Xi S 904 93).toNat from by rw [eU17]; exact Xi_ne (by omega)).trans ((show Xi T16 952 (Xi S 904 93).toNat = Xi T15 952 (Xi S 904 93).toNat from (w286.cx 952 rfl _).1)))
  have w301 : Xi U18 961 (Xi S 904 93).toNat = Xi T15 961 (Xi S 904 93).toNat := (show Xi U18 961 (Xi S 904 93).toNat = Xi U17 961 (Xi S 904 93).toNat from by rw [eU18]; exact Xi_ne (by omega)).trans ( (show Xi U17 961 (Xi S 904 93).toNat = Xi T16 961 (Xi S 904 93).toNat from by rw [eU17]; exact Xi_ne (by omega)).trans ((show Xi T16 961 (Xi S 904 93).toNat = Xi T15 961 (Xi S 904 93).toNat from (w286.cx 961 rfl _).1)))
  have w302 : Xi U18 962 (Xi S 904 93).toNat = Xi T15 962 (Xi S 904 93).toNat := (show Xi U18 962 (Xi S 904 93).toNat = Xi U17 962 (Xi S 904 93).toNat from by rw [eU18]; exact Xi_ne (by omega)).trans ( (show Xi U17 962 (Xi S 904 93).toNat = Xi T16 962 (Xi S 904 93).toNat from by rw [eU17]; exact Xi_ne (by omega)).trans ((show Xi T16 962 (Xi S 904 93).toNat = Xi T15 962 (Xi S 904 93).toNat from (w286.cx 962 rfl _).1)))
  have w303 : Xi U18 904 65 = Xi T16 904 65 := (show Xi U18 904 65 = Xi U17 904 65 from by rw [eU18]; exact Xi_ne (by omega)).trans ((show Xi U17 904 65 = Xi T16 904 65 from by rw [eU17]; exact Xi_ne (by omega)))
  have w305 : Xi U18 904 69 = Xi T16 904 69 := (show Xi U18 904 69 = Xi U17 904 69 from by rw [eU18]; exact Xi_ne (by omega)).trans ((show Xi U17 904 69 = Xi T16 904 69 from by rw [eU17]; exact Xi_ne (by omega)))
  have w307 : Xi U18 904 8 = Xi T16 904 8 := (show Xi U18 904 8 = Xi U17 904 8 from by rw [eU18]; exact Xi_ne (by omega)).trans ((show Xi U17 904 8 = Xi T16 904 8 from by rw [eU17]; exact Xi_ne (by omega)))
  have w309 : Xi U18 904 93 = Xi T15 904 93 := (show Xi U18 904 93 = Xi U17 904 93 from by rw [eU18]; exact Xi_ne (by omega)).trans ( (show Xi U17 904 93 = Xi T16 904 93 from by rw [eU17]; exact Xi_ne (by omega)).trans ((show Xi T16 904 93 = Xi T15 904 93 from w286.x _ _ rfl)))
  exact Rl_weak (C351 U18 hHU18 hFU18  (by first | assumption | exact AT_bad (by omega) | exact (AT_FR (FR_e eU18) rfl (AT_FR (FR_e eU17) rfl (by assumption : AT T16 _ _)))) (by first | assumption | exact (RNV_FR (FR_e eU18) rfl (RNV_FR (FR_e eU17) rfl (by assumption : RNV T16 _)))) (by omega) (by omega) (by omega) (by omega) (by omega) (by omega) ((KT.w (KT.w (KT_FR w286 rfl (by assumption : KT T15 S _)) eU17 (by omega)) eU18 (by omega))) (by first | exact E187 | exact E274 | exact E350 | exact (fun _ q => tvx_5 (by omega)) A96 | exact fun q => absurd q (by omega)) (by omega) (by first | assumption | exact (BDA_FR (FR_e eU18) rfl (BDA_FR (FR_e eU17) rfl (by assumption : BDA T16))))) (And.intro rfl (And.intro rfl (True.intro)))
set_option maxRecDepth 100000 in
set_option maxHeartbeats 8000000 in
theorem c244_mo_test__2 {S : sS} (hH : HI S) (n : Nat) (c : Nat) (isNow : Int) (hisNow : 0 ≤ isNow ∧ isNow ≤ 1) (hT : TK S n) (hA : AT S n c) (hv : RNV S n) (tc : Xi S 904 93 ≤ 1699) (hx : Xi S 904 8 ≤ n) (hc : 1 ≤ c) (hBDA : BDA S) (d : Nat) : ∀  (T19 : sS) (_ : HI T19) (_ : FR md_mo_test__2 S T19), (AT T19 n c) → (RNV T19 n) → (Xi S 904 8 ≤ Xi T19 904 8 ∧ Xi T19 904 8 ≤ n) → (Xi S 904 69 ≤ Xi T19 904 69) → (Xi T19 904 65 = 0 → Xi S 904 65 = 0) → (Xi T19 904 93 = Xi S 904 93) → (Xi T19 961 (Xi S 904 93).toNat = Xi S 904 8) → (KT T19 S (Xi S 904 93)) → (Xi T19 904 65 = 0 → THV (Xi T19 904 69) n (Xi T19 954 (Xi S 904 93).toNat) (Xi T19 955 (Xi S 904 93).toNat)) → (BDA T19) → Rl lay0 (d + 5) m_mo_test 244 [(0, .ref 904), (1, iv isNow)] [] T19 (Q_mo_test__2 S n c isNow) := by
  have C351 := c351_mo_test__2 hH n c isNow hisNow hT hA hv tc hx hc hBDA d 
  have C312 := c312_mo_test__2 hH n c isNow hisNow hT hA hv tc hx hc hBDA d 
  have hF : FR md_mo_test__2 S S := FR.rf
  have w1 : 0 ≤ Xi S 904 65 ∧ Xi S 904 65 ≤ 1 := hH.c _ _
  have w2 : 0 ≤ Xi S 904 69 ∧ Xi S 904 69 ≤ 2600 := hH.c _ _
  have w3 : 0 ≤ Xi S 904 8 ∧ Xi S 904 8 ≤ 5010 := hH.c _ _
  have w4 : 0 ≤ Xi S 904 93 ∧ Xi S 904 93 ≤ 1700 := hH.c _ _
  have hn5 := hT.1
  have hat := hA
  have h8 : 0 ≤ Xi S 904 8 ∧ Xi S 904 8 ≤ 5010 := hH.c _ _
  have h69 : 0 ≤ Xi S 904 69 ∧ Xi S 904 69 ≤ 2600 := hH.c _ _
  have ha0 : Xi S 904 65 = 0 → Xi S 904 8 ≤ n := fun q => (hA q).1
  have ha3 : Xi S 904 65 = 0 → 2 * Xi S 904 69 ≤ Xi S 904 8 + 1 := fun q => (hA q).2.1
  clear hat
  clear ha0 ha3
  intro T19 hHT19 hFT19 A244 V244 w311 w312 w313 w314 w315 K244 h244 BDA_244
  have w316 : 0 ≤ Xi T19 904 65 ∧ Xi T19 904 65 ≤ 1 := hHT19.c _ _
  have w317 : 0 ≤ Xi T19 904 69 ∧ Xi T19 904 69 ≤ 2600 := hHT19.c _ _
  have w318 : 0 ≤ Xi T19 904 8 ∧ Xi T19 904 8 ≤ 5010 := hHT19.c _ _
  have w319 : 0 ≤ Xi T19 904 93 ∧ Xi T19 904 93 ≤ 1700 := hHT19.c _ _
  refine l_aload_n rfl rfl ?_
  refine l_iconst rfl ?_
  refine l_callV rfl rfl rfl (t_mo_isNext hHT19 n c 3 ⟨by omega, by omega⟩ (by first | assumption | exact (TK_FR hFT19 rfl (by assumption : TK S _))) (by first | assumption | exact (by assumption : AT T19 _ _)) _) ?_
  rintro _ _ ⟨rfl, z324, rfl, w324, p246, n246⟩
  show Rl _ _ _ _ _ [iv z324] _ _
  clear p246 n246
  refine l_if_eq rfl rfl (by unfold rg; omega) (fun w325 => ?_) (fun w326 => ?_)
  · refine l_iload_n rfl rfl ?_
    refine l_if_eq rfl rfl (by unfold rg; omega) (fun w327 => ?_) (fun w328 => ?_)
    · refine l_aload_n rfl rfl ?_
      refine l_gfr rfl rfl rfl rfl rfl (hHT19.r 904 82 952 rfl) ?_
      refine l_aload_n rfl rfl ?_
      refine l_gfi rfl rfl rfl rfl rfl ?_
      refine l_iconst rfl ?_
      refine l_iastore (n := 1700) rfl rfl (by omega) (by omega) (by unfold rg; omega) ?_
      obtain ⟨U20, eU20⟩ : ∃ T : sS, T = uI T19 952 (((Xi T19 904 93)).toNat) (Int32.ofInt 4) := ⟨_, rfl⟩
      rw [← eU20]
      have hHU20 : HI U20 := by rw [eU20]; exact HI_w hHT19 (show 0 ≤ 4 by omega) (show 4 ≤ 5 by omega)
      have hFU20 : FR md_mo_test__2 S U20 := by rw [eU20]; exact FR.wI hFT19 (mdf_i (r := (952, 953, 0, 100000)) (List.mem_of_getElem? (i := 11) rfl) (inR_i (by omega) (by omega) (by omega) (by omega)))
      have w329 : Xi U20 952 (((Xi T19 904 93)).toNat) = 4 := by rw [eU20]; exact Xi_same (by unfold rg; omega)
      have h298 : Xi U20 904 65 = 0 → THV (Xi U20 904 69) n (Xi U20 954 (Xi S 904 93).toNat) (Xi U20 955 (Xi S 904 93).toNat) := fun q => (by rw [eU20, Xi_ne (by omega)] at q; exact thv_c (h244 q) (by rw [eU20, Xi_ne (by omega)]; exact Int.le_refl _) (by rw [eU20, Xi_ne (by omega)]) (by rw [eU20, Xi_ne (by omega)]))
      have f298 : Xi U20 952 (Xi S 904 93).toNat = 4 := by rw [show (Xi S 904 93).toNat = (Xi T19 904 93).toNat by omega]; assumption
      clear h244
      refine l_aload_n rfl rfl ?_
      refine l_gfr rfl rfl rfl rfl rfl (hHU20.r 904 88 958 rfl) ?_
      refine l_aload_n rfl rfl ?_
      refine l_gfi rfl rfl rfl rfl rfl ?_
      have w330 : (Xi U20 904 93) = (Xi T19 904 93) := (show Xi U20 904 93 = Xi T19 904 93 from by rw [eU20]; exact Xi_ne (by omega))
      rw [w330]
      refine l_aload_n rfl rfl ?_
      have w331 : Xi U20 904 65 = Xi T19 904 65 := (show Xi U20 904 65 = Xi T19 904 65 from by rw [eU20]; exact Xi_ne (by omega))
      have w333 : Xi U20 904 69 = Xi T19 904 69 := (show Xi U20 904 69 = Xi T19 904 69 from by rw [eU20]; exact Xi_ne (by omega))
      have w335 : Xi U20 904 8 = Xi T19 904 8 := (show Xi U20 904 8 = Xi T19 904 8 from by rw [eU20]; exact Xi_ne (by omega))
      have w337 : Xi U20 904 93 = Xi T19 904 93 := (show Xi U20 904 93 = Xi T19 904 93 from by rw [eU20]; exact Xi_ne (by omega))
      refine l_callV rfl rfl rfl (t_mo_placing__3 hHU20 n c (by first | assumption | exact (TK_FR hFU20 rfl (by assumption : TK S _))) (by first | assumption | exact (AT_FR (FR_e eU20) rfl (by assumption : AT T19 _ _))) (by first | assumption | exact (BDA_FR (FR_e eU20) rfl (by assumption : BDA T19))) _) ?_
      rintro _ T21 ⟨hHT21, w343, z342, rfl, w342, w339, w340, kb308, w341⟩
      have hFT21 : FR md_mo_test__2 S T21 := FR.tr hFU20 w343 rfl
      show Rl _ _ _ _ _ [iv z342, iv (Xi T19 904 93), .ref 958] _ _
      have w345 : 0 ≤ Xi T21 904 8 ∧ Xi T21 904 8 ≤ 5010 := hHT21.c _ _
      have w346 : 0 ≤ Xi T21 904 65 ∧ Xi T21 904 65 ≤ 1 := hHT21.c _ _
      have w347 : Xi T21 904 69 = Xi T19 904 69 := (show Xi T21 904 69 = Xi U20 904 69 from w343.x _ _ rfl).trans ((show Xi U20 904 69 = Xi T19 904 69 from by rw [eU20]; exact Xi_ne (by omega)))
      have w349 : Xi T21 904 93 = Xi T19 904 93 := (show Xi T21 904 93 = Xi U20 904 93 from w343.x _ _ rfl).trans ((show Xi U20 904 93 = Xi T19 904 93 from by rw [eU20]; exact Xi_ne (by omega)))
      have h308 : Xi T21 904 65 = 0 → THV (Xi T21 904 69) n (Xi T21 954 (Xi S 904 93).toNat) (Xi T21 955 (Xi S 904 93).toNat) := fun q => thv_c (h298 (kb308 q)) (by omega) ((by assumption : FR md_mo_placing U20 T21).cx 954 rfl _).1 ((by assumption : FR md_mo_placing U20 T21).cx 955 rfl _).1
      have f308 : Xi T21 952 (Xi S 904 93).toNat = 4 := ((by assumption : FR md_mo_placing U20 T21).cx 952 rfl _).1.trans f298
      clear h298 f298
      have w344 : Xi S 904 8 ≤ Xi T21 904 8 ∧ Xi T21 904 8 ≤ n ∧ Xi S 904 69 ≤ Xi T21 904 69 ∧ (Xi T21 904 65 = 0 → Xi S 904 65 = 0) := by omega
      clear w340 kb308
      refine l_iastore (n := 1700) rfl rfl (by omega) (by omega) (by unfold rg; omega) ?_
      obtain ⟨U22, eU22⟩ : ∃ T : sS, T = uI T21 958 (((Xi T19 904 93)).toNat) (Int32.ofInt z342) := ⟨_, rfl⟩
      rw [← eU22]
      have hHU22 : HI U22 := by rw [eU22]; exact HI_w hHT21 (show 0 ≤ z342 by omega) (show z342 ≤ 5 by omega)
      have hFU22 : FR md_mo_test__2 S U22 := by rw [eU22]; exact FR.wI hFT21 (mdf_i (r := (958, 959, 0, 100000)) (List.mem_of_getElem? (i := 17) rfl) (inR_i (by omega) (by omega) (by omega) (by omega)))
      have w351 : Xi U22 958 (((Xi T19 904 93)).toNat) = z342 := by rw [eU22]; exact Xi_same (by unfold rg; omega)
      have h311 : Xi U22 904 65 = 0 → THV (Xi U22 904 69) n (Xi U22 954 (Xi S 904 93).toNat) (Xi U22 955 (Xi S 904 93).toNat) := fun q => (by rw [eU22, Xi_ne (by omega)] at q; exact thv_c (h308 q) (by rw [eU22, Xi_ne (by omega)]; exact Int.le_refl _) (by rw [eU22, Xi_ne (by omega)]) (by rw [eU22, Xi_ne (by omega)]))
      have f311 : Xi U22 952 (Xi S 904 93).toNat = 4 := by rw [eU22, Xi_ne (by omega)]; exact f308
      clear h308 f308
      have w352 : Xi U22 952 (Xi S 904 93).toNat = Xi U20 952 (Xi S 904 93).toNat := (show Xi U22 952 (Xi S 904 93).toNat = Xi T21 952 (Xi S 904 93).toNat from by rw [eU22]; exact Xi_ne (by omega)).trans ((show Xi T21 952 (Xi S 904 93).toNat = Xi U20 952 (Xi S 904 93).toNat from (w343.cx 952 rfl _).1))
      have w353 : Xi U22 961 (Xi S 904 93).toNat = Xi T19 961 (Xi S 904 93).toNat := (show Xi U22 961 (Xi S 904 93).toNat = Xi T21 961 (Xi S 904 93).toNat from by rw [eU22]; exact Xi_ne (by omega)).trans ( (show Xi T21 961 (Xi S 904 93).toNat = Xi U20 961 (Xi S 904 93).toNat from (w343.cx 961 rfl _).1).trans ((show Xi U20 961 (Xi S 904 93).toNat = Xi T19 961 (Xi S 904 93).toNat from by rw [eU20]; exact Xi_ne (by omega))))
      have w354 : Xi U22 962 (Xi S 904 93).toNat = Xi T19 962 (Xi S 904 93).toNat := (show Xi U22 962 (Xi S 904 93).toNat = Xi T21 962 (Xi S 904 93).toNat from by rw [eU22]; exact Xi_ne (by omega)).trans ( (show Xi T21 962 (Xi S 904 93).toNat = Xi U20 962 (Xi S 904 93).toNat from (w343.cx 962 rfl _).1).trans ((show Xi U20 962 (Xi S 904 93).toNat = Xi T19 962 (Xi S 904 93).toNat from by rw [eU20]; exact Xi_ne (by omega))))
      have w355 : Xi U22 904 65 = Xi T21 904 65 := (show Xi U22 904 65 = Xi T21 904 65 from by rw [eU22]; exact Xi_ne (by omega))
      have w357 : Xi U22 904 69 = Xi T19 904 69 := (show Xi U22 904 69 = Xi T21 904 69 from by rw [eU22]; exact Xi_ne (by omega)).trans ( (show Xi T21 904 69 = Xi U20 904 69 from w343.x _ _ rfl).trans ((show Xi U20 904 69 = Xi T19 904 69 from by rw [eU20]; exact Xi_ne (by omega))))
      have w359 : Xi U22 904 8 = Xi T21 904 8 := (show Xi U22 904 8 = Xi T21 904 8 from by rw [eU22]; exact Xi_ne (by omega))
      have w361 : Xi U22 904 93 = Xi T19 904 93 := (show Xi U22 904 93 = Xi T21 904 93 from by rw [eU22]; exact Xi_ne (by omega)).trans ( (show Xi T21 904 93 = Xi U20 904 93 from w343.x _ _ rfl).trans ((show Xi U20 904 93 = Xi T19 904 93 from by rw [eU20]; exact Xi_ne (by omega))))
      exact Rl_weak (C312 U22 hHU22 hFU22  (by first | assumption | exact (AT_FR (FR_e eU22) rfl (by assumption : AT T21 _ _))) (by first | assumption | exact (RNV_FR (FR_e eU22) rfl (RNV_FR w343 rfl (RNV_FR (FR_e eU20) rfl (by assumption : RNV T19 _))))) (by omega) (by omega) (by omega) (by omega) (by omega) ((KT.w (KT_FR w343 rfl (KT.w (by assumption : KT T19 S _) eU20 (by omega))) eU22 (by omega))) (h311) (f311) (by omega) (by first | assumption | exact (BDA_FR (FR_e eU22) rfl (by assumption : BDA T21)))) (And.intro rfl (And.intro rfl (True.intro)))
    · refine l_aload_n rfl rfl ?_
      refine l_callV rfl rfl rfl (t_mo_odd__2 hHT19 (by first | assumption | exact (by assumption : BDA T19)) (by first | omega | exact fun q => (by have t := ((by assumption : AT T19 _ _) q).1; have u := hT.1; omega)) _) ?_
      rintro _ T23 ⟨hHT23, w371, rfl, w367, w368, w369⟩
      have hFT23 : FR md_mo_test__2 S T23 := FR.tr hFT19 w371 rfl
      show Rl _ _ _ _ _ [] _ _
      have w373 : Xi T23 904 8 = Xi T19 904 8 := (show Xi T23 904 8 = Xi T19 904 8 from w371.x _ _ rfl)
      have w375 : 0 ≤ Xi T23 904 65 ∧ Xi T23 904 65 ≤ 1 := hHT23.c _ _
      have w376 : Xi T23 904 69 = Xi T19 904 69 := (show Xi T23 904 69 = Xi T19 904 69 from w371.x _ _ rfl)
      have w378 : Xi T23 904 93 = Xi T19 904 93 := (show Xi T23 904 93 = Xi T19 904 93 from w371.x _ _ rfl)
      have w372 : Xi S 904 8 ≤ Xi T23 904 8 ∧ Xi T23 904 8 ≤ n ∧ Xi S 904 69 ≤ Xi T23 904 69 ∧ (Xi T23 904 65 = 0 → Xi S 904 65 = 0) := by omega
      clear w368
      refine l_goto rfl rfl ?_
      have w380 : Xi T23 952 (Xi S 904 93).toNat = Xi T19 952 (Xi S 904 93).toNat := (show Xi T23 952 (Xi S 904 93).toNat = Xi T19 952 (Xi S 904 93).toNat from (w371.cx 952 rfl _).1)
      have w381 : Xi T23 961 (Xi S 904 93).toNat = Xi T19 961 (Xi S 904 93).toNat := (show Xi T23 961 (Xi S 904 93).toNat = Xi T19 961 (Xi S 904 93).toNat from (w371.cx 961 rfl _).1)
      have w382 : Xi T23 962 (Xi S 904 93).toNat = Xi T19 962 (Xi S 904 93).toNat := (show Xi T23 962 (Xi S 904 93).toNat = Xi T19 962 (Xi S 904 93).toNat from (w371.cx 962 rfl _).1)
      exact Rl_weak (C351 T23 hHT23 hFT23  (by first | assumption | exact AT_bad (by omega) | exact (by assumption : AT T23 _ _)) (by first | assumption | exact (RNV_FR w371 rfl (by assumption : RNV T19 _))) (by omega) (by omega) (by omega) (by omega) (by omega) (by omega) ((KT_FR w371 rfl (by assumption : KT T19 S _))) (by first | exact E187 | exact E274 | exact E350 | exact (fun _ q => tvx_5 (by omega)) A96 | exact fun q => absurd q (by omega)) (by omega) (by first | assumption | exact (by assumption : BDA T23))) (And.intro rfl (And.intro rfl (True.intro)))
  · refine l_aload_n rfl rfl ?_
    refine l_gfr rfl rfl rfl rfl rfl (hHT19.r 904 82 952 rfl) ?_
    refine l_aload_n rfl rfl ?_
    refine l_gfi rfl rfl rfl rfl rfl ?_
    refine l_iconst rfl ?_
    refine l_iastore (n := 1700) rfl rfl (by omega) (by omega) (by unfold rg; omega) ?_
    obtain ⟨U24, eU24⟩ : ∃ T : sS, T = uI T19 952 (((Xi T19 904 93)).toNat) (Int32.ofInt 3) := ⟨_, rfl⟩
    rw [← eU24]
    have hHU24 : HI U24 := by rw [eU24]; exact HI_w hHT19 (show 0 ≤ 3 by omega) (show 3 ≤ 5 by omega)
    have hFU24 : FR md_mo_test__2 S U24 := by rw [eU24]; exact FR.wI hFT19 (mdf_i (r := (952, 953, 0, 100000)) (List.mem_of_getElem? (i := 11) rfl) (inR_i (by omega) (by omega) (by omega) (by omega)))
    have w390 : Xi U24 952 (((Xi T19 904 93)).toNat) = 3 := by rw [eU24]; exact Xi_same (by unfold rg; omega)
    have h261 : Xi U24 904 65 = 0 → THV (Xi U24 904 69) n (Xi U24 954 (Xi S 904 93).toNat) (Xi U24 955 (Xi S 904 93).toNat) := fun q => (by rw [eU24, Xi_ne (by omega)] at q; exact thv_c (h244 q) (by rw [eU24, Xi_ne (by omega)]; exact Int.le_refl _) (by rw [eU24, Xi_ne (by omega)]) (by rw [eU24, Xi_ne (by omega)]))
    have f261 : Xi U24 952 (Xi S 904 93).toNat = 3 := by rw [show (Xi S 904 93).toNat = (Xi T19 904 93).toNat by omega]; assumption
    clear h244
    refine l_aload_n rfl rfl ?_
    refine l_gfr rfl rfl rfl rfl rfl (hHU24.r 904 86 956 rfl) ?_
    refine l_aload_n rfl rfl ?_
    refine l_gfi rfl rfl rfl rfl rfl ?_
    have w391 : (Xi U24 904 93) = (Xi T19 904 93) := (show Xi U24 904 93 = Xi T19 904 93 from by rw [eU24]; exact Xi_ne (by omega))
    rw [w391]
    refine l_aload_n rfl rfl ?_
    have w392 : Xi U24 904 65 = Xi T19 904 65 := (show Xi U24 904 65 = Xi T19 904 65 from by rw [eU24]; exact Xi_ne (by omega))
    have w394 : Xi U24 904 69 = Xi T19 904 69 := (show Xi U24 904 69 = Xi T19 904 69 from by rw [eU24]; exact Xi_ne (by omega))
    have w396 : Xi U24 904 8 = Xi T19 904 8 := (show Xi U24 904 8 = Xi T19 904 8 from by rw [eU24]; exact Xi_ne (by omega))
    have w398 : Xi U24 904 93 = Xi T19 904 93 := (show Xi U24 904 93 = Xi T19 904 93 from by rw [eU24]; exact Xi_ne (by omega))
    refine l_callV rfl rfl rfl (t_mo_run__2 hHU24 n c (by first | assumption | exact (TK_FR hFU24 rfl (by assumption : TK S _))) (by first | assumption | exact (AT_FR (FR_e eU24) rfl (by assumption : AT T19 _ _))) (by first | assumption | exact (RNV_FR (FR_e eU24) rfl (by assumption : RNV T19 _))) (by first | assumption | exact (BDA_FR (FR_e eU24) rfl (by assumption : BDA T19))) _) ?_
    rintro _ T25 ⟨hHT25, w406, z405, rfl, w405, w400, w401, w402, r271, w403, w404⟩
    have hFT25 : FR md_mo_test__2 S T25 := FR.tr hFU24 w406 rfl
    show Rl _ _ _ _ _ [iv z405, iv (Xi T19 904 93), .ref 956] _ _
    have w408 : 0 ≤ Xi T25 904 8 ∧ Xi T25 904 8 ≤ 5010 := hHT25.c _ _
    have w409 : 0 ≤ Xi T25 904 65 ∧ Xi T25 904 65 ≤ 1 := hHT25.c _ _
    have w410 : 0 ≤ Xi T25 904 69 ∧ Xi T25 904 69 ≤ 2600 := hHT25.c _ _
    have w411 : Xi T25 904 93 = Xi T19 904 93 := (show Xi T25 904 93 = Xi U24 904 93 from w406.x _ _ rfl).trans ((show Xi U24 904 93 = Xi T19 904 93 from by rw [eU24]; exact Xi_ne (by omega)))
    have h271 : Xi T25 904 65 = 0 → THV (Xi T25 904 69) n (Xi T25 954 (Xi S 904 93).toNat) (Xi T25 955 (Xi S 904 93).toNat) := fun q => thv_c (h261 (r271 q).2.2) (by omega) ((by assumption : FR md_mo_run U24 T25).cx 954 rfl _).1 ((by assumption : FR md_mo_run U24 T25).cx 955 rfl _).1
    have f271 : Xi T25 952 (Xi S 904 93).toNat = 3 := ((by assumption : FR md_mo_run U24 T25).cx 952 rfl _).1.trans f261
    clear h261
    have w407 : Xi S 904 8 ≤ Xi T25 904 8 ∧ Xi T25 904 8 ≤ n ∧ Xi S 904 69 ≤ Xi T25 904 69 ∧ (Xi T25 904 65 = 0 → Xi S 904 65 = 0) := by omega
    clear w401 w403
    refine l_iastore (n := 1700) rfl rfl (by omega) (by omega) (by unfold rg; omega) ?_
    obtain ⟨U26, eU26⟩ : ∃ T : sS, T = uI T25 956 (((Xi T19 904 93)).toNat) (Int32.ofInt z405) := ⟨_, rfl⟩
    rw [← eU26]
    have hHU26 : HI U26 := by rw [eU26]; exact HI_w hHT25 (show 0 ≤ z405 by omega) (show z405 ≤ 2600 by omega)
    have hFU26 : FR md_mo_test__2 S U26 := by rw [eU26]; exact FR.wI hFT25 (mdf_i (r := (956, 957, 0, 100000)) (List.mem_of_getElem? (i := 15) rfl) (inR_i (by omega) (by omega) (by omega) (by omega)))
    have w413 : Xi U26 956 (((Xi T19 904 93)).toNat) = z405 := by rw [eU26]; exact Xi_same (by unfold rg; omega)
    have h274 : Xi U26 904 65 = 0 → THV (Xi U26 904 69) n (Xi U26 954 (Xi S 904 93).toNat) (Xi U26 955 (Xi S 904 93).toNat) := fun q => (by rw [eU26, Xi_ne (by omega)] at q; exact thv_c (h271 q) (by rw [eU26, Xi_ne (by omega)]; exact Int.le_refl _) (by rw [eU26, Xi_ne (by omega)]) (by rw [eU26, Xi_ne (by omega)]))
    have f274 : Xi U26 952 (Xi S 904 93).toNat = 3 := by rw [eU26, Xi_ne (by omega)]; exact f271
    have E274 : Xi U26 904 65 = 0 → TVx U26 n (Xi S 904 93).toNat := fun q => tvx_3 f274 (h274 q) (by have t := r271 (by rw [eU26, Xi_ne (by omega)] at q; exact q); have u : Xi U26 904 69 = Xi T25 904 69 := (by rw [eU26, Xi_ne (by omega)]); rw [show (Xi S 904 93).toNat = (Xi T19 904 93).toNat by omega]; omega)
    clear h271 h274 f271
    refine l_goto rfl rfl ?_
    have w414 : Xi U26 952 (Xi S 904 93).toNat = Xi U24 952 (Xi S 904 93).toNat := (show Xi U26 952 (Xi S 904 93).toNat = Xi T25 952 (Xi S 904 93).toNat from by rw [eU26]; exact Xi_ne (by omega)).trans ((show Xi T25 952 (Xi S 904 93).toNat = Xi U24 952 (Xi S 904 93).toNat from (w406.cx 952 rfl _).1))
    have w415 : Xi U26 961 (Xi S 904 93).toNat = Xi T19 961 (Xi S 904 93).toNat := (show Xi U26 961 (Xi S 904 93).toNat = Xi T25 961 (Xi S 904 93).toNat from by rw [eU26]; exact Xi_ne (by omega)).trans ( (show Xi T25 961 (Xi S 904 93).toNat = Xi U24 961 (Xi S 904 93).toNat from (w406.cx 961 rfl _).1).trans ((show Xi U24 961 (Xi S 904 93).toNat = Xi T19 961 (Xi S 904 93).toNat from by rw [eU24]; exact Xi_ne (by omega))))
    have w416 : Xi U26 962 (Xi S 904 93).toNat = Xi T19 962 (Xi S 904 93).toNat := (show Xi U26 962 (Xi S 904 93).toNat = Xi T25 962 (Xi S 904 93).toNat from by rw [eU26]; exact Xi_ne (by omega)).trans ( (show Xi T25 962 (Xi S 904 93).toNat = Xi U24 962 (Xi S 904 93).toNat from (w406.cx 962 rfl _).1).trans ((show Xi U24 962 (Xi S 904 93).toNat = Xi T19 962 (Xi S 904 93).toNat from by rw [eU24]; exact Xi_ne (by omega))))
    have w417 : Xi U26 904 65 = Xi T25 904 65 := (show Xi U26 904 65 = Xi T25 904 65 from by rw [eU26]; exact Xi_ne (by omega))
    have w419 : Xi U26 904 69 = Xi T25 904 69 := (show Xi U26 904 69 = Xi T25 904 69 from by rw [eU26]; exact Xi_ne (by omega))
    have w421 : Xi U26 904 8 = Xi T25 904 8 := (show Xi U26 904 8 = Xi T25 904 8 from by rw [eU26]; exact Xi_ne (by omega))
    have w423 : Xi U26 904 93 = Xi T19 904 93 := (show Xi U26 904 93 = Xi T25 904 93 from by rw [eU26]; exact Xi_ne (by omega)).trans ( (show Xi T25 904 93 = Xi U24 904 93 from w406.x _ _ rfl).trans ((show Xi U24 904 93 = Xi T19 904 93 from by rw [eU24]; exact Xi_ne (by omega))))
    exact Rl_weak (C351 U26 hHU26 hFU26  (by first | assumption | exact AT_bad (by omega) | exact (AT_FR (FR_e eU26) rfl (by assumption : AT T25 _ _))) (by first | assumption | exact (RNV_FR (FR_e eU26) rfl (by assumption : RNV T25 _))) (by omega) (by omega) (by omega) (by omega) (by omega) (by omega) ((KT.w (KT_FR w406 rfl (KT.w (by assumption : KT T19 S _) eU24 (by omega))) eU26 (by omega))) (by first | exact E187 | exact E274 | exact E350 | exact (fun _ q => tvx_5 (by omega)) A96 | exact fun q => absurd q (by omega)) (by omega) (by first | assumption | exact (BDA_FR (FR_e eU26) rfl (by assumption : BDA T25)))) (And.intro rfl (And.intro rfl (True.intro)))
set_option maxRecDepth 100000 in
set_option maxHeartbeats 8000000 in
theorem c203_mo_test__2 {S : sS} (hH : HI S) (n : Nat) (c : Nat) (isNow : Int) (hisNow : 0 ≤ isNow ∧ isNow ≤ 1) (hT : TK S n) (hA : AT S n c) (hv : RNV S n) (tc : Xi S 904 93 ≤ 1699) (hx : Xi S 904 8 ≤ n) (hc : 1 ≤ c) (hBDA : BDA S) (d : Nat) : ∀  (T27 : sS) (_ : HI T27) (_ : FR md_mo_test__2 S T27), (AT T27 n c) → (RNV T27 n) → (Xi S 904 8 ≤ Xi T27 904 8 ∧ Xi T27 904 8 ≤ n) → (Xi S 904 69 ≤ Xi T27 904 69) → (Xi T27 904 65 = 0 → Xi S 904 65 = 0) → (Xi T27 904 93 = Xi S 904 93) → (Xi T27 961 (Xi S 904 93).toNat = Xi S 904 8) → (KT T27 S (Xi S 904 93)) → (Xi T27 904 65 = 0 → THV (Xi T27 904 69) n (Xi T27 954 (Xi S 904 93).toNat) (Xi T27 955 (Xi S 904 93).toNat)) → (BDA T27) → Rl lay0 (d + 5) m_mo_test 203 [(0, .ref 904), (1, iv isNow)] [] T27 (Q_mo_test__2 S n c isNow) := by
  have C244 := c244_mo_test__2 hH n c isNow hisNow hT hA hv tc hx hc hBDA d 
  have hF : FR md_mo_test__2 S S := FR.rf
  have w1 : 0 ≤ Xi S 904 65 ∧ Xi S 904 65 ≤ 1 := hH.c _ _
  have w2 : 0 ≤ Xi S 904 69 ∧ Xi S 904 69 ≤ 2600 := hH.c _ _
  have w3 : 0 ≤ Xi S 904 8 ∧ Xi S 904 8 ≤ 5010 := hH.c _ _
  have w4 : 0 ≤ Xi S 904 93 ∧ Xi S 904 93 ≤ 1700 := hH.c _ _
  have hn5 := hT.1
  have hat := hA
  have h8 : 0 ≤ Xi S 904 8 ∧ Xi S 904 8 ≤ 5010 := hH.c _ _
  have h69 : 0 ≤ Xi S 904 69 ∧ Xi S 904 69 ≤ 2600 := hH.c _ _
  have ha0 : Xi S 904 65 = 0 → Xi S 904 8 ≤ n := fun q => (hA q).1
  have ha3 : Xi S 904 65 = 0 → 2 * Xi S 904 69 ≤ Xi S 904 8 + 1 := fun q => (hA q).2.1
  clear hat
  clear ha0 ha3
  intro T27 hHT27 hFT27 A203 V203 w425 w426 w427 w428 w429 K203 h203 BDA_203
  have w430 : 0 ≤ Xi T27 904 65 ∧ Xi T27 904 65 ≤ 1 := hHT27.c _ _
  have w431 : 0 ≤ Xi T27 904 69 ∧ Xi T27 904 69 ≤ 2600 := hHT27.c _ _
  have w432 : 0 ≤ Xi T27 904 8 ∧ Xi T27 904 8 ≤ 5010 := hHT27.c _ _
  have w433 : 0 ≤ Xi T27 904 93 ∧ Xi T27 904 93 ≤ 1700 := hHT27.c _ _
  refine l_aload_n rfl rfl ?_
  refine l_gfr rfl rfl rfl rfl rfl (hHT27.r 904 83 953 rfl) ?_
  refine l_aload_n rfl rfl ?_
  refine l_gfi rfl rfl rfl rfl rfl ?_
  refine l_aload_n rfl rfl ?_
  refine l_bipush rfl rfl ?_
  refine l_callV rfl rfl rfl (t_mo_isNext hHT27 n c 106 ⟨by omega, by omega⟩ (by first | assumption | exact (TK_FR hFT27 rfl (by assumption : TK S _))) (by first | assumption | exact (by assumption : AT T27 _ _)) _) ?_
  rintro _ _ ⟨rfl, z438, rfl, w438, j214, n214⟩
  show Rl _ _ _ _ _ [iv z438, iv (Xi T27 904 93), .ref 953] _ _
  clear n214
  refine l_bastoreZ1 (n := 1700) rfl rfl (by omega) (by omega) (by unfold rg; omega) ⟨by omega, by omega⟩ ?_
  obtain ⟨U28, eU28⟩ : ∃ T : sS, T = uI T27 953 (((Xi T27 904 93)).toNat) (Int32.ofInt z438) := ⟨_, rfl⟩
  rw [← eU28]
  have hHU28 : HI U28 := by rw [eU28]; exact HI_w hHT27 (show 0 ≤ z438 by omega) (show z438 ≤ 1 by omega)
  have hFU28 : FR md_mo_test__2 S U28 := by rw [eU28]; exact FR.wI hFT27 (mdf_i (r := (953, 954, 0, 100000)) (List.mem_of_getElem? (i := 12) rfl) (inR_i (by omega) (by omega) (by omega) (by omega)))
  have w439 : Xi U28 953 (((Xi T27 904 93)).toNat) = z438 := by rw [eU28]; exact Xi_same (by unfold rg; omega)
  have s217_8 : Xi U28 904 8 = Xi T27 904 8 := by rw [eU28, Xi_ne (by omega)]
  have s217_65 : Xi U28 904 65 = Xi T27 904 65 := by rw [eU28, Xi_ne (by omega)]
  have s217_69 : Xi U28 904 69 = Xi T27 904 69 := by rw [eU28, Xi_ne (by omega)]
  have s217_93 : Xi U28 904 93 = Xi T27 904 93 := by rw [eU28, Xi_ne (by omega)]
  have x217 : ∀ j, Xi U28 907 j = Xi T27 907 j := fun j => by rw [eU28, Xi_ne (by omega)]
  have i217 : Xi U28 953 (Xi T27 904 93).toNat ≠ 0 → Xi U28 904 65 = 0 ∧ Xi U28 907 (Xi U28 904 8).toNat ≠ 1 := fun q => by have t := j214 (by omega); rw [x217, s217_8]; omega
  have a217 : AT U28 n c := AT_FR (FR_e eU28) rfl (by assumption)
  have h217 : Xi U28 904 65 = 0 → THV (Xi U28 904 69) n (Xi U28 954 (Xi S 904 93).toNat) (Xi U28 955 (Xi S 904 93).toNat) := fun q => (by rw [eU28, Xi_ne (by omega)] at q; exact thv_c (h203 q) (by rw [eU28, Xi_ne (by omega)]; exact Int.le_refl _) (by rw [eU28, Xi_ne (by omega)]) (by rw [eU28, Xi_ne (by omega)]))
  clear h203 j214
  refine l_aload_n rfl rfl ?_
  refine l_dup rfl rfl ?_
  refine l_gfi rfl rfl rfl rfl rfl ?_
  have w440 : (Xi U28 904 8) = (Xi T27 904 8) := (show Xi U28 904 8 = Xi T27 904 8 from by rw [eU28]; exact Xi_ne (by omega))
  rw [w440]
  refine l_aload_n rfl rfl ?_
  refine l_gfr rfl rfl rfl rfl rfl (hHU28.r 904 83 953 rfl) ?_
  refine l_aload_n rfl rfl ?_
  refine l_gfi rfl rfl rfl rfl rfl ?_
  have w441 : (Xi U28 904 93) = (Xi T27 904 93) := (show Xi U28 904 93 = Xi T27 904 93 from by rw [eU28]; exact Xi_ne (by omega))
  rw [w441]
  refine l_baload (n := 1700) rfl rfl rfl (by decide) (by omega) (by omega) (by unfold rg; omega) ?_
  refine l_if_eq rfl rfl (by unfold rg; omega) (fun w442 => ?_) (fun w443 => ?_)
  · refine l_iconst rfl ?_
    refine l_iadd rfl ?_
    refine l_pfi rfl rfl rfl rfl ?_
    obtain ⟨U29, eU29⟩ : ∃ T : sS, T = uI U28 904 8 (Int32.ofInt ((Xi T27 904 8) + 0)) := ⟨_, rfl⟩
    rw [← eU29]
    have hHU29 : HI U29 := by rw [eU29]; exact HI_w hHU28 (show 0 ≤ ((Xi T27 904 8) + 0) by omega) (show ((Xi T27 904 8) + 0) ≤ 5010 by omega)
    have hFU29 : FR md_mo_test__2 S U29 := by rw [eU29]; exact FR.wI hFU28 (mdf_i (r := (904, 905, 8, 9)) (List.mem_of_getElem? (i := 0) rfl) (inR_i (by omega) (by omega) (by omega) (by omega)))
    have w444 : Xi U29 904 8 = ((Xi T27 904 8) + 0) := by rw [eU29]; exact Xi_same (by unfold rg; omega)
    obtain ⟨a241, b241, c241⟩ : AT U29 n c ∧ Xi U28 904 8 ≤ Xi U29 904 8 ∧ (Xi U29 904 8 ≤ n ∨ Xi U29 904 8 = Xi U28 904 8) := at_opt (TK_FR hFU28 rfl hT) a217 eU29 (by omega) (by omega)
    have d241 : Xi S 904 8 ≤ Xi U29 904 8 ∧ Xi U29 904 8 ≤ n := by omega
    have h241 : Xi U29 904 65 = 0 → THV (Xi U29 904 69) n (Xi U29 954 (Xi S 904 93).toNat) (Xi U29 955 (Xi S 904 93).toNat) := fun q => (by rw [eU29, Xi_ne (by omega)] at q; exact thv_c (h217 q) (by rw [eU29, Xi_ne (by omega)]; exact Int.le_refl _) (by rw [eU29, Xi_ne (by omega)]) (by rw [eU29, Xi_ne (by omega)]))
    clear b241 c241 i217 h217
    have w445 : Xi U29 952 (Xi S 904 93).toNat = Xi T27 952 (Xi S 904 93).toNat := (show Xi U29 952 (Xi S 904 93).toNat = Xi U28 952 (Xi S 904 93).toNat from by rw [eU29]; exact Xi_ne (by omega)).trans ((show Xi U28 952 (Xi S 904 93).toNat = Xi T27 952 (Xi S 904 93).toNat from by rw [eU28]; exact Xi_ne (by omega)))
    have w446 : Xi U29 961 (Xi S 904 93).toNat = Xi T27 961 (Xi S 904 93).toNat := (show Xi U29 961 (Xi S 904 93).toNat = Xi U28 961 (Xi S 904 93).toNat from by rw [eU29]; exact Xi_ne (by omega)).trans ((show Xi U28 961 (Xi S 904 93).toNat = Xi T27 961 (Xi S 904 93).toNat from by rw [eU28]; exact Xi_ne (by omega)))
    have w447 : Xi U29 962 (Xi S 904 93).toNat = Xi T27 962 (Xi S 904 93).toNat := (show Xi U29 962 (Xi S 904 93).toNat = Xi U28 962 (Xi S 904 93).toNat from by rw [eU29]; exact Xi_ne (by omega)).trans ((show Xi U28 962 (Xi S 904 93).toNat = Xi T27 962 (Xi S 904 93).toNat from by rw [eU28]; exact Xi_ne (by omega)))
    have w448 : Xi U29 904 65 = Xi T27 904 65 := (show Xi U29 904 65 = Xi U28 904 65 from by rw [eU29]; exact Xi_ne (by omega)).trans ((show Xi U28 904 65 = Xi T27 904 65 from by rw [eU28]; exact Xi_ne (by omega)))
    have w450 : Xi U29 904 69 = Xi T27 904 69 := (show Xi U29 904 69 = Xi U28 904 69 from by rw [eU29]; exact Xi_ne (by omega)).trans ((show Xi U28 904 69 = Xi T27 904 69 from by rw [eU28]; exact Xi_ne (by omega)))
    have w452 : 0 ≤ Xi U29 904 8 ∧ Xi U29 904 8 ≤ 5010 := hHU29.c _ _
    have w453 : Xi U29 904 93 = Xi T27 904 93 := (show Xi U29 904 93 = Xi U28 904 93 from by rw [eU29]; exact Xi_ne (by omega)).trans ((show Xi U28 904 93 = Xi T27 904 93 from by rw [eU28]; exact Xi_ne (by omega)))
    exact Rl_weak (C244 U29 hHU29 hFU29  (by first | assumption | exact (by assumption : AT U29 _ _)) (by first | assumption | exact (RNV_FR (FR_e eU29) rfl (RNV_FR (FR_e eU28) rfl (by assumption : RNV T27 _)))) (by omega) (by omega) (by omega) (by omega) (by omega) ((KT_FR (FR_e eU29) rfl (KT.w (by assumption : KT T27 S _) eU28 (by omega)))) (h241) (by first | assumption | exact (BDA_FR (FR_e eU29) rfl (BDA_FR (FR_e eU28) rfl (by assumption : BDA T27))))) (And.intro rfl (And.intro rfl (True.intro)))
  · refine l_iconst rfl ?_
    refine l_goto rfl rfl ?_
    refine l_iadd rfl ?_
    refine l_pfi rfl rfl rfl rfl ?_
    obtain ⟨U30, eU30⟩ : ∃ T : sS, T = uI U28 904 8 (Int32.ofInt ((Xi T27 904 8) + 1)) := ⟨_, rfl⟩
    rw [← eU30]
    have hHU30 : HI U30 := by rw [eU30]; exact HI_w hHU28 (show 0 ≤ ((Xi T27 904 8) + 1) by omega) (show ((Xi T27 904 8) + 1) ≤ 5010 by omega)
    have hFU30 : FR md_mo_test__2 S U30 := by rw [eU30]; exact FR.wI hFU28 (mdf_i (r := (904, 905, 8, 9)) (List.mem_of_getElem? (i := 0) rfl) (inR_i (by omega) (by omega) (by omega) (by omega)))
    have w455 : Xi U30 904 8 = ((Xi T27 904 8) + 1) := by rw [eU30]; exact Xi_same (by unfold rg; omega)
    obtain ⟨a241, b241, c241⟩ : AT U30 n c ∧ Xi U28 904 8 ≤ Xi U30 904 8 ∧ (Xi U30 904 8 ≤ n ∨ Xi U30 904 8 = Xi U28 904 8) := at_opt (TK_FR hFU28 rfl hT) a217 eU30 (by omega) (by omega)
    have d241 : Xi S 904 8 ≤ Xi U30 904 8 ∧ Xi U30 904 8 ≤ n := by omega
    have h241 : Xi U30 904 65 = 0 → THV (Xi U30 904 69) n (Xi U30 954 (Xi S 904 93).toNat) (Xi U30 955 (Xi S 904 93).toNat) := fun q => (by rw [eU30, Xi_ne (by omega)] at q; exact thv_c (h217 q) (by rw [eU30, Xi_ne (by omega)]; exact Int.le_refl _) (by rw [eU30, Xi_ne (by omega)]) (by rw [eU30, Xi_ne (by omega)]))
    clear b241 c241 i217 h217
    have w456 : Xi U30 952 (Xi S 904 93).toNat = Xi T27 952 (Xi S 904 93).toNat := (show Xi U30 952 (Xi S 904 93).toNat = Xi U28 952 (Xi S 904 93).toNat from by rw [eU30]; exact Xi_ne (by omega)).trans ((show Xi U28 952 (Xi S 904 93).toNat = Xi T27 952 (Xi S 904 93).toNat from by rw [eU28]; exact Xi_ne (by omega)))
    have w457 : Xi U30 961 (Xi S 904 93).toNat = Xi T27 961 (Xi S 904 93).toNat := (show Xi U30 961 (Xi S 904 93).toNat = Xi U28 961 (Xi S 904 93).toNat from by rw [eU30]; exact Xi_ne (by omega)).trans ((show Xi U28 961 (Xi S 904 93).toNat = Xi T27 961 (Xi S 904 93).toNat from by rw [eU28]; exact Xi_ne (by omega)))
    have w458 : Xi U30 962 (Xi S 904 93).toNat = Xi T27 962 (Xi S 904 93).toNat := (show Xi U30 962 (Xi S 904 93).toNat = Xi U28 962 (Xi S 904 93).toNat from by rw [eU30]; exact Xi_ne (by omega)).trans ((show Xi U28 962 (Xi S 904 93).toNat = Xi T27 962 (Xi S 904 93).toNat from by rw [eU28]; exact Xi_ne (by omega)))
    have w459 : Xi U30 904 65 = Xi T27 904 65 := (show Xi U30 904 65 = Xi U28 904 65 from by rw [eU30]; exact Xi_ne (by omega)).trans ((show Xi U28 904 65 = Xi T27 904 65 from by rw [eU28]; exact Xi_ne (by omega)))
    have w461 : Xi U30 904 69 = Xi T27 904 69 := (show Xi U30 904 69 = Xi U28 904 69 from by rw [eU30]; exact Xi_ne (by omega)).trans ((show Xi U28 904 69 = Xi T27 904 69 from by rw [eU28]; exact Xi_ne (by omega)))
    have w463 : 0 ≤ Xi U30 904 8 ∧ Xi U30 904 8 ≤ 5010 := hHU30.c _ _
    have w464 : Xi U30 904 93 = Xi T27 904 93 := (show Xi U30 904 93 = Xi U28 904 93 from by rw [eU30]; exact Xi_ne (by omega)).trans ((show Xi U28 904 93 = Xi T27 904 93 from by rw [eU28]; exact Xi_ne (by omega)))
    exact Rl_weak (C244 U30 hHU30 hFU30  (by first | assumption | exact (by assumption : AT U30 _ _)) (by first | assumption | exact (RNV_FR (FR_e eU30) rfl (RNV_FR (FR_e eU28) rfl (by assumption : RNV T27 _)))) (by omega) (by omega) (by omega) (by omega) (by omega) ((KT_FR (FR_e eU30) rfl (KT.w (by assumption : KT T27 S _) eU28 (by omega)))) (h241) (by first | assumption | exact (BDA_FR (FR_e eU30) rfl (BDA_FR (FR_e eU28) rfl (by assumption : BDA T27))))) (And.intro rfl (And.intro rfl (True.intro)))
set_option maxRecDepth 100000 in
set_option maxHeartbeats 8000000 in
theorem c13_mo_test__2 {S : sS} (hH : HI S) (n : Nat) (c : Nat) (isNow : Int) (hisNow : 0 ≤ isNow ∧ isNow ≤ 1) (hT : TK S n) (hA : AT S n c) (hv : RNV S n) (tc : Xi S 904 93 ≤ 1699) (hx : Xi S 904 8 ≤ n) (hc : 1 ≤ c) (hBDA : BDA S) (d : Nat) : ∀ (n13 : Nat) (v2 : Int) (v3 : Int) (v4 : Int), (0 ≤ v2 ∧ v2 ≤ 5010) → (0 ≤ v3 ∧ v3 ≤ 1) → (0 ≤ v4 ∧ v4 ≤ 5001) → (v2 = Xi S 904 8) → (Xi S 904 8 ≤ v4 ∧ v4 ≤ n) → (BDA S) → n13 = (5002 - v4).toNat → Rl lay0 (d + 5) m_mo_test 13 [(0, .ref 904), (1, iv isNow), (2, iv v2), (3, iv v3), (4, iv v4)] [] S (Q_mo_test__2 S n c isNow) := by
  have C96 := c96_mo_test__2 hH n c isNow hisNow hT hA hv tc hx hc hBDA d 
  have C185 := c185_mo_test__2 hH n c isNow hisNow hT hA hv tc hx hc hBDA d 
  have C203 := c203_mo_test__2 hH n c isNow hisNow hT hA hv tc hx hc hBDA d 
  have hF : FR md_mo_test__2 S S := FR.rf
  have w1 : 0 ≤ Xi S 904 65 ∧ Xi S 904 65 ≤ 1 := hH.c _ _
  have w2 : 0 ≤ Xi S 904 69 ∧ Xi S 904 69 ≤ 2600 := hH.c _ _
  have w3 : 0 ≤ Xi S 904 8 ∧ Xi S 904 8 ≤ 5010 := hH.c _ _
  have w4 : 0 ≤ Xi S 904 93 ∧ Xi S 904 93 ≤ 1700 := hH.c _ _
  have hn5 := hT.1
  have hat := hA
  have h8 : 0 ≤ Xi S 904 8 ∧ Xi S 904 8 ≤ 5010 := hH.c _ _
  have h69 : 0 ≤ Xi S 904 69 ∧ Xi S 904 69 ≤ 2600 := hH.c _ _
  have ha0 : Xi S 904 65 = 0 → Xi S 904 8 ≤ n := fun q => (hA q).1
  have ha3 : Xi S 904 65 = 0 → 2 * Xi S 904 69 ≤ Xi S 904 8 + 1 := fun q => (hA q).2.1
  clear hat
  clear ha0 ha3
  intro n13
  induction n13 using Nat.strongRecOn with
  | ind n13 ih13 =>
    intro v2 v3 v4 w466 w467 w468 w469 w470 BDA_13 hm13
    refine l_aload_n rfl rfl ?_
    refine l_aload_n rfl rfl ?_
    refine l_gfr rfl rfl rfl rfl rfl (hH.r 904 4 907 rfl) ?_
    refine l_iload rfl rfl ?_
    refine l_iaload (n := 5002) rfl rfl (by omega) (by omega) (by unfold rg; omega) ?_
    have w471 : 0 ≤ (Xi S 907 ((v4).toNat)) ∧ (Xi S 907 ((v4).toNat)) ≤ 154 := hH.c _ _
    refine l_iload_n rfl rfl ?_
    refine l_callV rfl rfl rfl (t_mo_endsTest hH (Xi S 907 ((v4).toNat)) isNow ⟨by omega, by omega⟩ ⟨by omega, by omega⟩ _) ?_
    rintro _ _ ⟨rfl, z476, rfl, w476, p22⟩
    show Rl _ _ _ _ _ [iv z476] _ _
    have u22 : z476 = 0 → v4 < n := fun q => tk_lt hT (by omega) (by omega) (by omega)
    refine l_if_ne rfl rfl (by unfold rg; omega) (fun w477 => ?_) (fun w478 => ?_)
    · refine l_aload_n rfl rfl ?_
      clear u22 p22 ih13
      refine l_gfr rfl rfl rfl rfl rfl (hH.r 904 91 961 rfl) ?_
      refine l_aload_n rfl rfl ?_
      refine l_gfi rfl rfl rfl rfl rfl ?_
      refine l_iload_n rfl rfl ?_
      refine l_iastore (n := 1700) rfl rfl (by omega) (by omega) (by unfold rg; omega) ?_
      obtain ⟨U31, eU31⟩ : ∃ T : sS, T = uI S 961 (((Xi S 904 93)).toNat) (Int32.ofInt v2) := ⟨_, rfl⟩
      rw [← eU31]
      have hHU31 : HI U31 := by rw [eU31]; exact HI_w hH (show 0 ≤ v2 by omega) (show v2 ≤ 5010 by omega)
      have hFU31 : FR md_mo_test__2 S U31 := by rw [eU31]; exact FR.wI hF (mdf_i (r := (961, 962, 0, 100000)) (List.mem_of_getElem? (i := 20) rfl) (inR_i (by omega) (by omega) (by omega) (by omega)))
      have w479 : Xi U31 961 (((Xi S 904 93)).toNat) = v2 := by rw [eU31]; exact Xi_same (by unfold rg; omega)
      refine l_aload_n rfl rfl ?_
      refine l_gfr rfl rfl rfl rfl rfl (hHU31.r 904 83 953 rfl) ?_
      refine l_aload_n rfl rfl ?_
      refine l_gfi rfl rfl rfl rfl rfl ?_
      have w480 : (Xi U31 904 93) = (Xi S 904 93) := (show Xi U31 904 93 = Xi S 904 93 from by rw [eU31]; exact Xi_ne (by omega))
      rw [w480]
      refine l_iconst rfl ?_
      refine l_bastoreZ1 (n := 1700) rfl rfl (by omega) (by omega) (by unfold rg; omega) ⟨by omega, by omega⟩ ?_
      obtain ⟨U32, eU32⟩ : ∃ T : sS, T = uI U31 953 (((Xi S 904 93)).toNat) (Int32.ofInt 0) := ⟨_, rfl⟩
      rw [← eU32]
      have hHU32 : HI U32 := by rw [eU32]; exact HI_w hHU31 (show 0 ≤ 0 by omega) (show 0 ≤ 1 by omega)
      have hFU32 : FR md_mo_test__2 S U32 := by rw [eU32]; exact FR.wI hFU31 (mdf_i (r := (953, 954, 0, 100000)) (List.mem_of_getElem? (i := 12) rfl) (inR_i (by omega) (by omega) (by omega) (by omega)))
      have w481 : Xi U32 953 (((Xi S 904 93)).toNat) = 0 := by rw [eU32]; exact Xi_same (by unfold rg; omega)
      refine l_iload_n rfl rfl ?_
      refine l_if_ne rfl rfl (by unfold rg; omega) (fun w482 => ?_) (fun w483 => ?_)
      · refine l_aload_n rfl rfl ?_
        refine l_aload_n rfl rfl ?_
        refine l_gfi rfl rfl rfl rfl rfl ?_
        have w484 : (Xi U32 904 8) = (Xi S 904 8) := (show Xi U32 904 8 = Xi U31 904 8 from by rw [eU32]; exact Xi_ne (by omega)).trans ((show Xi U31 904 8 = Xi S 904 8 from by rw [eU31]; exact Xi_ne (by omega)))
        rw [w484]
        have w489 : Xi U32 904 8 = Xi S 904 8 := (show Xi U32 904 8 = Xi U31 904 8 from by rw [eU32]; exact Xi_ne (by omega)).trans ((show Xi U31 904 8 = Xi S 904 8 from by rw [eU31]; exact Xi_ne (by omega)))
        refine l_callV rfl rfl rfl (t_mo_beginsOf hHU32 n (Xi S 904 8) ⟨by omega, by omega⟩ (by first | assumption | exact (TK_FR hFU32 rfl (by assumption : TK S _))) (by first | assumption | omega) _) ?_
        rintro _ _ ⟨rfl, z493, rfl, w493⟩
        show Rl _ _ _ _ _ [iv z493] _ _
        refine l_if_eq rfl rfl (by unfold rg; omega) (fun w494 => ?_) (fun w495 => ?_)
        · refine l_aload_n rfl rfl ?_
          have w496 : Xi U32 904 65 = Xi S 904 65 := (show Xi U32 904 65 = Xi U31 904 65 from by rw [eU32]; exact Xi_ne (by omega)).trans ((show Xi U31 904 65 = Xi S 904 65 from by rw [eU31]; exact Xi_ne (by omega)))
          have w498 : Xi U32 904 69 = Xi S 904 69 := (show Xi U32 904 69 = Xi U31 904 69 from by rw [eU32]; exact Xi_ne (by omega)).trans ((show Xi U31 904 69 = Xi S 904 69 from by rw [eU31]; exact Xi_ne (by omega)))
          have w502 : Xi U32 904 93 = Xi S 904 93 := (show Xi U32 904 93 = Xi U31 904 93 from by rw [eU32]; exact Xi_ne (by omega)).trans ((show Xi U31 904 93 = Xi S 904 93 from by rw [eU31]; exact Xi_ne (by omega)))
          refine l_callV rfl rfl rfl (t_mo_thingOfTest__2 hHU32 n c (by first | assumption | exact (TK_FR hFU32 rfl (by assumption : TK S _))) (by first | assumption | exact (AT_FR (FR_e eU32) rfl (AT_FR (FR_e eU31) rfl (by assumption : AT S _ _)))) (by first | assumption | exact (RNV_FR (FR_e eU32) rfl (RNV_FR (FR_e eU31) rfl (by assumption : RNV S _)))) (by first | assumption | omega) (by first | assumption | exact (BDA_FR (FR_e eU32) rfl (BDA_FR (FR_e eU31) rfl (by assumption : BDA S)))) _) ?_
          rintro _ T33 ⟨hHT33, w512, rfl, w504, w505, w506, w507, w508, w509, h194_, w510⟩
          have hFT33 : FR md_mo_test__2 S T33 := FR.tr hFU32 w512 rfl
          show Rl _ _ _ _ _ [] _ _
          have w514 : 0 ≤ Xi T33 904 8 ∧ Xi T33 904 8 ≤ 5010 := hHT33.c _ _
          have w515 : 0 ≤ Xi T33 904 65 ∧ Xi T33 904 65 ≤ 1 := hHT33.c _ _
          have w516 : 0 ≤ Xi T33 904 69 ∧ Xi T33 904 69 ≤ 2600 := hHT33.c _ _
          have w517 : Xi T33 904 93 = Xi S 904 93 := (show Xi T33 904 93 = Xi U32 904 93 from w512.x _ _ rfl).trans ( (show Xi U32 904 93 = Xi U31 904 93 from by rw [eU32]; exact Xi_ne (by omega)).trans ((show Xi U31 904 93 = Xi S 904 93 from by rw [eU31]; exact Xi_ne (by omega))))
          have h194 : Xi T33 904 65 = 0 → THV (Xi T33 904 69) n (Xi T33 954 (Xi S 904 93).toNat) (Xi T33 955 (Xi S 904 93).toNat) := by rw [show (Xi S 904 93).toNat = (Xi U32 904 93).toNat by omega]; exact h194_
          clear h194_
          have w513 : Xi S 904 8 ≤ Xi T33 904 8 ∧ Xi T33 904 8 ≤ n ∧ Xi S 904 69 ≤ Xi T33 904 69 ∧ (Xi T33 904 65 = 0 → Xi S 904 65 = 0) := by omega
          clear w505 w507 w508
          refine l_aload_n rfl rfl ?_
          refine l_bipush rfl rfl ?_
          refine l_callV rfl rfl rfl (t_mo_take__3 hHT33 n c 104 ⟨by omega, by omega⟩ (by first | assumption | exact (TK_FR hFT33 rfl (by assumption : TK S _))) (by first | assumption | exact (by assumption : AT T33 _ _)) (by first | assumption | omega) (by first | assumption | exact (by assumption : BDA T33)) _) ?_
          rintro _ T34 ⟨hHT34, w529, rfl, w524, w525, kb200, w526, w527⟩
          have hFT34 : FR md_mo_test__2 S T34 := FR.tr hFT33 w529 rfl
          show Rl _ _ _ _ _ [] _ _
          have w531 : 0 ≤ Xi T34 904 8 ∧ Xi T34 904 8 ≤ 5010 := hHT34.c _ _
          have w532 : 0 ≤ Xi T34 904 65 ∧ Xi T34 904 65 ≤ 1 := hHT34.c _ _
          have w533 : Xi T34 904 69 = Xi T33 904 69 := (show Xi T34 904 69 = Xi T33 904 69 from w529.x _ _ rfl)
          have w535 : Xi T34 904 93 = Xi S 904 93 := (show Xi T34 904 93 = Xi T33 904 93 from w529.x _ _ rfl).trans ( (show Xi T33 904 93 = Xi U32 904 93 from w512.x _ _ rfl).trans ( (show Xi U32 904 93 = Xi U31 904 93 from by rw [eU32]; exact Xi_ne (by omega)).trans ((show Xi U31 904 93 = Xi S 904 93 from by rw [eU31]; exact Xi_ne (by omega)))))
          have h200 : Xi T34 904 65 = 0 → THV (Xi T34 904 69) n (Xi T34 954 (Xi S 904 93).toNat) (Xi T34 955 (Xi S 904 93).toNat) := fun q => thv_c (h194 (kb200 q)) (by omega) ((by assumption : FR md_mo_take T33 T34).cx 954 rfl _).1 ((by assumption : FR md_mo_take T33 T34).cx 955 rfl _).1
          clear h194
          have w530 : Xi S 904 8 ≤ Xi T34 904 8 ∧ Xi T34 904 8 ≤ n ∧ Xi S 904 69 ≤ Xi T34 904 69 ∧ (Xi T34 904 65 = 0 → Xi S 904 65 = 0) := by omega
          clear w525 kb200 w526 w513
          have w537 : Xi T34 952 (Xi S 904 93).toNat = Xi S 952 (Xi S 904 93).toNat := (show Xi T34 952 (Xi S 904 93).toNat = Xi T33 952 (Xi S 904 93).toNat from (w529.cx 952 rfl _).1).trans ( (show Xi T33 952 (Xi S 904 93).toNat = Xi U32 952 (Xi S 904 93).toNat from (w512.cx 952 rfl _).1).trans ( (show Xi U32 952 (Xi S 904 93).toNat = Xi U31 952 (Xi S 904 93).toNat from by rw [eU32]; exact Xi_ne (by omega)).trans ((show Xi U31 952 (Xi S 904 93).toNat = Xi S 952 (Xi S 904 93).toNat from by rw [eU31]; exact Xi_ne (by omega)))))
          have w538 : Xi T34 961 (Xi S 904 93).toNat = Xi U31 961 (Xi S 904 93).toNat := (show Xi T34 961 (Xi S 904 93).toNat = Xi T33 961 (Xi S 904 93).toNat from (w529.cx 961 rfl _).1).trans ( (show Xi T33 961 (Xi S 904 93).toNat = Xi U32 961 (Xi S 904 93).toNat from (w512.cx 961 rfl _).1).trans ((show Xi U32 961 (Xi S 904 93).toNat = Xi U31 961 (Xi S 904 93).toNat from by rw [eU32]; exact Xi_ne (by omega))))
          have w539 : Xi T34 962 (Xi S 904 93).toNat = Xi S 962 (Xi S 904 93).toNat := (show Xi T34 962 (Xi S 904 93).toNat = Xi T33 962 (Xi S 904 93).toNat from (w529.cx 962 rfl _).1).trans ( (show Xi T33 962 (Xi S 904 93).toNat = Xi U32 962 (Xi S 904 93).toNat from (w512.cx 962 rfl _).1).trans ( (show Xi U32 962 (Xi S 904 93).toNat = Xi U31 962 (Xi S 904 93).toNat from by rw [eU32]; exact Xi_ne (by omega)).trans ((show Xi U31 962 (Xi S 904 93).toNat = Xi S 962 (Xi S 904 93).toNat from by rw [eU31]; exact Xi_ne (by omega)))))
          exact Rl_weak (C203 T34 hHT34 hFT34  (by first | assumption | exact (by assumption : AT T34 _ _)) (by first | assumption | exact (RNV_FR w529 rfl (by assumption : RNV T33 _))) (by omega) (by omega) (by omega) (by omega) (by omega) ((KT_FR w529 rfl (KT.tr (KT.w (KT.w KT.rf eU31 (by omega)) eU32 (by omega)) (by assumption : KT T33 U32 _) (by omega)))) (h200) (by first | assumption | exact (by assumption : BDA T34))) (And.intro rfl (And.intro rfl (True.intro)))
        · refine l_aload_n rfl rfl ?_
          have w546 : Xi U32 904 65 = Xi S 904 65 := (show Xi U32 904 65 = Xi U31 904 65 from by rw [eU32]; exact Xi_ne (by omega)).trans ((show Xi U31 904 65 = Xi S 904 65 from by rw [eU31]; exact Xi_ne (by omega)))
          have w548 : Xi U32 904 69 = Xi S 904 69 := (show Xi U32 904 69 = Xi U31 904 69 from by rw [eU32]; exact Xi_ne (by omega)).trans ((show Xi U31 904 69 = Xi S 904 69 from by rw [eU31]; exact Xi_ne (by omega)))
          have w552 : Xi U32 904 93 = Xi S 904 93 := (show Xi U32 904 93 = Xi U31 904 93 from by rw [eU32]; exact Xi_ne (by omega)).trans ((show Xi U31 904 93 = Xi S 904 93 from by rw [eU31]; exact Xi_ne (by omega)))
          refine l_callV rfl rfl rfl (t_mo_property__2 hHU32 n c (by first | assumption | exact (TK_FR hFU32 rfl (by assumption : TK S _))) (by first | assumption | exact (AT_FR (FR_e eU32) rfl (AT_FR (FR_e eU31) rfl (by assumption : AT S _ _)))) (by first | assumption | exact (RNV_FR (FR_e eU32) rfl (RNV_FR (FR_e eU31) rfl (by assumption : RNV S _)))) (by first | assumption | omega) (by first | assumption | exact (BDA_FR (FR_e eU32) rfl (BDA_FR (FR_e eU31) rfl (by assumption : BDA S)))) _) ?_
          rintro _ T35 ⟨hHT35, w562, rfl, w554, w555, w556, w557, w558, w559, p172_, w560⟩
          have hFT35 : FR md_mo_test__2 S T35 := FR.tr hFU32 w562 rfl
          show Rl _ _ _ _ _ [] _ _
          have w564 : 0 ≤ Xi T35 904 8 ∧ Xi T35 904 8 ≤ 5010 := hHT35.c _ _
          have w565 : 0 ≤ Xi T35 904 65 ∧ Xi T35 904 65 ≤ 1 := hHT35.c _ _
          have w566 : 0 ≤ Xi T35 904 69 ∧ Xi T35 904 69 ≤ 2600 := hHT35.c _ _
          have w567 : Xi T35 904 93 = Xi S 904 93 := (show Xi T35 904 93 = Xi U32 904 93 from w562.x _ _ rfl).trans ( (show Xi U32 904 93 = Xi U31 904 93 from by rw [eU32]; exact Xi_ne (by omega)).trans ((show Xi U31 904 93 = Xi S 904 93 from by rw [eU31]; exact Xi_ne (by omega))))
          have p172 : Xi T35 904 65 = 0 → Xi T35 956 (Xi S 904 93).toNat < Xi T35 904 69 := by rw [show (Xi S 904 93).toNat = (Xi U32 904 93).toNat by omega]; exact p172_
          clear p172_
          have w563 : Xi S 904 8 ≤ Xi T35 904 8 ∧ Xi T35 904 8 ≤ n ∧ Xi S 904 69 ≤ Xi T35 904 69 ∧ (Xi T35 904 65 = 0 → Xi S 904 65 = 0) := by omega
          clear w555 w557 w558
          refine l_aload_n rfl rfl ?_
          refine l_callV rfl rfl rfl (t_mo_thingOfTest__2 hHT35 n c (by first | assumption | exact (TK_FR hFT35 rfl (by assumption : TK S _))) (by first | assumption | exact (by assumption : AT T35 _ _)) (by first | assumption | exact (by assumption : RNV T35 _)) (by first | assumption | omega) (by first | assumption | exact (by assumption : BDA T35)) _) ?_
          rintro _ T36 ⟨hHT36, w581, rfl, w574, w575, w576, kb176, w577, w578, h176_, w579⟩
          have hFT36 : FR md_mo_test__2 S T36 := FR.tr hFT35 w581 rfl
          show Rl _ _ _ _ _ [] _ _
          have w583 : 0 ≤ Xi T36 904 8 ∧ Xi T36 904 8 ≤ 5010 := hHT36.c _ _
          have w584 : 0 ≤ Xi T36 904 65 ∧ Xi T36 904 65 ≤ 1 := hHT36.c _ _
          have w585 : 0 ≤ Xi T36 904 69 ∧ Xi T36 904 69 ≤ 2600 := hHT36.c _ _
          have w586 : Xi T36 904 93 = Xi S 904 93 := (show Xi T36 904 93 = Xi T35 904 93 from w581.x _ _ rfl).trans ( (show Xi T35 904 93 = Xi U32 904 93 from w562.x _ _ rfl).trans ( (show Xi U32 904 93 = Xi U31 904 93 from by rw [eU32]; exact Xi_ne (by omega)).trans ((show Xi U31 904 93 = Xi S 904 93 from by rw [eU31]; exact Xi_ne (by omega)))))
          have h176 : Xi T36 904 65 = 0 → THV (Xi T36 904 69) n (Xi T36 954 (Xi S 904 93).toNat) (Xi T36 955 (Xi S 904 93).toNat) := by rw [show (Xi S 904 93).toNat = (Xi T35 904 93).toNat by omega]; exact h176_
          clear h176_
          have p176 : Xi T36 904 65 = 0 → Xi T36 956 (Xi S 904 93).toNat < Xi T36 904 69 := fun q => by have t := p172 (kb176 q); rw [((by assumption : FR md_mo_thingOfTest T35 T36).cx 956 rfl _).1]; omega
          clear p172
          have w582 : Xi S 904 8 ≤ Xi T36 904 8 ∧ Xi T36 904 8 ≤ n ∧ Xi S 904 69 ≤ Xi T36 904 69 ∧ (Xi T36 904 65 = 0 → Xi S 904 65 = 0) := by omega
          clear w575 kb176 w577 w563
          refine l_aload_n rfl rfl ?_
          refine l_bipush rfl rfl ?_
          refine l_callV rfl rfl rfl (t_mo_take__3 hHT36 n c 104 ⟨by omega, by omega⟩ (by first | assumption | exact (TK_FR hFT36 rfl (by assumption : TK S _))) (by first | assumption | exact (by assumption : AT T36 _ _)) (by first | assumption | omega) (by first | assumption | exact (by assumption : BDA T36)) _) ?_
          rintro _ T37 ⟨hHT37, w598, rfl, w593, w594, kb182, w595, w596⟩
          have hFT37 : FR md_mo_test__2 S T37 := FR.tr hFT36 w598 rfl
          show Rl _ _ _ _ _ [] _ _
          have w600 : 0 ≤ Xi T37 904 8 ∧ Xi T37 904 8 ≤ 5010 := hHT37.c _ _
          have w601 : 0 ≤ Xi T37 904 65 ∧ Xi T37 904 65 ≤ 1 := hHT37.c _ _
          have w602 : Xi T37 904 69 = Xi T36 904 69 := (show Xi T37 904 69 = Xi T36 904 69 from w598.x _ _ rfl)
          have w604 : Xi T37 904 93 = Xi S 904 93 := (show Xi T37 904 93 = Xi T36 904 93 from w598.x _ _ rfl).trans ( (show Xi T36 904 93 = Xi T35 904 93 from w581.x _ _ rfl).trans ( (show Xi T35 904 93 = Xi U32 904 93 from w562.x _ _ rfl).trans ( (show Xi U32 904 93 = Xi U31 904 93 from by rw [eU32]; exact Xi_ne (by omega)).trans ((show Xi U31 904 93 = Xi S 904 93 from by rw [eU31]; exact Xi_ne (by omega))))))
          have p182 : Xi T37 904 65 = 0 → Xi T37 956 (Xi S 904 93).toNat < Xi T37 904 69 := fun q => by have t := p176 (kb182 q); rw [((by assumption : FR md_mo_take T36 T37).cx 956 rfl _).1]; omega
          have h182 : Xi T37 904 65 = 0 → THV (Xi T37 904 69) n (Xi T37 954 (Xi S 904 93).toNat) (Xi T37 955 (Xi S 904 93).toNat) := fun q => thv_c (h176 (kb182 q)) (by omega) ((by assumption : FR md_mo_take T36 T37).cx 954 rfl _).1 ((by assumption : FR md_mo_take T36 T37).cx 955 rfl _).1
          clear p176 h176
          have w599 : Xi S 904 8 ≤ Xi T37 904 8 ∧ Xi T37 904 8 ≤ n ∧ Xi S 904 69 ≤ Xi T37 904 69 ∧ (Xi T37 904 65 = 0 → Xi S 904 65 = 0) := by omega
          clear w594 kb182 w595 w582
          have w606 : Xi T37 952 (Xi S 904 93).toNat = Xi S 952 (Xi S 904 93).toNat := (show Xi T37 952 (Xi S 904 93).toNat = Xi T36 952 (Xi S 904 93).toNat from (w598.cx 952 rfl _).1).trans ( (show Xi T36 952 (Xi S 904 93).toNat = Xi T35 952 (Xi S 904 93).toNat from (w581.cx 952 rfl _).1).trans ( (show Xi T35 952 (Xi S 904 93).toNat = Xi U32 952 (Xi S 904 93).toNat from (w562.cx 952 rfl _).1).trans ( (show Xi U32 952 (Xi S 904 93).toNat = Xi U31 952 (Xi S 904 93).toNat from by rw [eU32]; exact Xi_ne (by omega)).trans ((show Xi U31 952 (Xi S 904 93).toNat = Xi S 952 (Xi S 904 93).toNat from by rw [eU31]; exact Xi_ne (by omega))))))
          have w607 : Xi T37 961 (Xi S 904 93).toNat = Xi U31 961 (Xi S 904 93).toNat := (show Xi T37 961 (Xi S 904 93).toNat = Xi T36 961 (Xi S 904 93).toNat from (w598.cx 961 rfl _).1).trans ( (show Xi T36 961 (Xi S 904 93).toNat = Xi T35 961 (Xi S 904 93).toNat from (w581.cx 961 rfl _).1).trans ( (show Xi T35 961 (Xi S 904 93).toNat = Xi U32 961 (Xi S 904 93).toNat from (w562.cx 961 rfl _).1).trans ((show Xi U32 961 (Xi S 904 93).toNat = Xi U31 961 (Xi S 904 93).toNat from by rw [eU32]; exact Xi_ne (by omega)))))
          have w608 : Xi T37 962 (Xi S 904 93).toNat = Xi S 962 (Xi S 904 93).toNat := (show Xi T37 962 (Xi S 904 93).toNat = Xi T36 962 (Xi S 904 93).toNat from (w598.cx 962 rfl _).1).trans ( (show Xi T36 962 (Xi S 904 93).toNat = Xi T35 962 (Xi S 904 93).toNat from (w581.cx 962 rfl _).1).trans ( (show Xi T35 962 (Xi S 904 93).toNat = Xi U32 962 (Xi S 904 93).toNat from (w562.cx 962 rfl _).1).trans ( (show Xi U32 962 (Xi S 904 93).toNat = Xi U31 962 (Xi S 904 93).toNat from by rw [eU32]; exact Xi_ne (by omega)).trans ((show Xi U31 962 (Xi S 904 93).toNat = Xi S 962 (Xi S 904 93).toNat from by rw [eU31]; exact Xi_ne (by omega))))))
          exact Rl_weak (C185 T37 hHT37 hFT37  (by first | assumption | exact (by assumption : AT T37 _ _)) (by first | assumption | exact (RNV_FR w598 rfl (by assumption : RNV T36 _))) (by omega) (by omega) (by omega) (by omega) (by omega) ((KT_FR w598 rfl (KT.tr (KT.tr (KT.w (KT.w KT.rf eU31 (by omega)) eU32 (by omega)) (by assumption : KT T35 U32 _) (by omega)) (by assumption : KT T36 T35 _) (by omega)))) (p182) (h182) (by first | assumption | exact (by assumption : BDA T37))) (And.intro rfl (And.intro rfl (True.intro)))
      · refine l_aload_n rfl rfl ?_
        refine l_gfr rfl rfl rfl rfl rfl (hHU32.r 904 82 952 rfl) ?_
        refine l_aload_n rfl rfl ?_
        refine l_gfi rfl rfl rfl rfl rfl ?_
        have w615 : (Xi U32 904 93) = (Xi S 904 93) := (show Xi U32 904 93 = Xi U31 904 93 from by rw [eU32]; exact Xi_ne (by omega)).trans ((show Xi U31 904 93 = Xi S 904 93 from by rw [eU31]; exact Xi_ne (by omega)))
        rw [w615]
        refine l_iconst rfl ?_
        refine l_iastore (n := 1700) rfl rfl (by omega) (by omega) (by unfold rg; omega) ?_
        obtain ⟨U38, eU38⟩ : ∃ T : sS, T = uI U32 952 (((Xi S 904 93)).toNat) (Int32.ofInt 5) := ⟨_, rfl⟩
        rw [← eU38]
        have hHU38 : HI U38 := by rw [eU38]; exact HI_w hHU32 (show 0 ≤ 5 by omega) (show 5 ≤ 5 by omega)
        have hFU38 : FR md_mo_test__2 S U38 := by rw [eU38]; exact FR.wI hFU32 (mdf_i (r := (952, 953, 0, 100000)) (List.mem_of_getElem? (i := 11) rfl) (inR_i (by omega) (by omega) (by omega) (by omega)))
        have w616 : Xi U38 952 (((Xi S 904 93)).toNat) = 5 := by rw [eU38]; exact Xi_same (by unfold rg; omega)
        refine l_aload_n rfl rfl ?_
        have w617 : Xi U38 904 65 = Xi S 904 65 := (show Xi U38 904 65 = Xi U32 904 65 from by rw [eU38]; exact Xi_ne (by omega)).trans ( (show Xi U32 904 65 = Xi U31 904 65 from by rw [eU32]; exact Xi_ne (by omega)).trans ((show Xi U31 904 65 = Xi S 904 65 from by rw [eU31]; exact Xi_ne (by omega))))
        have w621 : Xi U38 904 8 = Xi S 904 8 := (show Xi U38 904 8 = Xi U32 904 8 from by rw [eU38]; exact Xi_ne (by omega)).trans ( (show Xi U32 904 8 = Xi U31 904 8 from by rw [eU32]; exact Xi_ne (by omega)).trans ((show Xi U31 904 8 = Xi S 904 8 from by rw [eU31]; exact Xi_ne (by omega))))
        refine l_callV rfl rfl rfl (t_mo_look hHU38 n c (by first | assumption | exact (TK_FR hFU38 rfl (by assumption : TK S _))) (by first | assumption | exact (AT_FR (FR_e eU38) rfl (AT_FR (FR_e eU32) rfl (AT_FR (FR_e eU31) rfl (by assumption : AT S _ _))))) _) ?_
        rintro _ _ ⟨rfl, z626, rfl, w626, w625⟩
        show Rl _ _ _ _ _ [iv z626] _ _
        have l91 : z626 ≠ 1 → Xi U38 904 65 = 0 ∧ Xi U38 907 (Xi U38 904 8).toNat = z626 := by assumption
        refine l_istore rfl rfl rfl ?_
        have w627 : Xi U38 961 (Xi S 904 93).toNat = Xi U31 961 (Xi S 904 93).toNat := (show Xi U38 961 (Xi S 904 93).toNat = Xi U32 961 (Xi S 904 93).toNat from by rw [eU38]; exact Xi_ne (by omega)).trans ((show Xi U32 961 (Xi S 904 93).toNat = Xi U31 961 (Xi S 904 93).toNat from by rw [eU32]; exact Xi_ne (by omega)))
        have w628 : Xi U38 962 (Xi S 904 93).toNat = Xi S 962 (Xi S 904 93).toNat := (show Xi U38 962 (Xi S 904 93).toNat = Xi U32 962 (Xi S 904 93).toNat from by rw [eU38]; exact Xi_ne (by omega)).trans ( (show Xi U32 962 (Xi S 904 93).toNat = Xi U31 962 (Xi S 904 93).toNat from by rw [eU32]; exact Xi_ne (by omega)).trans ((show Xi U31 962 (Xi S 904 93).toNat = Xi S 962 (Xi S 904 93).toNat from by rw [eU31]; exact Xi_ne (by omega))))
        have w631 : Xi U38 904 69 = Xi S 904 69 := (show Xi U38 904 69 = Xi U32 904 69 from by rw [eU38]; exact Xi_ne (by omega)).trans ( (show Xi U32 904 69 = Xi U31 904 69 from by rw [eU32]; exact Xi_ne (by omega)).trans ((show Xi U31 904 69 = Xi S 904 69 from by rw [eU31]; exact Xi_ne (by omega))))
        have w635 : Xi U38 904 93 = Xi S 904 93 := (show Xi U38 904 93 = Xi U32 904 93 from by rw [eU38]; exact Xi_ne (by omega)).trans ( (show Xi U32 904 93 = Xi U31 904 93 from by rw [eU32]; exact Xi_ne (by omega)).trans ((show Xi U31 904 93 = Xi S 904 93 from by rw [eU31]; exact Xi_ne (by omega))))
        exact Rl_weak (C96 _ U38 hHU38 hFU38 (v2) (z626) (by omega) (by omega) (by omega) (by first | exact a133 | exact (AT_FR (FR_e eU38) rfl (AT_FR (FR_e eU32) rfl (AT_FR (FR_e eU31) rfl (by assumption : AT S _ _))))) (by first | assumption | exact (RNV_FR (FR_e eU38) rfl (RNV_FR (FR_e eU32) rfl (RNV_FR (FR_e eU31) rfl (by assumption : RNV S _))))) (by omega) (by omega) (by omega) (by omega) (by omega) (by omega) (by omega) ((KT.w (KT.w (KT.w KT.rf eU31 (by omega)) eU32 (by omega)) eU38 (by omega))) (by first | assumption | exact (BDA_FR (FR_e eU38) rfl (BDA_FR (FR_e eU32) rfl (BDA_FR (FR_e eU31) rfl (by assumption : BDA S))))) rfl) (And.intro rfl (And.intro rfl (And.intro rfl (And.intro rfl (True.intro)))))
    · refine l_iload_n rfl rfl ?_
      refine l_if_ne rfl rfl (by unfold rg; omega) (fun w637 => ?_) (fun w638 => ?_)
      · refine l_iconst rfl ?_
        refine l_goto rfl rfl ?_
        refine l_istore_n rfl rfl rfl ?_
        refine l_iinc rfl rfl rfl rfl ?_
        refine l_goto rfl rfl ?_
        exact Rl_weak (ih13 _ (by omega) (v2) (1) ((v4 + 1)) (by omega) (by omega) (by omega) (by omega) (by omega) (by first | assumption | exact (by assumption : BDA S)) rfl) (And.intro rfl (And.intro rfl (And.intro rfl (And.intro rfl (And.intro rfl (True.intro))))))
      · refine l_aload_n rfl rfl ?_
        refine l_gfr rfl rfl rfl rfl rfl (hH.r 904 4 907 rfl) ?_
        refine l_iload rfl rfl ?_
        refine l_iaload (n := 5002) rfl rfl (by omega) (by omega) (by unfold rg; omega) ?_
        refine l_bipush rfl rfl ?_
        refine l_icmp_ne rfl rfl (by unfold rg; omega) (by unfold rg; omega) (fun w643 => ?_) (fun w644 => ?_)
        · refine l_iconst rfl ?_
          refine l_istore_n rfl rfl rfl ?_
          refine l_iinc rfl rfl rfl rfl ?_
          refine l_goto rfl rfl ?_
          exact Rl_weak (ih13 _ (by omega) (v2) (0) ((v4 + 1)) (by omega) (by omega) (by omega) (by omega) (by omega) (by first | assumption | exact (by assumption : BDA S)) rfl) (And.intro rfl (And.intro rfl (And.intro rfl (And.intro rfl (And.intro rfl (True.intro))))))
        · refine l_iconst rfl ?_
          refine l_goto rfl rfl ?_
          refine l_istore_n rfl rfl rfl ?_
          refine l_iinc rfl rfl rfl rfl ?_
          refine l_goto rfl rfl ?_
          exact Rl_weak (ih13 _ (by omega) (v2) (1) ((v4 + 1)) (by omega) (by omega) (by omega) (by omega) (by omega) (by first | assumption | exact (by assumption : BDA S)) rfl) (And.intro rfl (And.intro rfl (And.intro rfl (And.intro rfl (And.intro rfl (True.intro))))))
set_option maxRecDepth 100000 in
set_option maxHeartbeats 8000000 in
theorem t_mo_test__2 {S : sS} (hH : HI S) (n : Nat) (c : Nat) (isNow : Int) (hisNow : 0 ≤ isNow ∧ isNow ≤ 1) (hT : TK S n) (hA : AT S n c) (hv : RNV S n) (tc : Xi S 904 93 ≤ 1699) (hx : Xi S 904 8 ≤ n) (hc : 1 ≤ c) (hBDA : BDA S) (d : Nat) : Mt lay0 (d + 6) m_mo_test [.ref 904, iv isNow] S (Q_mo_test__2 S n c isNow) := by
  refine Mt_R rfl rfl ?_
  have C351 := c351_mo_test__2 hH n c isNow hisNow hT hA hv tc hx hc hBDA d 
  have C96 := c96_mo_test__2 hH n c isNow hisNow hT hA hv tc hx hc hBDA d 
  have C185 := c185_mo_test__2 hH n c isNow hisNow hT hA hv tc hx hc hBDA d 
  have C312 := c312_mo_test__2 hH n c isNow hisNow hT hA hv tc hx hc hBDA d 
  have C244 := c244_mo_test__2 hH n c isNow hisNow hT hA hv tc hx hc hBDA d 
  have C203 := c203_mo_test__2 hH n c isNow hisNow hT hA hv tc hx hc hBDA d 
  have C13 := c13_mo_test__2 hH n c isNow hisNow hT hA hv tc hx hc hBDA d 
  have hF : FR md_mo_test__2 S S := FR.rf
  have w1 : 0 ≤ Xi S 904 65 ∧ Xi S 904 65 ≤ 1 := hH.c _ _
  have w2 : 0 ≤ Xi S 904 69 ∧ Xi S 904 69 ≤ 2600 := hH.c _ _
  have w3 : 0 ≤ Xi S 904 8 ∧ Xi S 904 8 ≤ 5010 := hH.c _ _
  have w4 : 0 ≤ Xi S 904 93 ∧ Xi S 904 93 ≤ 1700 := hH.c _ _
  have hn5 := hT.1
  have hat := hA
  have h8 : 0 ≤ Xi S 904 8 ∧ Xi S 904 8 ≤ 5010 := hH.c _ _
  have h69 : 0 ≤ Xi S 904 69 ∧ Xi S 904 69 ≤ 2600 := hH.c _ _
  have ha0 : Xi S 904 65 = 0 → Xi S 904 8 ≤ n := fun q => (hA q).1
  have ha3 : Xi S 904 65 = 0 → 2 * Xi S 904 69 ≤ Xi S 904 8 + 1 := fun q => (hA q).2.1
  clear hat
  clear ha0 ha3
  refine l_aload_n rfl rfl ?_
  refine l_gfi rfl rfl rfl rfl rfl ?_
  refine l_istore_n rfl rfl rfl ?_
  refine l_iconst rfl ?_
  refine l_istore_n rfl rfl rfl ?_
  refine l_aload_n rfl rfl ?_
  refine l_gfi rfl rfl rfl rfl rfl ?_
  refine l_istore rfl rfl rfl ?_
  exact Rl_weak (C13 _ ((Xi S 904 8)) (0) ((Xi S 904 8)) (by omega) (by omega) (by omega) (by omega) (by omega) (by first | assumption | exact (by assumption : BDA S)) rfl) (And.intro rfl (And.intro rfl (And.intro rfl (And.intro rfl (And.intro rfl (True.intro))))))
def md_mo_tests__2 : List rec := [(904, 905, 8, 9), (904, 905, 65, 66), (904, 905, 66, 67), (904, 905, 69, 70), (904, 905, 78, 79), (904, 905, 93, 94), (904, 905, 94, 95), (904, 905, 99, 100), (904, 905, 100, 101), (904, 905, 101, 102), (950, 951, 0, 100000), (951, 952, 0, 100000), (952, 953, 0, 100000), (953, 954, 0, 100000), (954, 955, 0, 100000), (955, 956, 0, 100000), (956, 957, 0, 100000), (957, 958, 0, 100000), (958, 959, 0, 100000), (959, 960, 0, 100000), (960, 961, 0, 100000), (961, 962, 0, 100000), (962, 963, 0, 100000)]
abbrev Q_mo_tests__2 (S : sS) (n : Nat) (c : Nat) : pst := fun r S1 => HI S1 ∧ FR md_mo_tests__2 S S1 ∧ (r = none ∧ (AT S1 n (c - 1)) ∧ (Xi S 904 8 ≤ Xi S1 904 8 ∧ (Xi S1 904 8 ≤ n ∨ Xi S1 904 8 = Xi S 904 8)) ∧ (RNV S1 n) ∧ (Xi S1 904 65 = 0 → Xi S 904 65 = 0) ∧ (Xi S 904 69 ≤ Xi S1 904 69) ∧ (Xi S1 904 94 = Xi S1 904 93) ∧ (Xi S1 904 93 ≤ 1668) ∧ (Xi S1 904 65 = 0 → TVA S1 n (Xi S1 904 93)) ∧ (BDA S1))
set_option maxRecDepth 100000 in
theorem t_mo_tests__2 {S : sS} (hH : HI S) (n : Nat) (c : Nat) (hT : TK S n) (hA : AT S n c) (hv : RNV S n) (hx : Xi S 904 8 ≤ n) (hc : 1 ≤ c) (h0 : Xi S 904 93 = 0) (hBDA : BDA S) (d : Nat) : Mt lay0 (d + 7) m_mo_tests [.ref 904] S (Q_mo_tests__2 S n c) := by
  refine Mt_R rfl rfl ?_
  have hF : FR md_mo_tests__2 S S := FR.rf
  have w1 : 0 ≤ Xi S 904 65 ∧ Xi S 904 65 ≤ 1 := hH.c _ _
  have w2 : 0 ≤ Xi S 904 69 ∧ Xi S 904 69 ≤ 2600 := hH.c _ _
  have w3 : 0 ≤ Xi S 904 8 ∧ Xi S 904 8 ≤ 5010 := hH.c _ _
  have w4 : 0 ≤ Xi S 904 93 ∧ Xi S 904 93 ≤ 1700 := hH.c _ _
  have hn5 := hT.1
  have hat := hA
  have h8 : 0 ≤ Xi S 904 8 ∧ Xi S 904 8 ≤ 5010 := hH.c _ _
  have h69 : 0 ≤ Xi S 904 69 ∧ Xi S 904 69 ≤ 2600 := hH.c _ _
  have ha0 : Xi S 904 65 = 0 → Xi S 904 8 ≤ n := fun q => (hA q).1
  have ha3 : Xi S 904 65 = 0 → 2 * Xi S 904 69 ≤ Xi S 904 8 + 1 := fun q => (hA q).2.1
  clear hat
  have C5 : ∀ (n5 : Nat) (T1 : sS) (_ : HI T1) (_ : FR md_mo_tests__2 S T1), (AT T1 n (c - 1)) → (RNV T1 n) → (Xi S 904 8 ≤ Xi T1 904 8) → (Xi T1 904 8 ≤ n) → (Xi T1 904 93 ≤ 1668) → (Xi S 904 69 ≤ Xi T1 904 69) → (Xi T1 904 65 = 0 → Xi S 904 65 = 0) → (Xi T1 904 65 = 0 → TVA T1 n (Xi T1 904 93)) → (BDA T1) → n5 = (5002 - Xi T1 904 8).toNat → Rl lay0 (d + 6) m_mo_tests 5 [(0, .ref 904)] [] T1 (Q_mo_tests__2 S n c) := by
    intro n5
    induction n5 using Nat.strongRecOn with
    | ind n5 ih5 =>
      intro T1 hHT1 hFT1 A5 V5 w5 w6 w7 w8 w9 E5 BDA_5 hm5
      have w10 : 0 ≤ Xi T1 904 65 ∧ Xi T1 904 65 ≤ 1 := hHT1.c _ _
      have w11 : 0 ≤ Xi T1 904 69 ∧ Xi T1 904 69 ≤ 2600 := hHT1.c _ _
      have w12 : 0 ≤ Xi T1 904 8 ∧ Xi T1 904 8 ≤ 5010 := hHT1.c _ _
      have w13 : 0 ≤ Xi T1 904 93 ∧ Xi T1 904 93 ≤ 1700 := hHT1.c _ _
      refine l_aload_n rfl rfl ?_
      refine l_bipush rfl rfl ?_
      refine l_callV rfl rfl rfl (t_mo_isNext hHT1 n (c - 1) 116 ⟨by omega, by omega⟩ (by first | assumption | exact (TK_FR hFT1 rfl (by assumption : TK S _))) (by first | assumption | exact (by assumption : AT T1 _ _)) _) ?_
      rintro _ _ ⟨rfl, z21, rfl, w21, w19, w20⟩
      show Rl _ _ _ _ _ [iv z21] _ _
      have j8 : z21 = 1 → Xi T1 904 65 = 0 ∧ Xi T1 907 (Xi T1 904 8).toNat = 116 := by assumption
      refine l_if_eq rfl rfl (by unfold rg; omega) (fun w22 => ?_) (fun w23 => ?_)
      · refine l_aload_n rfl rfl ?_
        refine l_aload_n rfl rfl ?_
        refine l_gfi rfl rfl rfl rfl rfl ?_
        refine l_pfi rfl rfl rfl rfl ?_
        obtain ⟨U2, eU2⟩ : ∃ T : sS, T = uI T1 904 94 (Int32.ofInt (Xi T1 904 93)) := ⟨_, rfl⟩
        rw [← eU2]
        have hHU2 : HI U2 := by rw [eU2]; exact HI_w hHT1 (show 0 ≤ (Xi T1 904 93) by omega) (show (Xi T1 904 93) ≤ 1700 by omega)
        have hFU2 : FR md_mo_tests__2 S U2 := by rw [eU2]; exact FR.wI hFT1 (mdf_i (r := (904, 905, 94, 95)) (List.mem_of_getElem? (i := 6) rfl) (inR_i (by omega) (by omega) (by omega) (by omega)))
        have w24 : Xi U2 904 94 = (Xi T1 904 93) := by rw [eU2]; exact Xi_same (by unfold rg; omega)
        have V37 : Xi U2 904 65 = 0 → TVA U2 n (Xi U2 904 93) := fun q i hi => by rw [eU2, Xi_ne (by omega)] at q hi; exact (E5 q i hi).mv (fun k a b => by rw [eU2, Xi_ne (by omega)]) (by rw [eU2, Xi_ne (by omega)]; exact Int.le_refl _) (fun j => by rw [eU2, Xi_ne (by omega)])
        refine l_return rfl rfl ?_
        have w25 : Xi U2 904 65 = Xi T1 904 65 := (show Xi U2 904 65 = Xi T1 904 65 from by rw [eU2]; exact Xi_ne (by omega))
        have w27 : Xi U2 904 69 = Xi T1 904 69 := (show Xi U2 904 69 = Xi T1 904 69 from by rw [eU2]; exact Xi_ne (by omega))
        have w29 : Xi U2 904 8 = Xi T1 904 8 := (show Xi U2 904 8 = Xi T1 904 8 from by rw [eU2]; exact Xi_ne (by omega))
        have w31 : Xi U2 904 93 = Xi T1 904 93 := (show Xi U2 904 93 = Xi T1 904 93 from by rw [eU2]; exact Xi_ne (by omega))
        have w33 : 0 ≤ Xi U2 904 94 ∧ Xi U2 904 94 ≤ 1700 := hHU2.c _ _
        exact ⟨hHU2, hFU2, rfl, (AT_FR (FR_e eU2) rfl A5), (by omega), (by first | assumption | exact (RNV_FR (FR_e eU2) rfl (by assumption : RNV T1 _))), (by omega), (by omega), (by omega), (by omega), (V37), (by first | assumption | exact (BDA_FR (FR_e eU2) rfl (by assumption : BDA T1)))⟩
      · refine l_aload_n rfl rfl ?_
        refine l_dup rfl rfl ?_
        refine l_gfi rfl rfl rfl rfl rfl ?_
        refine l_iconst rfl ?_
        refine l_iadd rfl ?_
        refine l_pfi rfl rfl rfl rfl ?_
        obtain ⟨U3, eU3⟩ : ∃ T : sS, T = uI T1 904 8 (Int32.ofInt ((Xi T1 904 8) + 1)) := ⟨_, rfl⟩
        rw [← eU3]
        have hHU3 : HI U3 := by rw [eU3]; exact HI_w hHT1 (show 0 ≤ ((Xi T1 904 8) + 1) by omega) (show ((Xi T1 904 8) + 1) ≤ 5010 by omega)
        have hFU3 : FR md_mo_tests__2 S U3 := by rw [eU3]; exact FR.wI hFT1 (mdf_i (r := (904, 905, 8, 9)) (List.mem_of_getElem? (i := 0) rfl) (inR_i (by omega) (by omega) (by omega) (by omega)))
        have w34 : Xi U3 904 8 = ((Xi T1 904 8) + 1) := by rw [eU3]; exact Xi_same (by unfold rg; omega)
        have b21 : Xi T1 904 93 ≤ 1666 := by have t := at_tc A5 hHT1 (by omega); omega
        have t21 : AT U3 n c ∧ _ := at_mv (S := T1) (P := T1) (c2 := c) (TK_FR hFT1 rfl hT) A5 (fun _ => rfl) (fun _ => rfl) rfl rfl rfl rfl eU3 (by omega) (by omega) (by omega) (by omega) (Or.inr ⟨by omega, Or.inl (by omega)⟩)
        have a21 : AT U3 n c := t21.1
        have K21 : KT U3 T1 (Xi T1 904 93) := KT_FR (FR_e eU3) rfl KT.rf
        have x21 : ∀ j, Xi U3 907 j = Xi T1 907 j := fun j => by rw [eU3, Xi_ne (by omega)]
        refine l_aload_n rfl rfl ?_
        refine l_iconst rfl ?_
        have w35 : Xi U3 904 65 = Xi T1 904 65 := (show Xi U3 904 65 = Xi T1 904 65 from by rw [eU3]; exact Xi_ne (by omega))
        have w37 : Xi U3 904 69 = Xi T1 904 69 := (show Xi U3 904 69 = Xi T1 904 69 from by rw [eU3]; exact Xi_ne (by omega))
        have w39 : 0 ≤ Xi U3 904 8 ∧ Xi U3 904 8 ≤ 5010 := hHU3.c _ _
        have w40 : Xi U3 904 93 = Xi T1 904 93 := (show Xi U3 904 93 = Xi T1 904 93 from by rw [eU3]; exact Xi_ne (by omega))
        refine l_callV rfl rfl rfl (t_mo_test__2 hHU3 n c 0 ⟨by omega, by omega⟩ (by first | assumption | exact (TK_FR hFU3 rfl (by assumption : TK S _))) (by first | assumption | exact (by assumption : AT U3 _ _)) (by first | assumption | exact (RNV_FR (FR_e eU3) rfl (by assumption : RNV T1 _))) (by first | assumption | omega) (by first | assumption | omega) (by first | assumption | omega) (by first | assumption | exact (BDA_FR (FR_e eU3) rfl (by assumption : BDA T1))) _) ?_
        rintro _ T4 ⟨hHT4, w53, rfl, w44, w45, w46, w47, w48, k26, w49, v26, w50, w51⟩
        have hFT4 : FR md_mo_tests__2 S T4 := FR.tr hFU3 w53 rfl
        show Rl _ _ _ _ _ [] _ _
        have V26 : Xi T4 904 65 = 0 → TVA T4 n (Xi T4 904 93) := fun q => ((E5 (by omega)).mv (KT.tr K21 k26 (by omega)) (by omega) (fun j => ((by assumption : FR md_mo_test U3 T4).cx 907 rfl j).1.trans (x21 j))).add (by omega) (by omega) (by rw [show (Xi T1 904 93).toNat = (Xi U3 904 93).toNat by omega]; exact v26 q)
        refine l_goto rfl rfl ?_
        have w54 : 0 ≤ Xi T4 904 65 ∧ Xi T4 904 65 ≤ 1 := hHT4.c _ _
        have w55 : 0 ≤ Xi T4 904 69 ∧ Xi T4 904 69 ≤ 2600 := hHT4.c _ _
        have w56 : 0 ≤ Xi T4 904 8 ∧ Xi T4 904 8 ≤ 5010 := hHT4.c _ _
        have w57 : 0 ≤ Xi T4 904 93 ∧ Xi T4 904 93 ≤ 1700 := hHT4.c _ _
        have w58 : Xi T4 904 94 = Xi T1 904 94 := (show Xi T4 904 94 = Xi U3 904 94 from w53.x _ _ rfl).trans ((show Xi U3 904 94 = Xi T1 904 94 from by rw [eU3]; exact Xi_ne (by omega)))
        have w59 : 0 ≤ Xi T1 904 94 ∧ Xi T1 904 94 ≤ 1700 := hHT1.c _ _
        exact Rl_weak (ih5 _ (by omega) T4 hHT4 hFT4  (by assumption) (by assumption) (by omega) (by omega) (by omega) (by omega) (by omega) (by first | exact V26 | exact V2) (by first | assumption | exact (by assumption : BDA T4)) rfl) (And.intro rfl (True.intro))
  refine l_aload_n rfl rfl ?_
  refine l_iconst rfl ?_
  refine l_callV rfl rfl rfl (t_mo_test__2 hH n c 0 ⟨by omega, by omega⟩ (by first | assumption | exact (TK_FR hF rfl (by assumption : TK S _))) (by first | assumption | exact (by assumption : AT S _ _)) (by first | assumption | exact (by assumption : RNV S _)) (by first | assumption | omega) (by first | assumption | omega) (by first | assumption | omega) (by first | assumption | exact (by assumption : BDA S)) _) ?_
  rintro _ T5 ⟨hHT5, w74, rfl, w65, w66, w67, w68, w69, k2_, w70, v2_, w71, w72⟩
  have hFT5 : FR md_mo_tests__2 S T5 := FR.tr hF w74 rfl
  show Rl _ _ _ _ _ [] _ _
  have V2 : Xi T5 904 65 = 0 → TVA T5 n (Xi T5 904 93) := fun q i hi => by rw [show i = (Xi S 904 93).toNat by omega]; exact v2_ q
  have w75 : 0 ≤ Xi T5 904 65 ∧ Xi T5 904 65 ≤ 1 := hHT5.c _ _
  have w76 : 0 ≤ Xi T5 904 69 ∧ Xi T5 904 69 ≤ 2600 := hHT5.c _ _
  have w77 : 0 ≤ Xi T5 904 8 ∧ Xi T5 904 8 ≤ 5010 := hHT5.c _ _
  have w78 : 0 ≤ Xi T5 904 93 ∧ Xi T5 904 93 ≤ 1700 := hHT5.c _ _
  have w79 : Xi T5 904 94 = Xi S 904 94 := (show Xi T5 904 94 = Xi S 904 94 from w74.x _ _ rfl)
  have w80 : 0 ≤ Xi S 904 94 ∧ Xi S 904 94 ≤ 1700 := hH.c _ _
  exact Rl_weak (C5 _ T5 hHT5 hFT5  (by assumption) (by assumption) (by omega) (by omega) (by omega) (by omega) (by omega) (by first | exact V26 | exact V2) (by first | assumption | exact (by assumption : BDA T5)) rfl) (And.intro rfl (True.intro))

