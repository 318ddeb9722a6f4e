/-! SAFETY of methods: printed by wip/safe (vc.py, decl.py) -/
def md_mo_test : List rec := [(904, 905, 8, 9), (904, 905, 65, 66), (904, 905, 66, 67), (904, 905, 69, 70), (904, 905, 78, 79), (904, 905, 93, 94), (904, 905, 99, 100), (904, 905, 100, 101), (904, 905, 101, 102), (950, 951, 0, 100000), (951, 952, 0, 100000), (952, 953, 0, 100000), (953, 954, 0, 100000), (954, 955, 0, 100000), (955, 956, 0, 100000), (956, 957, 0, 100000), (957, 958, 0, 100000), (958, 959, 0, 100000), (959, 960, 0, 100000), (960, 961, 0, 100000), (961, 962, 0, 100000), (962, 963, 0, 100000)]
abbrev Q_mo_test (S : sS) (n : Nat) (c : Nat) (isNow : Int) : pst := fun r S1 => HI S1 ∧ FR md_mo_test S S1 ∧ (r = none ∧ (AT S1 n (c - 1)) ∧ (Xi S 904 8 ≤ Xi S1 904 8 ∧ (Xi S1 904 8 ≤ n ∨ Xi S1 904 8 = Xi S 904 8)) ∧ (RNV S1 n) ∧ (Xi S1 904 65 = 0 → Xi S 904 65 = 0) ∧ (Xi S 904 69 ≤ Xi S1 904 69) ∧ (KT S1 S (Xi S 904 93)) ∧ (Xi S1 904 93 = Xi S 904 93 + 1) ∧ (Xi S1 904 65 = 0 → TV S1 n (Xi S 904 93).toNat) ∧ (Xi S1 904 65 = 0 → isNow = 1 → Xi S1 952 (Xi S 904 93).toNat = 0 ∨ Xi S1 952 (Xi S 904 93).toNat = 3 ∨ Xi S1 952 (Xi S 904 93).toNat = 5))
set_option maxRecDepth 100000 in
set_option maxHeartbeats 8000000 in
theorem t_mo_test {S : sS} (hH : HI S) (n : Nat) (c : Nat) (isNow : Int) (hisNow : 0 ≤ isNow ∧ isNow ≤ 1) (hT : TK S n) (hA : AT S n c) (hv : RNV S n) (tc : Xi S 904 93 ≤ 1699) (hx : Xi S 904 8 ≤ n) (hc : 1 ≤ c) (d : Nat) : Mt lay0 (d + 6) m_mo_test [.ref 904, iv isNow] S (Q_mo_test S n c isNow) := by
  refine Mt_R rfl rfl ?_
  have hF : FR md_mo_test S S := FR.rf
  have w1 : 0 ≤ Xi S 904 65 ∧ Xi S 904 65 ≤ 1 := hH.c _ _
  have w2 : 0 ≤ Xi S 904 69 ∧ Xi S 904 69 ≤ 2600 := hH.c _ _
  have w3 : 0 ≤ Xi S 904 8 ∧ Xi S 904 8 ≤ 5010 := hH.c _ _
  have w4 : 0 ≤ Xi S 904 93 ∧ Xi S 904 93 ≤ 1700 := hH.c _ _
  have hn5 := hT.1
  have hat := hA
  have h8 : 0 ≤ Xi S 904 8 ∧ Xi S 904 8 ≤ 5010 := hH.c _ _
  have h69 : 0 ≤ Xi S 904 69 ∧ Xi S 904 69 ≤ 2600 := hH.c _ _
  have ha0 : Xi S 904 65 = 0 → Xi S 904 8 ≤ n := fun q => (hA q).1
  have ha3 : Xi S 904 65 = 0 → 2 * Xi S 904 69 ≤ Xi S 904 8 + 1 := fun q => (hA q).2.1
  clear hat
  clear ha0 ha3
  have C13 : ∀ (n13 : Nat) (v2 : Int) (v3 : Int) (v4 : Int), (0 ≤ v2 ∧ v2 ≤ 5010) → (0 ≤ v3 ∧ v3 ≤ 1) → (0 ≤ v4 ∧ v4 ≤ 5001) → (v2 = Xi S 904 8) → (Xi S 904 8 ≤ v4 ∧ v4 ≤ n) → n13 = (5002 - v4).toNat → Rl lay0 (d + 5) m_mo_test 13 [(0, .ref 904), (1, iv isNow), (2, iv v2), (3, iv v3), (4, iv v4)] [] S (Q_mo_test S n c isNow) := by
    intro n13
    induction n13 using Nat.strongRecOn with
    | ind n13 ih13 =>
      intro v2 v3 v4 w5 w6 w7 w8 w9 hm13
      have C351 : ∀  (T1 : sS) (_ : HI T1) (_ : FR md_mo_test S T1), (AT T1 n c) → (RNV T1 n) → (Xi S 904 8 ≤ Xi T1 904 8) → (Xi T1 904 8 ≤ n) → (Xi T1 904 93 = Xi S 904 93) → (Xi S 904 69 ≤ Xi T1 904 69) → (Xi T1 904 65 = 0 → Xi S 904 65 = 0) → (Xi T1 961 (Xi S 904 93).toNat = Xi S 904 8) → (KT T1 S (Xi S 904 93)) → (Xi T1 904 65 = 0 → TVx T1 n (Xi S 904 93).toNat) → (Xi T1 904 65 = 0 → isNow = 1 → Xi T1 952 (Xi S 904 93).toNat = 0 ∨ Xi T1 952 (Xi S 904 93).toNat = 3 ∨ Xi T1 952 (Xi S 904 93).toNat = 5) → Rl lay0 (d + 5) m_mo_test 351 [(0, .ref 904), (1, iv isNow)] [] T1 (Q_mo_test S n c isNow) := by
        intro T1 hHT1 hFT1 A351 V351 w10 w11 w12 w13 w14 w15 K351 E351 w16
        have w17 : 0 ≤ Xi T1 904 65 ∧ Xi T1 904 65 ≤ 1 := hHT1.c _ _
        have w18 : 0 ≤ Xi T1 904 69 ∧ Xi T1 904 69 ≤ 2600 := hHT1.c _ _
        have w19 : 0 ≤ Xi T1 904 8 ∧ Xi T1 904 8 ≤ 5010 := hHT1.c _ _
        have w20 : 0 ≤ Xi T1 904 93 ∧ Xi T1 904 93 ≤ 1700 := hHT1.c _ _
        refine l_aload_n rfl rfl ?_
        refine l_gfr rfl rfl rfl rfl rfl (hHT1.r 904 92 962 rfl) ?_
        refine l_aload_n rfl rfl ?_
        refine l_gfi rfl rfl rfl rfl rfl ?_
        refine l_aload_n rfl rfl ?_
        refine l_gfi rfl rfl rfl rfl rfl ?_
        refine l_iastore (n := 1700) rfl rfl (by omega) (by omega) (by unfold rg; omega) ?_
        obtain ⟨U2, eU2⟩ : ∃ T : sS, T = uI T1 962 (((Xi T1 904 93)).toNat) (Int32.ofInt (Xi T1 904 8)) := ⟨_, rfl⟩
        rw [← eU2]
        have hHU2 : HI U2 := by rw [eU2]; exact HI_w hHT1 (show 0 ≤ (Xi T1 904 8) by omega) (show (Xi T1 904 8) ≤ 5010 by omega)
        have hFU2 : FR md_mo_test S U2 := by rw [eU2]; exact FR.wI hFT1 (mdf_i (r := (962, 963, 0, 100000)) (List.mem_of_getElem? (i := 21) rfl) (inR_i (by omega) (by omega) (by omega) (by omega)))
        have w21 : Xi U2 962 (((Xi T1 904 93)).toNat) = (Xi T1 904 8) := by rw [eU2]; exact Xi_same (by unfold rg; omega)
        have e363 : Xi U2 962 (Xi S 904 93).toNat = Xi T1 904 8 := by rw [show (Xi S 904 93).toNat = (Xi T1 904 93).toNat by omega]; assumption
        have E363 : Xi U2 904 65 = 0 → TVx U2 n (Xi S 904 93).toNat := fun q => tvx_w (E351 (by rw [eU2, Xi_ne (by omega)] at q; exact q)) eU2 (by omega)
        refine l_aload_n rfl rfl ?_
        refine l_gfi rfl rfl rfl rfl rfl ?_
        have w22 : (Xi U2 904 65) = (Xi T1 904 65) := (show Xi U2 904 65 = Xi T1 904 65 from by rw [eU2]; exact Xi_ne (by omega))
        rw [w22]
        refine l_if_ne rfl rfl (by unfold rg; omega) (fun w23 => ?_) (fun w24 => ?_)
        · refine l_aload_n rfl rfl ?_
          refine l_dup rfl rfl ?_
          refine l_gfi rfl rfl rfl rfl rfl ?_
          have w25 : (Xi U2 904 93) = (Xi T1 904 93) := (show Xi U2 904 93 = Xi T1 904 93 from by rw [eU2]; exact Xi_ne (by omega))
          rw [w25]
          refine l_iconst rfl ?_
          refine l_iadd rfl ?_
          refine l_pfi rfl rfl rfl rfl ?_
          obtain ⟨U3, eU3⟩ : ∃ T : sS, T = uI U2 904 93 (Int32.ofInt ((Xi T1 904 93) + 1)) := ⟨_, rfl⟩
          rw [← eU3]
          have hHU3 : HI U3 := by rw [eU3]; exact HI_w hHU2 (show 0 ≤ ((Xi T1 904 93) + 1) by omega) (show ((Xi T1 904 93) + 1) ≤ 1700 by omega)
          have hFU3 : FR md_mo_test S U3 := by rw [eU3]; exact FR.wI hFU2 (mdf_i (r := (904, 905, 93, 94)) (List.mem_of_getElem? (i := 5) rfl) (inR_i (by omega) (by omega) (by omega) (by omega)))
          have w26 : Xi U3 904 93 = ((Xi T1 904 93) + 1) := by rw [eU3]; exact Xi_same (by unfold rg; omega)
          have E399 : Xi U3 904 65 = 0 → TVx U3 n (Xi S 904 93).toNat := by first | exact fun q => tvx_w (E363 (by rw [eU3, Xi_ne (by omega)] at q; omega)) eU3 (by omega) | exact fun q => absurd q (by rw [eU3, Xi_ne (by omega)]; omega)
          refine l_return rfl rfl ?_
          have w27 : Xi U3 952 (Xi S 904 93).toNat = Xi T1 952 (Xi S 904 93).toNat := (show Xi U3 952 (Xi S 904 93).toNat = Xi U2 952 (Xi S 904 93).toNat from by rw [eU3]; exact Xi_ne (by omega)).trans ((show Xi U2 952 (Xi S 904 93).toNat = Xi T1 952 (Xi S 904 93).toNat from by rw [eU2]; exact Xi_ne (by omega)))
          have w28 : Xi U3 961 (Xi S 904 93).toNat = Xi T1 961 (Xi S 904 93).toNat := (show Xi U3 961 (Xi S 904 93).toNat = Xi U2 961 (Xi S 904 93).toNat from by rw [eU3]; exact Xi_ne (by omega)).trans ((show Xi U2 961 (Xi S 904 93).toNat = Xi T1 961 (Xi S 904 93).toNat from by rw [eU2]; exact Xi_ne (by omega)))
          have w29 : Xi U3 962 (Xi S 904 93).toNat = Xi U2 962 (Xi S 904 93).toNat := (show Xi U3 962 (Xi S 904 93).toNat = Xi U2 962 (Xi S 904 93).toNat from by rw [eU3]; exact Xi_ne (by omega))
          have w30 : Xi U3 904 65 = Xi T1 904 65 := (show Xi U3 904 65 = Xi U2 904 65 from by rw [eU3]; exact Xi_ne (by omega)).trans ((show Xi U2 904 65 = Xi T1 904 65 from by rw [eU2]; exact Xi_ne (by omega)))
          have w31 : 0 ≤ Xi T1 904 65 ∧ Xi T1 904 65 ≤ 1 := hHT1.c _ _
          have w32 : Xi U3 904 69 = Xi T1 904 69 := (show Xi U3 904 69 = Xi U2 904 69 from by rw [eU3]; exact Xi_ne (by omega)).trans ((show Xi U2 904 69 = Xi T1 904 69 from by rw [eU2]; exact Xi_ne (by omega)))
          have w33 : 0 ≤ Xi T1 904 69 ∧ Xi T1 904 69 ≤ 2600 := hHT1.c _ _
          have w34 : Xi U3 904 8 = Xi T1 904 8 := (show Xi U3 904 8 = Xi U2 904 8 from by rw [eU3]; exact Xi_ne (by omega)).trans ((show Xi U2 904 8 = Xi T1 904 8 from by rw [eU2]; exact Xi_ne (by omega)))
          have w35 : 0 ≤ Xi T1 904 8 ∧ Xi T1 904 8 ≤ 5010 := hHT1.c _ _
          have w36 : 0 ≤ Xi U3 904 93 ∧ Xi U3 904 93 ≤ 1700 := hHU3.c _ _
          exact ⟨hHU3, hFU3, rfl, (by first | exact at_ct (by first | assumption | exact AT_FR (FR_e eU2) rfl (by assumption)) eU3 (by omega) (by omega) (by omega) | exact AT_bad (by omega)), (by omega), (by first | assumption | exact (RNV_FR (FR_e eU3) rfl (RNV_FR (FR_e eU2) rfl (by assumption : RNV T1 _)))), (by omega), (by omega), ((KT_FR (FR_e eU3) rfl (KT.w (by assumption : KT T1 S _) eU2 (by omega)))), (by omega), (fun q => ⟨⟨by omega, by omega⟩, E399 q⟩), (by omega)⟩
        · refine l_aload_n rfl rfl ?_
          refine l_aload_n rfl rfl ?_
          refine l_gfr rfl rfl rfl rfl rfl (hHU2.r 904 4 907 rfl) ?_
          refine l_aload_n rfl rfl ?_
          refine l_gfi rfl rfl rfl rfl rfl ?_
          have w37 : (Xi U2 904 8) = (Xi T1 904 8) := (show Xi U2 904 8 = Xi T1 904 8 from by rw [eU2]; exact Xi_ne (by omega))
          rw [w37]
          refine l_iaload (n := 5002) rfl rfl (by omega) (by omega) (by unfold rg; omega) ?_
          have w38 : 0 ≤ (Xi U2 907 (((Xi T1 904 8)).toNat)) ∧ (Xi U2 907 (((Xi T1 904 8)).toNat)) ≤ 154 := hHU2.c _ _
          refine l_iload_n rfl rfl ?_
          have w39 : Xi U2 904 65 = Xi T1 904 65 := (show Xi U2 904 65 = Xi T1 904 65 from by rw [eU2]; exact Xi_ne (by omega))
          have w40 : 0 ≤ Xi T1 904 65 ∧ Xi T1 904 65 ≤ 1 := hHT1.c _ _
          have w41 : Xi U2 904 69 = Xi T1 904 69 := (show Xi U2 904 69 = Xi T1 904 69 from by rw [eU2]; exact Xi_ne (by omega))
          have w42 : 0 ≤ Xi T1 904 69 ∧ Xi T1 904 69 ≤ 2600 := hHT1.c _ _
          have w43 : Xi U2 904 8 = Xi T1 904 8 := (show Xi U2 904 8 = Xi T1 904 8 from by rw [eU2]; exact Xi_ne (by omega))
          have w44 : 0 ≤ Xi T1 904 8 ∧ Xi T1 904 8 ≤ 5010 := hHT1.c _ _
          have w45 : Xi U2 904 93 = Xi T1 904 93 := (show Xi U2 904 93 = Xi T1 904 93 from by rw [eU2]; exact Xi_ne (by omega))
          have w46 : 0 ≤ Xi T1 904 93 ∧ Xi T1 904 93 ≤ 1700 := hHT1.c _ _
          refine l_callV rfl rfl rfl (t_mo_endsTest hHU2 (Xi U2 907 (((Xi T1 904 8)).toNat)) isNow ⟨by omega, by omega⟩ ⟨by omega, by omega⟩ _) ?_
          rintro _ _ ⟨rfl, z48, rfl, w48, w47⟩
          show Rl _ _ _ _ _ [iv z48] _ _
          refine l_if_ne rfl rfl (by unfold rg; omega) (fun w49 => ?_) (fun w50 => ?_)
          · refine l_aload_n rfl rfl ?_
            refine l_dup rfl rfl ?_
            refine l_gfi rfl rfl rfl rfl rfl ?_
            have w51 : (Xi U2 904 93) = (Xi T1 904 93) := (show Xi U2 904 93 = Xi T1 904 93 from by rw [eU2]; exact Xi_ne (by omega))
            rw [w51]
            refine l_iconst rfl ?_
            refine l_iadd rfl ?_
            refine l_pfi rfl rfl rfl rfl ?_
            obtain ⟨U4, eU4⟩ : ∃ T : sS, T = uI U2 904 93 (Int32.ofInt ((Xi T1 904 93) + 1)) := ⟨_, rfl⟩
            rw [← eU4]
            have hHU4 : HI U4 := by rw [eU4]; exact HI_w hHU2 (show 0 ≤ ((Xi T1 904 93) + 1) by omega) (show ((Xi T1 904 93) + 1) ≤ 1700 by omega)
            have hFU4 : FR md_mo_test S U4 := by rw [eU4]; exact FR.wI hFU2 (mdf_i (r := (904, 905, 93, 94)) (List.mem_of_getElem? (i := 5) rfl) (inR_i (by omega) (by omega) (by omega) (by omega)))
            have w52 : Xi U4 904 93 = ((Xi T1 904 93) + 1) := by rw [eU4]; exact Xi_same (by unfold rg; omega)
            have E399 : Xi U4 904 65 = 0 → TVx U4 n (Xi S 904 93).toNat := by first | exact fun q => tvx_w (E363 (by rw [eU4, Xi_ne (by omega)] at q; omega)) eU4 (by omega) | exact fun q => absurd q (by rw [eU4, Xi_ne (by omega)]; omega)
            refine l_return rfl rfl ?_
            have w53 : Xi U4 952 (Xi S 904 93).toNat = Xi T1 952 (Xi S 904 93).toNat := (show Xi U4 952 (Xi S 904 93).toNat = Xi U2 952 (Xi S 904 93).toNat from by rw [eU4]; exact Xi_ne (by omega)).trans ((show Xi U2 952 (Xi S 904 93).toNat = Xi T1 952 (Xi S 904 93).toNat from by rw [eU2]; exact Xi_ne (by omega)))
            have w54 : Xi U4 961 (Xi S 904 93).toNat = Xi T1 961 (Xi S 904 93).toNat := (show Xi U4 961 (Xi S 904 93).toNat = Xi U2 961 (Xi S 904 93).toNat from by rw [eU4]; exact Xi_ne (by omega)).trans ((show Xi U2 961 (Xi S 904 93).toNat = Xi T1 961 (Xi S 904 93).toNat from by rw [eU2]; exact Xi_ne (by omega)))
            have w55 : Xi U4 962 (Xi S 904 93).toNat = Xi U2 962 (Xi S 904 93).toNat := (show Xi U4 962 (Xi S 904 93).toNat = Xi U2 962 (Xi S 904 93).toNat from by rw [eU4]; exact Xi_ne (by omega))
            have w56 : Xi U4 904 65 = Xi T1 904 65 := (show Xi U4 904 65 = Xi U2 904 65 from by rw [eU4]; exact Xi_ne (by omega)).trans ((show Xi U2 904 65 = Xi T1 904 65 from by rw [eU2]; exact Xi_ne (by omega)))
            have w57 : 0 ≤ Xi T1 904 65 ∧ Xi T1 904 65 ≤ 1 := hHT1.c _ _
            have w58 : Xi U4 904 69 = Xi T1 904 69 := (show Xi U4 904 69 = Xi U2 904 69 from by rw [eU4]; exact Xi_ne (by omega)).trans ((show Xi U2 904 69 = Xi T1 904 69 from by rw [eU2]; exact Xi_ne (by omega)))
            have w59 : 0 ≤ Xi T1 904 69 ∧ Xi T1 904 69 ≤ 2600 := hHT1.c _ _
            have w60 : Xi U4 904 8 = Xi T1 904 8 := (show Xi U4 904 8 = Xi U2 904 8 from by rw [eU4]; exact Xi_ne (by omega)).trans ((show Xi U2 904 8 = Xi T1 904 8 from by rw [eU2]; exact Xi_ne (by omega)))
            have w61 : 0 ≤ Xi T1 904 8 ∧ Xi T1 904 8 ≤ 5010 := hHT1.c _ _
            have w62 : 0 ≤ Xi U4 904 93 ∧ Xi U4 904 93 ≤ 1700 := hHU4.c _ _
            exact ⟨hHU4, hFU4, rfl, (by first | exact at_ct (by first | assumption | exact AT_FR (FR_e eU2) rfl (by assumption)) eU4 (by omega) (by omega) (by omega) | exact AT_bad (by omega)), (by omega), (by first | assumption | exact (RNV_FR (FR_e eU4) rfl (RNV_FR (FR_e eU2) rfl (by assumption : RNV T1 _)))), (by omega), (by omega), ((KT_FR (FR_e eU4) rfl (KT.w (by assumption : KT T1 S _) eU2 (by omega)))), (by omega), (fun q => ⟨⟨by omega, by omega⟩, E399 q⟩), (by omega)⟩
          · refine l_aload_n rfl rfl ?_
            have w63 : Xi U2 904 65 = Xi T1 904 65 := (show Xi U2 904 65 = Xi T1 904 65 from by rw [eU2]; exact Xi_ne (by omega))
            have w64 : 0 ≤ Xi T1 904 65 ∧ Xi T1 904 65 ≤ 1 := hHT1.c _ _
            have w65 : Xi U2 904 69 = Xi T1 904 69 := (show Xi U2 904 69 = Xi T1 904 69 from by rw [eU2]; exact Xi_ne (by omega))
            have w66 : 0 ≤ Xi T1 904 69 ∧ Xi T1 904 69 ≤ 2600 := hHT1.c _ _
            have w67 : Xi U2 904 8 = Xi T1 904 8 := (show Xi U2 904 8 = Xi T1 904 8 from by rw [eU2]; exact Xi_ne (by omega))
            have w68 : 0 ≤ Xi T1 904 8 ∧ Xi T1 904 8 ≤ 5010 := hHT1.c _ _
            have w69 : Xi U2 904 93 = Xi T1 904 93 := (show Xi U2 904 93 = Xi T1 904 93 from by rw [eU2]; exact Xi_ne (by omega))
            have w70 : 0 ≤ Xi T1 904 93 ∧ Xi T1 904 93 ≤ 1700 := hHT1.c _ _
            refine l_callV rfl rfl rfl (t_mo_odd hHU2 _) ?_
            rintro _ T5 ⟨hHT5, w74, rfl, w71, w72⟩
            have hFT5 : FR md_mo_test S T5 := FR.tr hFU2 w74 rfl
            show Rl _ _ _ _ _ [] _ _
            have w76 : Xi T5 904 8 = Xi T1 904 8 := (show Xi T5 904 8 = Xi U2 904 8 from w74.x _ _ rfl).trans ((show Xi U2 904 8 = Xi T1 904 8 from by rw [eU2]; exact Xi_ne (by omega)))
            have w77 : 0 ≤ Xi T1 904 8 ∧ Xi T1 904 8 ≤ 5010 := hHT1.c _ _
            have w78 : 0 ≤ Xi T5 904 65 ∧ Xi T5 904 65 ≤ 1 := hHT5.c _ _
            have w79 : Xi T5 904 69 = Xi T1 904 69 := (show Xi T5 904 69 = Xi U2 904 69 from w74.x _ _ rfl).trans ((show Xi U2 904 69 = Xi T1 904 69 from by rw [eU2]; exact Xi_ne (by omega)))
            have w80 : 0 ≤ Xi T1 904 69 ∧ Xi T1 904 69 ≤ 2600 := hHT1.c _ _
            have w81 : Xi T5 904 93 = Xi T1 904 93 := (show Xi T5 904 93 = Xi U2 904 93 from w74.x _ _ rfl).trans ((show Xi U2 904 93 = Xi T1 904 93 from by rw [eU2]; exact Xi_ne (by omega)))
            have w82 : 0 ≤ Xi T1 904 93 ∧ Xi T1 904 93 ≤ 1700 := hHT1.c _ _
            have w75 : Xi S 904 8 ≤ Xi T5 904 8 ∧ Xi T5 904 8 ≤ n ∧ Xi S 904 69 ≤ Xi T5 904 69 ∧ (Xi T5 904 65 = 0 → Xi S 904 65 = 0) := by omega
            clear w72
            refine l_aload_n rfl rfl ?_
            refine l_dup rfl rfl ?_
            refine l_gfi rfl rfl rfl rfl rfl ?_
            have w83 : (Xi T5 904 93) = (Xi T1 904 93) := (show Xi T5 904 93 = Xi U2 904 93 from w74.x _ _ rfl).trans ((show Xi U2 904 93 = Xi T1 904 93 from by rw [eU2]; exact Xi_ne (by omega)))
            rw [w83]
            refine l_iconst rfl ?_
            refine l_iadd rfl ?_
            refine l_pfi rfl rfl rfl rfl ?_
            obtain ⟨U6, eU6⟩ : ∃ T : sS, T = uI T5 904 93 (Int32.ofInt ((Xi T1 904 93) + 1)) := ⟨_, rfl⟩
            rw [← eU6]
            have hHU6 : HI U6 := by rw [eU6]; exact HI_w hHT5 (show 0 ≤ ((Xi T1 904 93) + 1) by omega) (show ((Xi T1 904 93) + 1) ≤ 1700 by omega)
            have hFU6 : FR md_mo_test S U6 := by rw [eU6]; exact FR.wI hFT5 (mdf_i (r := (904, 905, 93, 94)) (List.mem_of_getElem? (i := 5) rfl) (inR_i (by omega) (by omega) (by omega) (by omega)))
            have w84 : Xi U6 904 93 = ((Xi T1 904 93) + 1) := by rw [eU6]; exact Xi_same (by unfold rg; omega)
            have E399 : Xi U6 904 65 = 0 → TVx U6 n (Xi S 904 93).toNat := by first | exact fun q => tvx_w (E363 (by rw [eU6, Xi_ne (by omega)] at q; omega)) eU6 (by omega) | exact fun q => absurd q (by rw [eU6, Xi_ne (by omega)]; omega)
            refine l_return rfl rfl ?_
            have w85 : Xi U6 952 (Xi S 904 93).toNat = Xi T1 952 (Xi S 904 93).toNat := (show Xi U6 952 (Xi S 904 93).toNat = Xi T5 952 (Xi S 904 93).toNat from by rw [eU6]; exact Xi_ne (by omega)).trans ( (show Xi T5 952 (Xi S 904 93).toNat = Xi U2 952 (Xi S 904 93).toNat from (w74.cx 952 rfl _).1).trans ((show Xi U2 952 (Xi S 904 93).toNat = Xi T1 952 (Xi S 904 93).toNat from by rw [eU2]; exact Xi_ne (by omega))))
            have w86 : Xi U6 961 (Xi S 904 93).toNat = Xi T1 961 (Xi S 904 93).toNat := (show Xi U6 961 (Xi S 904 93).toNat = Xi T5 961 (Xi S 904 93).toNat from by rw [eU6]; exact Xi_ne (by omega)).trans ( (show Xi T5 961 (Xi S 904 93).toNat = Xi U2 961 (Xi S 904 93).toNat from (w74.cx 961 rfl _).1).trans ((show Xi U2 961 (Xi S 904 93).toNat = Xi T1 961 (Xi S 904 93).toNat from by rw [eU2]; exact Xi_ne (by omega))))
            have w87 : Xi U6 962 (Xi S 904 93).toNat = Xi U2 962 (Xi S 904 93).toNat := (show Xi U6 962 (Xi S 904 93).toNat = Xi T5 962 (Xi S 904 93).toNat from by rw [eU6]; exact Xi_ne (by omega)).trans ((show Xi T5 962 (Xi S 904 93).toNat = Xi U2 962 (Xi S 904 93).toNat from (w74.cx 962 rfl _).1))
            have w88 : Xi U6 904 65 = Xi T5 904 65 := (show Xi U6 904 65 = Xi T5 904 65 from by rw [eU6]; exact Xi_ne (by omega))
            have w89 : 0 ≤ Xi T5 904 65 ∧ Xi T5 904 65 ≤ 1 := hHT5.c _ _
            have w90 : Xi U6 904 69 = Xi T1 904 69 := (show Xi U6 904 69 = Xi T5 904 69 from by rw [eU6]; exact Xi_ne (by omega)).trans ( (show Xi T5 904 69 = Xi U2 904 69 from w74.x _ _ rfl).trans ((show Xi U2 904 69 = Xi T1 904 69 from by rw [eU2]; exact Xi_ne (by omega))))
            have w91 : 0 ≤ Xi T1 904 69 ∧ Xi T1 904 69 ≤ 2600 := hHT1.c _ _
            have w92 : Xi U6 904 8 = Xi T1 904 8 := (show Xi U6 904 8 = Xi T5 904 8 from by rw [eU6]; exact Xi_ne (by omega)).trans ( (show Xi T5 904 8 = Xi U2 904 8 from w74.x _ _ rfl).trans ((show Xi U2 904 8 = Xi T1 904 8 from by rw [eU2]; exact Xi_ne (by omega))))
            have w93 : 0 ≤ Xi T1 904 8 ∧ Xi T1 904 8 ≤ 5010 := hHT1.c _ _
            have w94 : 0 ≤ Xi U6 904 93 ∧ Xi U6 904 93 ≤ 1700 := hHU6.c _ _
            exact ⟨hHU6, hFU6, rfl, (by first | exact at_ct (by first | assumption | exact AT_FR (FR_e ) rfl (by assumption)) eU6 (by omega) (by omega) (by omega) | exact AT_bad (by omega)), (by omega), (by first | assumption | exact (RNV_FR (FR_e eU6) rfl (RNV_FR w74 rfl (RNV_FR (FR_e eU2) rfl (by assumption : RNV T1 _))))), (by omega), (by omega), ((KT_FR (FR_e eU6) rfl (KT_FR w74 rfl (KT.w (by assumption : KT T1 S _) eU2 (by omega))))), (by omega), (fun q => ⟨⟨by omega, by omega⟩, E399 q⟩), (by omega)⟩
      have C96 : ∀ (n96 : Nat) (T7 : sS) (_ : HI T7) (_ : FR md_mo_test S T7) (v2 : Int) (v4 : Int), (0 ≤ v2 ∧ v2 ≤ 5010) → (0 ≤ v4 ∧ v4 ≤ 154) → (v2 = Xi S 904 8) → (AT T7 n c) → (RNV T7 n) → (v4 ≠ 1 → Xi T7 904 65 = 0 ∧ Xi T7 907 (Xi T7 904 8).toNat = v4) → (Xi T7 904 65 = Xi S 904 65) → (Xi T7 904 69 = Xi S 904 69) → (Xi T7 904 93 = Xi S 904 93) → (Xi S 904 8 ≤ Xi T7 904 8 ∧ Xi T7 904 8 ≤ n) → (Xi T7 952 (Xi S 904 93).toNat = 5) → (Xi T7 961 (Xi S 904 93).toNat = Xi S 904 8) → (KT T7 S (Xi S 904 93)) → n96 = (5002 - Xi T7 904 8).toNat → Rl lay0 (d + 5) m_mo_test 96 [(0, .ref 904), (1, iv isNow), (2, iv v2), (4, iv v4)] [] T7 (Q_mo_test S n c isNow) := by
        intro n96
        induction n96 using Nat.strongRecOn with
        | ind n96 ih96 =>
          intro T7 hHT7 hFT7 v2 v4 w95 w96 w97 A96 V96 w98 w99 w100 w101 w102 w103 w104 K96 hm96
          have w105 : 0 ≤ Xi T7 904 65 ∧ Xi T7 904 65 ≤ 1 := hHT7.c _ _
          have w106 : 0 ≤ Xi T7 904 69 ∧ Xi T7 904 69 ≤ 2600 := hHT7.c _ _
          have w107 : 0 ≤ Xi T7 904 8 ∧ Xi T7 904 8 ≤ 5010 := hHT7.c _ _
          have w108 : 0 ≤ Xi T7 904 93 ∧ Xi T7 904 93 ≤ 1700 := hHT7.c _ _
          refine l_iload rfl rfl ?_
          refine l_iconst rfl ?_
          refine l_icmp_eq rfl rfl (by unfold rg; omega) (by unfold rg; omega) (fun w109 => ?_) (fun w110 => ?_)
          · refine l_aload_n rfl rfl ?_
            refine l_dup rfl rfl ?_
            refine l_gfi rfl rfl rfl rfl rfl ?_
            refine l_iconst rfl ?_
            refine l_iadd rfl ?_
            refine l_pfi rfl rfl rfl rfl ?_
            obtain ⟨U8, eU8⟩ : ∃ T : sS, T = uI T7 904 8 (Int32.ofInt ((Xi T7 904 8) + 1)) := ⟨_, rfl⟩
            rw [← eU8]
            have hHU8 : HI U8 := by rw [eU8]; exact HI_w hHT7 (show 0 ≤ ((Xi T7 904 8) + 1) by omega) (show ((Xi T7 904 8) + 1) ≤ 5010 by omega)
            have hFU8 : FR md_mo_test S U8 := by rw [eU8]; exact FR.wI hFT7 (mdf_i (r := (904, 905, 8, 9)) (List.mem_of_getElem? (i := 0) rfl) (inR_i (by omega) (by omega) (by omega) (by omega)))
            have w111 : Xi U8 904 8 = ((Xi T7 904 8) + 1) := by rw [eU8]; exact Xi_same (by unfold rg; omega)
            have t133 : AT U8 n c ∧ _ := at_mv (S := T7) (P := T7) (TK_FR hFT7 rfl hT) A96 (fun _ => rfl) (fun _ => rfl) rfl rfl rfl rfl eU8 (by omega) (by omega) (by omega) (by omega) (Or.inl rfl)
            have a133 : AT U8 n c := t133.1
            refine l_aload_n rfl rfl ?_
            have w112 : Xi U8 904 65 = Xi T7 904 65 := (show Xi U8 904 65 = Xi T7 904 65 from by rw [eU8]; exact Xi_ne (by omega))
            have w113 : 0 ≤ Xi T7 904 65 ∧ Xi T7 904 65 ≤ 1 := hHT7.c _ _
            have w114 : Xi U8 904 69 = Xi T7 904 69 := (show Xi U8 904 69 = Xi T7 904 69 from by rw [eU8]; exact Xi_ne (by omega))
            have w115 : 0 ≤ Xi T7 904 69 ∧ Xi T7 904 69 ≤ 2600 := hHT7.c _ _
            have w116 : 0 ≤ Xi U8 904 8 ∧ Xi U8 904 8 ≤ 5010 := hHU8.c _ _
            have w117 : Xi U8 904 93 = Xi T7 904 93 := (show Xi U8 904 93 = Xi T7 904 93 from by rw [eU8]; exact Xi_ne (by omega))
            have w118 : 0 ≤ Xi T7 904 93 ∧ Xi T7 904 93 ≤ 1700 := hHT7.c _ _
            refine l_callV rfl rfl rfl (t_mo_look hHU8 n c (by first | assumption | exact (TK_FR hFU8 rfl (by assumption : TK S _))) (by first | assumption | exact (by assumption : AT U8 _ _)) _) ?_
            rintro _ _ ⟨rfl, z120, rfl, w120, w119⟩
            show Rl _ _ _ _ _ [iv z120] _ _
            have l137 : z120 ≠ 1 → Xi U8 904 65 = 0 ∧ Xi U8 907 (Xi U8 904 8).toNat = z120 := by assumption
            refine l_istore rfl rfl rfl ?_
            refine l_goto rfl rfl ?_
            have w121 : Xi U8 952 (Xi S 904 93).toNat = Xi T7 952 (Xi S 904 93).toNat := (show Xi U8 952 (Xi S 904 93).toNat = Xi T7 952 (Xi S 904 93).toNat from by rw [eU8]; exact Xi_ne (by omega))
            have w122 : Xi U8 961 (Xi S 904 93).toNat = Xi T7 961 (Xi S 904 93).toNat := (show Xi U8 961 (Xi S 904 93).toNat = Xi T7 961 (Xi S 904 93).toNat from by rw [eU8]; exact Xi_ne (by omega))
            have w123 : Xi U8 962 (Xi S 904 93).toNat = Xi T7 962 (Xi S 904 93).toNat := (show Xi U8 962 (Xi S 904 93).toNat = Xi T7 962 (Xi S 904 93).toNat from by rw [eU8]; exact Xi_ne (by omega))
            have w124 : Xi U8 904 65 = Xi T7 904 65 := (show Xi U8 904 65 = Xi T7 904 65 from by rw [eU8]; exact Xi_ne (by omega))
            have w125 : 0 ≤ Xi T7 904 65 ∧ Xi T7 904 65 ≤ 1 := hHT7.c _ _
            have w126 : Xi U8 904 69 = Xi T7 904 69 := (show Xi U8 904 69 = Xi T7 904 69 from by rw [eU8]; exact Xi_ne (by omega))
            have w127 : 0 ≤ Xi T7 904 69 ∧ Xi T7 904 69 ≤ 2600 := hHT7.c _ _
            have w128 : 0 ≤ Xi U8 904 8 ∧ Xi U8 904 8 ≤ 5010 := hHU8.c _ _
            have w129 : Xi U8 904 93 = Xi T7 904 93 := (show Xi U8 904 93 = Xi T7 904 93 from by rw [eU8]; exact Xi_ne (by omega))
            have w130 : 0 ≤ Xi T7 904 93 ∧ Xi T7 904 93 ≤ 1700 := hHT7.c _ _
            exact Rl_weak (ih96 _ (by omega) U8 hHU8 hFU8 (v2) (z120) (by omega) (by omega) (by omega) (by first | exact a133 | exact (by assumption : AT U8 _ _)) (by first | assumption | exact (RNV_FR (FR_e eU8) rfl (by assumption : RNV T7 _))) (by omega) (by omega) (by omega) (by omega) (by omega) (by omega) (by omega) ((KT_FR (FR_e eU8) rfl (by assumption : KT T7 S _))) rfl) (And.intro rfl (And.intro rfl (And.intro rfl (And.intro rfl (True.intro)))))
          · refine l_iload rfl rfl ?_
            have w131 : 0 ≤ Xi T7 904 65 ∧ Xi T7 904 65 ≤ 1 := hHT7.c _ _
            have w132 : 0 ≤ Xi T7 904 69 ∧ Xi T7 904 69 ≤ 2600 := hHT7.c _ _
            have w133 : 0 ≤ Xi T7 904 8 ∧ Xi T7 904 8 ≤ 5010 := hHT7.c _ _
            have w134 : 0 ≤ Xi T7 904 93 ∧ Xi T7 904 93 ≤ 1700 := hHT7.c _ _
            refine l_callS rfl rfl (by decide) rfl (t_mo_isArt hHT7 v4 ⟨by omega, by omega⟩ _) ?_
            rintro _ _ ⟨rfl, z136, rfl, w136, w135⟩
            show Rl _ _ _ _ _ [iv z136] _ _
            refine l_if_ne rfl rfl (by unfold rg; omega) (fun w137 => ?_) (fun w138 => ?_)
            · refine l_aload_n rfl rfl ?_
              refine l_dup rfl rfl ?_
              refine l_gfi rfl rfl rfl rfl rfl ?_
              refine l_iconst rfl ?_
              refine l_iadd rfl ?_
              refine l_pfi rfl rfl rfl rfl ?_
              obtain ⟨U9, eU9⟩ : ∃ T : sS, T = uI T7 904 8 (Int32.ofInt ((Xi T7 904 8) + 1)) := ⟨_, rfl⟩
              rw [← eU9]
              have hHU9 : HI U9 := by rw [eU9]; exact HI_w hHT7 (show 0 ≤ ((Xi T7 904 8) + 1) by omega) (show ((Xi T7 904 8) + 1) ≤ 5010 by omega)
              have hFU9 : FR md_mo_test S U9 := by rw [eU9]; exact FR.wI hFT7 (mdf_i (r := (904, 905, 8, 9)) (List.mem_of_getElem? (i := 0) rfl) (inR_i (by omega) (by omega) (by omega) (by omega)))
              have w139 : Xi U9 904 8 = ((Xi T7 904 8) + 1) := by rw [eU9]; exact Xi_same (by unfold rg; omega)
              have t133 : AT U9 n c ∧ _ := at_mv (S := T7) (P := T7) (TK_FR hFT7 rfl hT) A96 (fun _ => rfl) (fun _ => rfl) rfl rfl rfl rfl eU9 (by omega) (by omega) (by omega) (by omega) (Or.inl rfl)
              have a133 : AT U9 n c := t133.1
              refine l_aload_n rfl rfl ?_
              have w140 : Xi U9 904 65 = Xi T7 904 65 := (show Xi U9 904 65 = Xi T7 904 65 from by rw [eU9]; exact Xi_ne (by omega))
              have w141 : 0 ≤ Xi T7 904 65 ∧ Xi T7 904 65 ≤ 1 := hHT7.c _ _
              have w142 : Xi U9 904 69 = Xi T7 904 69 := (show Xi U9 904 69 = Xi T7 904 69 from by rw [eU9]; exact Xi_ne (by omega))
              have w143 : 0 ≤ Xi T7 904 69 ∧ Xi T7 904 69 ≤ 2600 := hHT7.c _ _
              have w144 : 0 ≤ Xi U9 904 8 ∧ Xi U9 904 8 ≤ 5010 := hHU9.c _ _
              have w145 : Xi U9 904 93 = Xi T7 904 93 := (show Xi U9 904 93 = Xi T7 904 93 from by rw [eU9]; exact Xi_ne (by omega))
              have w146 : 0 ≤ Xi T7 904 93 ∧ Xi T7 904 93 ≤ 1700 := hHT7.c _ _
              refine l_callV rfl rfl rfl (t_mo_look hHU9 n c (by first | assumption | exact (TK_FR hFU9 rfl (by assumption : TK S _))) (by first | assumption | exact (by assumption : AT U9 _ _)) _) ?_
              rintro _ _ ⟨rfl, z148, rfl, w148, w147⟩
              show Rl _ _ _ _ _ [iv z148] _ _
              have l137 : z148 ≠ 1 → Xi U9 904 65 = 0 ∧ Xi U9 907 (Xi U9 904 8).toNat = z148 := by assumption
              refine l_istore rfl rfl rfl ?_
              refine l_goto rfl rfl ?_
              have w149 : Xi U9 952 (Xi S 904 93).toNat = Xi T7 952 (Xi S 904 93).toNat := (show Xi U9 952 (Xi S 904 93).toNat = Xi T7 952 (Xi S 904 93).toNat from by rw [eU9]; exact Xi_ne (by omega))
              have w150 : Xi U9 961 (Xi S 904 93).toNat = Xi T7 961 (Xi S 904 93).toNat := (show Xi U9 961 (Xi S 904 93).toNat = Xi T7 961 (Xi S 904 93).toNat from by rw [eU9]; exact Xi_ne (by omega))
              have w151 : Xi U9 962 (Xi S 904 93).toNat = Xi T7 962 (Xi S 904 93).toNat := (show Xi U9 962 (Xi S 904 93).toNat = Xi T7 962 (Xi S 904 93).toNat from by rw [eU9]; exact Xi_ne (by omega))
              have w152 : Xi U9 904 65 = Xi T7 904 65 := (show Xi U9 904 65 = Xi T7 904 65 from by rw [eU9]; exact Xi_ne (by omega))
              have w153 : 0 ≤ Xi T7 904 65 ∧ Xi T7 904 65 ≤ 1 := hHT7.c _ _
              have w154 : Xi U9 904 69 = Xi T7 904 69 := (show Xi U9 904 69 = Xi T7 904 69 from by rw [eU9]; exact Xi_ne (by omega))
              have w155 : 0 ≤ Xi T7 904 69 ∧ Xi T7 904 69 ≤ 2600 := hHT7.c _ _
              have w156 : 0 ≤ Xi U9 904 8 ∧ Xi U9 904 8 ≤ 5010 := hHU9.c _ _
              have w157 : Xi U9 904 93 = Xi T7 904 93 := (show Xi U9 904 93 = Xi T7 904 93 from by rw [eU9]; exact Xi_ne (by omega))
              have w158 : 0 ≤ Xi T7 904 93 ∧ Xi T7 904 93 ≤ 1700 := hHT7.c _ _
              exact Rl_weak (ih96 _ (by omega) U9 hHU9 hFU9 (v2) (z148) (by omega) (by omega) (by omega) (by first | exact a133 | exact (by assumption : AT U9 _ _)) (by first | assumption | exact (RNV_FR (FR_e eU9) rfl (by assumption : RNV T7 _))) (by omega) (by omega) (by omega) (by omega) (by omega) (by omega) (by omega) ((KT_FR (FR_e eU9) rfl (by assumption : KT T7 S _))) rfl) (And.intro rfl (And.intro rfl (And.intro rfl (And.intro rfl (True.intro)))))
            · refine l_iload rfl rfl ?_
              refine l_sipush rfl rfl ?_
              refine l_icmp_eq rfl rfl (by unfold rg; omega) (by unfold rg; omega) (fun w159 => ?_) (fun w160 => ?_)
              · refine l_aload_n rfl rfl ?_
                refine l_dup rfl rfl ?_
                refine l_gfi rfl rfl rfl rfl rfl ?_
                refine l_iconst rfl ?_
                refine l_iadd rfl ?_
                refine l_pfi rfl rfl rfl rfl ?_
                obtain ⟨U10, eU10⟩ : ∃ T : sS, T = uI T7 904 8 (Int32.ofInt ((Xi T7 904 8) + 1)) := ⟨_, rfl⟩
                rw [← eU10]
                have hHU10 : HI U10 := by rw [eU10]; exact HI_w hHT7 (show 0 ≤ ((Xi T7 904 8) + 1) by omega) (show ((Xi T7 904 8) + 1) ≤ 5010 by omega)
                have hFU10 : FR md_mo_test S U10 := by rw [eU10]; exact FR.wI hFT7 (mdf_i (r := (904, 905, 8, 9)) (List.mem_of_getElem? (i := 0) rfl) (inR_i (by omega) (by omega) (by omega) (by omega)))
                have w161 : Xi U10 904 8 = ((Xi T7 904 8) + 1) := by rw [eU10]; exact Xi_same (by unfold rg; omega)
                have t133 : AT U10 n c ∧ _ := at_mv (S := T7) (P := T7) (TK_FR hFT7 rfl hT) A96 (fun _ => rfl) (fun _ => rfl) rfl rfl rfl rfl eU10 (by omega) (by omega) (by omega) (by omega) (Or.inl rfl)
                have a133 : AT U10 n c := t133.1
                refine l_aload_n rfl rfl ?_
                have w162 : Xi U10 904 65 = Xi T7 904 65 := (show Xi U10 904 65 = Xi T7 904 65 from by rw [eU10]; exact Xi_ne (by omega))
                have w163 : 0 ≤ Xi T7 904 65 ∧ Xi T7 904 65 ≤ 1 := hHT7.c _ _
                have w164 : Xi U10 904 69 = Xi T7 904 69 := (show Xi U10 904 69 = Xi T7 904 69 from by rw [eU10]; exact Xi_ne (by omega))
                have w165 : 0 ≤ Xi T7 904 69 ∧ Xi T7 904 69 ≤ 2600 := hHT7.c _ _
                have w166 : 0 ≤ Xi U10 904 8 ∧ Xi U10 904 8 ≤ 5010 := hHU10.c _ _
                have w167 : Xi U10 904 93 = Xi T7 904 93 := (show Xi U10 904 93 = Xi T7 904 93 from by rw [eU10]; exact Xi_ne (by omega))
                have w168 : 0 ≤ Xi T7 904 93 ∧ Xi T7 904 93 ≤ 1700 := hHT7.c _ _
                refine l_callV rfl rfl rfl (t_mo_look hHU10 n c (by first | assumption | exact (TK_FR hFU10 rfl (by assumption : TK S _))) (by first | assumption | exact (by assumption : AT U10 _ _)) _) ?_
                rintro _ _ ⟨rfl, z170, rfl, w170, w169⟩
                show Rl _ _ _ _ _ [iv z170] _ _
                have l137 : z170 ≠ 1 → Xi U10 904 65 = 0 ∧ Xi U10 907 (Xi U10 904 8).toNat = z170 := by assumption
                refine l_istore rfl rfl rfl ?_
                refine l_goto rfl rfl ?_
                have w171 : Xi U10 952 (Xi S 904 93).toNat = Xi T7 952 (Xi S 904 93).toNat := (show Xi U10 952 (Xi S 904 93).toNat = Xi T7 952 (Xi S 904 93).toNat from by rw [eU10]; exact Xi_ne (by omega))
                have w172 : Xi U10 961 (Xi S 904 93).toNat = Xi T7 961 (Xi S 904 93).toNat := (show Xi U10 961 (Xi S 904 93).toNat = Xi T7 961 (Xi S 904 93).toNat from by rw [eU10]; exact Xi_ne (by omega))
                have w173 : Xi U10 962 (Xi S 904 93).toNat = Xi T7 962 (Xi S 904 93).toNat := (show Xi U10 962 (Xi S 904 93).toNat = Xi T7 962 (Xi S 904 93).toNat from by rw [eU10]; exact Xi_ne (by omega))
                have w174 : Xi U10 904 65 = Xi T7 904 65 := (show Xi U10 904 65 = Xi T7 904 65 from by rw [eU10]; exact Xi_ne (by omega))
                have w175 : 0 ≤ Xi T7 904 65 ∧ Xi T7 904 65 ≤ 1 := hHT7.c _ _
                have w176 : Xi U10 904 69 = Xi T7 904 69 := (show Xi U10 904 69 = Xi T7 904 69 from by rw [eU10]; exact Xi_ne (by omega))
                have w177 : 0 ≤ Xi T7 904 69 ∧ Xi T7 904 69 ≤ 2600 := hHT7.c _ _
                have w178 : 0 ≤ Xi U10 904 8 ∧ Xi U10 904 8 ≤ 5010 := hHU10.c _ _
                have w179 : Xi U10 904 93 = Xi T7 904 93 := (show Xi U10 904 93 = Xi T7 904 93 from by rw [eU10]; exact Xi_ne (by omega))
                have w180 : 0 ≤ Xi T7 904 93 ∧ Xi T7 904 93 ≤ 1700 := hHT7.c _ _
                exact Rl_weak (ih96 _ (by omega) U10 hHU10 hFU10 (v2) (z170) (by omega) (by omega) (by omega) (by first | exact a133 | exact (by assumption : AT U10 _ _)) (by first | assumption | exact (RNV_FR (FR_e eU10) rfl (by assumption : RNV T7 _))) (by omega) (by omega) (by omega) (by omega) (by omega) (by omega) (by omega) ((KT_FR (FR_e eU10) rfl (by assumption : KT T7 S _))) rfl) (And.intro rfl (And.intro rfl (And.intro rfl (And.intro rfl (True.intro)))))
              · refine l_iload rfl rfl ?_
                refine l_sipush rfl rfl ?_
                refine l_icmp_ne rfl rfl (by unfold rg; omega) (by unfold rg; omega) (fun w181 => ?_) (fun w182 => ?_)
                · refine l_aload_n rfl rfl ?_
                  refine l_gfi rfl rfl rfl rfl rfl ?_
                  refine l_iload_n rfl rfl ?_
                  refine l_icmp_ne rfl rfl (by unfold rg; omega) (by unfold rg; omega) (fun w183 => ?_) (fun w184 => ?_)
                  · refine l_goto rfl rfl ?_
                    have w185 : 0 ≤ Xi T7 904 65 ∧ Xi T7 904 65 ≤ 1 := hHT7.c _ _
                    have w186 : 0 ≤ Xi T7 904 69 ∧ Xi T7 904 69 ≤ 2600 := hHT7.c _ _
                    have w187 : 0 ≤ Xi T7 904 8 ∧ Xi T7 904 8 ≤ 5010 := hHT7.c _ _
                    have w188 : 0 ≤ Xi T7 904 93 ∧ Xi T7 904 93 ≤ 1700 := hHT7.c _ _
                    exact Rl_weak (C351 T7 hHT7 hFT7  (by first | assumption | exact AT_bad (by omega) | exact (by assumption : AT T7 _ _)) (by first | assumption | exact (by assumption : RNV T7 _)) (by omega) (by omega) (by omega) (by omega) (by omega) (by omega) ((by assumption : KT T7 S _)) (by first | exact E187 | exact E274 | exact E350 | exact (fun _ q => tvx_5 (by omega)) A96 | exact fun q => absurd q (by omega)) (by omega)) (And.intro rfl (And.intro rfl (True.intro)))
                  · refine l_aload_n rfl rfl ?_
                    have w189 : 0 ≤ Xi T7 904 65 ∧ Xi T7 904 65 ≤ 1 := hHT7.c _ _
                    have w190 : 0 ≤ Xi T7 904 69 ∧ Xi T7 904 69 ≤ 2600 := hHT7.c _ _
                    have w191 : 0 ≤ Xi T7 904 8 ∧ Xi T7 904 8 ≤ 5010 := hHT7.c _ _
                    have w192 : 0 ≤ Xi T7 904 93 ∧ Xi T7 904 93 ≤ 1700 := hHT7.c _ _
                    refine l_callV rfl rfl rfl (t_mo_odd hHT7 _) ?_
                    rintro _ T11 ⟨hHT11, w196, rfl, w193, w194⟩
                    have hFT11 : FR md_mo_test S T11 := FR.tr hFT7 w196 rfl
                    show Rl _ _ _ _ _ [] _ _
                    have w198 : Xi T11 904 8 = Xi T7 904 8 := (show Xi T11 904 8 = Xi T7 904 8 from w196.x _ _ rfl)
                    have w199 : 0 ≤ Xi T7 904 8 ∧ Xi T7 904 8 ≤ 5010 := hHT7.c _ _
                    have w200 : 0 ≤ Xi T11 904 65 ∧ Xi T11 904 65 ≤ 1 := hHT11.c _ _
                    have w201 : Xi T11 904 69 = Xi T7 904 69 := (show Xi T11 904 69 = Xi T7 904 69 from w196.x _ _ rfl)
                    have w202 : 0 ≤ Xi T7 904 69 ∧ Xi T7 904 69 ≤ 2600 := hHT7.c _ _
                    have w203 : Xi T11 904 93 = Xi T7 904 93 := (show Xi T11 904 93 = Xi T7 904 93 from w196.x _ _ rfl)
                    have w204 : 0 ≤ Xi T7 904 93 ∧ Xi T7 904 93 ≤ 1700 := hHT7.c _ _
                    have w197 : Xi S 904 8 ≤ Xi T11 904 8 ∧ Xi T11 904 8 ≤ n ∧ Xi S 904 69 ≤ Xi T11 904 69 ∧ (Xi T11 904 65 = 0 → Xi S 904 65 = 0) := by omega
                    clear w194
                    refine l_goto rfl rfl ?_
                    have w205 : Xi T11 952 (Xi S 904 93).toNat = Xi T7 952 (Xi S 904 93).toNat := (show Xi T11 952 (Xi S 904 93).toNat = Xi T7 952 (Xi S 904 93).toNat from (w196.cx 952 rfl _).1)
                    have w206 : Xi T11 961 (Xi S 904 93).toNat = Xi T7 961 (Xi S 904 93).toNat := (show Xi T11 961 (Xi S 904 93).toNat = Xi T7 961 (Xi S 904 93).toNat from (w196.cx 961 rfl _).1)
                    have w207 : Xi T11 962 (Xi S 904 93).toNat = Xi T7 962 (Xi S 904 93).toNat := (show Xi T11 962 (Xi S 904 93).toNat = Xi T7 962 (Xi S 904 93).toNat from (w196.cx 962 rfl _).1)
                    have w208 : 0 ≤ Xi T11 904 65 ∧ Xi T11 904 65 ≤ 1 := hHT11.c _ _
                    have w209 : Xi T11 904 69 = Xi T7 904 69 := (show Xi T11 904 69 = Xi T7 904 69 from w196.x _ _ rfl)
                    have w210 : 0 ≤ Xi T7 904 69 ∧ Xi T7 904 69 ≤ 2600 := hHT7.c _ _
                    have w211 : Xi T11 904 8 = Xi T7 904 8 := (show Xi T11 904 8 = Xi T7 904 8 from w196.x _ _ rfl)
                    have w212 : 0 ≤ Xi T7 904 8 ∧ Xi T7 904 8 ≤ 5010 := hHT7.c _ _
                    have w213 : Xi T11 904 93 = Xi T7 904 93 := (show Xi T11 904 93 = Xi T7 904 93 from w196.x _ _ rfl)
                    have w214 : 0 ≤ Xi T7 904 93 ∧ Xi T7 904 93 ≤ 1700 := hHT7.c _ _
                    exact Rl_weak (C351 T11 hHT11 hFT11  (by first | assumption | exact AT_bad (by omega) | exact (by assumption : AT T11 _ _)) (by first | assumption | exact (RNV_FR w196 rfl (by assumption : RNV T7 _))) (by omega) (by omega) (by omega) (by omega) (by omega) (by omega) ((KT_FR w196 rfl (by assumption : KT T7 S _))) (by first | exact E187 | exact E274 | exact E350 | exact (fun _ q => tvx_5 (by omega)) A96 | exact fun q => absurd q (by omega)) (by omega)) (And.intro rfl (And.intro rfl (True.intro)))
                · refine l_aload_n rfl rfl ?_
                  refine l_dup rfl rfl ?_
                  refine l_gfi rfl rfl rfl rfl rfl ?_
                  refine l_iconst rfl ?_
                  refine l_iadd rfl ?_
                  refine l_pfi rfl rfl rfl rfl ?_
                  obtain ⟨U12, eU12⟩ : ∃ T : sS, T = uI T7 904 8 (Int32.ofInt ((Xi T7 904 8) + 1)) := ⟨_, rfl⟩
                  rw [← eU12]
                  have hHU12 : HI U12 := by rw [eU12]; exact HI_w hHT7 (show 0 ≤ ((Xi T7 904 8) + 1) by omega) (show ((Xi T7 904 8) + 1) ≤ 5010 by omega)
                  have hFU12 : FR md_mo_test S U12 := by rw [eU12]; exact FR.wI hFT7 (mdf_i (r := (904, 905, 8, 9)) (List.mem_of_getElem? (i := 0) rfl) (inR_i (by omega) (by omega) (by omega) (by omega)))
                  have w215 : Xi U12 904 8 = ((Xi T7 904 8) + 1) := by rw [eU12]; exact Xi_same (by unfold rg; omega)
                  have t133 : AT U12 n c ∧ _ := at_mv (S := T7) (P := T7) (TK_FR hFT7 rfl hT) A96 (fun _ => rfl) (fun _ => rfl) rfl rfl rfl rfl eU12 (by omega) (by omega) (by omega) (by omega) (Or.inl rfl)
                  have a133 : AT U12 n c := t133.1
                  refine l_aload_n rfl rfl ?_
                  have w216 : Xi U12 904 65 = Xi T7 904 65 := (show Xi U12 904 65 = Xi T7 904 65 from by rw [eU12]; exact Xi_ne (by omega))
                  have w217 : 0 ≤ Xi T7 904 65 ∧ Xi T7 904 65 ≤ 1 := hHT7.c _ _
                  have w218 : Xi U12 904 69 = Xi T7 904 69 := (show Xi U12 904 69 = Xi T7 904 69 from by rw [eU12]; exact Xi_ne (by omega))
                  have w219 : 0 ≤ Xi T7 904 69 ∧ Xi T7 904 69 ≤ 2600 := hHT7.c _ _
                  have w220 : 0 ≤ Xi U12 904 8 ∧ Xi U12 904 8 ≤ 5010 := hHU12.c _ _
                  have w221 : Xi U12 904 93 = Xi T7 904 93 := (show Xi U12 904 93 = Xi T7 904 93 from by rw [eU12]; exact Xi_ne (by omega))
                  have w222 : 0 ≤ Xi T7 904 93 ∧ Xi T7 904 93 ≤ 1700 := hHT7.c _ _
                  refine l_callV rfl rfl rfl (t_mo_look hHU12 n c (by first | assumption | exact (TK_FR hFU12 rfl (by assumption : TK S _))) (by first | assumption | exact (by assumption : AT U12 _ _)) _) ?_
                  rintro _ _ ⟨rfl, z224, rfl, w224, w223⟩
                  show Rl _ _ _ _ _ [iv z224] _ _
                  have l137 : z224 ≠ 1 → Xi U12 904 65 = 0 ∧ Xi U12 907 (Xi U12 904 8).toNat = z224 := by assumption
                  refine l_istore rfl rfl rfl ?_
                  refine l_goto rfl rfl ?_
                  have w225 : Xi U12 952 (Xi S 904 93).toNat = Xi T7 952 (Xi S 904 93).toNat := (show Xi U12 952 (Xi S 904 93).toNat = Xi T7 952 (Xi S 904 93).toNat from by rw [eU12]; exact Xi_ne (by omega))
                  have w226 : Xi U12 961 (Xi S 904 93).toNat = Xi T7 961 (Xi S 904 93).toNat := (show Xi U12 961 (Xi S 904 93).toNat = Xi T7 961 (Xi S 904 93).toNat from by rw [eU12]; exact Xi_ne (by omega))
                  have w227 : Xi U12 962 (Xi S 904 93).toNat = Xi T7 962 (Xi S 904 93).toNat := (show Xi U12 962 (Xi S 904 93).toNat = Xi T7 962 (Xi S 904 93).toNat from by rw [eU12]; exact Xi_ne (by omega))
                  have w228 : Xi U12 904 65 = Xi T7 904 65 := (show Xi U12 904 65 = Xi T7 904 65 from by rw [eU12]; exact Xi_ne (by omega))
                  have w229 : 0 ≤ Xi T7 904 65 ∧ Xi T7 904 65 ≤ 1 := hHT7.c _ _
                  have w230 : Xi U12 904 69 = Xi T7 904 69 := (show Xi U12 904 69 = Xi T7 904 69 from by rw [eU12]; exact Xi_ne (by omega))
                  have w231 : 0 ≤ Xi T7 904 69 ∧ Xi T7 904 69 ≤ 2600 := hHT7.c _ _
                  have w232 : 0 ≤ Xi U12 904 8 ∧ Xi U12 904 8 ≤ 5010 := hHU12.c _ _
                  have w233 : Xi U12 904 93 = Xi T7 904 93 := (show Xi U12 904 93 = Xi T7 904 93 from by rw [eU12]; exact Xi_ne (by omega))
                  have w234 : 0 ≤ Xi T7 904 93 ∧ Xi T7 904 93 ≤ 1700 := hHT7.c _ _
                  exact Rl_weak (ih96 _ (by omega) U12 hHU12 hFU12 (v2) (z224) (by omega) (by omega) (by omega) (by first | exact a133 | exact (by assumption : AT U12 _ _)) (by first | assumption | exact (RNV_FR (FR_e eU12) rfl (by assumption : RNV T7 _))) (by omega) (by omega) (by omega) (by omega) (by omega) (by omega) (by omega) ((KT_FR (FR_e eU12) rfl (by assumption : KT T7 S _))) rfl) (And.intro rfl (And.intro rfl (And.intro rfl (And.intro rfl (True.intro)))))
      have C185 : ∀  (T13 : sS) (_ : HI T13) (_ : FR md_mo_test S T13), (AT T13 n c) → (RNV T13 n) → (Xi S 904 8 ≤ Xi T13 904 8 ∧ Xi T13 904 8 ≤ n) → (Xi S 904 69 ≤ Xi T13 904 69) → (Xi T13 904 65 = 0 → Xi S 904 65 = 0) → (Xi T13 904 93 = Xi S 904 93) → (Xi T13 961 (Xi S 904 93).toNat = Xi S 904 8) → (KT T13 S (Xi S 904 93)) → (Xi T13 904 65 = 0 → Xi T13 956 (Xi S 904 93).toNat < Xi T13 904 69) → (Xi T13 904 65 = 0 → THV (Xi T13 904 69) n (Xi T13 954 (Xi S 904 93).toNat) (Xi T13 955 (Xi S 904 93).toNat)) → Rl lay0 (d + 5) m_mo_test 185 [(0, .ref 904), (1, iv isNow)] [] T13 (Q_mo_test S n c isNow) := by
        intro T13 hHT13 hFT13 A185 V185 w235 w236 w237 w238 w239 K185 p185 h185
        have w240 : 0 ≤ Xi T13 904 65 ∧ Xi T13 904 65 ≤ 1 := hHT13.c _ _
        have w241 : 0 ≤ Xi T13 904 69 ∧ Xi T13 904 69 ≤ 2600 := hHT13.c _ _
        have w242 : 0 ≤ Xi T13 904 8 ∧ Xi T13 904 8 ≤ 5010 := hHT13.c _ _
        have w243 : 0 ≤ Xi T13 904 93 ∧ Xi T13 904 93 ≤ 1700 := hHT13.c _ _
        refine l_aload_n rfl rfl ?_
        refine l_iload_n rfl rfl ?_
        have w244 : 0 ≤ Xi T13 904 65 ∧ Xi T13 904 65 ≤ 1 := hHT13.c _ _
        have w245 : 0 ≤ Xi T13 904 69 ∧ Xi T13 904 69 ≤ 2600 := hHT13.c _ _
        have w246 : 0 ≤ Xi T13 904 8 ∧ Xi T13 904 8 ≤ 5010 := hHT13.c _ _
        have w247 : 0 ≤ Xi T13 904 93 ∧ Xi T13 904 93 ≤ 1700 := hHT13.c _ _
        refine l_callV rfl rfl rfl (t_mo_testedWhat hHT13 n c isNow ⟨by omega, by omega⟩ (by first | assumption | exact (TK_FR hFT13 rfl (by assumption : TK S _))) (by first | assumption | exact (by assumption : AT T13 _ _)) (by first | assumption | exact (by assumption : RNV T13 _)) (by first | assumption | omega) _) ?_
        rintro _ T14 ⟨hHT14, w254, rfl, w248, w249, w250, kb187, w251, w252, w187_, nw187_⟩
        have hFT14 : FR md_mo_test S T14 := FR.tr hFT13 w254 rfl
        show Rl _ _ _ _ _ [] _ _
        have w256 : 0 ≤ Xi T14 904 8 ∧ Xi T14 904 8 ≤ 5010 := hHT14.c _ _
        have w257 : 0 ≤ Xi T14 904 65 ∧ Xi T14 904 65 ≤ 1 := hHT14.c _ _
        have w258 : 0 ≤ Xi T14 904 69 ∧ Xi T14 904 69 ≤ 2600 := hHT14.c _ _
        have w259 : Xi T14 904 93 = Xi T13 904 93 := (show Xi T14 904 93 = Xi T13 904 93 from w254.x _ _ rfl)
        have w260 : 0 ≤ Xi T13 904 93 ∧ Xi T13 904 93 ≤ 1700 := hHT13.c _ _
        have w187 : Xi T14 904 65 = 0 → Xi T14 952 (Xi S 904 93).toNat ≤ 2 ∧ Xi T14 957 (Xi S 904 93).toNat ≤ n ∧ (Xi T14 952 (Xi S 904 93).toNat = 0 → Xi T13 907 (Xi T14 957 (Xi S 904 93).toNat).toNat ≠ 4 → Xi T13 907 (Xi T14 957 (Xi S 904 93).toNat).toNat ≠ 5 → 0 ≤ Xi T14 960 (Xi S 904 93).toNat ∧ Xi T14 960 (Xi S 904 93).toNat < Xi T14 904 69) := by rw [show (Xi S 904 93).toNat = (Xi T13 904 93).toNat by omega]; exact w187_
        clear w187_
        have nw187 : Xi T14 904 65 = 0 → isNow = 1 → Xi T14 952 (Xi S 904 93).toNat = 0 := by rw [show (Xi S 904 93).toNat = (Xi T13 904 93).toNat by omega]; exact nw187_
        clear nw187_
        have E187 : Xi T14 904 65 = 0 → TVx T14 n (Xi S 904 93).toNat := fun q => tvx_2 (w187 q).1 (thv_c (h185 (kb187 q)) (by omega) ((by assumption : FR md_mo_testedWhat T13 T14).cx 954 rfl _).1 ((by assumption : FR md_mo_testedWhat T13 T14).cx 955 rfl _).1) (by have t := p185 (kb187 q); rw [((by assumption : FR md_mo_testedWhat T13 T14).cx 956 rfl _).1]; omega) (w187 q).2.1 (fun a b e => (w187 q).2.2 a (by rw [(hFT13.cx 907 rfl _).1, ← (hFT14.cx 907 rfl _).1]; exact b) (by rw [(hFT13.cx 907 rfl _).1, ← (hFT14.cx 907 rfl _).1]; exact e))
        clear p185 h185 w187
        have w255 : Xi S 904 8 ≤ Xi T14 904 8 ∧ Xi T14 904 8 ≤ n ∧ Xi S 904 69 ≤ Xi T14 904 69 ∧ (Xi T14 904 65 = 0 → Xi S 904 65 = 0) := by omega
        clear w249 kb187 w251
        refine l_goto rfl rfl ?_
        have w261 : Xi T14 961 (Xi S 904 93).toNat = Xi T13 961 (Xi S 904 93).toNat := (show Xi T14 961 (Xi S 904 93).toNat = Xi T13 961 (Xi S 904 93).toNat from (w254.cx 961 rfl _).1)
        have w262 : Xi T14 962 (Xi S 904 93).toNat = Xi T13 962 (Xi S 904 93).toNat := (show Xi T14 962 (Xi S 904 93).toNat = Xi T13 962 (Xi S 904 93).toNat from (w254.cx 962 rfl _).1)
        have w263 : 0 ≤ Xi T14 904 65 ∧ Xi T14 904 65 ≤ 1 := hHT14.c _ _
        have w264 : 0 ≤ Xi T14 904 69 ∧ Xi T14 904 69 ≤ 2600 := hHT14.c _ _
        have w265 : 0 ≤ Xi T14 904 8 ∧ Xi T14 904 8 ≤ 5010 := hHT14.c _ _
        have w266 : Xi T14 904 93 = Xi T13 904 93 := (show Xi T14 904 93 = Xi T13 904 93 from w254.x _ _ rfl)
        have w267 : 0 ≤ Xi T13 904 93 ∧ Xi T13 904 93 ≤ 1700 := hHT13.c _ _
        exact Rl_weak (C351 T14 hHT14 hFT14  (by first | assumption | exact AT_bad (by omega) | exact (by assumption : AT T14 _ _)) (by first | assumption | exact (by assumption : RNV T14 _)) (by omega) (by omega) (by omega) (by omega) (by omega) (by omega) ((KT.tr (by assumption : KT T13 S _) (by assumption : KT T14 T13 _) (by omega))) (by first | exact E187 | exact E274 | exact E350 | exact (fun _ q => tvx_5 (by omega)) A96 | exact fun q => absurd q (by omega)) (by omega)) (And.intro rfl (And.intro rfl (True.intro)))
      have C203 : ∀  (T15 : sS) (_ : HI T15) (_ : FR md_mo_test S T15), (AT T15 n c) → (RNV T15 n) → (Xi S 904 8 ≤ Xi T15 904 8 ∧ Xi T15 904 8 ≤ n) → (Xi S 904 69 ≤ Xi T15 904 69) → (Xi T15 904 65 = 0 → Xi S 904 65 = 0) → (Xi T15 904 93 = Xi S 904 93) → (Xi T15 961 (Xi S 904 93).toNat = Xi S 904 8) → (KT T15 S (Xi S 904 93)) → (Xi T15 904 65 = 0 → THV (Xi T15 904 69) n (Xi T15 954 (Xi S 904 93).toNat) (Xi T15 955 (Xi S 904 93).toNat)) → Rl lay0 (d + 5) m_mo_test 203 [(0, .ref 904), (1, iv isNow)] [] T15 (Q_mo_test S n c isNow) := by
        intro T15 hHT15 hFT15 A203 V203 w268 w269 w270 w271 w272 K203 h203
        have w273 : 0 ≤ Xi T15 904 65 ∧ Xi T15 904 65 ≤ 1 := hHT15.c _ _
        have w274 : 0 ≤ Xi T15 904 69 ∧ Xi T15 904 69 ≤ 2600 := hHT15.c _ _
        have w275 : 0 ≤ Xi T15 904 8 ∧ Xi T15 904 8 ≤ 5010 := hHT15.c _ _
        have w276 : 0 ≤ Xi T15 904 93 ∧ Xi T15 904 93 ≤ 1700 := hHT15.c _ _
        have C244 : ∀  (T16 : sS) (_ : HI T16) (_ : FR md_mo_test S T16), (AT T16 n c) → (RNV T16 n) → (Xi S 904 8 ≤ Xi T16 904 8 ∧ Xi T16 904 8 ≤ n) → (Xi S 904 69 ≤ Xi T16 904 69) → (Xi T16 904 65 = 0 → Xi S 904 65 = 0) → (Xi T16 904 93 = Xi S 904 93) → (Xi T16 961 (Xi S 904 93).toNat = Xi S 904 8) → (KT T16 S (Xi S 904 93)) → (Xi T16 904 65 = 0 → THV (Xi T16 904 69) n (Xi T16 954 (Xi S 904 93).toNat) (Xi T16 955 (Xi S 904 93).toNat)) → Rl lay0 (d + 5) m_mo_test 244 [(0, .ref 904), (1, iv isNow)] [] T16 (Q_mo_test S n c isNow) := by
          intro T16 hHT16 hFT16 A244 V244 w277 w278 w279 w280 w281 K244 h244
          have w282 : 0 ≤ Xi T16 904 65 ∧ Xi T16 904 65 ≤ 1 := hHT16.c _ _
          have w283 : 0 ≤ Xi T16 904 69 ∧ Xi T16 904 69 ≤ 2600 := hHT16.c _ _
          have w284 : 0 ≤ Xi T16 904 8 ∧ Xi T16 904 8 ≤ 5010 := hHT16.c _ _
          have w285 : 0 ≤ Xi T16 904 93 ∧ Xi T16 904 93 ≤ 1700 := hHT16.c _ _
          have C312 : ∀  (T17 : sS) (_ : HI T17) (_ : FR md_mo_test S T17), (AT T17 n c) → (RNV T17 n) → (Xi S 904 8 ≤ Xi T17 904 8 ∧ Xi T17 904 8 ≤ n) → (Xi S 904 69 ≤ Xi T17 904 69) → (Xi T17 904 65 = 0 → Xi S 904 65 = 0) → (Xi T17 904 93 = Xi S 904 93) → (Xi T17 961 (Xi S 904 93).toNat = Xi S 904 8) → (KT T17 S (Xi S 904 93)) → (Xi T17 904 65 = 0 → THV (Xi T17 904 69) n (Xi T17 954 (Xi S 904 93).toNat) (Xi T17 955 (Xi S 904 93).toNat)) → (Xi T17 952 (Xi S 904 93).toNat = 4) → (isNow = 0) → Rl lay0 (d + 5) m_mo_test 312 [(0, .ref 904), (1, iv isNow)] [] T17 (Q_mo_test S n c isNow) := by
            intro T17 hHT17 hFT17 A312 V312 w286 w287 w288 w289 w290 K312 h312 f312 w291
            have w292 : 0 ≤ Xi T17 904 65 ∧ Xi T17 904 65 ≤ 1 := hHT17.c _ _
            have w293 : 0 ≤ Xi T17 904 69 ∧ Xi T17 904 69 ≤ 2600 := hHT17.c _ _
            have w294 : 0 ≤ Xi T17 904 8 ∧ Xi T17 904 8 ≤ 5010 := hHT17.c _ _
            have w295 : 0 ≤ Xi T17 904 93 ∧ Xi T17 904 93 ≤ 1700 := hHT17.c _ _
            refine l_aload_n rfl rfl ?_
            have w296 : 0 ≤ Xi T17 904 65 ∧ Xi T17 904 65 ≤ 1 := hHT17.c _ _
            have w297 : 0 ≤ Xi T17 904 69 ∧ Xi T17 904 69 ≤ 2600 := hHT17.c _ _
            have w298 : 0 ≤ Xi T17 904 8 ∧ Xi T17 904 8 ≤ 5010 := hHT17.c _ _
            have w299 : 0 ≤ Xi T17 904 93 ∧ Xi T17 904 93 ≤ 1700 := hHT17.c _ _
            refine l_callV rfl rfl rfl (t_mo_thing hHT17 n c (by first | assumption | exact (TK_FR hFT17 rfl (by assumption : TK S _))) (by first | assumption | exact (by assumption : AT T17 _ _)) (by first | assumption | exact (by assumption : RNV T17 _)) _) ?_
            rintro _ T18 ⟨hHT18, w305, rfl, w300, w301, w302, kb313, w303, o313⟩
            have hFT18 : FR md_mo_test S T18 := FR.tr hFT17 w305 rfl
            show Rl _ _ _ _ _ [] _ _
            have w307 : 0 ≤ Xi T18 904 8 ∧ Xi T18 904 8 ≤ 5010 := hHT18.c _ _
            have w308 : 0 ≤ Xi T18 904 65 ∧ Xi T18 904 65 ≤ 1 := hHT18.c _ _
            have w309 : 0 ≤ Xi T18 904 69 ∧ Xi T18 904 69 ≤ 2600 := hHT18.c _ _
            have w310 : Xi T18 904 93 = Xi T17 904 93 := (show Xi T18 904 93 = Xi T17 904 93 from w305.x _ _ rfl)
            have w311 : 0 ≤ Xi T17 904 93 ∧ Xi T17 904 93 ≤ 1700 := hHT17.c _ _
            have h313 : Xi T18 904 65 = 0 → THV (Xi T18 904 69) n (Xi T18 954 (Xi S 904 93).toNat) (Xi T18 955 (Xi S 904 93).toNat) := fun q => thv_c (h312 (kb313 q)) (by omega) ((by assumption : FR md_mo_thing T17 T18).cx 954 rfl _).1 ((by assumption : FR md_mo_thing T17 T18).cx 955 rfl _).1
            have f313 : Xi T18 952 (Xi S 904 93).toNat = 4 := ((by assumption : FR md_mo_thing T17 T18).cx 952 rfl _).1.trans f312
            have y313 : (0 ≤ Xi T18 904 100 ∧ Xi T18 904 100 ≤ 2) ∧ (0 ≤ Xi T18 904 101 ∧ Xi T18 904 101 ≤ 5010) ∧ 0 ≤ Xi T18 904 99 := ⟨hHT18.c 904 100, hHT18.c 904 101, (hHT18.c 904 99).1⟩
            clear h312 f312
            have w306 : Xi S 904 8 ≤ Xi T18 904 8 ∧ Xi T18 904 8 ≤ n ∧ Xi S 904 69 ≤ Xi T18 904 69 ∧ (Xi T18 904 65 = 0 → Xi S 904 65 = 0) := by omega
            clear w301 kb313 w303
            refine l_aload_n rfl rfl ?_
            refine l_gfr rfl rfl rfl rfl rfl (hHT18.r 904 89 959 rfl) ?_
            refine l_aload_n rfl rfl ?_
            refine l_gfi rfl rfl rfl rfl rfl ?_
            have w312 : (Xi T18 904 93) = (Xi T17 904 93) := (show Xi T18 904 93 = Xi T17 904 93 from w305.x _ _ rfl)
            rw [w312]
            refine l_aload_n rfl rfl ?_
            refine l_gfi rfl rfl rfl rfl rfl ?_
            have w313 : 0 ≤ (Xi T18 904 100) ∧ (Xi T18 904 100) ≤ 2 := hHT18.c _ _
            refine l_sipush rfl rfl ?_
            refine l_imul rfl ?_
            refine l_aload_n rfl rfl ?_
            refine l_gfi rfl rfl rfl rfl rfl ?_
            have w314 : 0 ≤ (Xi T18 904 101) ∧ (Xi T18 904 101) ≤ 5010 := hHT18.c _ _
            refine l_iadd rfl ?_
            refine l_iastore (n := 1700) rfl rfl (by omega) (by omega) (by unfold rg; omega) ?_
            obtain ⟨U19, eU19⟩ : ∃ T : sS, T = uI T18 959 (((Xi T17 904 93)).toNat) (Int32.ofInt (((Xi T18 904 100) * 10000) + (Xi T18 904 101))) := ⟨_, rfl⟩
            rw [← eU19]
            have hHU19 : HI U19 := by rw [eU19]; exact HI_w hHT18 (show 0 ≤ (((Xi T18 904 100) * 10000) + (Xi T18 904 101)) by omega) (show (((Xi T18 904 100) * 10000) + (Xi T18 904 101)) ≤ 25010 by omega)
            have hFU19 : FR md_mo_test S U19 := by rw [eU19]; exact FR.wI hFT18 (mdf_i (r := (959, 960, 0, 100000)) (List.mem_of_getElem? (i := 18) rfl) (inR_i (by omega) (by omega) (by omega) (by omega)))
            have w315 : Xi U19 959 (((Xi T17 904 93)).toNat) = (((Xi T18 904 100) * 10000) + (Xi T18 904 101)) := by rw [eU19]; exact Xi_same (by unfold rg; omega)
            have h337 : Xi U19 904 65 = 0 → THV (Xi U19 904 69) n (Xi U19 954 (Xi S 904 93).toNat) (Xi U19 955 (Xi S 904 93).toNat) := fun q => (by rw [eU19, Xi_ne (by omega)] at q; exact thv_c (h313 q) (by rw [eU19, Xi_ne (by omega)]; exact Int.le_refl _) (by rw [eU19, Xi_ne (by omega)]) (by rw [eU19, Xi_ne (by omega)]))
            have f337 : Xi U19 952 (Xi S 904 93).toNat = 4 := by rw [eU19, Xi_ne (by omega)]; exact f313
            have o337 : Xi U19 959 (Xi S 904 93).toNat = Xi T18 904 100 * 10000 + Xi T18 904 101 := by rw [show (Xi S 904 93).toNat = (Xi T17 904 93).toNat by omega]; assumption
            have x337 : Xi U19 904 65 = Xi T18 904 65 ∧ Xi U19 904 69 = Xi T18 904 69 := ⟨by rw [eU19, Xi_ne (by omega)], by rw [eU19, Xi_ne (by omega)]⟩
            clear h313 f313
            refine l_aload_n rfl rfl ?_
            refine l_gfr rfl rfl rfl rfl rfl (hHU19.r 904 90 960 rfl) ?_
            refine l_aload_n rfl rfl ?_
            refine l_gfi rfl rfl rfl rfl rfl ?_
            have w316 : (Xi U19 904 93) = (Xi T17 904 93) := (show Xi U19 904 93 = Xi T18 904 93 from by rw [eU19]; exact Xi_ne (by omega)).trans ((show Xi T18 904 93 = Xi T17 904 93 from w305.x _ _ rfl))
            rw [w316]
            refine l_aload_n rfl rfl ?_
            refine l_gfi rfl rfl rfl rfl rfl ?_
            have w317 : 0 ≤ (Xi U19 904 99) ∧ (Xi U19 904 99) ≤ 2600 := hHU19.c _ _
            have e347 : (Xi U19 904 99) = Xi T18 904 99 := by rw [eU19]; exact Xi_ne (by omega)
            refine l_iastore (n := 1700) rfl rfl (by omega) (by omega) (by unfold rg; omega) ?_
            obtain ⟨U20, eU20⟩ : ∃ T : sS, T = uI U19 960 (((Xi T17 904 93)).toNat) (Int32.ofInt (Xi U19 904 99)) := ⟨_, rfl⟩
            rw [← eU20]
            have hHU20 : HI U20 := by rw [eU20]; exact HI_w hHU19 (show -1 ≤ (Xi U19 904 99) by omega) (show (Xi U19 904 99) ≤ 2600 by omega)
            have hFU20 : FR md_mo_test S U20 := by rw [eU20]; exact FR.wI hFU19 (mdf_i (r := (960, 961, 0, 100000)) (List.mem_of_getElem? (i := 19) rfl) (inR_i (by omega) (by omega) (by omega) (by omega)))
            have w318 : Xi U20 960 (((Xi T17 904 93)).toNat) = (Xi U19 904 99) := by rw [eU20]; exact Xi_same (by unfold rg; omega)
            have h350 : Xi U20 904 65 = 0 → THV (Xi U20 904 69) n (Xi U20 954 (Xi S 904 93).toNat) (Xi U20 955 (Xi S 904 93).toNat) := fun q => (by rw [eU20, Xi_ne (by omega)] at q; exact thv_c (h337 q) (by rw [eU20, Xi_ne (by omega)]; exact Int.le_refl _) (by rw [eU20, Xi_ne (by omega)]) (by rw [eU20, Xi_ne (by omega)]))
            have f350 : Xi U20 952 (Xi S 904 93).toNat = 4 := by rw [eU20, Xi_ne (by omega)]; exact f337
            have x350 : Xi U20 904 65 = Xi U19 904 65 ∧ Xi U20 904 69 = Xi U19 904 69 ∧ Xi U20 959 (Xi S 904 93).toNat = Xi U19 959 (Xi S 904 93).toNat := ⟨by rw [eU20, Xi_ne (by omega)], by rw [eU20, Xi_ne (by omega)], by rw [eU20, Xi_ne (by omega)]⟩
            have o350 : Xi U20 960 (Xi S 904 93).toNat = Xi T18 904 99 := by rw [show (Xi S 904 93).toNat = (Xi T17 904 93).toNat by omega]; omega
            have E350 : Xi U20 904 65 = 0 → TVx U20 n (Xi S 904 93).toNat := fun q => tvx_4 f350 (h350 q) (thv_i (s := Xi T18 904 100) (t := Xi T18 904 101) (r := Xi T18 904 99) (by omega) (by omega) y313.1 y313.2.1 (by have t := o313 (by omega); omega) y313.2.2 (fun w => by have t := (o313 (by omega)).2 w; omega))
            clear h337 h350 f337 o313
            have w319 : Xi U20 952 (Xi S 904 93).toNat = Xi T17 952 (Xi S 904 93).toNat := (show Xi U20 952 (Xi S 904 93).toNat = Xi U19 952 (Xi S 904 93).toNat from by rw [eU20]; exact Xi_ne (by omega)).trans ( (show Xi U19 952 (Xi S 904 93).toNat = Xi T18 952 (Xi S 904 93).toNat from by rw [eU19]; exact Xi_ne (by omega)).trans ((show Xi T18 952 (Xi S 904 93).toNat = Xi T17 952 (Xi S 904 93).toNat from (w305.cx 952 rfl _).1)))
            have w320 : Xi U20 961 (Xi S 904 93).toNat = Xi T17 961 (Xi S 904 93).toNat := (show Xi U20 961 (Xi S 904 93).toNat = Xi U19 961 (Xi S 904 93).toNat from by rw [eU20]; exact Xi_ne (by omega)).trans ( (show Xi U19 961 (Xi S 904 93).toNat = Xi T18 961 (Xi S 904 93).toNat from by rw [eU19]; exact Xi_ne (by omega)).trans ((show Xi T18 961 (Xi S 904 93).toNat = Xi T17 961 (Xi S 904 93).toNat from (w305.cx 961 rfl _).1)))
            have w321 : Xi U20 962 (Xi S 904 93).toNat = Xi T17 962 (Xi S 904 93).toNat := (show Xi U20 962 (Xi S 904 93).toNat = Xi U19 962 (Xi S 904 93).toNat from by rw [eU20]; exact Xi_ne (by omega)).trans ( (show Xi U19 962 (Xi S 904 93).toNat = Xi T18 962 (Xi S 904 93).toNat from by rw [eU19]; exact Xi_ne (by omega)).trans ((show Xi T18 962 (Xi S 904 93).toNat = Xi T17 962 (Xi S 904 93).toNat from (w305.cx 962 rfl _).1)))
            have w322 : Xi U20 904 65 = Xi T18 904 65 := (show Xi U20 904 65 = Xi U19 904 65 from by rw [eU20]; exact Xi_ne (by omega)).trans ((show Xi U19 904 65 = Xi T18 904 65 from by rw [eU19]; exact Xi_ne (by omega)))
            have w323 : 0 ≤ Xi T18 904 65 ∧ Xi T18 904 65 ≤ 1 := hHT18.c _ _
            have w324 : Xi U20 904 69 = Xi T18 904 69 := (show Xi U20 904 69 = Xi U19 904 69 from by rw [eU20]; exact Xi_ne (by omega)).trans ((show Xi U19 904 69 = Xi T18 904 69 from by rw [eU19]; exact Xi_ne (by omega)))
            have w325 : 0 ≤ Xi T18 904 69 ∧ Xi T18 904 69 ≤ 2600 := hHT18.c _ _
            have w326 : Xi U20 904 8 = Xi T18 904 8 := (show Xi U20 904 8 = Xi U19 904 8 from by rw [eU20]; exact Xi_ne (by omega)).trans ((show Xi U19 904 8 = Xi T18 904 8 from by rw [eU19]; exact Xi_ne (by omega)))
            have w327 : 0 ≤ Xi T18 904 8 ∧ Xi T18 904 8 ≤ 5010 := hHT18.c _ _
            have w328 : Xi U20 904 93 = Xi T17 904 93 := (show Xi U20 904 93 = Xi U19 904 93 from by rw [eU20]; exact Xi_ne (by omega)).trans ( (show Xi U19 904 93 = Xi T18 904 93 from by rw [eU19]; exact Xi_ne (by omega)).trans ((show Xi T18 904 93 = Xi T17 904 93 from w305.x _ _ rfl)))
            have w329 : 0 ≤ Xi T17 904 93 ∧ Xi T17 904 93 ≤ 1700 := hHT17.c _ _
            exact Rl_weak (C351 U20 hHU20 hFU20  (by first | assumption | exact AT_bad (by omega) | exact (AT_FR (FR_e eU20) rfl (AT_FR (FR_e eU19) rfl (by assumption : AT T18 _ _)))) (by first | assumption | exact (RNV_FR (FR_e eU20) rfl (RNV_FR (FR_e eU19) rfl (by assumption : RNV T18 _)))) (by omega) (by omega) (by omega) (by omega) (by omega) (by omega) ((KT.w (KT.w (KT_FR w305 rfl (by assumption : KT T17 S _)) eU19 (by omega)) eU20 (by omega))) (by first | exact E187 | exact E274 | exact E350 | exact (fun _ q => tvx_5 (by omega)) A96 | exact fun q => absurd q (by omega)) (by omega)) (And.intro rfl (And.intro rfl (True.intro)))
          refine l_aload_n rfl rfl ?_
          refine l_iconst rfl ?_
          have w330 : 0 ≤ Xi T16 904 65 ∧ Xi T16 904 65 ≤ 1 := hHT16.c _ _
          have w331 : 0 ≤ Xi T16 904 69 ∧ Xi T16 904 69 ≤ 2600 := hHT16.c _ _
          have w332 : 0 ≤ Xi T16 904 8 ∧ Xi T16 904 8 ≤ 5010 := hHT16.c _ _
          have w333 : 0 ≤ Xi T16 904 93 ∧ Xi T16 904 93 ≤ 1700 := hHT16.c _ _
          refine l_callV rfl rfl rfl (t_mo_isNext hHT16 n c 3 ⟨by omega, by omega⟩ (by first | assumption | exact (TK_FR hFT16 rfl (by assumption : TK S _))) (by first | assumption | exact (by assumption : AT T16 _ _)) _) ?_
          rintro _ _ ⟨rfl, z334, rfl, w334, p246, n246⟩
          show Rl _ _ _ _ _ [iv z334] _ _
          clear p246 n246
          refine l_if_eq rfl rfl (by unfold rg; omega) (fun w335 => ?_) (fun w336 => ?_)
          · refine l_iload_n rfl rfl ?_
            refine l_if_eq rfl rfl (by unfold rg; omega) (fun w337 => ?_) (fun w338 => ?_)
            · refine l_aload_n rfl rfl ?_
              refine l_gfr rfl rfl rfl rfl rfl (hHT16.r 904 82 952 rfl) ?_
              refine l_aload_n rfl rfl ?_
              refine l_gfi rfl rfl rfl rfl rfl ?_
              refine l_iconst rfl ?_
              refine l_iastore (n := 1700) rfl rfl (by omega) (by omega) (by unfold rg; omega) ?_
              obtain ⟨U21, eU21⟩ : ∃ T : sS, T = uI T16 952 (((Xi T16 904 93)).toNat) (Int32.ofInt 4) := ⟨_, rfl⟩
              rw [← eU21]
              have hHU21 : HI U21 := by rw [eU21]; exact HI_w hHT16 (show 0 ≤ 4 by omega) (show 4 ≤ 5 by omega)
              have hFU21 : FR md_mo_test S U21 := by rw [eU21]; exact FR.wI hFT16 (mdf_i (r := (952, 953, 0, 100000)) (List.mem_of_getElem? (i := 11) rfl) (inR_i (by omega) (by omega) (by omega) (by omega)))
              have w339 : Xi U21 952 (((Xi T16 904 93)).toNat) = 4 := by rw [eU21]; exact Xi_same (by unfold rg; omega)
              have h298 : Xi U21 904 65 = 0 → THV (Xi U21 904 69) n (Xi U21 954 (Xi S 904 93).toNat) (Xi U21 955 (Xi S 904 93).toNat) := fun q => (by rw [eU21, Xi_ne (by omega)] at q; exact thv_c (h244 q) (by rw [eU21, Xi_ne (by omega)]; exact Int.le_refl _) (by rw [eU21, Xi_ne (by omega)]) (by rw [eU21, Xi_ne (by omega)]))
              have f298 : Xi U21 952 (Xi S 904 93).toNat = 4 := by rw [show (Xi S 904 93).toNat = (Xi T16 904 93).toNat by omega]; assumption
              clear h244
              refine l_aload_n rfl rfl ?_
              refine l_gfr rfl rfl rfl rfl rfl (hHU21.r 904 88 958 rfl) ?_
              refine l_aload_n rfl rfl ?_
              refine l_gfi rfl rfl rfl rfl rfl ?_
              have w340 : (Xi U21 904 93) = (Xi T16 904 93) := (show Xi U21 904 93 = Xi T16 904 93 from by rw [eU21]; exact Xi_ne (by omega))
              rw [w340]
              refine l_aload_n rfl rfl ?_
              have w341 : Xi U21 904 65 = Xi T16 904 65 := (show Xi U21 904 65 = Xi T16 904 65 from by rw [eU21]; exact Xi_ne (by omega))
              have w342 : 0 ≤ Xi T16 904 65 ∧ Xi T16 904 65 ≤ 1 := hHT16.c _ _
              have w343 : Xi U21 904 69 = Xi T16 904 69 := (show Xi U21 904 69 = Xi T16 904 69 from by rw [eU21]; exact Xi_ne (by omega))
              have w344 : 0 ≤ Xi T16 904 69 ∧ Xi T16 904 69 ≤ 2600 := hHT16.c _ _
              have w345 : Xi U21 904 8 = Xi T16 904 8 := (show Xi U21 904 8 = Xi T16 904 8 from by rw [eU21]; exact Xi_ne (by omega))
              have w346 : 0 ≤ Xi T16 904 8 ∧ Xi T16 904 8 ≤ 5010 := hHT16.c _ _
              have w347 : Xi U21 904 93 = Xi T16 904 93 := (show Xi U21 904 93 = Xi T16 904 93 from by rw [eU21]; exact Xi_ne (by omega))
              have w348 : 0 ≤ Xi T16 904 93 ∧ Xi T16 904 93 ≤ 1700 := hHT16.c _ _
              refine l_callV rfl rfl rfl (t_mo_placing__2 hHU21 n c (by first | assumption | exact (TK_FR hFU21 rfl (by assumption : TK S _))) (by first | assumption | exact (AT_FR (FR_e eU21) rfl (by assumption : AT T16 _ _))) _) ?_
              rintro _ T22 ⟨hHT22, w352, z351, rfl, w351, w349, w350, kb308⟩
              have hFT22 : FR md_mo_test S T22 := FR.tr hFU21 w352 rfl
              show Rl _ _ _ _ _ [iv z351, iv (Xi T16 904 93), .ref 958] _ _
              have w354 : 0 ≤ Xi T22 904 8 ∧ Xi T22 904 8 ≤ 5010 := hHT22.c _ _
              have w355 : 0 ≤ Xi T22 904 65 ∧ Xi T22 904 65 ≤ 1 := hHT22.c _ _
              have w356 : Xi T22 904 69 = Xi T16 904 69 := (show Xi T22 904 69 = Xi U21 904 69 from w352.x _ _ rfl).trans ((show Xi U21 904 69 = Xi T16 904 69 from by rw [eU21]; exact Xi_ne (by omega)))
              have w357 : 0 ≤ Xi T16 904 69 ∧ Xi T16 904 69 ≤ 2600 := hHT16.c _ _
              have w358 : Xi T22 904 93 = Xi T16 904 93 := (show Xi T22 904 93 = Xi U21 904 93 from w352.x _ _ rfl).trans ((show Xi U21 904 93 = Xi T16 904 93 from by rw [eU21]; exact Xi_ne (by omega)))
              have w359 : 0 ≤ Xi T16 904 93 ∧ Xi T16 904 93 ≤ 1700 := hHT16.c _ _
              have h308 : Xi T22 904 65 = 0 → THV (Xi T22 904 69) n (Xi T22 954 (Xi S 904 93).toNat) (Xi T22 955 (Xi S 904 93).toNat) := fun q => thv_c (h298 (kb308 q)) (by omega) ((by assumption : FR md_mo_placing U21 T22).cx 954 rfl _).1 ((by assumption : FR md_mo_placing U21 T22).cx 955 rfl _).1
              have f308 : Xi T22 952 (Xi S 904 93).toNat = 4 := ((by assumption : FR md_mo_placing U21 T22).cx 952 rfl _).1.trans f298
              clear h298 f298
              have w353 : Xi S 904 8 ≤ Xi T22 904 8 ∧ Xi T22 904 8 ≤ n ∧ Xi S 904 69 ≤ Xi T22 904 69 ∧ (Xi T22 904 65 = 0 → Xi S 904 65 = 0) := by omega
              clear w350 kb308
              refine l_iastore (n := 1700) rfl rfl (by omega) (by omega) (by unfold rg; omega) ?_
              obtain ⟨U23, eU23⟩ : ∃ T : sS, T = uI T22 958 (((Xi T16 904 93)).toNat) (Int32.ofInt z351) := ⟨_, rfl⟩
              rw [← eU23]
              have hHU23 : HI U23 := by rw [eU23]; exact HI_w hHT22 (show 0 ≤ z351 by omega) (show z351 ≤ 5 by omega)
              have hFU23 : FR md_mo_test S U23 := by rw [eU23]; exact FR.wI hFT22 (mdf_i (r := (958, 959, 0, 100000)) (List.mem_of_getElem? (i := 17) rfl) (inR_i (by omega) (by omega) (by omega) (by omega)))
              have w360 : Xi U23 958 (((Xi T16 904 93)).toNat) = z351 := by rw [eU23]; exact Xi_same (by unfold rg; omega)
              have h311 : Xi U23 904 65 = 0 → THV (Xi U23 904 69) n (Xi U23 954 (Xi S 904 93).toNat) (Xi U23 955 (Xi S 904 93).toNat) := fun q => (by rw [eU23, Xi_ne (by omega)] at q; exact thv_c (h308 q) (by rw [eU23, Xi_ne (by omega)]; exact Int.le_refl _) (by rw [eU23, Xi_ne (by omega)]) (by rw [eU23, Xi_ne (by omega)]))
              have f311 : Xi U23 952 (Xi S 904 93).toNat = 4 := by rw [eU23, Xi_ne (by omega)]; exact f308
              clear h308 f308
              have w361 : Xi U23 952 (Xi S 904 93).toNat = Xi U21 952 (Xi S 904 93).toNat := (show Xi U23 952 (Xi S 904 93).toNat = Xi T22 952 (Xi S 904 93).toNat from by rw [eU23]; exact Xi_ne (by omega)).trans ((show Xi T22 952 (Xi S 904 93).toNat = Xi U21 952 (Xi S 904 93).toNat from (w352.cx 952 rfl _).1))
              have w362 : Xi U23 961 (Xi S 904 93).toNat = Xi T16 961 (Xi S 904 93).toNat := (show Xi U23 961 (Xi S 904 93).toNat = Xi T22 961 (Xi S 904 93).toNat from by rw [eU23]; exact Xi_ne (by omega)).trans ( (show Xi T22 961 (Xi S 904 93).toNat = Xi U21 961 (Xi S 904 93).toNat from (w352.cx 961 rfl _).1).trans ((show Xi U21 961 (Xi S 904 93).toNat = Xi T16 961 (Xi S 904 93).toNat from by rw [eU21]; exact Xi_ne (by omega))))
              have w363 : Xi U23 962 (Xi S 904 93).toNat = Xi T16 962 (Xi S 904 93).toNat := (show Xi U23 962 (Xi S 904 93).toNat = Xi T22 962 (Xi S 904 93).toNat from by rw [eU23]; exact Xi_ne (by omega)).trans ( (show Xi T22 962 (Xi S 904 93).toNat = Xi U21 962 (Xi S 904 93).toNat from (w352.cx 962 rfl _).1).trans ((show Xi U21 962 (Xi S 904 93).toNat = Xi T16 962 (Xi S 904 93).toNat from by rw [eU21]; exact Xi_ne (by omega))))
              have w364 : Xi U23 904 65 = Xi T22 904 65 := (show Xi U23 904 65 = Xi T22 904 65 from by rw [eU23]; exact Xi_ne (by omega))
              have w365 : 0 ≤ Xi T22 904 65 ∧ Xi T22 904 65 ≤ 1 := hHT22.c _ _
              have w366 : Xi U23 904 69 = Xi T16 904 69 := (show Xi U23 904 69 = Xi T22 904 69 from by rw [eU23]; exact Xi_ne (by omega)).trans ( (show Xi T22 904 69 = Xi U21 904 69 from w352.x _ _ rfl).trans ((show Xi U21 904 69 = Xi T16 904 69 from by rw [eU21]; exact Xi_ne (by omega))))
              have w367 : 0 ≤ Xi T16 904 69 ∧ Xi T16 904 69 ≤ 2600 := hHT16.c _ _
              have w368 : Xi U23 904 8 = Xi T22 904 8 := (show Xi U23 904 8 = Xi T22 904 8 from by rw [eU23]; exact Xi_ne (by omega))
              have w369 : 0 ≤ Xi T22 904 8 ∧ Xi T22 904 8 ≤ 5010 := hHT22.c _ _
              have w370 : Xi U23 904 93 = Xi T16 904 93 := (show Xi U23 904 93 = Xi T22 904 93 from by rw [eU23]; exact Xi_ne (by omega)).trans ( (show Xi T22 904 93 = Xi U21 904 93 from w352.x _ _ rfl).trans ((show Xi U21 904 93 = Xi T16 904 93 from by rw [eU21]; exact Xi_ne (by omega))))
              have w371 : 0 ≤ Xi T16 904 93 ∧ Xi T16 904 93 ≤ 1700 := hHT16.c _ _
              exact Rl_weak (C312 U23 hHU23 hFU23  (by first | assumption | exact (AT_FR (FR_e eU23) rfl (by assumption : AT T22 _ _))) (by first | assumption | exact (RNV_FR (FR_e eU23) rfl (RNV_FR w352 rfl (RNV_FR (FR_e eU21) rfl (by assumption : RNV T16 _))))) (by omega) (by omega) (by omega) (by omega) (by omega) ((KT.w (KT_FR w352 rfl (KT.w (by assumption : KT T16 S _) eU21 (by omega))) eU23 (by omega))) (h311) (f311) (by omega)) (And.intro rfl (And.intro rfl (True.intro)))
            · refine l_aload_n rfl rfl ?_
              have w372 : 0 ≤ Xi T16 904 65 ∧ Xi T16 904 65 ≤ 1 := hHT16.c _ _
              have w373 : 0 ≤ Xi T16 904 69 ∧ Xi T16 904 69 ≤ 2600 := hHT16.c _ _
              have w374 : 0 ≤ Xi T16 904 8 ∧ Xi T16 904 8 ≤ 5010 := hHT16.c _ _
              have w375 : 0 ≤ Xi T16 904 93 ∧ Xi T16 904 93 ≤ 1700 := hHT16.c _ _
              refine l_callV rfl rfl rfl (t_mo_odd hHT16 _) ?_
              rintro _ T24 ⟨hHT24, w379, rfl, w376, w377⟩
              have hFT24 : FR md_mo_test S T24 := FR.tr hFT16 w379 rfl
              show Rl _ _ _ _ _ [] _ _
              have w381 : Xi T24 904 8 = Xi T16 904 8 := (show Xi T24 904 8 = Xi T16 904 8 from w379.x _ _ rfl)
              have w382 : 0 ≤ Xi T16 904 8 ∧ Xi T16 904 8 ≤ 5010 := hHT16.c _ _
              have w383 : 0 ≤ Xi T24 904 65 ∧ Xi T24 904 65 ≤ 1 := hHT24.c _ _
              have w384 : Xi T24 904 69 = Xi T16 904 69 := (show Xi T24 904 69 = Xi T16 904 69 from w379.x _ _ rfl)
              have w385 : 0 ≤ Xi T16 904 69 ∧ Xi T16 904 69 ≤ 2600 := hHT16.c _ _
              have w386 : Xi T24 904 93 = Xi T16 904 93 := (show Xi T24 904 93 = Xi T16 904 93 from w379.x _ _ rfl)
              have w387 : 0 ≤ Xi T16 904 93 ∧ Xi T16 904 93 ≤ 1700 := hHT16.c _ _
              have w380 : Xi S 904 8 ≤ Xi T24 904 8 ∧ Xi T24 904 8 ≤ n ∧ Xi S 904 69 ≤ Xi T24 904 69 ∧ (Xi T24 904 65 = 0 → Xi S 904 65 = 0) := by omega
              clear w377
              refine l_goto rfl rfl ?_
              have w388 : Xi T24 952 (Xi S 904 93).toNat = Xi T16 952 (Xi S 904 93).toNat := (show Xi T24 952 (Xi S 904 93).toNat = Xi T16 952 (Xi S 904 93).toNat from (w379.cx 952 rfl _).1)
              have w389 : Xi T24 961 (Xi S 904 93).toNat = Xi T16 961 (Xi S 904 93).toNat := (show Xi T24 961 (Xi S 904 93).toNat = Xi T16 961 (Xi S 904 93).toNat from (w379.cx 961 rfl _).1)
              have w390 : Xi T24 962 (Xi S 904 93).toNat = Xi T16 962 (Xi S 904 93).toNat := (show Xi T24 962 (Xi S 904 93).toNat = Xi T16 962 (Xi S 904 93).toNat from (w379.cx 962 rfl _).1)
              have w391 : 0 ≤ Xi T24 904 65 ∧ Xi T24 904 65 ≤ 1 := hHT24.c _ _
              have w392 : Xi T24 904 69 = Xi T16 904 69 := (show Xi T24 904 69 = Xi T16 904 69 from w379.x _ _ rfl)
              have w393 : 0 ≤ Xi T16 904 69 ∧ Xi T16 904 69 ≤ 2600 := hHT16.c _ _
              have w394 : Xi T24 904 8 = Xi T16 904 8 := (show Xi T24 904 8 = Xi T16 904 8 from w379.x _ _ rfl)
              have w395 : 0 ≤ Xi T16 904 8 ∧ Xi T16 904 8 ≤ 5010 := hHT16.c _ _
              have w396 : Xi T24 904 93 = Xi T16 904 93 := (show Xi T24 904 93 = Xi T16 904 93 from w379.x _ _ rfl)
              have w397 : 0 ≤ Xi T16 904 93 ∧ Xi T16 904 93 ≤ 1700 := hHT16.c _ _
              exact Rl_weak (C351 T24 hHT24 hFT24  (by first | assumption | exact AT_bad (by omega) | exact (by assumption : AT T24 _ _)) (by first | assumption | exact (RNV_FR w379 rfl (by assumption : RNV T16 _))) (by omega) (by omega) (by omega) (by omega) (by omega) (by omega) ((KT_FR w379 rfl (by assumption : KT T16 S _))) (by first | exact E187 | exact E274 | exact E350 | exact (fun _ q => tvx_5 (by omega)) A96 | exact fun q => absurd q (by omega)) (by omega)) (And.intro rfl (And.intro rfl (True.intro)))
          · refine l_aload_n rfl rfl ?_
            refine l_gfr rfl rfl rfl rfl rfl (hHT16.r 904 82 952 rfl) ?_
            refine l_aload_n rfl rfl ?_
            refine l_gfi rfl rfl rfl rfl rfl ?_
            refine l_iconst rfl ?_
            refine l_iastore (n := 1700) rfl rfl (by omega) (by omega) (by unfold rg; omega) ?_
            obtain ⟨U25, eU25⟩ : ∃ T : sS, T = uI T16 952 (((Xi T16 904 93)).toNat) (Int32.ofInt 3) := ⟨_, rfl⟩
            rw [← eU25]
            have hHU25 : HI U25 := by rw [eU25]; exact HI_w hHT16 (show 0 ≤ 3 by omega) (show 3 ≤ 5 by omega)
            have hFU25 : FR md_mo_test S U25 := by rw [eU25]; exact FR.wI hFT16 (mdf_i (r := (952, 953, 0, 100000)) (List.mem_of_getElem? (i := 11) rfl) (inR_i (by omega) (by omega) (by omega) (by omega)))
            have w398 : Xi U25 952 (((Xi T16 904 93)).toNat) = 3 := by rw [eU25]; exact Xi_same (by unfold rg; omega)
            have h261 : Xi U25 904 65 = 0 → THV (Xi U25 904 69) n (Xi U25 954 (Xi S 904 93).toNat) (Xi U25 955 (Xi S 904 93).toNat) := fun q => (by rw [eU25, Xi_ne (by omega)] at q; exact thv_c (h244 q) (by rw [eU25, Xi_ne (by omega)]; exact Int.le_refl _) (by rw [eU25, Xi_ne (by omega)]) (by rw [eU25, Xi_ne (by omega)]))
            have f261 : Xi U25 952 (Xi S 904 93).toNat = 3 := by rw [show (Xi S 904 93).toNat = (Xi T16 904 93).toNat by omega]; assumption
            clear h244
            refine l_aload_n rfl rfl ?_
            refine l_gfr rfl rfl rfl rfl rfl (hHU25.r 904 86 956 rfl) ?_
            refine l_aload_n rfl rfl ?_
            refine l_gfi rfl rfl rfl rfl rfl ?_
            have w399 : (Xi U25 904 93) = (Xi T16 904 93) := (show Xi U25 904 93 = Xi T16 904 93 from by rw [eU25]; exact Xi_ne (by omega))
            rw [w399]
            refine l_aload_n rfl rfl ?_
            have w400 : Xi U25 904 65 = Xi T16 904 65 := (show Xi U25 904 65 = Xi T16 904 65 from by rw [eU25]; exact Xi_ne (by omega))
            have w401 : 0 ≤ Xi T16 904 65 ∧ Xi T16 904 65 ≤ 1 := hHT16.c _ _
            have w402 : Xi U25 904 69 = Xi T16 904 69 := (show Xi U25 904 69 = Xi T16 904 69 from by rw [eU25]; exact Xi_ne (by omega))
            have w403 : 0 ≤ Xi T16 904 69 ∧ Xi T16 904 69 ≤ 2600 := hHT16.c _ _
            have w404 : Xi U25 904 8 = Xi T16 904 8 := (show Xi U25 904 8 = Xi T16 904 8 from by rw [eU25]; exact Xi_ne (by omega))
            have w405 : 0 ≤ Xi T16 904 8 ∧ Xi T16 904 8 ≤ 5010 := hHT16.c _ _
            have w406 : Xi U25 904 93 = Xi T16 904 93 := (show Xi U25 904 93 = Xi T16 904 93 from by rw [eU25]; exact Xi_ne (by omega))
            have w407 : 0 ≤ Xi T16 904 93 ∧ Xi T16 904 93 ≤ 1700 := hHT16.c _ _
            refine l_callV rfl rfl rfl (t_mo_run hHU25 n c (by first | assumption | exact (TK_FR hFU25 rfl (by assumption : TK S _))) (by first | assumption | exact (AT_FR (FR_e eU25) rfl (by assumption : AT T16 _ _))) (by first | assumption | exact (RNV_FR (FR_e eU25) rfl (by assumption : RNV T16 _))) _) ?_
            rintro _ T26 ⟨hHT26, w413, z412, rfl, w412, w408, w409, w410, r271, w411⟩
            have hFT26 : FR md_mo_test S T26 := FR.tr hFU25 w413 rfl
            show Rl _ _ _ _ _ [iv z412, iv (Xi T16 904 93), .ref 956] _ _
            have w415 : 0 ≤ Xi T26 904 8 ∧ Xi T26 904 8 ≤ 5010 := hHT26.c _ _
            have w416 : 0 ≤ Xi T26 904 65 ∧ Xi T26 904 65 ≤ 1 := hHT26.c _ _
            have w417 : 0 ≤ Xi T26 904 69 ∧ Xi T26 904 69 ≤ 2600 := hHT26.c _ _
            have w418 : Xi T26 904 93 = Xi T16 904 93 := (show Xi T26 904 93 = Xi U25 904 93 from w413.x _ _ rfl).trans ((show Xi U25 904 93 = Xi T16 904 93 from by rw [eU25]; exact Xi_ne (by omega)))
            have w419 : 0 ≤ Xi T16 904 93 ∧ Xi T16 904 93 ≤ 1700 := hHT16.c _ _
            have h271 : Xi T26 904 65 = 0 → THV (Xi T26 904 69) n (Xi T26 954 (Xi S 904 93).toNat) (Xi T26 955 (Xi S 904 93).toNat) := fun q => thv_c (h261 (r271 q).2.2) (by omega) ((by assumption : FR md_mo_run U25 T26).cx 954 rfl _).1 ((by assumption : FR md_mo_run U25 T26).cx 955 rfl _).1
            have f271 : Xi T26 952 (Xi S 904 93).toNat = 3 := ((by assumption : FR md_mo_run U25 T26).cx 952 rfl _).1.trans f261
            clear h261
            have w414 : Xi S 904 8 ≤ Xi T26 904 8 ∧ Xi T26 904 8 ≤ n ∧ Xi S 904 69 ≤ Xi T26 904 69 ∧ (Xi T26 904 65 = 0 → Xi S 904 65 = 0) := by omega
            clear w409 w411
            refine l_iastore (n := 1700) rfl rfl (by omega) (by omega) (by unfold rg; omega) ?_
            obtain ⟨U27, eU27⟩ : ∃ T : sS, T = uI T26 956 (((Xi T16 904 93)).toNat) (Int32.ofInt z412) := ⟨_, rfl⟩
            rw [← eU27]
            have hHU27 : HI U27 := by rw [eU27]; exact HI_w hHT26 (show 0 ≤ z412 by omega) (show z412 ≤ 2600 by omega)
            have hFU27 : FR md_mo_test S U27 := by rw [eU27]; exact FR.wI hFT26 (mdf_i (r := (956, 957, 0, 100000)) (List.mem_of_getElem? (i := 15) rfl) (inR_i (by omega) (by omega) (by omega) (by omega)))
            have w420 : Xi U27 956 (((Xi T16 904 93)).toNat) = z412 := by rw [eU27]; exact Xi_same (by unfold rg; omega)
            have h274 : Xi U27 904 65 = 0 → THV (Xi U27 904 69) n (Xi U27 954 (Xi S 904 93).toNat) (Xi U27 955 (Xi S 904 93).toNat) := fun q => (by rw [eU27, Xi_ne (by omega)] at q; exact thv_c (h271 q) (by rw [eU27, Xi_ne (by omega)]; exact Int.le_refl _) (by rw [eU27, Xi_ne (by omega)]) (by rw [eU27, Xi_ne (by omega)]))
            have f274 : Xi U27 952 (Xi S 904 93).toNat = 3 := by rw [eU27, Xi_ne (by omega)]; exact f271
            have E274 : Xi U27 904 65 = 0 → TVx U27 n (Xi S 904 93).toNat := fun q => tvx_3 f274 (h274 q) (by have t := r271 (by rw [eU27, Xi_ne (by omega)] at q; exact q); have u : Xi U27 904 69 = Xi T26 904 69 := (by rw [eU27, Xi_ne (by omega)]); rw [show (Xi S 904 93).toNat = (Xi T16 904 93).toNat by omega]; omega)
            clear h271 h274 f271
            refine l_goto rfl rfl ?_
            have w421 : Xi U27 952 (Xi S 904 93).toNat = Xi U25 952 (Xi S 904 93).toNat := (show Xi U27 952 (Xi S 904 93).toNat = Xi T26 952 (Xi S 904 93).toNat from by rw [eU27]; exact Xi_ne (by omega)).trans ((show Xi T26 952 (Xi S 904 93).toNat = Xi U25 952 (Xi S 904 93).toNat from (w413.cx 952 rfl _).1))
            have w422 : Xi U27 961 (Xi S 904 93).toNat = Xi T16 961 (Xi S 904 93).toNat := (show Xi U27 961 (Xi S 904 93).toNat = Xi T26 961 (Xi S 904 93).toNat from by rw [eU27]; exact Xi_ne (by omega)).trans ( (show Xi T26 961 (Xi S 904 93).toNat = Xi U25 961 (Xi S 904 93).toNat from (w413.cx 961 rfl _).1).trans ((show Xi U25 961 (Xi S 904 93).toNat = Xi T16 961 (Xi S 904 93).toNat from by rw [eU25]; exact Xi_ne (by omega))))
            have w423 : Xi U27 962 (Xi S 904 93).toNat = Xi T16 962 (Xi S 904 93).toNat := (show Xi U27 962 (Xi S 904 93).toNat = Xi T26 962 (Xi S 904 93).toNat from by rw [eU27]; exact Xi_ne (by omega)).trans ( (show Xi T26 962 (Xi S 904 93).toNat = Xi U25 962 (Xi S 904 93).toNat from (w413.cx 962 rfl _).1).trans ((show Xi U25 962 (Xi S 904 93).toNat = Xi T16 962 (Xi S 904 93).toNat from by rw [eU25]; exact Xi_ne (by omega))))
            have w424 : Xi U27 904 65 = Xi T26 904 65 := (show Xi U27 904 65 = Xi T26 904 65 from by rw [eU27]; exact Xi_ne (by omega))
            have w425 : 0 ≤ Xi T26 904 65 ∧ Xi T26 904 65 ≤ 1 := hHT26.c _ _
            have w426 : Xi U27 904 69 = Xi T26 904 69 := (show Xi U27 904 69 = Xi T26 904 69 from by rw [eU27]; exact Xi_ne (by omega))
            have w427 : 0 ≤ Xi T26 904 69 ∧ Xi T26 904 69 ≤ 2600 := hHT26.c _ _
            have w428 : Xi U27 904 8 = Xi T26 904 8 := (show Xi U27 904 8 = Xi T26 904 8 from by rw [eU27]; exact Xi_ne (by omega))
            have w429 : 0 ≤ Xi T26 904 8 ∧ Xi T26 904 8 ≤ 5010 := hHT26.c _ _
            have w430 : Xi U27 904 93 = Xi T16 904 93 := (show Xi U27 904 93 = Xi T26 904 93 from by rw [eU27]; exact Xi_ne (by omega)).trans ( (show Xi T26 904 93 = Xi U25 904 93 from w413.x _ _ rfl).trans ((show Xi U25 904 93 = Xi T16 904 93 from by rw [eU25]; exact Xi_ne (by omega))))
            have w431 : 0 ≤ Xi T16 904 93 ∧ Xi T16 904 93 ≤ 1700 := hHT16.c _ _
            exact Rl_weak (C351 U27 hHU27 hFU27  (by first | assumption | exact AT_bad (by omega) | exact (AT_FR (FR_e eU27) rfl (by assumption : AT T26 _ _))) (by first | assumption | exact (RNV_FR (FR_e eU27) rfl (by assumption : RNV T26 _))) (by omega) (by omega) (by omega) (by omega) (by omega) (by omega) ((KT.w (KT_FR w413 rfl (KT.w (by assumption : KT T16 S _) eU25 (by omega))) eU27 (by omega))) (by first | exact E187 | exact E274 | exact E350 | exact (fun _ q => tvx_5 (by omega)) A96 | exact fun q => absurd q (by omega)) (by omega)) (And.intro rfl (And.intro rfl (True.intro)))
        refine l_aload_n rfl rfl ?_
        refine l_gfr rfl rfl rfl rfl rfl (hHT15.r 904 83 953 rfl) ?_
        refine l_aload_n rfl rfl ?_
        refine l_gfi rfl rfl rfl rfl rfl ?_
        refine l_aload_n rfl rfl ?_
        refine l_bipush rfl rfl ?_
        have w432 : 0 ≤ Xi T15 904 65 ∧ Xi T15 904 65 ≤ 1 := hHT15.c _ _
        have w433 : 0 ≤ Xi T15 904 69 ∧ Xi T15 904 69 ≤ 2600 := hHT15.c _ _
        have w434 : 0 ≤ Xi T15 904 8 ∧ Xi T15 904 8 ≤ 5010 := hHT15.c _ _
        have w435 : 0 ≤ Xi T15 904 93 ∧ Xi T15 904 93 ≤ 1700 := hHT15.c _ _
        refine l_callV rfl rfl rfl (t_mo_isNext hHT15 n c 106 ⟨by omega, by omega⟩ (by first | assumption | exact (TK_FR hFT15 rfl (by assumption : TK S _))) (by first | assumption | exact (by assumption : AT T15 _ _)) _) ?_
        rintro _ _ ⟨rfl, z436, rfl, w436, j214, n214⟩
        show Rl _ _ _ _ _ [iv z436, iv (Xi T15 904 93), .ref 953] _ _
        clear n214
        refine l_bastoreZ1 (n := 1700) rfl rfl (by omega) (by omega) (by unfold rg; omega) ⟨by omega, by omega⟩ ?_
        obtain ⟨U28, eU28⟩ : ∃ T : sS, T = uI T15 953 (((Xi T15 904 93)).toNat) (Int32.ofInt z436) := ⟨_, rfl⟩
        rw [← eU28]
        have hHU28 : HI U28 := by rw [eU28]; exact HI_w hHT15 (show 0 ≤ z436 by omega) (show z436 ≤ 1 by omega)
        have hFU28 : FR md_mo_test S U28 := by rw [eU28]; exact FR.wI hFT15 (mdf_i (r := (953, 954, 0, 100000)) (List.mem_of_getElem? (i := 12) rfl) (inR_i (by omega) (by omega) (by omega) (by omega)))
        have w437 : Xi U28 953 (((Xi T15 904 93)).toNat) = z436 := by rw [eU28]; exact Xi_same (by unfold rg; omega)
        have s217_8 : Xi U28 904 8 = Xi T15 904 8 := by rw [eU28, Xi_ne (by omega)]
        have s217_65 : Xi U28 904 65 = Xi T15 904 65 := by rw [eU28, Xi_ne (by omega)]
        have s217_69 : Xi U28 904 69 = Xi T15 904 69 := by rw [eU28, Xi_ne (by omega)]
        have s217_93 : Xi U28 904 93 = Xi T15 904 93 := by rw [eU28, Xi_ne (by omega)]
        have x217 : ∀ j, Xi U28 907 j = Xi T15 907 j := fun j => by rw [eU28, Xi_ne (by omega)]
        have i217 : Xi U28 953 (Xi T15 904 93).toNat ≠ 0 → Xi U28 904 65 = 0 ∧ Xi U28 907 (Xi U28 904 8).toNat ≠ 1 := fun q => by have t := j214 (by omega); rw [x217, s217_8]; omega
        have a217 : AT U28 n c := AT_FR (FR_e eU28) rfl (by assumption)
        have h217 : Xi U28 904 65 = 0 → THV (Xi U28 904 69) n (Xi U28 954 (Xi S 904 93).toNat) (Xi U28 955 (Xi S 904 93).toNat) := fun q => (by rw [eU28, Xi_ne (by omega)] at q; exact thv_c (h203 q) (by rw [eU28, Xi_ne (by omega)]; exact Int.le_refl _) (by rw [eU28, Xi_ne (by omega)]) (by rw [eU28, Xi_ne (by omega)]))
        clear h203 j214
        refine l_aload_n rfl rfl ?_
        refine l_dup rfl rfl ?_
        refine l_gfi rfl rfl rfl rfl rfl ?_
        have w438 : (Xi U28 904 8) = (Xi T15 904 8) := (show Xi U28 904 8 = Xi T15 904 8 from by rw [eU28]; exact Xi_ne (by omega))
        rw [w438]
        refine l_aload_n rfl rfl ?_
        refine l_gfr rfl rfl rfl rfl rfl (hHU28.r 904 83 953 rfl) ?_
        refine l_aload_n rfl rfl ?_
        refine l_gfi rfl rfl rfl rfl rfl ?_
        have w439 : (Xi U28 904 93) = (Xi T15 904 93) := (show Xi U28 904 93 = Xi T15 904 93 from by rw [eU28]; exact Xi_ne (by omega))
        rw [w439]
        refine l_baload (n := 1700) rfl rfl rfl (by decide) (by omega) (by omega) (by unfold rg; omega) ?_
        refine l_if_eq rfl rfl (by unfold rg; omega) (fun w440 => ?_) (fun w441 => ?_)
        · refine l_iconst rfl ?_
          refine l_iadd rfl ?_
          refine l_pfi rfl rfl rfl rfl ?_
          obtain ⟨U29, eU29⟩ : ∃ T : sS, T = uI U28 904 8 (Int32.ofInt ((Xi T15 904 8) + 0)) := ⟨_, rfl⟩
          rw [← eU29]
          have hHU29 : HI U29 := by rw [eU29]; exact HI_w hHU28 (show 0 ≤ ((Xi T15 904 8) + 0) by omega) (show ((Xi T15 904 8) + 0) ≤ 5010 by omega)
          have hFU29 : FR md_mo_test S U29 := by rw [eU29]; exact FR.wI hFU28 (mdf_i (r := (904, 905, 8, 9)) (List.mem_of_getElem? (i := 0) rfl) (inR_i (by omega) (by omega) (by omega) (by omega)))
          have w442 : Xi U29 904 8 = ((Xi T15 904 8) + 0) := by rw [eU29]; exact Xi_same (by unfold rg; omega)
          obtain ⟨a241, b241, c241⟩ : AT U29 n c ∧ Xi U28 904 8 ≤ Xi U29 904 8 ∧ (Xi U29 904 8 ≤ n ∨ Xi U29 904 8 = Xi U28 904 8) := at_opt (TK_FR hFU28 rfl hT) a217 eU29 (by omega) (by omega)
          have d241 : Xi S 904 8 ≤ Xi U29 904 8 ∧ Xi U29 904 8 ≤ n := by omega
          have h241 : Xi U29 904 65 = 0 → THV (Xi U29 904 69) n (Xi U29 954 (Xi S 904 93).toNat) (Xi U29 955 (Xi S 904 93).toNat) := fun q => (by rw [eU29, Xi_ne (by omega)] at q; exact thv_c (h217 q) (by rw [eU29, Xi_ne (by omega)]; exact Int.le_refl _) (by rw [eU29, Xi_ne (by omega)]) (by rw [eU29, Xi_ne (by omega)]))
          clear b241 c241 i217 h217
          have w443 : Xi U29 952 (Xi S 904 93).toNat = Xi T15 952 (Xi S 904 93).toNat := (show Xi U29 952 (Xi S 904 93).toNat = Xi U28 952 (Xi S 904 93).toNat from by rw [eU29]; exact Xi_ne (by omega)).trans ((show Xi U28 952 (Xi S 904 93).toNat = Xi T15 952 (Xi S 904 93).toNat from by rw [eU28]; exact Xi_ne (by omega)))
          have w444 : Xi U29 961 (Xi S 904 93).toNat = Xi T15 961 (Xi S 904 93).toNat := (show Xi U29 961 (Xi S 904 93).toNat = Xi U28 961 (Xi S 904 93).toNat from by rw [eU29]; exact Xi_ne (by omega)).trans ((show Xi U28 961 (Xi S 904 93).toNat = Xi T15 961 (Xi S 904 93).toNat from by rw [eU28]; exact Xi_ne (by omega)))
          have w445 : Xi U29 962 (Xi S 904 93).toNat = Xi T15 962 (Xi S 904 93).toNat := (show Xi U29 962 (Xi S 904 93).toNat = Xi U28 962 (Xi S 904 93).toNat from by rw [eU29]; exact Xi_ne (by omega)).trans ((show Xi U28 962 (Xi S 904 93).toNat = Xi T15 962 (Xi S 904 93).toNat from by rw [eU28]; exact Xi_ne (by omega)))
          have w446 : Xi U29 904 65 = Xi T15 904 65 := (show Xi U29 904 65 = Xi U28 904 65 from by rw [eU29]; exact Xi_ne (by omega)).trans ((show Xi U28 904 65 = Xi T15 904 65 from by rw [eU28]; exact Xi_ne (by omega)))
          have w447 : 0 ≤ Xi T15 904 65 ∧ Xi T15 904 65 ≤ 1 := hHT15.c _ _
          have w448 : Xi U29 904 69 = Xi T15 904 69 := (show Xi U29 904 69 = Xi U28 904 69 from by rw [eU29]; exact Xi_ne (by omega)).trans ((show Xi U28 904 69 = Xi T15 904 69 from by rw [eU28]; exact Xi_ne (by omega)))
          have w449 : 0 ≤ Xi T15 904 69 ∧ Xi T15 904 69 ≤ 2600 := hHT15.c _ _
          have w450 : 0 ≤ Xi U29 904 8 ∧ Xi U29 904 8 ≤ 5010 := hHU29.c _ _
          have w451 : Xi U29 904 93 = Xi T15 904 93 := (show Xi U29 904 93 = Xi U28 904 93 from by rw [eU29]; exact Xi_ne (by omega)).trans ((show Xi U28 904 93 = Xi T15 904 93 from by rw [eU28]; exact Xi_ne (by omega)))
          have w452 : 0 ≤ Xi T15 904 93 ∧ Xi T15 904 93 ≤ 1700 := hHT15.c _ _
          exact Rl_weak (C244 U29 hHU29 hFU29  (by first | assumption | exact (by assumption : AT U29 _ _)) (by first | assumption | exact (RNV_FR (FR_e eU29) rfl (RNV_FR (FR_e eU28) rfl (by assumption : RNV T15 _)))) (by omega) (by omega) (by omega) (by omega) (by omega) ((KT_FR (FR_e eU29) rfl (KT.w (by assumption : KT T15 S _) eU28 (by omega)))) (h241)) (And.intro rfl (And.intro rfl (True.intro)))
        · refine l_iconst rfl ?_
          refine l_goto rfl rfl ?_
          refine l_iadd rfl ?_
          refine l_pfi rfl rfl rfl rfl ?_
          obtain ⟨U30, eU30⟩ : ∃ T : sS, T = uI U28 904 8 (Int32.ofInt ((Xi T15 904 8) + 1)) := ⟨_, rfl⟩
          rw [← eU30]
          have hHU30 : HI U30 := by rw [eU30]; exact HI_w hHU28 (show 0 ≤ ((Xi T15 904 8) + 1) by omega) (show ((Xi T15 904 8) + 1) ≤ 5010 by omega)
          have hFU30 : FR md_mo_test S U30 := by rw [eU30]; exact FR.wI hFU28 (mdf_i (r := (904, 905, 8, 9)) (List.mem_of_getElem? (i := 0) rfl) (inR_i (by omega) (by omega) (by omega) (by omega)))
          have w453 : Xi U30 904 8 = ((Xi T15 904 8) + 1) := by rw [eU30]; exact Xi_same (by unfold rg; omega)
          obtain ⟨a241, b241, c241⟩ : AT U30 n c ∧ Xi U28 904 8 ≤ Xi U30 904 8 ∧ (Xi U30 904 8 ≤ n ∨ Xi U30 904 8 = Xi U28 904 8) := at_opt (TK_FR hFU28 rfl hT) a217 eU30 (by omega) (by omega)
          have d241 : Xi S 904 8 ≤ Xi U30 904 8 ∧ Xi U30 904 8 ≤ n := by omega
          have h241 : Xi U30 904 65 = 0 → THV (Xi U30 904 69) n (Xi U30 954 (Xi S 904 93).toNat) (Xi U30 955 (Xi S 904 93).toNat) := fun q => (by rw [eU30, Xi_ne (by omega)] at q; exact thv_c (h217 q) (by rw [eU30, Xi_ne (by omega)]; exact Int.le_refl _) (by rw [eU30, Xi_ne (by omega)]) (by rw [eU30, Xi_ne (by omega)]))
          clear b241 c241 i217 h217
          have w454 : Xi U30 952 (Xi S 904 93).toNat = Xi T15 952 (Xi S 904 93).toNat := (show Xi U30 952 (Xi S 904 93).toNat = Xi U28 952 (Xi S 904 93).toNat from by rw [eU30]; exact Xi_ne (by omega)).trans ((show Xi U28 952 (Xi S 904 93).toNat = Xi T15 952 (Xi S 904 93).toNat from by rw [eU28]; exact Xi_ne (by omega)))
          have w455 : Xi U30 961 (Xi S 904 93).toNat = Xi T15 961 (Xi S 904 93).toNat := (show Xi U30 961 (Xi S 904 93).toNat = Xi U28 961 (Xi S 904 93).toNat from by rw [eU30]; exact Xi_ne (by omega)).trans ((show Xi U28 961 (Xi S 904 93).toNat = Xi T15 961 (Xi S 904 93).toNat from by rw [eU28]; exact Xi_ne (by omega)))
          have w456 : Xi U30 962 (Xi S 904 93).toNat = Xi T15 962 (Xi S 904 93).toNat := (show Xi U30 962 (Xi S 904 93).toNat = Xi U28 962 (Xi S 904 93).toNat from by rw [eU30]; exact Xi_ne (by omega)).trans ((show Xi U28 962 (Xi S 904 93).toNat = Xi T15 962 (Xi S 904 93).toNat from by rw [eU28]; exact Xi_ne (by omega)))
          have w457 : Xi U30 904 65 = Xi T15 904 65 := (show Xi U30 904 65 = Xi U28 904 65 from by rw [eU30]; exact Xi_ne (by omega)).trans ((show Xi U28 904 65 = Xi T15 904 65 from by rw [eU28]; exact Xi_ne (by omega)))
          have w458 : 0 ≤ Xi T15 904 65 ∧ Xi T15 904 65 ≤ 1 := hHT15.c _ _
          have w459 : Xi U30 904 69 = Xi T15 904 69 := (show Xi U30 904 69 = Xi U28 904 69 from by rw [eU30]; exact Xi_ne (by omega)).trans ((show Xi U28 904 69 = Xi T15 904 69 from by rw [eU28]; exact Xi_ne (by omega)))
          have w460 : 0 ≤ Xi T15 904 69 ∧ Xi T15 904 69 ≤ 2600 := hHT15.c _ _
          have w461 : 0 ≤ Xi U30 904 8 ∧ Xi U30 904 8 ≤ 5010 := hHU30.c _ _
          have w462 : Xi U30 904 93 = Xi T15 904 93 := (show Xi U30 904 93 = Xi U28 904 93 from by rw [eU30]; exact Xi_ne (by omega)).trans ((show Xi U28 904 93 = Xi T15 904 93 from by rw [eU28]; exact Xi_ne (by omega)))
          have w463 : 0 ≤ Xi T15 904 93 ∧ Xi T15 904 93 ≤ 1700 := hHT15.c _ _
          exact Rl_weak (C244 U30 hHU30 hFU30  (by first | assumption | exact (by assumption : AT U30 _ _)) (by first | assumption | exact (RNV_FR (FR_e eU30) rfl (RNV_FR (FR_e eU28) rfl (by assumption : RNV T15 _)))) (by omega) (by omega) (by omega) (by omega) (by omega) ((KT_FR (FR_e eU30) rfl (KT.w (by assumption : KT T15 S _) eU28 (by omega)))) (h241)) (And.intro rfl (And.intro rfl (True.intro)))
      refine l_aload_n rfl rfl ?_
      refine l_aload_n rfl rfl ?_
      refine l_gfr rfl rfl rfl rfl rfl (hH.r 904 4 907 rfl) ?_
      refine l_iload rfl rfl ?_
      refine l_iaload (n := 5002) rfl rfl (by omega) (by omega) (by unfold rg; omega) ?_
      have w464 : 0 ≤ (Xi S 907 ((v4).toNat)) ∧ (Xi S 907 ((v4).toNat)) ≤ 154 := hH.c _ _
      refine l_iload_n rfl rfl ?_
      have w465 : 0 ≤ Xi S 904 65 ∧ Xi S 904 65 ≤ 1 := hH.c _ _
      have w466 : 0 ≤ Xi S 904 69 ∧ Xi S 904 69 ≤ 2600 := hH.c _ _
      have w467 : 0 ≤ Xi S 904 8 ∧ Xi S 904 8 ≤ 5010 := hH.c _ _
      have w468 : 0 ≤ Xi S 904 93 ∧ Xi S 904 93 ≤ 1700 := hH.c _ _
      refine l_callV rfl rfl rfl (t_mo_endsTest hH (Xi S 907 ((v4).toNat)) isNow ⟨by omega, by omega⟩ ⟨by omega, by omega⟩ _) ?_
      rintro _ _ ⟨rfl, z469, rfl, w469, p22⟩
      show Rl _ _ _ _ _ [iv z469] _ _
      have u22 : z469 = 0 → v4 < n := fun q => tk_lt hT (by omega) (by omega) (by omega)
      refine l_if_ne rfl rfl (by unfold rg; omega) (fun w470 => ?_) (fun w471 => ?_)
      · refine l_aload_n rfl rfl ?_
        clear u22 p22 ih13
        refine l_gfr rfl rfl rfl rfl rfl (hH.r 904 91 961 rfl) ?_
        refine l_aload_n rfl rfl ?_
        refine l_gfi rfl rfl rfl rfl rfl ?_
        refine l_iload_n rfl rfl ?_
        refine l_iastore (n := 1700) rfl rfl (by omega) (by omega) (by unfold rg; omega) ?_
        obtain ⟨U31, eU31⟩ : ∃ T : sS, T = uI S 961 (((Xi S 904 93)).toNat) (Int32.ofInt v2) := ⟨_, rfl⟩
        rw [← eU31]
        have hHU31 : HI U31 := by rw [eU31]; exact HI_w hH (show 0 ≤ v2 by omega) (show v2 ≤ 5010 by omega)
        have hFU31 : FR md_mo_test S U31 := by rw [eU31]; exact FR.wI hF (mdf_i (r := (961, 962, 0, 100000)) (List.mem_of_getElem? (i := 20) rfl) (inR_i (by omega) (by omega) (by omega) (by omega)))
        have w472 : Xi U31 961 (((Xi S 904 93)).toNat) = v2 := by rw [eU31]; exact Xi_same (by unfold rg; omega)
        refine l_aload_n rfl rfl ?_
        refine l_gfr rfl rfl rfl rfl rfl (hHU31.r 904 83 953 rfl) ?_
        refine l_aload_n rfl rfl ?_
        refine l_gfi rfl rfl rfl rfl rfl ?_
        have w473 : (Xi U31 904 93) = (Xi S 904 93) := (show Xi U31 904 93 = Xi S 904 93 from by rw [eU31]; exact Xi_ne (by omega))
        rw [w473]
        refine l_iconst rfl ?_
        refine l_bastoreZ1 (n := 1700) rfl rfl (by omega) (by omega) (by unfold rg; omega) ⟨by omega, by omega⟩ ?_
        obtain ⟨U32, eU32⟩ : ∃ T : sS, T = uI U31 953 (((Xi S 904 93)).toNat) (Int32.ofInt 0) := ⟨_, rfl⟩
        rw [← eU32]
        have hHU32 : HI U32 := by rw [eU32]; exact HI_w hHU31 (show 0 ≤ 0 by omega) (show 0 ≤ 1 by omega)
        have hFU32 : FR md_mo_test S U32 := by rw [eU32]; exact FR.wI hFU31 (mdf_i (r := (953, 954, 0, 100000)) (List.mem_of_getElem? (i := 12) rfl) (inR_i (by omega) (by omega) (by omega) (by omega)))
        have w474 : Xi U32 953 (((Xi S 904 93)).toNat) = 0 := by rw [eU32]; exact Xi_same (by unfold rg; omega)
        refine l_iload_n rfl rfl ?_
        refine l_if_ne rfl rfl (by unfold rg; omega) (fun w475 => ?_) (fun w476 => ?_)
        · refine l_aload_n rfl rfl ?_
          refine l_aload_n rfl rfl ?_
          refine l_gfi rfl rfl rfl rfl rfl ?_
          have w477 : (Xi U32 904 8) = (Xi S 904 8) := (show Xi U32 904 8 = Xi U31 904 8 from by rw [eU32]; exact Xi_ne (by omega)).trans ((show Xi U31 904 8 = Xi S 904 8 from by rw [eU31]; exact Xi_ne (by omega)))
          rw [w477]
          have w478 : Xi U32 904 65 = Xi S 904 65 := (show Xi U32 904 65 = Xi U31 904 65 from by rw [eU32]; exact Xi_ne (by omega)).trans ((show Xi U31 904 65 = Xi S 904 65 from by rw [eU31]; exact Xi_ne (by omega)))
          have w479 : 0 ≤ Xi S 904 65 ∧ Xi S 904 65 ≤ 1 := hH.c _ _
          have w480 : Xi U32 904 69 = Xi S 904 69 := (show Xi U32 904 69 = Xi U31 904 69 from by rw [eU32]; exact Xi_ne (by omega)).trans ((show Xi U31 904 69 = Xi S 904 69 from by rw [eU31]; exact Xi_ne (by omega)))
          have w481 : 0 ≤ Xi S 904 69 ∧ Xi S 904 69 ≤ 2600 := hH.c _ _
          have w482 : Xi U32 904 8 = Xi S 904 8 := (show Xi U32 904 8 = Xi U31 904 8 from by rw [eU32]; exact Xi_ne (by omega)).trans ((show Xi U31 904 8 = Xi S 904 8 from by rw [eU31]; exact Xi_ne (by omega)))
          have w483 : 0 ≤ Xi S 904 8 ∧ Xi S 904 8 ≤ 5010 := hH.c _ _
          have w484 : Xi U32 904 93 = Xi S 904 93 := (show Xi U32 904 93 = Xi U31 904 93 from by rw [eU32]; exact Xi_ne (by omega)).trans ((show Xi U31 904 93 = Xi S 904 93 from by rw [eU31]; exact Xi_ne (by omega)))
          have w485 : 0 ≤ Xi S 904 93 ∧ Xi S 904 93 ≤ 1700 := hH.c _ _
          refine l_callV rfl rfl rfl (t_mo_beginsOf hHU32 n (Xi S 904 8) ⟨by omega, by omega⟩ (by first | assumption | exact (TK_FR hFU32 rfl (by assumption : TK S _))) (by first | assumption | omega) _) ?_
          rintro _ _ ⟨rfl, z486, rfl, w486⟩
          show Rl _ _ _ _ _ [iv z486] _ _
          refine l_if_eq rfl rfl (by unfold rg; omega) (fun w487 => ?_) (fun w488 => ?_)
          · refine l_aload_n rfl rfl ?_
            have w489 : Xi U32 904 65 = Xi S 904 65 := (show Xi U32 904 65 = Xi U31 904 65 from by rw [eU32]; exact Xi_ne (by omega)).trans ((show Xi U31 904 65 = Xi S 904 65 from by rw [eU31]; exact Xi_ne (by omega)))
            have w490 : 0 ≤ Xi S 904 65 ∧ Xi S 904 65 ≤ 1 := hH.c _ _
            have w491 : Xi U32 904 69 = Xi S 904 69 := (show Xi U32 904 69 = Xi U31 904 69 from by rw [eU32]; exact Xi_ne (by omega)).trans ((show Xi U31 904 69 = Xi S 904 69 from by rw [eU31]; exact Xi_ne (by omega)))
            have w492 : 0 ≤ Xi S 904 69 ∧ Xi S 904 69 ≤ 2600 := hH.c _ _
            have w493 : Xi U32 904 8 = Xi S 904 8 := (show Xi U32 904 8 = Xi U31 904 8 from by rw [eU32]; exact Xi_ne (by omega)).trans ((show Xi U31 904 8 = Xi S 904 8 from by rw [eU31]; exact Xi_ne (by omega)))
            have w494 : 0 ≤ Xi S 904 8 ∧ Xi S 904 8 ≤ 5010 := hH.c _ _
            have w495 : Xi U32 904 93 = Xi S 904 93 := (show Xi U32 904 93 = Xi U31 904 93 from by rw [eU32]; exact Xi_ne (by omega)).trans ((show Xi U31 904 93 = Xi S 904 93 from by rw [eU31]; exact Xi_ne (by omega)))
            have w496 : 0 ≤ Xi S 904 93 ∧ Xi S 904 93 ≤ 1700 := hH.c _ _
            refine l_callV rfl rfl rfl (t_mo_thingOfTest hHU32 n c (by first | assumption | exact (TK_FR hFU32 rfl (by assumption : TK S _))) (by first | assumption | exact (AT_FR (FR_e eU32) rfl (AT_FR (FR_e eU31) rfl (by assumption : AT S _ _)))) (by first | assumption | exact (RNV_FR (FR_e eU32) rfl (RNV_FR (FR_e eU31) rfl (by assumption : RNV S _)))) (by first | assumption | omega) _) ?_
            rintro _ T33 ⟨hHT33, w504, rfl, w497, w498, w499, w500, w501, w502, h194_⟩
            have hFT33 : FR md_mo_test S T33 := FR.tr hFU32 w504 rfl
            show Rl _ _ _ _ _ [] _ _
            have w506 : 0 ≤ Xi T33 904 8 ∧ Xi T33 904 8 ≤ 5010 := hHT33.c _ _
            have w507 : 0 ≤ Xi T33 904 65 ∧ Xi T33 904 65 ≤ 1 := hHT33.c _ _
            have w508 : 0 ≤ Xi T33 904 69 ∧ Xi T33 904 69 ≤ 2600 := hHT33.c _ _
            have w509 : Xi T33 904 93 = Xi S 904 93 := (show Xi T33 904 93 = Xi U32 904 93 from w504.x _ _ rfl).trans ( (show Xi U32 904 93 = Xi U31 904 93 from by rw [eU32]; exact Xi_ne (by omega)).trans ((show Xi U31 904 93 = Xi S 904 93 from by rw [eU31]; exact Xi_ne (by omega))))
            have w510 : 0 ≤ Xi S 904 93 ∧ Xi S 904 93 ≤ 1700 := hH.c _ _
            have h194 : Xi T33 904 65 = 0 → THV (Xi T33 904 69) n (Xi T33 954 (Xi S 904 93).toNat) (Xi T33 955 (Xi S 904 93).toNat) := by rw [show (Xi S 904 93).toNat = (Xi U32 904 93).toNat by omega]; exact h194_
            clear h194_
            have w505 : Xi S 904 8 ≤ Xi T33 904 8 ∧ Xi T33 904 8 ≤ n ∧ Xi S 904 69 ≤ Xi T33 904 69 ∧ (Xi T33 904 65 = 0 → Xi S 904 65 = 0) := by omega
            clear w498 w500 w501
            refine l_aload_n rfl rfl ?_
            refine l_bipush rfl rfl ?_
            have w511 : 0 ≤ Xi T33 904 65 ∧ Xi T33 904 65 ≤ 1 := hHT33.c _ _
            have w512 : 0 ≤ Xi T33 904 69 ∧ Xi T33 904 69 ≤ 2600 := hHT33.c _ _
            have w513 : 0 ≤ Xi T33 904 8 ∧ Xi T33 904 8 ≤ 5010 := hHT33.c _ _
            have w514 : Xi T33 904 93 = Xi S 904 93 := (show Xi T33 904 93 = Xi U32 904 93 from w504.x _ _ rfl).trans ( (show Xi U32 904 93 = Xi U31 904 93 from by rw [eU32]; exact Xi_ne (by omega)).trans ((show Xi U31 904 93 = Xi S 904 93 from by rw [eU31]; exact Xi_ne (by omega))))
            have w515 : 0 ≤ Xi S 904 93 ∧ Xi S 904 93 ≤ 1700 := hH.c _ _
            refine l_callV rfl rfl rfl (t_mo_take__2 hHT33 n c 104 ⟨by omega, by omega⟩ (by first | assumption | exact (TK_FR hFT33 rfl (by assumption : TK S _))) (by first | assumption | exact (by assumption : AT T33 _ _)) (by first | assumption | omega) _) ?_
            rintro _ T34 ⟨hHT34, w520, rfl, w516, w517, kb200, w518⟩
            have hFT34 : FR md_mo_test S T34 := FR.tr hFT33 w520 rfl
            show Rl _ _ _ _ _ [] _ _
            have w522 : 0 ≤ Xi T34 904 8 ∧ Xi T34 904 8 ≤ 5010 := hHT34.c _ _
            have w523 : 0 ≤ Xi T34 904 65 ∧ Xi T34 904 65 ≤ 1 := hHT34.c _ _
            have w524 : Xi T34 904 69 = Xi T33 904 69 := (show Xi T34 904 69 = Xi T33 904 69 from w520.x _ _ rfl)
            have w525 : 0 ≤ Xi T33 904 69 ∧ Xi T33 904 69 ≤ 2600 := hHT33.c _ _
            have w526 : Xi T34 904 93 = Xi S 904 93 := (show Xi T34 904 93 = Xi T33 904 93 from w520.x _ _ rfl).trans ( (show Xi T33 904 93 = Xi U32 904 93 from w504.x _ _ rfl).trans ( (show Xi U32 904 93 = Xi U31 904 93 from by rw [eU32]; exact Xi_ne (by omega)).trans ((show Xi U31 904 93 = Xi S 904 93 from by rw [eU31]; exact Xi_ne (by omega)))))
            have w527 : 0 ≤ Xi S 904 93 ∧ Xi S 904 93 ≤ 1700 := hH.c _ _
            have h200 : Xi T34 904 65 = 0 → THV (Xi T34 904 69) n (Xi T34 954 (Xi S 904 93).toNat) (Xi T34 955 (Xi S 904 93).toNat) := fun q => thv_c (h194 (kb200 q)) (by omega) ((by assumption : FR md_mo_take T33 T34).cx 954 rfl _).1 ((by assumption : FR md_mo_take T33 T34).cx 955 rfl _).1
            clear h194
            have w521 : Xi S 904 8 ≤ Xi T34 904 8 ∧ Xi T34 904 8 ≤ n ∧ Xi S 904 69 ≤ Xi T34 904 69 ∧ (Xi T34 904 65 = 0 → Xi S 904 65 = 0) := by omega
            clear w517 kb200 w518 w505
            have w528 : Xi T34 952 (Xi S 904 93).toNat = Xi S 952 (Xi S 904 93).toNat := (show Xi T34 952 (Xi S 904 93).toNat = Xi T33 952 (Xi S 904 93).toNat from (w520.cx 952 rfl _).1).trans ( (show Xi T33 952 (Xi S 904 93).toNat = Xi U32 952 (Xi S 904 93).toNat from (w504.cx 952 rfl _).1).trans ( (show Xi U32 952 (Xi S 904 93).toNat = Xi U31 952 (Xi S 904 93).toNat from by rw [eU32]; exact Xi_ne (by omega)).trans ((show Xi U31 952 (Xi S 904 93).toNat = Xi S 952 (Xi S 904 93).toNat from by rw [eU31]; exact Xi_ne (by omega)))))
            have w529 : Xi T34 961 (Xi S 904 93).toNat = Xi U31 961 (Xi S 904 93).toNat := (show Xi T34 961 (Xi S 904 93).toNat = Xi T33 961 (Xi S 904 93).toNat from (w520.cx 961 rfl _).1).trans ( (show Xi T33 961 (Xi S 904 93).toNat = Xi U32 961 (Xi S 904 93).toNat from (w504.cx 961 rfl _).1).trans ((show Xi U32 961 (Xi S 904 93).toNat = Xi U31 961 (Xi S 904 93).toNat from by rw [eU32]; exact Xi_ne (by omega))))
            have w530 : Xi T34 962 (Xi S 904 93).toNat = Xi S 962 (Xi S 904 93).toNat := (show Xi T34 962 (Xi S 904 93).toNat = Xi T33 962 (Xi S 904 93).toNat from (w520.cx 962 rfl _).1).trans ( (show Xi T33 962 (Xi S 904 93).toNat = Xi U32 962 (Xi S 904 93).toNat from (w504.cx 962 rfl _).1).trans ( (show Xi U32 962 (Xi S 904 93).toNat = Xi U31 962 (Xi S 904 93).toNat from by rw [eU32]; exact Xi_ne (by omega)).trans ((show Xi U31 962 (Xi S 904 93).toNat = Xi S 962 (Xi S 904 93).toNat from by rw [eU31]; exact Xi_ne (by omega)))))
            have w531 : 0 ≤ Xi T34 904 65 ∧ Xi T34 904 65 ≤ 1 := hHT34.c _ _
            have w532 : Xi T34 904 69 = Xi T33 904 69 := (show Xi T34 904 69 = Xi T33 904 69 from w520.x _ _ rfl)
            have w533 : 0 ≤ Xi T33 904 69 ∧ Xi T33 904 69 ≤ 2600 := hHT33.c _ _
            have w534 : 0 ≤ Xi T34 904 8 ∧ Xi T34 904 8 ≤ 5010 := hHT34.c _ _
            have w535 : Xi T34 904 93 = Xi S 904 93 := (show Xi T34 904 93 = Xi T33 904 93 from w520.x _ _ rfl).trans ( (show Xi T33 904 93 = Xi U32 904 93 from w504.x _ _ rfl).trans ( (show Xi U32 904 93 = Xi U31 904 93 from by rw [eU32]; exact Xi_ne (by omega)).trans ((show Xi U31 904 93 = Xi S 904 93 from by rw [eU31]; exact Xi_ne (by omega)))))
            have w536 : 0 ≤ Xi S 904 93 ∧ Xi S 904 93 ≤ 1700 := hH.c _ _
            exact Rl_weak (C203 T34 hHT34 hFT34  (by first | assumption | exact (by assumption : AT T34 _ _)) (by first | assumption | exact (RNV_FR w520 rfl (by assumption : RNV T33 _))) (by omega) (by omega) (by omega) (by omega) (by omega) ((KT_FR w520 rfl (KT.tr (KT.w (KT.w KT.rf eU31 (by omega)) eU32 (by omega)) (by assumption : KT T33 U32 _) (by omega)))) (h200)) (And.intro rfl (And.intro rfl (True.intro)))
          · refine l_aload_n rfl rfl ?_
            have w537 : Xi U32 904 65 = Xi S 904 65 := (show Xi U32 904 65 = Xi U31 904 65 from by rw [eU32]; exact Xi_ne (by omega)).trans ((show Xi U31 904 65 = Xi S 904 65 from by rw [eU31]; exact Xi_ne (by omega)))
            have w538 : 0 ≤ Xi S 904 65 ∧ Xi S 904 65 ≤ 1 := hH.c _ _
            have w539 : Xi U32 904 69 = Xi S 904 69 := (show Xi U32 904 69 = Xi U31 904 69 from by rw [eU32]; exact Xi_ne (by omega)).trans ((show Xi U31 904 69 = Xi S 904 69 from by rw [eU31]; exact Xi_ne (by omega)))
            have w540 : 0 ≤ Xi S 904 69 ∧ Xi S 904 69 ≤ 2600 := hH.c _ _
            have w541 : Xi U32 904 8 = Xi S 904 8 := (show Xi U32 904 8 = Xi U31 904 8 from by rw [eU32]; exact Xi_ne (by omega)).trans ((show Xi U31 904 8 = Xi S 904 8 from by rw [eU31]; exact Xi_ne (by omega)))
            have w542 : 0 ≤ Xi S 904 8 ∧ Xi S 904 8 ≤ 5010 := hH.c _ _
            have w543 : Xi U32 904 93 = Xi S 904 93 := (show Xi U32 904 93 = Xi U31 904 93 from by rw [eU32]; exact Xi_ne (by omega)).trans ((show Xi U31 904 93 = Xi S 904 93 from by rw [eU31]; exact Xi_ne (by omega)))
            have w544 : 0 ≤ Xi S 904 93 ∧ Xi S 904 93 ≤ 1700 := hH.c _ _
            refine l_callV rfl rfl rfl (t_mo_property hHU32 n c (by first | assumption | exact (TK_FR hFU32 rfl (by assumption : TK S _))) (by first | assumption | exact (AT_FR (FR_e eU32) rfl (AT_FR (FR_e eU31) rfl (by assumption : AT S _ _)))) (by first | assumption | exact (RNV_FR (FR_e eU32) rfl (RNV_FR (FR_e eU31) rfl (by assumption : RNV S _)))) (by first | assumption | omega) _) ?_
            rintro _ T35 ⟨hHT35, w552, rfl, w545, w546, w547, w548, w549, w550, p172_⟩
            have hFT35 : FR md_mo_test S T35 := FR.tr hFU32 w552 rfl
            show Rl _ _ _ _ _ [] _ _
            have w554 : 0 ≤ Xi T35 904 8 ∧ Xi T35 904 8 ≤ 5010 := hHT35.c _ _
            have w555 : 0 ≤ Xi T35 904 65 ∧ Xi T35 904 65 ≤ 1 := hHT35.c _ _
            have w556 : 0 ≤ Xi T35 904 69 ∧ Xi T35 904 69 ≤ 2600 := hHT35.c _ _
            have w557 : Xi T35 904 93 = Xi S 904 93 := (show Xi T35 904 93 = Xi U32 904 93 from w552.x _ _ rfl).trans ( (show Xi U32 904 93 = Xi U31 904 93 from by rw [eU32]; exact Xi_ne (by omega)).trans ((show Xi U31 904 93 = Xi S 904 93 from by rw [eU31]; exact Xi_ne (by omega))))
            have w558 : 0 ≤ Xi S 904 93 ∧ Xi S 904 93 ≤ 1700 := hH.c _ _
            have p172 : Xi T35 904 65 = 0 → Xi T35 956 (Xi S 904 93).toNat < Xi T35 904 69 := by rw [show (Xi S 904 93).toNat = (Xi U32 904 93).toNat by omega]; exact p172_
            clear p172_
            have w553 : Xi S 904 8 ≤ Xi T35 904 8 ∧ Xi T35 904 8 ≤ n ∧ Xi S 904 69 ≤ Xi T35 904 69 ∧ (Xi T35 904 65 = 0 → Xi S 904 65 = 0) := by omega
            clear w546 w548 w549
            refine l_aload_n rfl rfl ?_
            have w559 : 0 ≤ Xi T35 904 65 ∧ Xi T35 904 65 ≤ 1 := hHT35.c _ _
            have w560 : 0 ≤ Xi T35 904 69 ∧ Xi T35 904 69 ≤ 2600 := hHT35.c _ _
            have w561 : 0 ≤ Xi T35 904 8 ∧ Xi T35 904 8 ≤ 5010 := hHT35.c _ _
            have w562 : Xi T35 904 93 = Xi S 904 93 := (show Xi T35 904 93 = Xi U32 904 93 from w552.x _ _ rfl).trans ( (show Xi U32 904 93 = Xi U31 904 93 from by rw [eU32]; exact Xi_ne (by omega)).trans ((show Xi U31 904 93 = Xi S 904 93 from by rw [eU31]; exact Xi_ne (by omega))))
            have w563 : 0 ≤ Xi S 904 93 ∧ Xi S 904 93 ≤ 1700 := hH.c _ _
            refine l_callV rfl rfl rfl (t_mo_thingOfTest hHT35 n c (by first | assumption | exact (TK_FR hFT35 rfl (by assumption : TK S _))) (by first | assumption | exact (by assumption : AT T35 _ _)) (by first | assumption | exact (by assumption : RNV T35 _)) (by first | assumption | omega) _) ?_
            rintro _ T36 ⟨hHT36, w570, rfl, w564, w565, w566, kb176, w567, w568, h176_⟩
            have hFT36 : FR md_mo_test S T36 := FR.tr hFT35 w570 rfl
            show Rl _ _ _ _ _ [] _ _
            have w572 : 0 ≤ Xi T36 904 8 ∧ Xi T36 904 8 ≤ 5010 := hHT36.c _ _
            have w573 : 0 ≤ Xi T36 904 65 ∧ Xi T36 904 65 ≤ 1 := hHT36.c _ _
            have w574 : 0 ≤ Xi T36 904 69 ∧ Xi T36 904 69 ≤ 2600 := hHT36.c _ _
            have w575 : Xi T36 904 93 = Xi S 904 93 := (show Xi T36 904 93 = Xi T35 904 93 from w570.x _ _ rfl).trans ( (show Xi T35 904 93 = Xi U32 904 93 from w552.x _ _ rfl).trans ( (show Xi U32 904 93 = Xi U31 904 93 from by rw [eU32]; exact Xi_ne (by omega)).trans ((show Xi U31 904 93 = Xi S 904 93 from by rw [eU31]; exact Xi_ne (by omega)))))
            have w576 : 0 ≤ Xi S 904 93 ∧ Xi S 904 93 ≤ 1700 := hH.c _ _
            have h176 : Xi T36 904 65 = 0 → THV (Xi T36 904 69) n (Xi T36 954 (Xi S 904 93).toNat) (Xi T36 955 (Xi S 904 93).toNat) := by rw [show (Xi S 904 93).toNat = (Xi T35 904 93).toNat by omega]; exact h176_
            clear h176_
            have p176 : Xi T36 904 65 = 0 → Xi T36 956 (Xi S 904 93).toNat < Xi T36 904 69 := fun q => by have t := p172 (kb176 q); rw [((by assumption : FR md_mo_thingOfTest T35 T36).cx 956 rfl _).1]; omega
            clear p172
            have w571 : Xi S 904 8 ≤ Xi T36 904 8 ∧ Xi T36 904 8 ≤ n ∧ Xi S 904 69 ≤ Xi T36 904 69 ∧ (Xi T36 904 65 = 0 → Xi S 904 65 = 0) := by omega
            clear w565 kb176 w567 w553
            refine l_aload_n rfl rfl ?_
            refine l_bipush rfl rfl ?_
            have w577 : 0 ≤ Xi T36 904 65 ∧ Xi T36 904 65 ≤ 1 := hHT36.c _ _
            have w578 : 0 ≤ Xi T36 904 69 ∧ Xi T36 904 69 ≤ 2600 := hHT36.c _ _
            have w579 : 0 ≤ Xi T36 904 8 ∧ Xi T36 904 8 ≤ 5010 := hHT36.c _ _
            have w580 : Xi T36 904 93 = Xi S 904 93 := (show Xi T36 904 93 = Xi T35 904 93 from w570.x _ _ rfl).trans ( (show Xi T35 904 93 = Xi U32 904 93 from w552.x _ _ rfl).trans ( (show Xi U32 904 93 = Xi U31 904 93 from by rw [eU32]; exact Xi_ne (by omega)).trans ((show Xi U31 904 93 = Xi S 904 93 from by rw [eU31]; exact Xi_ne (by omega)))))
            have w581 : 0 ≤ Xi S 904 93 ∧ Xi S 904 93 ≤ 1700 := hH.c _ _
            refine l_callV rfl rfl rfl (t_mo_take__2 hHT36 n c 104 ⟨by omega, by omega⟩ (by first | assumption | exact (TK_FR hFT36 rfl (by assumption : TK S _))) (by first | assumption | exact (by assumption : AT T36 _ _)) (by first | assumption | omega) _) ?_
            rintro _ T37 ⟨hHT37, w586, rfl, w582, w583, kb182, w584⟩
            have hFT37 : FR md_mo_test S T37 := FR.tr hFT36 w586 rfl
            show Rl _ _ _ _ _ [] _ _
            have w588 : 0 ≤ Xi T37 904 8 ∧ Xi T37 904 8 ≤ 5010 := hHT37.c _ _
            have w589 : 0 ≤ Xi T37 904 65 ∧ Xi T37 904 65 ≤ 1 := hHT37.c _ _
            have w590 : Xi T37 904 69 = Xi T36 904 69 := (show Xi T37 904 69 = Xi T36 904 69 from w586.x _ _ rfl)
            have w591 : 0 ≤ Xi T36 904 69 ∧ Xi T36 904 69 ≤ 2600 := hHT36.c _ _
            have w592 : Xi T37 904 93 = Xi S 904 93 := (show Xi T37 904 93 = Xi T36 904 93 from w586.x _ _ rfl).trans ( (show Xi T36 904 93 = Xi T35 904 93 from w570.x _ _ rfl).trans ( (show Xi T35 904 93 = Xi U32 904 93 from w552.x _ _ rfl).trans ( (show Xi U32 904 93 = Xi U31 904 93 from by rw [eU32]; exact Xi_ne (by omega)).trans ((show Xi U31 904 93 = Xi S 904 93 from by rw [eU31]; exact Xi_ne (by omega))))))
            have w593 : 0 ≤ Xi S 904 93 ∧ Xi S 904 93 ≤ 1700 := hH.c _ _
            have p182 : Xi T37 904 65 = 0 → Xi T37 956 (Xi S 904 93).toNat < Xi T37 904 69 := fun q => by have t := p176 (kb182 q); rw [((by assumption : FR md_mo_take T36 T37).cx 956 rfl _).1]; omega
            have h182 : Xi T37 904 65 = 0 → THV (Xi T37 904 69) n (Xi T37 954 (Xi S 904 93).toNat) (Xi T37 955 (Xi S 904 93).toNat) := fun q => thv_c (h176 (kb182 q)) (by omega) ((by assumption : FR md_mo_take T36 T37).cx 954 rfl _).1 ((by assumption : FR md_mo_take T36 T37).cx 955 rfl _).1
            clear p176 h176
            have w587 : Xi S 904 8 ≤ Xi T37 904 8 ∧ Xi T37 904 8 ≤ n ∧ Xi S 904 69 ≤ Xi T37 904 69 ∧ (Xi T37 904 65 = 0 → Xi S 904 65 = 0) := by omega
            clear w583 kb182 w584 w571
            have w594 : Xi T37 952 (Xi S 904 93).toNat = Xi S 952 (Xi S 904 93).toNat := (show Xi T37 952 (Xi S 904 93).toNat = Xi T36 952 (Xi S 904 93).toNat from (w586.cx 952 rfl _).1).trans ( (show Xi T36 952 (Xi S 904 93).toNat = Xi T35 952 (Xi S 904 93).toNat from (w570.cx 952 rfl _).1).trans ( (show Xi T35 952 (Xi S 904 93).toNat = Xi U32 952 (Xi S 904 93).toNat from (w552.cx 952 rfl _).1).trans ( (show Xi U32 952 (Xi S 904 93).toNat = Xi U31 952 (Xi S 904 93).toNat from by rw [eU32]; exact Xi_ne (by omega)).trans ((show Xi U31 952 (Xi S 904 93).toNat = Xi S 952 (Xi S 904 93).toNat from by rw [eU31]; exact Xi_ne (by omega))))))
            have w595 : Xi T37 961 (Xi S 904 93).toNat = Xi U31 961 (Xi S 904 93).toNat := (show Xi T37 961 (Xi S 904 93).toNat = Xi T36 961 (Xi S 904 93).toNat from (w586.cx 961 rfl _).1).trans ( (show Xi T36 961 (Xi S 904 93).toNat = Xi T35 961 (Xi S 904 93).toNat from (w570.cx 961 rfl _).1).trans ( (show Xi T35 961 (Xi S 904 93).toNat = Xi U32 961 (Xi S 904 93).toNat from (w552.cx 961 rfl _).1).trans ((show Xi U32 961 (Xi S 904 93).toNat = Xi U31 961 (Xi S 904 93).toNat from by rw [eU32]; exact Xi_ne (by omega)))))
            have w596 : Xi T37 962 (Xi S 904 93).toNat = Xi S 962 (Xi S 904 93).toNat := (show Xi T37 962 (Xi S 904 93).toNat = Xi T36 962 (Xi S 904 93).toNat from (w586.cx 962 rfl _).1).trans ( (show Xi T36 962 (Xi S 904 93).toNat = Xi T35 962 (Xi S 904 93).toNat from (w570.cx 962 rfl _).1).trans ( (show Xi T35 962 (Xi S 904 93).toNat = Xi U32 962 (Xi S 904 93).toNat from (w552.cx 962 rfl _).1).trans ( (show Xi U32 962 (Xi S 904 93).toNat = Xi U31 962 (Xi S 904 93).toNat from by rw [eU32]; exact Xi_ne (by omega)).trans ((show Xi U31 962 (Xi S 904 93).toNat = Xi S 962 (Xi S 904 93).toNat from by rw [eU31]; exact Xi_ne (by omega))))))
            have w597 : 0 ≤ Xi T37 904 65 ∧ Xi T37 904 65 ≤ 1 := hHT37.c _ _
            have w598 : Xi T37 904 69 = Xi T36 904 69 := (show Xi T37 904 69 = Xi T36 904 69 from w586.x _ _ rfl)
            have w599 : 0 ≤ Xi T36 904 69 ∧ Xi T36 904 69 ≤ 2600 := hHT36.c _ _
            have w600 : 0 ≤ Xi T37 904 8 ∧ Xi T37 904 8 ≤ 5010 := hHT37.c _ _
            have w601 : Xi T37 904 93 = Xi S 904 93 := (show Xi T37 904 93 = Xi T36 904 93 from w586.x _ _ rfl).trans ( (show Xi T36 904 93 = Xi T35 904 93 from w570.x _ _ rfl).trans ( (show Xi T35 904 93 = Xi U32 904 93 from w552.x _ _ rfl).trans ( (show Xi U32 904 93 = Xi U31 904 93 from by rw [eU32]; exact Xi_ne (by omega)).trans ((show Xi U31 904 93 = Xi S 904 93 from by rw [eU31]; exact Xi_ne (by omega))))))
            have w602 : 0 ≤ Xi S 904 93 ∧ Xi S 904 93 ≤ 1700 := hH.c _ _
            exact Rl_weak (C185 T37 hHT37 hFT37  (by first | assumption | exact (by assumption : AT T37 _ _)) (by first | assumption | exact (RNV_FR w586 rfl (by assumption : RNV T36 _))) (by omega) (by omega) (by omega) (by omega) (by omega) ((KT_FR w586 rfl (KT.tr (KT.tr (KT.w (KT.w KT.rf eU31 (by omega)) eU32 (by omega)) (by assumption : KT T35 U32 _) (by omega)) (by assumption : KT T36 T35 _) (by omega)))) (p182) (h182)) (And.intro rfl (And.intro rfl (True.intro)))
        · refine l_aload_n rfl rfl ?_
          refine l_gfr rfl rfl rfl rfl rfl (hHU32.r 904 82 952 rfl) ?_
          refine l_aload_n rfl rfl ?_
          refine l_gfi rfl rfl rfl rfl rfl ?_
          have w603 : (Xi U32 904 93) = (Xi S 904 93) := (show Xi U32 904 93 = Xi U31 904 93 from by rw [eU32]; exact Xi_ne (by omega)).trans ((show Xi U31 904 93 = Xi S 904 93 from by rw [eU31]; exact Xi_ne (by omega)))
          rw [w603]
          refine l_iconst rfl ?_
          refine l_iastore (n := 1700) rfl rfl (by omega) (by omega) (by unfold rg; omega) ?_
          obtain ⟨U38, eU38⟩ : ∃ T : sS, T = uI U32 952 (((Xi S 904 93)).toNat) (Int32.ofInt 5) := ⟨_, rfl⟩
          rw [← eU38]
          have hHU38 : HI U38 := by rw [eU38]; exact HI_w hHU32 (show 0 ≤ 5 by omega) (show 5 ≤ 5 by omega)
          have hFU38 : FR md_mo_test S U38 := by rw [eU38]; exact FR.wI hFU32 (mdf_i (r := (952, 953, 0, 100000)) (List.mem_of_getElem? (i := 11) rfl) (inR_i (by omega) (by omega) (by omega) (by omega)))
          have w604 : Xi U38 952 (((Xi S 904 93)).toNat) = 5 := by rw [eU38]; exact Xi_same (by unfold rg; omega)
          refine l_aload_n rfl rfl ?_
          have w605 : Xi U38 904 65 = Xi S 904 65 := (show Xi U38 904 65 = Xi U32 904 65 from by rw [eU38]; exact Xi_ne (by omega)).trans ( (show Xi U32 904 65 = Xi U31 904 65 from by rw [eU32]; exact Xi_ne (by omega)).trans ((show Xi U31 904 65 = Xi S 904 65 from by rw [eU31]; exact Xi_ne (by omega))))
          have w606 : 0 ≤ Xi S 904 65 ∧ Xi S 904 65 ≤ 1 := hH.c _ _
          have w607 : Xi U38 904 69 = Xi S 904 69 := (show Xi U38 904 69 = Xi U32 904 69 from by rw [eU38]; exact Xi_ne (by omega)).trans ( (show Xi U32 904 69 = Xi U31 904 69 from by rw [eU32]; exact Xi_ne (by omega)).trans ((show Xi U31 904 69 = Xi S 904 69 from by rw [eU31]; exact Xi_ne (by omega))))
          have w608 : 0 ≤ Xi S 904 69 ∧ Xi S 904 69 ≤ 2600 := hH.c _ _
          have w609 : Xi U38 904 8 = Xi S 904 8 := (show Xi U38 904 8 = Xi U32 904 8 from by rw [eU38]; exact Xi_ne (by omega)).trans ( (show Xi U32 904 8 = Xi U31 904 8 from by rw [eU32]; exact Xi_ne (by omega)).trans ((show Xi U31 904 8 = Xi S 904 8 from by rw [eU31]; exact Xi_ne (by omega))))
          have w610 : 0 ≤ Xi S 904 8 ∧ Xi S 904 8 ≤ 5010 := hH.c _ _
          have w611 : Xi U38 904 93 = Xi S 904 93 := (show Xi U38 904 93 = Xi U32 904 93 from by rw [eU38]; exact Xi_ne (by omega)).trans ( (show Xi U32 904 93 = Xi U31 904 93 from by rw [eU32]; exact Xi_ne (by omega)).trans ((show Xi U31 904 93 = Xi S 904 93 from by rw [eU31]; exact Xi_ne (by omega))))
          have w612 : 0 ≤ Xi S 904 93 ∧ Xi S 904 93 ≤ 1700 := hH.c _ _
          refine l_callV rfl rfl rfl (t_mo_look hHU38 n c (by first | assumption | exact (TK_FR hFU38 rfl (by assumption : TK S _))) (by first | assumption | exact (AT_FR (FR_e eU38) rfl (AT_FR (FR_e eU32) rfl (AT_FR (FR_e eU31) rfl (by assumption : AT S _ _))))) _) ?_
          rintro _ _ ⟨rfl, z614, rfl, w614, w613⟩
          show Rl _ _ _ _ _ [iv z614] _ _
          have l91 : z614 ≠ 1 → Xi U38 904 65 = 0 ∧ Xi U38 907 (Xi U38 904 8).toNat = z614 := by assumption
          refine l_istore rfl rfl rfl ?_
          have w615 : Xi U38 961 (Xi S 904 93).toNat = Xi U31 961 (Xi S 904 93).toNat := (show Xi U38 961 (Xi S 904 93).toNat = Xi U32 961 (Xi S 904 93).toNat from by rw [eU38]; exact Xi_ne (by omega)).trans ((show Xi U32 961 (Xi S 904 93).toNat = Xi U31 961 (Xi S 904 93).toNat from by rw [eU32]; exact Xi_ne (by omega)))
          have w616 : Xi U38 962 (Xi S 904 93).toNat = Xi S 962 (Xi S 904 93).toNat := (show Xi U38 962 (Xi S 904 93).toNat = Xi U32 962 (Xi S 904 93).toNat from by rw [eU38]; exact Xi_ne (by omega)).trans ( (show Xi U32 962 (Xi S 904 93).toNat = Xi U31 962 (Xi S 904 93).toNat from by rw [eU32]; exact Xi_ne (by omega)).trans ((show Xi U31 962 (Xi S 904 93).toNat = Xi S 962 (Xi S 904 93).toNat from by rw [eU31]; exact Xi_ne (by omega))))
          have w617 : Xi U38 904 65 = Xi S 904 65 := (show Xi U38 904 65 = Xi U32 904 65 from by rw [eU38]; exact Xi_ne (by omega)).trans ( (show Xi U32 904 65 = Xi U31 904 65 from by rw [eU32]; exact Xi_ne (by omega)).trans ((show Xi U31 904 65 = Xi S 904 65 from by rw [eU31]; exact Xi_ne (by omega))))
          have w618 : 0 ≤ Xi S 904 65 ∧ Xi S 904 65 ≤ 1 := hH.c _ _
          have w619 : Xi U38 904 69 = Xi S 904 69 := (show Xi U38 904 69 = Xi U32 904 69 from by rw [eU38]; exact Xi_ne (by omega)).trans ( (show Xi U32 904 69 = Xi U31 904 69 from by rw [eU32]; exact Xi_ne (by omega)).trans ((show Xi U31 904 69 = Xi S 904 69 from by rw [eU31]; exact Xi_ne (by omega))))
          have w620 : 0 ≤ Xi S 904 69 ∧ Xi S 904 69 ≤ 2600 := hH.c _ _
          have w621 : Xi U38 904 8 = Xi S 904 8 := (show Xi U38 904 8 = Xi U32 904 8 from by rw [eU38]; exact Xi_ne (by omega)).trans ( (show Xi U32 904 8 = Xi U31 904 8 from by rw [eU32]; exact Xi_ne (by omega)).trans ((show Xi U31 904 8 = Xi S 904 8 from by rw [eU31]; exact Xi_ne (by omega))))
          have w622 : 0 ≤ Xi S 904 8 ∧ Xi S 904 8 ≤ 5010 := hH.c _ _
          have w623 : Xi U38 904 93 = Xi S 904 93 := (show Xi U38 904 93 = Xi U32 904 93 from by rw [eU38]; exact Xi_ne (by omega)).trans ( (show Xi U32 904 93 = Xi U31 904 93 from by rw [eU32]; exact Xi_ne (by omega)).trans ((show Xi U31 904 93 = Xi S 904 93 from by rw [eU31]; exact Xi_ne (by omega))))
          have w624 : 0 ≤ Xi S 904 93 ∧ Xi S 904 93 ≤ 1700 := hH.c _ _
          exact Rl_weak (C96 _ U38 hHU38 hFU38 (v2) (z614) (by omega) (by omega) (by omega) (by first | exact a133 | exact (AT_FR (FR_e eU38) rfl (AT_FR (FR_e eU32) rfl (AT_FR (FR_e eU31) rfl (by assumption : AT S _ _))))) (by first | assumption | exact (RNV_FR (FR_e eU38) rfl (RNV_FR (FR_e eU32) rfl (RNV_FR (FR_e eU31) rfl (by assumption : RNV S _))))) (by omega) (by omega) (by omega) (by omega) (by omega) (by omega) (by omega) ((KT.w (KT.w (KT.w KT.rf eU31 (by omega)) eU32 (by omega)) eU38 (by omega))) rfl) (And.intro rfl (And.intro rfl (And.intro rfl (And.intro rfl (True.intro)))))
      · refine l_iload_n rfl rfl ?_
        refine l_if_ne rfl rfl (by unfold rg; omega) (fun w625 => ?_) (fun w626 => ?_)
        · refine l_iconst rfl ?_
          refine l_goto rfl rfl ?_
          refine l_istore_n rfl rfl rfl ?_
          refine l_iinc rfl rfl rfl rfl ?_
          refine l_goto rfl rfl ?_
          have w627 : 0 ≤ Xi S 904 65 ∧ Xi S 904 65 ≤ 1 := hH.c _ _
          have w628 : 0 ≤ Xi S 904 69 ∧ Xi S 904 69 ≤ 2600 := hH.c _ _
          have w629 : 0 ≤ Xi S 904 8 ∧ Xi S 904 8 ≤ 5010 := hH.c _ _
          have w630 : 0 ≤ Xi S 904 93 ∧ Xi S 904 93 ≤ 1700 := hH.c _ _
          exact Rl_weak (ih13 _ (by omega) (v2) (1) ((v4 + 1)) (by omega) (by omega) (by omega) (by omega) (by omega) rfl) (And.intro rfl (And.intro rfl (And.intro rfl (And.intro rfl (And.intro rfl (True.intro))))))
        · refine l_aload_n rfl rfl ?_
          refine l_gfr rfl rfl rfl rfl rfl (hH.r 904 4 907 rfl) ?_
          refine l_iload rfl rfl ?_
          refine l_iaload (n := 5002) rfl rfl (by omega) (by omega) (by unfold rg; omega) ?_
          refine l_bipush rfl rfl ?_
          refine l_icmp_ne rfl rfl (by unfold rg; omega) (by unfold rg; omega) (fun w631 => ?_) (fun w632 => ?_)
          · refine l_iconst rfl ?_
            refine l_istore_n rfl rfl rfl ?_
            refine l_iinc rfl rfl rfl rfl ?_
            refine l_goto rfl rfl ?_
            have w633 : 0 ≤ Xi S 904 65 ∧ Xi S 904 65 ≤ 1 := hH.c _ _
            have w634 : 0 ≤ Xi S 904 69 ∧ Xi S 904 69 ≤ 2600 := hH.c _ _
            have w635 : 0 ≤ Xi S 904 8 ∧ Xi S 904 8 ≤ 5010 := hH.c _ _
            have w636 : 0 ≤ Xi S 904 93 ∧ Xi S 904 93 ≤ 1700 := hH.c _ _
            exact Rl_weak (ih13 _ (by omega) (v2) (0) ((v4 + 1)) (by omega) (by omega) (by omega) (by omega) (by omega) rfl) (And.intro rfl (And.intro rfl (And.intro rfl (And.intro rfl (And.intro rfl (True.intro))))))
          · refine l_iconst rfl ?_
            refine l_goto rfl rfl ?_
            refine l_istore_n rfl rfl rfl ?_
            refine l_iinc rfl rfl rfl rfl ?_
            refine l_goto rfl rfl ?_
            have w637 : 0 ≤ Xi S 904 65 ∧ Xi S 904 65 ≤ 1 := hH.c _ _
            have w638 : 0 ≤ Xi S 904 69 ∧ Xi S 904 69 ≤ 2600 := hH.c _ _
            have w639 : 0 ≤ Xi S 904 8 ∧ Xi S 904 8 ≤ 5010 := hH.c _ _
            have w640 : 0 ≤ Xi S 904 93 ∧ Xi S 904 93 ≤ 1700 := hH.c _ _
            exact Rl_weak (ih13 _ (by omega) (v2) (1) ((v4 + 1)) (by omega) (by omega) (by omega) (by omega) (by omega) rfl) (And.intro rfl (And.intro rfl (And.intro rfl (And.intro rfl (And.intro rfl (True.intro))))))
  refine l_aload_n rfl rfl ?_
  refine l_gfi rfl rfl rfl rfl rfl ?_
  refine l_istore_n rfl rfl rfl ?_
  refine l_iconst rfl ?_
  refine l_istore_n rfl rfl rfl ?_
  refine l_aload_n rfl rfl ?_
  refine l_gfi rfl rfl rfl rfl rfl ?_
  refine l_istore rfl rfl rfl ?_
  have w641 : 0 ≤ Xi S 904 65 ∧ Xi S 904 65 ≤ 1 := hH.c _ _
  have w642 : 0 ≤ Xi S 904 69 ∧ Xi S 904 69 ≤ 2600 := hH.c _ _
  have w643 : 0 ≤ Xi S 904 8 ∧ Xi S 904 8 ≤ 5010 := hH.c _ _
  have w644 : 0 ≤ Xi S 904 93 ∧ Xi S 904 93 ≤ 1700 := hH.c _ _
  exact Rl_weak (C13 _ ((Xi S 904 8)) (0) ((Xi S 904 8)) (by omega) (by omega) (by omega) (by omega) (by omega) rfl) (And.intro rfl (And.intro rfl (And.intro rfl (And.intro rfl (And.intro rfl (True.intro))))))
def md_mo_tests : List rec := [(904, 905, 8, 9), (904, 905, 65, 66), (904, 905, 66, 67), (904, 905, 69, 70), (904, 905, 78, 79), (904, 905, 93, 94), (904, 905, 94, 95), (904, 905, 99, 100), (904, 905, 100, 101), (904, 905, 101, 102), (950, 951, 0, 100000), (951, 952, 0, 100000), (952, 953, 0, 100000), (953, 954, 0, 100000), (954, 955, 0, 100000), (955, 956, 0, 100000), (956, 957, 0, 100000), (957, 958, 0, 100000), (958, 959, 0, 100000), (959, 960, 0, 100000), (960, 961, 0, 100000), (961, 962, 0, 100000), (962, 963, 0, 100000)]
abbrev Q_mo_tests (S : sS) (n : Nat) (c : Nat) : pst := fun r S1 => HI S1 ∧ FR md_mo_tests S S1 ∧ (r = none ∧ (AT S1 n (c - 1)) ∧ (Xi S 904 8 ≤ Xi S1 904 8 ∧ (Xi S1 904 8 ≤ n ∨ Xi S1 904 8 = Xi S 904 8)) ∧ (RNV S1 n) ∧ (Xi S1 904 65 = 0 → Xi S 904 65 = 0) ∧ (Xi S 904 69 ≤ Xi S1 904 69) ∧ (Xi S1 904 94 = Xi S1 904 93) ∧ (Xi S1 904 93 ≤ 1668) ∧ (Xi S1 904 65 = 0 → TVA S1 n (Xi S1 904 93)))
set_option maxRecDepth 100000 in
theorem t_mo_tests {S : sS} (hH : HI S) (n : Nat) (c : Nat) (hT : TK S n) (hA : AT S n c) (hv : RNV S n) (hx : Xi S 904 8 ≤ n) (hc : 1 ≤ c) (h0 : Xi S 904 93 = 0) (d : Nat) : Mt lay0 (d + 7) m_mo_tests [.ref 904] S (Q_mo_tests S n c) := by
  refine Mt_R rfl rfl ?_
  have hF : FR md_mo_tests S S := FR.rf
  have w1 : 0 ≤ Xi S 904 65 ∧ Xi S 904 65 ≤ 1 := hH.c _ _
  have w2 : 0 ≤ Xi S 904 69 ∧ Xi S 904 69 ≤ 2600 := hH.c _ _
  have w3 : 0 ≤ Xi S 904 8 ∧ Xi S 904 8 ≤ 5010 := hH.c _ _
  have w4 : 0 ≤ Xi S 904 93 ∧ Xi S 904 93 ≤ 1700 := hH.c _ _
  have hn5 := hT.1
  have hat := hA
  have h8 : 0 ≤ Xi S 904 8 ∧ Xi S 904 8 ≤ 5010 := hH.c _ _
  have h69 : 0 ≤ Xi S 904 69 ∧ Xi S 904 69 ≤ 2600 := hH.c _ _
  have ha0 : Xi S 904 65 = 0 → Xi S 904 8 ≤ n := fun q => (hA q).1
  have ha3 : Xi S 904 65 = 0 → 2 * Xi S 904 69 ≤ Xi S 904 8 + 1 := fun q => (hA q).2.1
  clear hat
  have C5 : ∀ (n5 : Nat) (T1 : sS) (_ : HI T1) (_ : FR md_mo_tests S T1), (AT T1 n (c - 1)) → (RNV T1 n) → (Xi S 904 8 ≤ Xi T1 904 8) → (Xi T1 904 8 ≤ n) → (Xi T1 904 93 ≤ 1668) → (Xi S 904 69 ≤ Xi T1 904 69) → (Xi T1 904 65 = 0 → Xi S 904 65 = 0) → (Xi T1 904 65 = 0 → TVA T1 n (Xi T1 904 93)) → n5 = (5002 - Xi T1 904 8).toNat → Rl lay0 (d + 6) m_mo_tests 5 [(0, .ref 904)] [] T1 (Q_mo_tests S n c) := by
    intro n5
    induction n5 using Nat.strongRecOn with
    | ind n5 ih5 =>
      intro T1 hHT1 hFT1 A5 V5 w5 w6 w7 w8 w9 E5 hm5
      have w10 : 0 ≤ Xi T1 904 65 ∧ Xi T1 904 65 ≤ 1 := hHT1.c _ _
      have w11 : 0 ≤ Xi T1 904 69 ∧ Xi T1 904 69 ≤ 2600 := hHT1.c _ _
      have w12 : 0 ≤ Xi T1 904 8 ∧ Xi T1 904 8 ≤ 5010 := hHT1.c _ _
      have w13 : 0 ≤ Xi T1 904 93 ∧ Xi T1 904 93 ≤ 1700 := hHT1.c _ _
      refine l_aload_n rfl rfl ?_
      refine l_bipush rfl rfl ?_
      have w14 : 0 ≤ Xi T1 904 65 ∧ Xi T1 904 65 ≤ 1 := hHT1.c _ _
      have w15 : 0 ≤ Xi T1 904 69 ∧ Xi T1 904 69 ≤ 2600 := hHT1.c _ _
      have w16 : 0 ≤ Xi T1 904 8 ∧ Xi T1 904 8 ≤ 5010 := hHT1.c _ _
      have w17 : 0 ≤ Xi T1 904 93 ∧ Xi T1 904 93 ≤ 1700 := hHT1.c _ _
      have w18 : 0 ≤ Xi T1 904 94 ∧ Xi T1 904 94 ≤ 1700 := hHT1.c _ _
      refine l_callV rfl rfl rfl (t_mo_isNext hHT1 n (c - 1) 116 ⟨by omega, by omega⟩ (by first | assumption | exact (TK_FR hFT1 rfl (by assumption : TK S _))) (by first | assumption | exact (by assumption : AT T1 _ _)) _) ?_
      rintro _ _ ⟨rfl, z21, rfl, w21, w19, w20⟩
      show Rl _ _ _ _ _ [iv z21] _ _
      have j8 : z21 = 1 → Xi T1 904 65 = 0 ∧ Xi T1 907 (Xi T1 904 8).toNat = 116 := by assumption
      refine l_if_eq rfl rfl (by unfold rg; omega) (fun w22 => ?_) (fun w23 => ?_)
      · refine l_aload_n rfl rfl ?_
        refine l_aload_n rfl rfl ?_
        refine l_gfi rfl rfl rfl rfl rfl ?_
        refine l_pfi rfl rfl rfl rfl ?_
        obtain ⟨U2, eU2⟩ : ∃ T : sS, T = uI T1 904 94 (Int32.ofInt (Xi T1 904 93)) := ⟨_, rfl⟩
        rw [← eU2]
        have hHU2 : HI U2 := by rw [eU2]; exact HI_w hHT1 (show 0 ≤ (Xi T1 904 93) by omega) (show (Xi T1 904 93) ≤ 1700 by omega)
        have hFU2 : FR md_mo_tests S U2 := by rw [eU2]; exact FR.wI hFT1 (mdf_i (r := (904, 905, 94, 95)) (List.mem_of_getElem? (i := 6) rfl) (inR_i (by omega) (by omega) (by omega) (by omega)))
        have w24 : Xi U2 904 94 = (Xi T1 904 93) := by rw [eU2]; exact Xi_same (by unfold rg; omega)
        have V37 : Xi U2 904 65 = 0 → TVA U2 n (Xi U2 904 93) := fun q i hi => by rw [eU2, Xi_ne (by omega)] at q hi; exact (E5 q i hi).mv (fun k a b => by rw [eU2, Xi_ne (by omega)]) (by rw [eU2, Xi_ne (by omega)]; exact Int.le_refl _) (fun j => by rw [eU2, Xi_ne (by omega)])
        refine l_return rfl rfl ?_
        have w25 : Xi U2 904 65 = Xi T1 904 65 := (show Xi U2 904 65 = Xi T1 904 65 from by rw [eU2]; exact Xi_ne (by omega))
        have w26 : 0 ≤ Xi T1 904 65 ∧ Xi T1 904 65 ≤ 1 := hHT1.c _ _
        have w27 : Xi U2 904 69 = Xi T1 904 69 := (show Xi U2 904 69 = Xi T1 904 69 from by rw [eU2]; exact Xi_ne (by omega))
        have w28 : 0 ≤ Xi T1 904 69 ∧ Xi T1 904 69 ≤ 2600 := hHT1.c _ _
        have w29 : Xi U2 904 8 = Xi T1 904 8 := (show Xi U2 904 8 = Xi T1 904 8 from by rw [eU2]; exact Xi_ne (by omega))
        have w30 : 0 ≤ Xi T1 904 8 ∧ Xi T1 904 8 ≤ 5010 := hHT1.c _ _
        have w31 : Xi U2 904 93 = Xi T1 904 93 := (show Xi U2 904 93 = Xi T1 904 93 from by rw [eU2]; exact Xi_ne (by omega))
        have w32 : 0 ≤ Xi T1 904 93 ∧ Xi T1 904 93 ≤ 1700 := hHT1.c _ _
        have w33 : 0 ≤ Xi U2 904 94 ∧ Xi U2 904 94 ≤ 1700 := hHU2.c _ _
        exact ⟨hHU2, hFU2, rfl, (AT_FR (FR_e eU2) rfl A5), (by omega), (by first | assumption | exact (RNV_FR (FR_e eU2) rfl (by assumption : RNV T1 _))), (by omega), (by omega), (by omega), (by omega), (V37)⟩
      · refine l_aload_n rfl rfl ?_
        refine l_dup rfl rfl ?_
        refine l_gfi rfl rfl rfl rfl rfl ?_
        refine l_iconst rfl ?_
        refine l_iadd rfl ?_
        refine l_pfi rfl rfl rfl rfl ?_
        obtain ⟨U3, eU3⟩ : ∃ T : sS, T = uI T1 904 8 (Int32.ofInt ((Xi T1 904 8) + 1)) := ⟨_, rfl⟩
        rw [← eU3]
        have hHU3 : HI U3 := by rw [eU3]; exact HI_w hHT1 (show 0 ≤ ((Xi T1 904 8) + 1) by omega) (show ((Xi T1 904 8) + 1) ≤ 5010 by omega)
        have hFU3 : FR md_mo_tests S U3 := by rw [eU3]; exact FR.wI hFT1 (mdf_i (r := (904, 905, 8, 9)) (List.mem_of_getElem? (i := 0) rfl) (inR_i (by omega) (by omega) (by omega) (by omega)))
        have w34 : Xi U3 904 8 = ((Xi T1 904 8) + 1) := by rw [eU3]; exact Xi_same (by unfold rg; omega)
        have b21 : Xi T1 904 93 ≤ 1666 := by have t := at_tc A5 hHT1 (by omega); omega
        have t21 : AT U3 n c ∧ _ := at_mv (S := T1) (P := T1) (c2 := c) (TK_FR hFT1 rfl hT) A5 (fun _ => rfl) (fun _ => rfl) rfl rfl rfl rfl eU3 (by omega) (by omega) (by omega) (by omega) (Or.inr ⟨by omega, Or.inl (by omega)⟩)
        have a21 : AT U3 n c := t21.1
        have K21 : KT U3 T1 (Xi T1 904 93) := KT_FR (FR_e eU3) rfl KT.rf
        have x21 : ∀ j, Xi U3 907 j = Xi T1 907 j := fun j => by rw [eU3, Xi_ne (by omega)]
        refine l_aload_n rfl rfl ?_
        refine l_iconst rfl ?_
        have w35 : Xi U3 904 65 = Xi T1 904 65 := (show Xi U3 904 65 = Xi T1 904 65 from by rw [eU3]; exact Xi_ne (by omega))
        have w36 : 0 ≤ Xi T1 904 65 ∧ Xi T1 904 65 ≤ 1 := hHT1.c _ _
        have w37 : Xi U3 904 69 = Xi T1 904 69 := (show Xi U3 904 69 = Xi T1 904 69 from by rw [eU3]; exact Xi_ne (by omega))
        have w38 : 0 ≤ Xi T1 904 69 ∧ Xi T1 904 69 ≤ 2600 := hHT1.c _ _
        have w39 : 0 ≤ Xi U3 904 8 ∧ Xi U3 904 8 ≤ 5010 := hHU3.c _ _
        have w40 : Xi U3 904 93 = Xi T1 904 93 := (show Xi U3 904 93 = Xi T1 904 93 from by rw [eU3]; exact Xi_ne (by omega))
        have w41 : 0 ≤ Xi T1 904 93 ∧ Xi T1 904 93 ≤ 1700 := hHT1.c _ _
        have w42 : Xi U3 904 94 = Xi T1 904 94 := (show Xi U3 904 94 = Xi T1 904 94 from by rw [eU3]; exact Xi_ne (by omega))
        have w43 : 0 ≤ Xi T1 904 94 ∧ Xi T1 904 94 ≤ 1700 := hHT1.c _ _
        refine l_callV rfl rfl rfl (t_mo_test hHU3 n c 0 ⟨by omega, by omega⟩ (by first | assumption | exact (TK_FR hFU3 rfl (by assumption : TK S _))) (by first | assumption | exact (by assumption : AT U3 _ _)) (by first | assumption | exact (RNV_FR (FR_e eU3) rfl (by assumption : RNV T1 _))) (by first | assumption | omega) (by first | assumption | omega) (by first | assumption | omega) _) ?_
        rintro _ T4 ⟨hHT4, w52, rfl, w44, w45, w46, w47, w48, k26, w49, v26, w50⟩
        have hFT4 : FR md_mo_tests S T4 := FR.tr hFU3 w52 rfl
        show Rl _ _ _ _ _ [] _ _
        have V26 : Xi T4 904 65 = 0 → TVA T4 n (Xi T4 904 93) := fun q => ((E5 (by omega)).mv (KT.tr K21 k26 (by omega)) (by omega) (fun j => ((by assumption : FR md_mo_test U3 T4).cx 907 rfl j).1.trans (x21 j))).add (by omega) (by omega) (by rw [show (Xi T1 904 93).toNat = (Xi U3 904 93).toNat by omega]; exact v26 q)
        refine l_goto rfl rfl ?_
        have w53 : 0 ≤ Xi T4 904 65 ∧ Xi T4 904 65 ≤ 1 := hHT4.c _ _
        have w54 : 0 ≤ Xi T4 904 69 ∧ Xi T4 904 69 ≤ 2600 := hHT4.c _ _
        have w55 : 0 ≤ Xi T4 904 8 ∧ Xi T4 904 8 ≤ 5010 := hHT4.c _ _
        have w56 : 0 ≤ Xi T4 904 93 ∧ Xi T4 904 93 ≤ 1700 := hHT4.c _ _
        have w57 : Xi T4 904 94 = Xi T1 904 94 := (show Xi T4 904 94 = Xi U3 904 94 from w52.x _ _ rfl).trans ((show Xi U3 904 94 = Xi T1 904 94 from by rw [eU3]; exact Xi_ne (by omega)))
        have w58 : 0 ≤ Xi T1 904 94 ∧ Xi T1 904 94 ≤ 1700 := hHT1.c _ _
        exact Rl_weak (ih5 _ (by omega) T4 hHT4 hFT4  (by assumption) (by assumption) (by omega) (by omega) (by omega) (by omega) (by omega) (by first | exact V26 | exact V2) rfl) (And.intro rfl (True.intro))
  refine l_aload_n rfl rfl ?_
  refine l_iconst rfl ?_
  have w59 : 0 ≤ Xi S 904 65 ∧ Xi S 904 65 ≤ 1 := hH.c _ _
  have w60 : 0 ≤ Xi S 904 69 ∧ Xi S 904 69 ≤ 2600 := hH.c _ _
  have w61 : 0 ≤ Xi S 904 8 ∧ Xi S 904 8 ≤ 5010 := hH.c _ _
  have w62 : 0 ≤ Xi S 904 93 ∧ Xi S 904 93 ≤ 1700 := hH.c _ _
  have w63 : 0 ≤ Xi S 904 94 ∧ Xi S 904 94 ≤ 1700 := hH.c _ _
  refine l_callV rfl rfl rfl (t_mo_test hH n c 0 ⟨by omega, by omega⟩ (by first | assumption | exact (TK_FR hF rfl (by assumption : TK S _))) (by first | assumption | exact (by assumption : AT S _ _)) (by first | assumption | exact (by assumption : RNV S _)) (by first | assumption | omega) (by first | assumption | omega) (by first | assumption | omega) _) ?_
  rintro _ T5 ⟨hHT5, w72, rfl, w64, w65, w66, w67, w68, k2_, w69, v2_, w70⟩
  have hFT5 : FR md_mo_tests S T5 := FR.tr hF w72 rfl
  show Rl _ _ _ _ _ [] _ _
  have V2 : Xi T5 904 65 = 0 → TVA T5 n (Xi T5 904 93) := fun q i hi => by rw [show i = (Xi S 904 93).toNat by omega]; exact v2_ q
  have w73 : 0 ≤ Xi T5 904 65 ∧ Xi T5 904 65 ≤ 1 := hHT5.c _ _
  have w74 : 0 ≤ Xi T5 904 69 ∧ Xi T5 904 69 ≤ 2600 := hHT5.c _ _
  have w75 : 0 ≤ Xi T5 904 8 ∧ Xi T5 904 8 ≤ 5010 := hHT5.c _ _
  have w76 : 0 ≤ Xi T5 904 93 ∧ Xi T5 904 93 ≤ 1700 := hHT5.c _ _
  have w77 : Xi T5 904 94 = Xi S 904 94 := (show Xi T5 904 94 = Xi S 904 94 from w72.x _ _ rfl)
  have w78 : 0 ≤ Xi S 904 94 ∧ Xi S 904 94 ≤ 1700 := hH.c _ _
  exact Rl_weak (C5 _ T5 hHT5 hFT5  (by assumption) (by assumption) (by omega) (by omega) (by omega) (by omega) (by omega) (by first | exact V26 | exact V2) rfl) (And.intro rfl (True.intro))
def md_mo_partTwo : List rec := [(904, 905, 8, 9), (904, 905, 65, 66), (904, 905, 66, 67), (904, 905, 69, 70), (904, 905, 78, 79), (904, 905, 93, 94), (904, 905, 94, 95), (904, 905, 99, 100), (904, 905, 100, 101), (904, 905, 101, 102), (950, 951, 0, 100000), (951, 952, 0, 100000), (952, 953, 0, 100000), (953, 954, 0, 100000), (954, 955, 0, 100000), (955, 956, 0, 100000), (956, 957, 0, 100000), (957, 958, 0, 100000), (958, 959, 0, 100000), (959, 960, 0, 100000), (960, 961, 0, 100000), (961, 962, 0, 100000), (962, 963, 0, 100000)]
abbrev Q_mo_partTwo (S : sS) (n : Nat) (c : Nat) : pst := fun r S1 => HI S1 ∧ FR md_mo_partTwo S S1 ∧ (r = none ∧ (AT S1 n c) ∧ (Xi S 904 8 ≤ Xi S1 904 8 ∧ Xi S1 904 8 ≤ n) ∧ (RNV S1 n) ∧ (Xi S 904 69 ≤ Xi S1 904 69) ∧ (Xi S1 904 65 = 0 → 2 ≤ Xi S1 904 69) ∧ (Xi S1 904 94 ≤ 1668) ∧ (Xi S1 904 65 = 0 → TVA S1 n (Xi S1 904 94)))
set_option maxRecDepth 100000 in
theorem t_mo_partTwo {S : sS} (hH : HI S) (n : Nat) (c : Nat) (hT : TK S n) (hA : AT S n c) (hv : RNV S n) (hb : Xi S 904 65 = 0) (hk : Xi S 907 (Xi S 904 8).toNat = 135) (z1 : Xi S 904 93 = 0) (d : Nat) : Mt lay0 (d + 8) m_mo_partTwo [.ref 904] S (Q_mo_partTwo S n c) := by
  refine Mt_R rfl rfl ?_
  have hF : FR md_mo_partTwo S S := FR.rf
  have w1 : 0 ≤ Xi S 904 65 ∧ Xi S 904 65 ≤ 1 := hH.c _ _
  have w2 : 0 ≤ Xi S 904 69 ∧ Xi S 904 69 ≤ 2600 := hH.c _ _
  have w3 : 0 ≤ Xi S 904 8 ∧ Xi S 904 8 ≤ 5010 := hH.c _ _
  have w4 : 0 ≤ Xi S 904 93 ∧ Xi S 904 93 ≤ 1700 := hH.c _ _
  have hn5 := hT.1
  have hat := hA
  have h8 : 0 ≤ Xi S 904 8 ∧ Xi S 904 8 ≤ 5010 := hH.c _ _
  have h69 : 0 ≤ Xi S 904 69 ∧ Xi S 904 69 ≤ 2600 := hH.c _ _
  have ha0 : Xi S 904 65 = 0 → Xi S 904 8 ≤ n := fun q => (hA q).1
  have ha3 : Xi S 904 65 = 0 → 2 * Xi S 904 69 ≤ Xi S 904 8 + 1 := fun q => (hA q).2.1
  clear hat
  have hx := ha0 hb
  refine l_aload_n rfl rfl ?_
  refine l_dup rfl rfl ?_
  refine l_gfi rfl rfl rfl rfl rfl ?_
  refine l_iconst rfl ?_
  refine l_iadd rfl ?_
  refine l_pfi rfl rfl rfl rfl ?_
  obtain ⟨U1, eU1⟩ : ∃ T : sS, T = uI S 904 8 (Int32.ofInt ((Xi S 904 8) + 1)) := ⟨_, rfl⟩
  rw [← eU1]
  have hHU1 : HI U1 := by rw [eU1]; exact HI_w hH (show 0 ≤ ((Xi S 904 8) + 1) by omega) (show ((Xi S 904 8) + 1) ≤ 5010 by omega)
  have hFU1 : FR md_mo_partTwo S U1 := by rw [eU1]; exact FR.wI hF (mdf_i (r := (904, 905, 8, 9)) (List.mem_of_getElem? (i := 0) rfl) (inR_i (by omega) (by omega) (by omega) (by omega)))
  have w5 : Xi U1 904 8 = ((Xi S 904 8) + 1) := by rw [eU1]; exact Xi_same (by unfold rg; omega)
  have t7 : AT U1 n (c + 1) ∧ _ := (at_mv (S := S) (P := S) (TK_FR hF rfl (by assumption : TK S _)) (by first | assumption | exact (by assumption : AT S _ _)) (fun j => rfl) (fun j => rfl) (rfl) (rfl) (rfl) (rfl) eU1 (by omega) (by omega) (by omega) (by omega) (Or.inr ⟨rfl, by unfold K3; omega⟩))
  have a7 : AT U1 n (c + 1) := t7.1
  have l7 := t7.2
  refine l_aload_n rfl rfl ?_
  refine l_bipush rfl rfl ?_
  have w6 : Xi U1 904 65 = Xi S 904 65 := (show Xi U1 904 65 = Xi S 904 65 from by rw [eU1]; exact Xi_ne (by omega))
  have w7 : 0 ≤ Xi S 904 65 ∧ Xi S 904 65 ≤ 1 := hH.c _ _
  have w8 : Xi U1 904 69 = Xi S 904 69 := (show Xi U1 904 69 = Xi S 904 69 from by rw [eU1]; exact Xi_ne (by omega))
  have w9 : 0 ≤ Xi S 904 69 ∧ Xi S 904 69 ≤ 2600 := hH.c _ _
  have w10 : 0 ≤ Xi U1 904 8 ∧ Xi U1 904 8 ≤ 5010 := hHU1.c _ _
  have w11 : Xi U1 904 93 = Xi S 904 93 := (show Xi U1 904 93 = Xi S 904 93 from by rw [eU1]; exact Xi_ne (by omega))
  have w12 : 0 ≤ Xi S 904 93 ∧ Xi S 904 93 ≤ 1700 := hH.c _ _
  have w13 : Xi U1 904 94 = Xi S 904 94 := (show Xi U1 904 94 = Xi S 904 94 from by rw [eU1]; exact Xi_ne (by omega))
  have w14 : 0 ≤ Xi S 904 94 ∧ Xi S 904 94 ≤ 1700 := hH.c _ _
  refine l_callV rfl rfl rfl (t_mo_take__2 hHU1 n (c + 1) 58 ⟨by omega, by omega⟩ (by first | assumption | exact (TK_FR hFU1 rfl (by assumption : TK S _))) (by first | assumption | exact (by assumption : AT U1 _ _)) (by first | assumption | omega) _) ?_
  rintro _ T2 ⟨hHT2, w20, rfl, w15, w16, w17, w18⟩
  have hFT2 : FR md_mo_partTwo S T2 := FR.tr hFU1 w20 rfl
  show Rl _ _ _ _ _ [] _ _
  refine l_aload_n rfl rfl ?_
  have w21 : 0 ≤ Xi T2 904 65 ∧ Xi T2 904 65 ≤ 1 := hHT2.c _ _
  have w22 : Xi T2 904 69 = Xi S 904 69 := (show Xi T2 904 69 = Xi U1 904 69 from w20.x _ _ rfl).trans ((show Xi U1 904 69 = Xi S 904 69 from by rw [eU1]; exact Xi_ne (by omega)))
  have w23 : 0 ≤ Xi S 904 69 ∧ Xi S 904 69 ≤ 2600 := hH.c _ _
  have w24 : 0 ≤ Xi T2 904 8 ∧ Xi T2 904 8 ≤ 5010 := hHT2.c _ _
  have w25 : Xi T2 904 93 = Xi S 904 93 := (show Xi T2 904 93 = Xi U1 904 93 from w20.x _ _ rfl).trans ((show Xi U1 904 93 = Xi S 904 93 from by rw [eU1]; exact Xi_ne (by omega)))
  have w26 : 0 ≤ Xi S 904 93 ∧ Xi S 904 93 ≤ 1700 := hH.c _ _
  have w27 : Xi T2 904 94 = Xi S 904 94 := (show Xi T2 904 94 = Xi U1 904 94 from w20.x _ _ rfl).trans ((show Xi U1 904 94 = Xi S 904 94 from by rw [eU1]; exact Xi_ne (by omega)))
  have w28 : 0 ≤ Xi S 904 94 ∧ Xi S 904 94 ≤ 1700 := hH.c _ _
  refine l_callV rfl rfl rfl (t_mo_art__2 hHT2 n (c + 1) (by first | assumption | exact (TK_FR hFT2 rfl (by assumption : TK S _))) (by first | assumption | exact (by assumption : AT T2 _ _)) _) ?_
  rintro _ T3 ⟨hHT3, w33, rfl, w29, w30, w31⟩
  have hFT3 : FR md_mo_partTwo S T3 := FR.tr hFT2 w33 rfl
  show Rl _ _ _ _ _ [] _ _
  refine l_aload_n rfl rfl ?_
  have w34 : 0 ≤ Xi T3 904 65 ∧ Xi T3 904 65 ≤ 1 := hHT3.c _ _
  have w35 : Xi T3 904 69 = Xi S 904 69 := (show Xi T3 904 69 = Xi T2 904 69 from w33.x _ _ rfl).trans ( (show Xi T2 904 69 = Xi U1 904 69 from w20.x _ _ rfl).trans ((show Xi U1 904 69 = Xi S 904 69 from by rw [eU1]; exact Xi_ne (by omega))))
  have w36 : 0 ≤ Xi S 904 69 ∧ Xi S 904 69 ≤ 2600 := hH.c _ _
  have w37 : 0 ≤ Xi T3 904 8 ∧ Xi T3 904 8 ≤ 5010 := hHT3.c _ _
  have w38 : Xi T3 904 93 = Xi S 904 93 := (show Xi T3 904 93 = Xi T2 904 93 from w33.x _ _ rfl).trans ( (show Xi T2 904 93 = Xi U1 904 93 from w20.x _ _ rfl).trans ((show Xi U1 904 93 = Xi S 904 93 from by rw [eU1]; exact Xi_ne (by omega))))
  have w39 : 0 ≤ Xi S 904 93 ∧ Xi S 904 93 ≤ 1700 := hH.c _ _
  have w40 : Xi T3 904 94 = Xi S 904 94 := (show Xi T3 904 94 = Xi T2 904 94 from w33.x _ _ rfl).trans ( (show Xi T2 904 94 = Xi U1 904 94 from w20.x _ _ rfl).trans ((show Xi U1 904 94 = Xi S 904 94 from by rw [eU1]; exact Xi_ne (by omega))))
  have w41 : 0 ≤ Xi S 904 94 ∧ Xi S 904 94 ≤ 1700 := hH.c _ _
  refine l_callV rfl rfl rfl (t_mo_run hHT3 n (c + 1) (by first | assumption | exact (TK_FR hFT3 rfl (by assumption : TK S _))) (by first | assumption | exact (by assumption : AT T3 _ _)) (by first | assumption | exact (RNV_FR w33 rfl (RNV_FR w20 rfl (RNV_FR (FR_e eU1) rfl (by assumption : RNV S _))))) _) ?_
  rintro _ T4 ⟨hHT4, w48, z47, rfl, w47, w42, w43, w44, w45, w46⟩
  have hFT4 : FR md_mo_partTwo S T4 := FR.tr hFT3 w48 rfl
  show Rl _ _ _ _ _ [iv z47] _ _
  refine l_pop rfl rfl ?_
  refine l_aload_n rfl rfl ?_
  refine l_bipush rfl rfl ?_
  have w49 : 0 ≤ Xi T4 904 65 ∧ Xi T4 904 65 ≤ 1 := hHT4.c _ _
  have w50 : 0 ≤ Xi T4 904 69 ∧ Xi T4 904 69 ≤ 2600 := hHT4.c _ _
  have w51 : 0 ≤ Xi T4 904 8 ∧ Xi T4 904 8 ≤ 5010 := hHT4.c _ _
  have w52 : Xi T4 904 93 = Xi S 904 93 := (show Xi T4 904 93 = Xi T3 904 93 from w48.x _ _ rfl).trans ( (show Xi T3 904 93 = Xi T2 904 93 from w33.x _ _ rfl).trans ( (show Xi T2 904 93 = Xi U1 904 93 from w20.x _ _ rfl).trans ((show Xi U1 904 93 = Xi S 904 93 from by rw [eU1]; exact Xi_ne (by omega)))))
  have w53 : 0 ≤ Xi S 904 93 ∧ Xi S 904 93 ≤ 1700 := hH.c _ _
  have w54 : Xi T4 904 94 = Xi S 904 94 := (show Xi T4 904 94 = Xi T3 904 94 from w48.x _ _ rfl).trans ( (show Xi T3 904 94 = Xi T2 904 94 from w33.x _ _ rfl).trans ( (show Xi T2 904 94 = Xi U1 904 94 from w20.x _ _ rfl).trans ((show Xi U1 904 94 = Xi S 904 94 from by rw [eU1]; exact Xi_ne (by omega)))))
  have w55 : 0 ≤ Xi S 904 94 ∧ Xi S 904 94 ≤ 1700 := hH.c _ _
  refine l_callV rfl rfl rfl (t_mo_take__2 hHT4 n (c + 1) 104 ⟨by omega, by omega⟩ (by first | assumption | exact (TK_FR hFT4 rfl (by assumption : TK S _))) (by first | assumption | exact (by assumption : AT T4 _ _)) (by first | assumption | omega) _) ?_
  rintro _ T5 ⟨hHT5, w61, rfl, w56, w57, w58, w59⟩
  have hFT5 : FR md_mo_partTwo S T5 := FR.tr hFT4 w61 rfl
  show Rl _ _ _ _ _ [] _ _
  refine l_aload_n rfl rfl ?_
  have w62 : 0 ≤ Xi T5 904 65 ∧ Xi T5 904 65 ≤ 1 := hHT5.c _ _
  have w63 : Xi T5 904 69 = Xi T4 904 69 := (show Xi T5 904 69 = Xi T4 904 69 from w61.x _ _ rfl)
  have w64 : 0 ≤ Xi T4 904 69 ∧ Xi T4 904 69 ≤ 2600 := hHT4.c _ _
  have w65 : 0 ≤ Xi T5 904 8 ∧ Xi T5 904 8 ≤ 5010 := hHT5.c _ _
  have w66 : Xi T5 904 93 = Xi S 904 93 := (show Xi T5 904 93 = Xi T4 904 93 from w61.x _ _ rfl).trans ( (show Xi T4 904 93 = Xi T3 904 93 from w48.x _ _ rfl).trans ( (show Xi T3 904 93 = Xi T2 904 93 from w33.x _ _ rfl).trans ( (show Xi T2 904 93 = Xi U1 904 93 from w20.x _ _ rfl).trans ((show Xi U1 904 93 = Xi S 904 93 from by rw [eU1]; exact Xi_ne (by omega))))))
  have w67 : 0 ≤ Xi S 904 93 ∧ Xi S 904 93 ≤ 1700 := hH.c _ _
  have w68 : Xi T5 904 94 = Xi S 904 94 := (show Xi T5 904 94 = Xi T4 904 94 from w61.x _ _ rfl).trans ( (show Xi T4 904 94 = Xi T3 904 94 from w48.x _ _ rfl).trans ( (show Xi T3 904 94 = Xi T2 904 94 from w33.x _ _ rfl).trans ( (show Xi T2 904 94 = Xi U1 904 94 from w20.x _ _ rfl).trans ((show Xi U1 904 94 = Xi S 904 94 from by rw [eU1]; exact Xi_ne (by omega))))))
  have w69 : 0 ≤ Xi S 904 94 ∧ Xi S 904 94 ≤ 1700 := hH.c _ _
  refine l_callV rfl rfl rfl (t_mo_run hHT5 n (c + 1) (by first | assumption | exact (TK_FR hFT5 rfl (by assumption : TK S _))) (by first | assumption | exact (by assumption : AT T5 _ _)) (by first | assumption | exact (RNV_FR w61 rfl (by assumption : RNV T4 _))) _) ?_
  rintro _ T6 ⟨hHT6, w76, z75, rfl, w75, w70, w71, w72, w73, w74⟩
  have hFT6 : FR md_mo_partTwo S T6 := FR.tr hFT5 w76 rfl
  show Rl _ _ _ _ _ [iv z75] _ _
  refine l_pop rfl rfl ?_
  refine l_aload_n rfl rfl ?_
  refine l_sipush rfl rfl ?_
  have w77 : 0 ≤ Xi T6 904 65 ∧ Xi T6 904 65 ≤ 1 := hHT6.c _ _
  have w78 : 0 ≤ Xi T6 904 69 ∧ Xi T6 904 69 ≤ 2600 := hHT6.c _ _
  have w79 : 0 ≤ Xi T6 904 8 ∧ Xi T6 904 8 ≤ 5010 := hHT6.c _ _
  have w80 : Xi T6 904 93 = Xi S 904 93 := (show Xi T6 904 93 = Xi T5 904 93 from w76.x _ _ rfl).trans ( (show Xi T5 904 93 = Xi T4 904 93 from w61.x _ _ rfl).trans ( (show Xi T4 904 93 = Xi T3 904 93 from w48.x _ _ rfl).trans ( (show Xi T3 904 93 = Xi T2 904 93 from w33.x _ _ rfl).trans ( (show Xi T2 904 93 = Xi U1 904 93 from w20.x _ _ rfl).trans ((show Xi U1 904 93 = Xi S 904 93 from by rw [eU1]; exact Xi_ne (by omega)))))))
  have w81 : 0 ≤ Xi S 904 93 ∧ Xi S 904 93 ≤ 1700 := hH.c _ _
  have w82 : Xi T6 904 94 = Xi S 904 94 := (show Xi T6 904 94 = Xi T5 904 94 from w76.x _ _ rfl).trans ( (show Xi T5 904 94 = Xi T4 904 94 from w61.x _ _ rfl).trans ( (show Xi T4 904 94 = Xi T3 904 94 from w48.x _ _ rfl).trans ( (show Xi T3 904 94 = Xi T2 904 94 from w33.x _ _ rfl).trans ( (show Xi T2 904 94 = Xi U1 904 94 from w20.x _ _ rfl).trans ((show Xi U1 904 94 = Xi S 904 94 from by rw [eU1]; exact Xi_ne (by omega)))))))
  have w83 : 0 ≤ Xi S 904 94 ∧ Xi S 904 94 ≤ 1700 := hH.c _ _
  refine l_callV rfl rfl rfl (t_mo_take__2 hHT6 n (c + 1) 136 ⟨by omega, by omega⟩ (by first | assumption | exact (TK_FR hFT6 rfl (by assumption : TK S _))) (by first | assumption | exact (by assumption : AT T6 _ _)) (by first | assumption | omega) _) ?_
  rintro _ T7 ⟨hHT7, w89, rfl, w84, w85, w86, w87⟩
  have hFT7 : FR md_mo_partTwo S T7 := FR.tr hFT6 w89 rfl
  show Rl _ _ _ _ _ [] _ _
  refine l_aload_n rfl rfl ?_
  have w90 : 0 ≤ Xi T7 904 65 ∧ Xi T7 904 65 ≤ 1 := hHT7.c _ _
  have w91 : Xi T7 904 69 = Xi T6 904 69 := (show Xi T7 904 69 = Xi T6 904 69 from w89.x _ _ rfl)
  have w92 : 0 ≤ Xi T6 904 69 ∧ Xi T6 904 69 ≤ 2600 := hHT6.c _ _
  have w93 : 0 ≤ Xi T7 904 8 ∧ Xi T7 904 8 ≤ 5010 := hHT7.c _ _
  have w94 : Xi T7 904 93 = Xi S 904 93 := (show Xi T7 904 93 = Xi T6 904 93 from w89.x _ _ rfl).trans ( (show Xi T6 904 93 = Xi T5 904 93 from w76.x _ _ rfl).trans ( (show Xi T5 904 93 = Xi T4 904 93 from w61.x _ _ rfl).trans ( (show Xi T4 904 93 = Xi T3 904 93 from w48.x _ _ rfl).trans ( (show Xi T3 904 93 = Xi T2 904 93 from w33.x _ _ rfl).trans ( (show Xi T2 904 93 = Xi U1 904 93 from w20.x _ _ rfl).trans ((show Xi U1 904 93 = Xi S 904 93 from by rw [eU1]; exact Xi_ne (by omega))))))))
  have w95 : 0 ≤ Xi S 904 93 ∧ Xi S 904 93 ≤ 1700 := hH.c _ _
  have w96 : Xi T7 904 94 = Xi S 904 94 := (show Xi T7 904 94 = Xi T6 904 94 from w89.x _ _ rfl).trans ( (show Xi T6 904 94 = Xi T5 904 94 from w76.x _ _ rfl).trans ( (show Xi T5 904 94 = Xi T4 904 94 from w61.x _ _ rfl).trans ( (show Xi T4 904 94 = Xi T3 904 94 from w48.x _ _ rfl).trans ( (show Xi T3 904 94 = Xi T2 904 94 from w33.x _ _ rfl).trans ( (show Xi T2 904 94 = Xi U1 904 94 from w20.x _ _ rfl).trans ((show Xi U1 904 94 = Xi S 904 94 from by rw [eU1]; exact Xi_ne (by omega))))))))
  have w97 : 0 ≤ Xi S 904 94 ∧ Xi S 904 94 ≤ 1700 := hH.c _ _
  refine l_callV rfl rfl rfl (t_mo_tests hHT7 n (c + 1) (by first | assumption | exact (TK_FR hFT7 rfl (by assumption : TK S _))) (by first | assumption | exact (by assumption : AT T7 _ _)) (by first | assumption | exact (RNV_FR w89 rfl (by assumption : RNV T6 _))) (by first | assumption | omega) (by first | assumption | omega) (by first | assumption | omega) _) ?_
  rintro _ T8 ⟨hHT8, w107, rfl, w98, w99, w100, w101, w102, w103, w104, w105⟩
  have hFT8 : FR md_mo_partTwo S T8 := FR.tr hFT7 w107 rfl
  show Rl _ _ _ _ _ [] _ _
  have a44 : AT T8 n c := (by assumption : AT T8 n (c + 1 - 1))
  have T44 : Xi T8 904 65 = 0 → TVA T8 n (Xi T8 904 94) := fun q => by rw [(by omega : Xi T8 904 94 = Xi T8 904 93)]; exact (by assumption : Xi T8 904 65 = 0 → TVA T8 n (Xi T8 904 93)) q
  refine l_return rfl rfl ?_
  have w108 : 0 ≤ Xi T8 904 65 ∧ Xi T8 904 65 ≤ 1 := hHT8.c _ _
  have w109 : 0 ≤ Xi T8 904 69 ∧ Xi T8 904 69 ≤ 2600 := hHT8.c _ _
  have w110 : 0 ≤ Xi T8 904 8 ∧ Xi T8 904 8 ≤ 5010 := hHT8.c _ _
  have w111 : 0 ≤ Xi T8 904 93 ∧ Xi T8 904 93 ≤ 1700 := hHT8.c _ _
  have w112 : 0 ≤ Xi T8 904 94 ∧ Xi T8 904 94 ≤ 1700 := hHT8.c _ _
  exact ⟨hHT8, hFT8, rfl, (a44), (by omega), (by first | assumption | exact (by assumption : RNV T8 _)), (by omega), (by omega), (by omega), (T44)⟩
/-! SAFETY of the reference: System.arraycopy -/
def cpI (S : sS) (a b s t n : Nat) : sS := (va_up S.1 b (va_cpy (S.1 a) (S.1 b) s t n), S.2.1, S.2.2)
def cpJ (S : sS) (a b s t n : Nat) : sS := (S.1, va_up S.2.1 b (va_cpy (S.2.1 a) (S.2.1 b) s t n), S.2.2)
section
variable {lay : Nat → Nat × Nat} {d pc : Nat} {q : mT} {L : List (Nat × Value)} {st : List Value} {S : sS} {Q : pst}
theorem l_acp {ix na : Nat} {md : mT} {a b : Nat} {x y z : Int} {S2 : sS} (hc : lk q.2.2.2.2.2 pc = some (.invokestatic ix)) (hk : kLs q.2.2.2.2.1 ix = some (9, md, na)) (hs : Nat.ble (st.map (fun v => v.category)).sum 8 = true) (he : acp lay S a (Int32.ofInt x) b (Int32.ofInt y) (Int32.ofInt z) = some S2) (h : Rl lay d q (pc + 3) L st S2 Q) : Rl lay d q pc L (iv z :: iv y :: .ref b :: iv x :: .ref a :: st) S Q := by
  intro lv ha
  obtain ⟨N, r, S1, hr, hq⟩ := h lv ha
  refine ⟨N + 1, r, S1, fun F G hF hG => ?_, hq⟩
  obtain ⟨F, rfl⟩ : ∃ F1, F = F1 + 1 := ⟨F - 1, by omega⟩
  have e := hr F G (by omega) (by omega)
  unfold run
  rw [hc]
  simp only [hk]
  show (bif Nat.ble (st.map (fun v => v.category)).sum 8 then (match acp lay S a (Int32.ofInt x) b (Int32.ofInt y) (Int32.ofInt z) with
    | some S1 => run lay (fLs q.2.2.2.2.1) (cLs q.2.2.2.2.1) (kLs q.2.2.2.2.1) q.2.2.1 q.2.2.2.1 (evd lay G d) q.2.2.2.2.2 F (pc + 3) lv st S1
    | none => none) else none) = _
  rw [hs, he]
  exact e
theorem acp_c {x y z : Int} {A B : Nat} (hx : 0 ≤ x) (hy : 0 ≤ y) (hz : 0 ≤ z) (h1 : x + z ≤ A) (h2 : y + z ≤ B) (hA : A ≤ 10000) (hB : B ≤ 10000) : ((decide (¬ Int32.ofInt x < 0) && (decide (¬ Int32.ofInt y < 0) && decide (¬ Int32.ofInt z < 0))) && (Nat.ble (x.toNat + z.toNat) A && Nat.ble (y.toNat + z.toNat) B)) = true := by
  have z0 : (0 : Int32) = Int32.ofInt 0 := by decide
  have n : ∀ {w : Int}, 0 ≤ w → w ≤ 10000 → ¬ Int32.ofInt w < 0 := fun {w} a b u => by
    rw [z0] at u
    have := (i32_lt (x := w) (y := 0) ⟨by omega, by omega⟩ ⟨by omega, by omega⟩).mp u
    omega
  rw [decide_eq_true (n hx (by omega)), decide_eq_true (n hy (by omega)), decide_eq_true (n hz (by omega)), Nat.ble_eq_true_of_le (show x.toNat + z.toNat ≤ A by omega), Nat.ble_eq_true_of_le (show y.toNat + z.toNat ≤ B by omega)]
  rfl
theorem acpI {x y z : Int} {a b A B : Nat} (ha : lay a = (1, A)) (hb : lay b = (1, B)) (hx : 0 ≤ x) (hy : 0 ≤ y) (hz : 0 ≤ z) (h1 : x + z ≤ A) (h2 : y + z ≤ B) (hA : A ≤ 10000) (hB : B ≤ 10000) : acp lay S a (Int32.ofInt x) b (Int32.ofInt y) (Int32.ofInt z) = some (cpI S a b x.toNat y.toNat z.toNat) := by
  unfold acp
  rw [ix_i (x := x) ⟨by omega, by omega⟩, ix_i (x := y) ⟨by omega, by omega⟩, ix_i (x := z) ⟨by omega, by omega⟩, ha, hb]
  have c := acp_c hx hy hz h1 h2 hA hB
  show (bif ((decide (¬ Int32.ofInt x < 0) && (decide (¬ Int32.ofInt y < 0) && decide (¬ Int32.ofInt z < 0))) && (Nat.ble (x.toNat + z.toNat) A && Nat.ble (y.toNat + z.toNat) B)) then _ else none) = _
  rw [c]
  rfl
theorem acpJ {x y z : Int} {a b A B : Nat} (ha : lay a = (2, A)) (hb : lay b = (2, B)) (hx : 0 ≤ x) (hy : 0 ≤ y) (hz : 0 ≤ z) (h1 : x + z ≤ A) (h2 : y + z ≤ B) (hA : A ≤ 10000) (hB : B ≤ 10000) : acp lay S a (Int32.ofInt x) b (Int32.ofInt y) (Int32.ofInt z) = some (cpJ S a b x.toNat y.toNat z.toNat) := by
  unfold acp
  rw [ix_i (x := x) ⟨by omega, by omega⟩, ix_i (x := y) ⟨by omega, by omega⟩, ix_i (x := z) ⟨by omega, by omega⟩, ha, hb]
  have c := acp_c hx hy hz h1 h2 hA hB
  show (bif ((decide (¬ Int32.ofInt x < 0) && (decide (¬ Int32.ofInt y < 0) && decide (¬ Int32.ofInt z < 0))) && (Nat.ble (x.toNat + z.toNat) A && Nat.ble (y.toNat + z.toNat) B)) then _ else none) = _
  rw [c]
  rfl
end
theorem cpI_in {S : sS} {a b s t n j : Nat} (h : t ≤ j ∧ j < t + n) : Xi (cpI S a b s t n) b j = Xi S a (s + (j - t)) := by
  have e : (cpI S a b s t n).1 b j = S.1 a (s + (j - t)) := by
    show (va_up S.1 b (va_cpy (S.1 a) (S.1 b) s t n)) b j = _
    unfold va_up va_cpy
    rw [if_pos rfl]
    exact if_pos h
  unfold Xi
  rw [e]
theorem cpI_nx {S : sS} {a b s t n k j : Nat} (h : k ≠ b ∨ ¬ (t ≤ j ∧ j < t + n)) : (cpI S a b s t n).1 k j = S.1 k j := by
  show (va_up S.1 b (va_cpy (S.1 a) (S.1 b) s t n)) k j = _
  unfold va_up va_cpy
  by_cases q : k = b
  · rw [if_pos q]
    rcases h with h | h
    · exact absurd q h
    · show (if t ≤ j ∧ j < t + n then S.1 a (s + (j - t)) else S.1 b j) = S.1 k j
      rw [if_neg h, q]
  · rw [if_neg q]
theorem cpI_ne {S : sS} {a b s t n k j : Nat} (h : k ≠ b ∨ ¬ (t ≤ j ∧ j < t + n)) : Xi (cpI S a b s t n) k j = Xi S k j := by
  unfold Xi
  rw [cpI_nx h]
theorem HI_cpI {S : sS} {a b s t n : Nat} (hH : HI S) (h : ∀ j, t ≤ j → j < t + n → (lh b j).1 ≤ Xi S a (s + (j - t)) ∧ Xi S a (s + (j - t)) ≤ (lh b j).2) : HI (cpI S a b s t n) := ⟨hH.1, fun k j => by
  by_cases q : k = b ∧ (t ≤ j ∧ j < t + n)
  · obtain ⟨rfl, q⟩ := q
    rw [cpI_in q]
    exact h j q.1 q.2
  · rw [cpI_ne (by by_cases c : k = b; exact Or.inr (fun x => q ⟨c, x⟩); exact Or.inl c)]
    exact hH.2 k j⟩
theorem inR_s {b k j : Nat} (h : mdf [(b, b + 1, 0, 100000)] k j = false) : k ≠ b ∨ 100000 ≤ j := by
  unfold mdf inR at h
  by_cases q : k = b
  · rcases Nat.lt_or_ge j 100000 with c | c
    · subst q
      simp [Nat.ble_eq, Nat.blt_eq, c] at h
    · exact Or.inr c
  · exact Or.inl q
theorem FR_cpI {S : sS} {a b s t n : Nat} (h : t + n ≤ 100000) : FR [(b, b + 1, 0, 100000)] S (cpI S a b s t n) := fun k j e => by
  have q := inR_s e
  exact ⟨cpI_nx (by omega), rfl, rfl⟩
theorem HI_cpJ {S : sS} {a b s t n : Nat} (hH : HI S) : HI (cpJ S a b s t n) := ⟨hH.1, fun k j => hH.2 k j⟩
theorem FR_cpJ {S : sS} {a b s t n : Nat} (h : t + n ≤ 100000) : FR [(b, b + 1, 0, 100000)] S (cpJ S a b s t n) := fun k j e => by
  have q := inR_s e
  refine ⟨rfl, ?_, rfl⟩
  show (va_up S.2.1 b (va_cpy (S.2.1 a) (S.2.1 b) s t n)) k j = _
  unfold va_up va_cpy
  by_cases c : k = b
  · rw [if_pos c]
    show (if t ≤ j ∧ j < t + n then S.2.1 a (s + (j - t)) else S.2.1 b j) = S.2.1 k j
    rw [if_neg (by omega), c]
  · rw [if_neg c]
/-! SAFETY of the reference: descriptions -/
def ADX (S : sS) (f a : Int) : Prop := ADM S a ∧ (f = 0 → a < 100 → Xi S 922 a.toNat ≠ -1)
theorem ADX_FR {l : List rec} {S T : sS} {f a : Int} (h : FR l S T) (e : (kdis l [(922, 923)] && mD l [23, 32]) = true) (hq : ADX S f a) : ADX T f a := by
  rw [Bool.and_eq_true] at e
  have k := h.smk e.1
  unfold ADX ADM
  rw [mD_x h e.2 23 (by decide), mD_x h e.2 32 (by decide), k.x 922 rfl]
  exact hq
def CHV (S : sS) (f m : Int) : Prop := ∀ i : Nat, (i : Int) < m → ADX S f (Xi S 968 i)
theorem CHV_FR {l : List rec} {S T : sS} {f m : Int} (h : FR l S T) (e : (kdis l [(922, 923), (968, 969)] && mD l [23, 32]) = true) (hq : CHV S f m) : CHV T f m := fun i hi => by
  have e0 := e
  rw [Bool.and_eq_true] at e
  have k := h.smk e.1
  have t := hq i hi
  unfold ADX ADM at *
  rw [mD_x h e.2 23 (by decide), mD_x h e.2 32 (by decide), k.x 968 rfl, k.x 922 rfl]
  exact t
theorem CHV.le {S : sS} {f m m2 : Int} (h : CHV S f m) (e : m2 ≤ m) : CHV S f m2 := fun i hi => h i (by omega)
theorem chv_add {S U : sS} {f m a : Int} {j : Nat} (h : CHV S f m) (e : U = uI S 968 j (Int32.ofInt a)) (hj : (j : Int) = m) (ha : ADX S f a) (hr : rg a) : CHV U f (m + 1) := fun i hi => by
  have x : ∀ k j, k ≠ 968 → Xi U k j = Xi S k j := fun k j c => by rw [e, Xi_ne (by omega)]
  unfold ADX ADM
  rw [x 904 23 (by decide), x 904 32 (by decide), x 922 _ (by decide)]
  by_cases q : i = j
  · rw [q, e, Xi_same hr]; exact ha
  · rw [show Xi U 968 i = Xi S 968 i by rw [e, Xi_ne (by omega)]]; exact h i (by omega)
def RDV (S : sS) (f : Int) : Prop := Xi S 904 109 ≠ 0 → Xi S 904 110 < Xi S 904 16 ∧ ∀ i : Nat, (i : Int) < Xi S 904 112 → ADX S f (Xi S 967 i)
theorem RDV_FR {l : List rec} {S T : sS} {f : Int} (h : FR l S T) (e : (kdis l [(922, 923), (967, 968)] && mD l [16, 23, 32, 109, 110, 112]) = true) (hq : RDV S f) : RDV T f := by
  rw [Bool.and_eq_true] at e
  have k := h.smk e.1
  unfold RDV ADX ADM
  simp only [mD_x h e.2 16 (by decide), mD_x h e.2 23 (by decide), mD_x h e.2 32 (by decide), mD_x h e.2 109 (by decide), mD_x h e.2 110 (by decide), mD_x h e.2 112 (by decide), k.x 967 rfl, k.x 922 rfl]
  exact hq
theorem rdv_i {T U : sS} {f : Int} {v : Int32} (hk : Xi T 904 110 < Xi T 904 16) (hc : ∀ i : Nat, (i : Int) < Xi T 904 112 → ADX T f (Xi T 967 i)) (e : U = uI T 904 109 v) : RDV U f := fun _ => by
  have x : ∀ k j, (k = 904 → j ≠ 109) → Xi U k j = Xi T k j := fun k j c => by rw [e, Xi_ne (by omega)]
  unfold ADX ADM
  simp only [x 904 110 (by decide), x 904 16 (by decide), x 904 112 (by decide), x 904 23 (by decide), x 904 32 (by decide), x 967 _ (by decide), x 922 _ (by decide)]
  exact ⟨hk, hc⟩
theorem chv_cp {P T : sS} {f m : Int} (h : CHV P f m) (e : T = cpI P 968 967 (0 : Int).toNat (0 : Int).toNat (6 : Int).toNat) (hm : m ≤ 6) : ∀ i : Nat, (i : Int) < m → ADX T f (Xi T 967 i) := fun i hi => by
  have x : ∀ k j, k ≠ 967 → Xi T k j = Xi P k j := fun k j c => by rw [e]; exact cpI_ne (Or.inl c)
  have y : Xi T 967 i = Xi P 968 i := by
    rw [e]
    have t := cpI_in (S := P) (a := 968) (b := 967) (s := 0) (t := 0) (n := 6) (j := i) (by omega)
    rw [show 0 + (i - 0) = i by omega] at t
    exact t
  have t := h i hi
  unfold ADX ADM at *
  rw [y, x 904 23 (by decide), x 904 32 (by decide), x 922 _ (by decide)]
  exact t
def md_mo_parted : List rec := [(904, 905, 64, 65), (904, 905, 109, 110), (904, 905, 110, 111), (904, 905, 112, 113), (904, 905, 113, 114), (967, 968, 0, 100000), (968, 969, 0, 100000)]
abbrev Q_mo_parted (S : sS) (from_ : Int) (to : Int) (kind : Int) (dfd : Int) (m : Int) : pst := fun r S1 => HI S1 ∧ FR md_mo_parted S S1 ∧ (r = none ∧ (RDV S1 dfd) ∧ (CHV S1 dfd m))
set_option maxRecDepth 100000 in
theorem u_mo_parted {S : sS} (hH : HI S) (from_ : Int) (to : Int) (kind : Int) (dfd : Int) (m : Int) (hfrom_ : 0 ≤ from_ ∧ from_ ≤ 5001) (hto : 0 ≤ to ∧ to ≤ 5001) (hkind : 0 ≤ kind ∧ kind ≤ 15) (hdfd : 0 ≤ dfd ∧ dfd ≤ 1) (hm : 0 ≤ m ∧ m ≤ 6) (hM : LXM S) (hB : ABV S) (hC : DCM S) (hft : from_ ≤ to) (hb : m + (to - from_) ≤ 5) (hk : kind < Xi S 904 16) (hch : CHV S dfd m) (hrd : RDV S dfd) (d : Nat) (hrec : ∀ {S : sS} (_ : HI S) (from_2 : Int) (to2 : Int) (kind2 : Int) (dfd2 : Int) (m2 : Int) (hfrom_ : 0 ≤ from_2 ∧ from_2 ≤ 5001) (hto : 0 ≤ to2 ∧ to2 ≤ 5001) (hkind : 0 ≤ kind2 ∧ kind2 ≤ 15) (hdfd : 0 ≤ dfd2 ∧ dfd2 ≤ 1) (hm : 0 ≤ m2 ∧ m2 ≤ 6) (hM : LXM S) (hB : ABV S) (hC : DCM S) (hft : from_2 ≤ to2) (hb : m2 + (to2 - from_2) ≤ 5) (hk : kind2 < Xi S 904 16) (hch : CHV S dfd2 m2) (hrd : RDV S dfd2), (to2 - from_2 < to - from_) → Mt lay0 (d + 3) m_mo_parted [.ref 904, iv from_2, iv to2, iv kind2, iv dfd2, iv m2] S (Q_mo_parted S from_2 to2 kind2 dfd2 m2)) : Mt lay0 (d + 4) m_mo_parted [.ref 904, iv from_, iv to, iv kind, iv dfd, iv m] S (Q_mo_parted S from_ to kind dfd m) := by
  refine Mt_R rfl rfl ?_
  have hF : FR md_mo_parted S S := FR.rf
  have w1 : 0 ≤ Xi S 904 16 ∧ Xi S 904 16 ≤ 16 := hH.c _ _
  have C52 : ∀ (n52 : Nat) (T1 : sS) (_ : HI T1) (_ : FR md_mo_parted S T1) (v6 : Int), (1 ≤ v6 ∧ v6 ≤ 4) → (from_ < to) → (CHV T1 dfd m) → (RDV T1 dfd) → n52 = (5 - v6).toNat → Rl lay0 (d + 3) m_mo_parted 52 [(0, .ref 904), (1, iv from_), (2, iv to), (3, iv kind), (4, iv dfd), (5, iv m), (6, iv v6)] [] T1 (Q_mo_parted S from_ to kind dfd m) := by
    intro n52
    induction n52 using Nat.strongRecOn with
    | ind n52 ih52 =>
      intro T1 hHT1 hFT1 v6 w2 w3 C52 R52 hm52
      have w4 : Xi T1 904 16 = Xi S 904 16 := hFT1.x _ _ rfl
      have C88 : ∀ (n88 : Nat) (T2 : sS) (_ : HI T2) (_ : FR md_mo_parted S T2) (v6 : Int) (v7 : Int) (v8 : Int) (v9 : Int), (1 ≤ v6 ∧ v6 ≤ 3) → (0 ≤ v7 ∧ v7 ≤ 12) → (-1 ≤ v8 ∧ v8 ≤ 6411) → (0 ≤ v9 ∧ v9 ≤ 12) → (from_ + v6 ≤ to) → (v6 ≤ 3) → (CHV T2 dfd m) → (RDV T2 dfd) → (1 ≤ v7 → ADX T2 dfd v8) → ((5 - v6).toNat ≤ n52) → n88 = (13 - v9).toNat → Rl lay0 (d + 3) m_mo_parted 88 [(0, .ref 904), (1, iv from_), (2, iv to), (3, iv kind), (4, iv dfd), (5, iv m), (6, iv v6), (7, iv v7), (8, iv v8), (9, iv v9)] [] T2 (Q_mo_parted S from_ to kind dfd m) := by
        intro n88
        induction n88 using Nat.strongRecOn with
        | ind n88 ih88 =>
          intro T2 hHT2 hFT2 v6 v7 v8 v9 w5 w6 w7 w8 w9 w10 C88 R88 A88 w11 hm88
          have w12 : Xi T2 904 16 = Xi S 904 16 := hFT2.x _ _ rfl
          refine l_iload rfl rfl ?_
          refine l_iload rfl rfl ?_
          refine l_icmp_ge rfl rfl (by unfold rg; omega) (by unfold rg; omega) (fun w13 => ?_) (fun w14 => ?_)
          · refine l_iinc rfl rfl rfl rfl ?_
            refine l_goto rfl rfl ?_
            have w15 : 0 ≤ Xi T2 904 110 ∧ Xi T2 904 110 ≤ 15 := hHT2.c _ _
            have w16 : 0 ≤ Xi T2 904 112 ∧ Xi T2 904 112 ≤ 6 := hHT2.c _ _
            have w17 : 0 ≤ Xi T2 904 16 ∧ Xi T2 904 16 ≤ 16 := hHT2.c _ _
            exact Rl_weak (ih52 _ (by omega) T2 hHT2 hFT2 ((v6 + 1)) (by omega) (by omega) (by first | exact hch | exact C88) (by first | exact hrd | exact R88) rfl) (And.intro rfl (And.intro rfl (And.intro rfl (And.intro rfl (And.intro rfl (And.intro rfl (And.intro rfl (True.intro))))))))
          · refine l_aload_n rfl rfl ?_
            refine l_gfr rfl rfl rfl rfl rfl (hHT2.r 904 114 968 rfl) ?_
            refine l_iload rfl rfl ?_
            refine l_iload rfl rfl ?_
            refine l_iastore (n := 6) rfl rfl (by omega) (by omega) (by unfold rg; omega) ?_
            obtain ⟨U3, eU3⟩ : ∃ T : sS, T = uI T2 968 ((m).toNat) (Int32.ofInt v8) := ⟨_, rfl⟩
            rw [← eU3]
            have hHU3 : HI U3 := by rw [eU3]; exact HI_w hHT2 (show -1 ≤ v8 by omega) (show v8 ≤ 6411 by omega)
            have hFU3 : FR md_mo_parted S U3 := by rw [eU3]; exact FR.wI hFT2 (mdf_i (r := (968, 969, 0, 100000)) (List.mem_of_getElem? (i := 6) rfl) (inR_i (by omega) (by omega) (by omega) (by omega)))
            have w18 : Xi U3 968 ((m).toNat) = v8 := by rw [eU3]; exact Xi_same (by unfold rg; omega)
            have C103 : CHV U3 dfd (m + 1) := chv_add C88 eU3 (by omega) (A88 (by omega)) (by unfold rg; omega)
            have R103 : RDV U3 dfd := RDV_FR (FR_e eU3) rfl R88
            refine l_aload_n rfl rfl ?_
            refine l_iload_n rfl rfl ?_
            refine l_iload rfl rfl ?_
            refine l_iadd rfl ?_
            refine l_iload_n rfl rfl ?_
            refine l_iload_n rfl rfl ?_
            refine l_iload rfl rfl ?_
            refine l_iload rfl rfl ?_
            refine l_iconst rfl ?_
            refine l_iadd rfl ?_
            have w19 : Xi U3 904 109 = Xi T2 904 109 := (show Xi U3 904 109 = Xi T2 904 109 from by rw [eU3]; exact Xi_ne (by omega))
            have w20 : Xi U3 904 110 = Xi T2 904 110 := (show Xi U3 904 110 = Xi T2 904 110 from by rw [eU3]; exact Xi_ne (by omega))
            have w21 : 0 ≤ Xi T2 904 110 ∧ Xi T2 904 110 ≤ 15 := hHT2.c _ _
            have w22 : Xi U3 904 112 = Xi T2 904 112 := (show Xi U3 904 112 = Xi T2 904 112 from by rw [eU3]; exact Xi_ne (by omega))
            have w23 : 0 ≤ Xi T2 904 112 ∧ Xi T2 904 112 ≤ 6 := hHT2.c _ _
            have w24 : Xi U3 904 16 = Xi T2 904 16 := (show Xi U3 904 16 = Xi T2 904 16 from by rw [eU3]; exact Xi_ne (by omega))
            have w25 : 0 ≤ Xi T2 904 16 ∧ Xi T2 904 16 ≤ 16 := hHT2.c _ _
            refine l_callV rfl rfl rfl (hrec hHU3 (from_ + v6) to kind dfd (m + 1) ⟨by omega, by omega⟩ ⟨by omega, by omega⟩ ⟨by omega, by omega⟩ ⟨by omega, by omega⟩ ⟨by omega, by omega⟩ (by first | assumption | exact (LXM_FR hFU3 rfl (by assumption : LXM S))) (by first | assumption | exact (ABV_FR hFU3 rfl (by assumption : ABV S))) (by first | assumption | exact (DCM_FR hFU3 rfl (by assumption : DCM S))) (by first | assumption | omega) (by first | assumption | omega) (by first | assumption | omega) (by first | assumption | exact (by assumption : CHV U3 _ _)) (by first | assumption | exact (RDV_FR (FR_e eU3) rfl (by assumption : RDV T2 _))) (by omega)) ?_
            rintro _ T4 ⟨hHT4, w29, rfl, w26, w27⟩
            have hFT4 : FR md_mo_parted S T4 := FR.tr hFU3 w29 rfl
            show Rl _ _ _ _ _ [] _ _
            have A117 : 1 ≤ v7 → ADX T4 dfd v8 := fun q => ⟨by unfold ADM; rw [hFT4.x 904 23 rfl, hFT4.x 904 32 rfl, ← hFT2.x 904 23 rfl, ← hFT2.x 904 32 rfl]; exact (A88 q).1, fun a b => by rw [(hFT4.cx 922 rfl _).1, ← (hFT2.cx 922 rfl _).1]; exact (A88 q).2 a b⟩
            refine l_iinc rfl rfl rfl rfl ?_
            refine l_goto rfl rfl ?_
            have w30 : 0 ≤ Xi T4 904 110 ∧ Xi T4 904 110 ≤ 15 := hHT4.c _ _
            have w31 : 0 ≤ Xi T4 904 112 ∧ Xi T4 904 112 ≤ 6 := hHT4.c _ _
            have w32 : Xi T4 904 16 = Xi T2 904 16 := (show Xi T4 904 16 = Xi U3 904 16 from w29.x _ _ rfl).trans ((show Xi U3 904 16 = Xi T2 904 16 from by rw [eU3]; exact Xi_ne (by omega)))
            have w33 : 0 ≤ Xi T2 904 16 ∧ Xi T2 904 16 ≤ 16 := hHT2.c _ _
            exact Rl_weak (ih88 _ (by omega) T4 hHT4 hFT4 (v6) (v7) (v8) ((v9 + 1)) (by omega) (by omega) (by omega) (by omega) (by omega) (by omega) (by first | assumption | exact CHV.le (by assumption) (by omega) | exact CHV_FR (by assumption : FR md_mo_adjective _ T4) rfl C52) (by first | assumption | exact RDV_FR (by assumption : FR md_mo_adjective _ T4) rfl R52) (by first | exact A117 | exact A74) (by omega) rfl) (And.intro rfl (And.intro rfl (And.intro rfl (And.intro rfl (And.intro rfl (And.intro rfl (And.intro rfl (And.intro rfl (And.intro rfl (And.intro rfl (True.intro)))))))))))
      refine l_iload rfl rfl ?_
      refine l_iconst rfl ?_
      refine l_icmp_gt rfl rfl (by unfold rg; omega) (by unfold rg; omega) (fun w34 => ?_) (fun w35 => ?_)
      · refine l_return rfl rfl ?_
        have w36 : 0 ≤ Xi T1 904 110 ∧ Xi T1 904 110 ≤ 15 := hHT1.c _ _
        have w37 : 0 ≤ Xi T1 904 112 ∧ Xi T1 904 112 ≤ 6 := hHT1.c _ _
        have w38 : 0 ≤ Xi T1 904 16 ∧ Xi T1 904 16 ≤ 16 := hHT1.c _ _
        exact ⟨hHT1, hFT1, rfl, (by first | exact r45 | exact R52), (by first | exact c45 | exact C52)⟩
      · refine l_iload_n rfl rfl ?_
        refine l_iload rfl rfl ?_
        refine l_iadd rfl ?_
        refine l_iload_n rfl rfl ?_
        refine l_icmp_gt rfl rfl (by unfold rg; omega) (by unfold rg; omega) (fun w39 => ?_) (fun w40 => ?_)
        · refine l_return rfl rfl ?_
          have w41 : 0 ≤ Xi T1 904 110 ∧ Xi T1 904 110 ≤ 15 := hHT1.c _ _
          have w42 : 0 ≤ Xi T1 904 112 ∧ Xi T1 904 112 ≤ 6 := hHT1.c _ _
          have w43 : 0 ≤ Xi T1 904 16 ∧ Xi T1 904 16 ≤ 16 := hHT1.c _ _
          exact ⟨hHT1, hFT1, rfl, (by first | exact r45 | exact R52), (by first | exact c45 | exact C52)⟩
        · refine l_aload_n rfl rfl ?_
          refine l_iload_n rfl rfl ?_
          refine l_iload rfl rfl ?_
          refine l_iload_n rfl rfl ?_
          refine l_iload rfl rfl ?_
          refine l_iconst rfl ?_
          have w44 : 0 ≤ Xi T1 904 110 ∧ Xi T1 904 110 ≤ 15 := hHT1.c _ _
          have w45 : 0 ≤ Xi T1 904 112 ∧ Xi T1 904 112 ≤ 6 := hHT1.c _ _
          have w46 : 0 ≤ Xi T1 904 16 ∧ Xi T1 904 16 ≤ 16 := hHT1.c _ _
          refine l_callV rfl rfl rfl (t_mo_adjective__2 hHT1 from_ v6 kind dfd 1 ⟨by omega, by omega⟩ ⟨by omega, by omega⟩ ⟨by omega, by omega⟩ ⟨by omega, by omega⟩ ⟨by omega, by omega⟩ (by first | assumption | omega) (by first | assumption | exact (LXM_FR hFT1 rfl (by assumption : LXM S))) (by first | assumption | exact (ABV_FR hFT1 rfl (by assumption : ABV S))) (by first | assumption | exact (DCM_FR hFT1 rfl (by assumption : DCM S))) _) ?_
          rintro _ T5 ⟨hHT5, w51, z50, rfl, w50, w47, w48, w49⟩
          have hFT5 : FR md_mo_parted S T5 := FR.tr hFT1 w51 rfl
          show Rl _ _ _ _ _ [iv z50] _ _
          have A74 : 1 ≤ z50 → ADX T5 dfd (Xi T5 904 113) := fun q => ⟨(by assumption : 1 ≤ z50 → ADM T5 (Xi T5 904 113)) q, fun a b => by rw [(hFT5.cx 922 rfl _).1, ← (hFT1.cx 922 rfl _).1]; exact (by assumption : 1 ≤ z50 → dfd = 0 → Xi T5 904 113 < 100 → _) q a b⟩
          refine l_istore rfl rfl rfl ?_
          refine l_aload_n rfl rfl ?_
          refine l_gfi rfl rfl rfl rfl rfl ?_
          have w52 : -1 ≤ (Xi T5 904 113) ∧ (Xi T5 904 113) ≤ 6411 := hHT5.c _ _
          refine l_istore rfl rfl rfl ?_
          refine l_iconst rfl ?_
          refine l_istore rfl rfl rfl ?_
          have w53 : Xi T5 904 109 = Xi T1 904 109 := (show Xi T5 904 109 = Xi T1 904 109 from w51.x _ _ rfl)
          have w54 : Xi T5 904 110 = Xi T1 904 110 := (show Xi T5 904 110 = Xi T1 904 110 from w51.x _ _ rfl)
          have w55 : 0 ≤ Xi T1 904 110 ∧ Xi T1 904 110 ≤ 15 := hHT1.c _ _
          have w56 : Xi T5 904 112 = Xi T1 904 112 := (show Xi T5 904 112 = Xi T1 904 112 from w51.x _ _ rfl)
          have w57 : 0 ≤ Xi T1 904 112 ∧ Xi T1 904 112 ≤ 6 := hHT1.c _ _
          have w58 : Xi T5 904 16 = Xi T1 904 16 := (show Xi T5 904 16 = Xi T1 904 16 from w51.x _ _ rfl)
          have w59 : 0 ≤ Xi T1 904 16 ∧ Xi T1 904 16 ≤ 16 := hHT1.c _ _
          exact Rl_weak (C88 _ T5 hHT5 hFT5 (v6) (z50) ((Xi T5 904 113)) (0) (by omega) (by omega) (by omega) (by omega) (by omega) (by omega) (by first | assumption | exact CHV.le (by assumption) (by omega) | exact CHV_FR (by assumption : FR md_mo_adjective _ T5) rfl C52) (by first | assumption | exact RDV_FR (by assumption : FR md_mo_adjective _ T5) rfl R52) (by first | exact A117 | exact A74) (by omega) rfl) (And.intro rfl (And.intro rfl (And.intro rfl (And.intro rfl (And.intro rfl (And.intro rfl (And.intro rfl (And.intro rfl (And.intro rfl (And.intro rfl (True.intro)))))))))))
  refine l_iload_n rfl rfl ?_
  refine l_iload_n rfl rfl ?_
  refine l_icmp_ne rfl rfl (by unfold rg; omega) (by unfold rg; omega) (fun w60 => ?_) (fun w61 => ?_)
  · refine l_iconst rfl ?_
    refine l_istore rfl rfl rfl ?_
    have w62 : 0 ≤ Xi S 904 110 ∧ Xi S 904 110 ≤ 15 := hH.c _ _
    have w63 : 0 ≤ Xi S 904 112 ∧ Xi S 904 112 ≤ 6 := hH.c _ _
    have w64 : 0 ≤ Xi S 904 16 ∧ Xi S 904 16 ≤ 16 := hH.c _ _
    exact Rl_weak (C52 _ S hH hF (1) (by omega) (by omega) (by first | exact hch | exact C88) (by first | exact hrd | exact R88) rfl) (And.intro rfl (And.intro rfl (And.intro rfl (And.intro rfl (And.intro rfl (And.intro rfl (And.intro rfl (True.intro))))))))
  · refine l_aload_n rfl rfl ?_
    refine l_gfi rfl rfl rfl rfl rfl ?_
    have w65 : -2147483648 ≤ (Xi S 904 109) ∧ (Xi S 904 109) ≤ 2147483647 := Xi_rgI
    refine l_if_ne rfl rfl (by unfold rg; omega) (fun w66 => ?_) (fun w67 => ?_)
    · refine l_aload_n rfl rfl ?_
      refine l_dup rfl rfl ?_
      refine l_gfi rfl rfl rfl rfl rfl ?_
      refine l_iconst rfl ?_
      refine l_iaddW rfl (fun c68 w68 => ?_)
      refine l_pfi rfl rfl rfl rfl ?_
      obtain ⟨U6, eU6⟩ : ∃ T : sS, T = uI S 904 109 (Int32.ofInt c68) := ⟨_, rfl⟩
      rw [← eU6]
      have hHU6 : HI U6 := by rw [eU6]; exact HI_any hH (rfl)
      have hFU6 : FR md_mo_parted S U6 := by rw [eU6]; exact FR.wI hF (mdf_i (r := (904, 905, 109, 110)) (List.mem_of_getElem? (i := 1) rfl) (inR_i (by omega) (by omega) (by omega) (by omega)))
      have w69 : Xi U6 904 109 = c68 := by rw [eU6]; exact Xi_same (by unfold rg; omega)
      have r45 : RDV U6 dfd := by first | exact rdv_i (by omega) (fun i hi => d35 i (by omega)) eU6 | exact rdv_i (hrd (by omega)).1 (hrd (by omega)).2 eU6
      have c45 : CHV U6 dfd m := CHV_FR (FR_e eU6) rfl (by first | exact c35 | exact hch)
      refine l_return rfl rfl ?_
      have w70 : Xi U6 904 110 = Xi S 904 110 := (show Xi U6 904 110 = Xi S 904 110 from by rw [eU6]; exact Xi_ne (by omega))
      have w71 : 0 ≤ Xi S 904 110 ∧ Xi S 904 110 ≤ 15 := hH.c _ _
      have w72 : Xi U6 904 112 = Xi S 904 112 := (show Xi U6 904 112 = Xi S 904 112 from by rw [eU6]; exact Xi_ne (by omega))
      have w73 : 0 ≤ Xi S 904 112 ∧ Xi S 904 112 ≤ 6 := hH.c _ _
      have w74 : Xi U6 904 16 = Xi S 904 16 := (show Xi U6 904 16 = Xi S 904 16 from by rw [eU6]; exact Xi_ne (by omega))
      have w75 : 0 ≤ Xi S 904 16 ∧ Xi S 904 16 ≤ 16 := hH.c _ _
      exact ⟨hHU6, hFU6, rfl, (by first | exact r45 | exact R52), (by first | exact c45 | exact C52)⟩
    · refine l_aload_n rfl rfl ?_
      refine l_iload_n rfl rfl ?_
      refine l_pfi rfl rfl rfl rfl ?_
      obtain ⟨U7, eU7⟩ : ∃ T : sS, T = uI S 904 110 (Int32.ofInt kind) := ⟨_, rfl⟩
      rw [← eU7]
      have hHU7 : HI U7 := by rw [eU7]; exact HI_w hH (show 0 ≤ kind by omega) (show kind ≤ 15 by omega)
      have hFU7 : FR md_mo_parted S U7 := by rw [eU7]; exact FR.wI hF (mdf_i (r := (904, 905, 110, 111)) (List.mem_of_getElem? (i := 2) rfl) (inR_i (by omega) (by omega) (by omega) (by omega)))
      have w76 : Xi U7 904 110 = kind := by rw [eU7]; exact Xi_same (by unfold rg; omega)
      have c14 : CHV U7 dfd m := CHV_FR (FR_e eU7) rfl hch
      refine l_aload_n rfl rfl ?_
      refine l_iload rfl rfl ?_
      refine l_pfi rfl rfl rfl rfl ?_
      obtain ⟨U8, eU8⟩ : ∃ T : sS, T = uI U7 904 112 (Int32.ofInt m) := ⟨_, rfl⟩
      rw [← eU8]
      have hHU8 : HI U8 := by rw [eU8]; exact HI_w hHU7 (show 0 ≤ m by omega) (show m ≤ 6 by omega)
      have hFU8 : FR md_mo_parted S U8 := by rw [eU8]; exact FR.wI hFU7 (mdf_i (r := (904, 905, 112, 113)) (List.mem_of_getElem? (i := 3) rfl) (inR_i (by omega) (by omega) (by omega) (by omega)))
      have w77 : Xi U8 904 112 = m := by rw [eU8]; exact Xi_same (by unfold rg; omega)
      have c20 : CHV U8 dfd m := CHV_FR (FR_e eU8) rfl c14
      have x20 : Xi U8 904 110 = Xi U7 904 110 ∧ Xi U8 904 16 = Xi S 904 16 := ⟨by rw [eU8, Xi_ne (by omega)], hFU8.x 904 16 rfl⟩
      refine l_aload_n rfl rfl ?_
      refine l_gfr rfl rfl rfl rfl rfl (hHU8.r 904 114 968 rfl) ?_
      refine l_iconst rfl ?_
      refine l_aload_n rfl rfl ?_
      refine l_gfr rfl rfl rfl rfl rfl (hHU8.r 904 111 967 rfl) ?_
      refine l_iconst rfl ?_
      refine l_bipush rfl rfl ?_
      refine l_acp rfl rfl rfl (acpI (A := 6) (B := 6) rfl rfl (by omega) (by omega) (by omega) (by omega) (by omega) (by omega) (by omega)) ?_
      obtain ⟨T9, eT9⟩ : ∃ T : sS, T = cpI U8 968 967 (0 : Int).toNat (0 : Int).toNat (6 : Int).toNat := ⟨_, rfl⟩
      rw [← eT9]
      have hHT9 : HI T9 := by rw [eT9]; exact HI_cpI hHU8 (fun j _ _ => hHU8.c 968 _)
      have w78 : FR [(967, 968, 0, 100000)] U8 T9 := by rw [eT9]; exact FR_cpI (by omega)
      have hFT9 : FR md_mo_parted S T9 := FR.tr hFU8 w78 rfl
      have d35 := chv_cp c20 eT9 (by omega)
      have c35 : CHV T9 dfd m := CHV_FR (by assumption : FR [(967, 968, 0, 100000)] U8 T9) rfl c20
      have y35 : Xi T9 904 110 = Xi U8 904 110 ∧ Xi T9 904 112 = Xi U8 904 112 ∧ Xi T9 904 16 = Xi U8 904 16 := ⟨(by assumption : FR [(967, 968, 0, 100000)] U8 T9).x 904 110 rfl, (by assumption : FR [(967, 968, 0, 100000)] U8 T9).x 904 112 rfl, (by assumption : FR [(967, 968, 0, 100000)] U8 T9).x 904 16 rfl⟩
      refine l_aload_n rfl rfl ?_
      refine l_dup rfl rfl ?_
      refine l_gfi rfl rfl rfl rfl rfl ?_
      have w79 : (Xi T9 904 109) = (Xi S 904 109) := (show Xi T9 904 109 = Xi U8 904 109 from w78.x _ _ rfl).trans ( (show Xi U8 904 109 = Xi U7 904 109 from by rw [eU8]; exact Xi_ne (by omega)).trans ((show Xi U7 904 109 = Xi S 904 109 from by rw [eU7]; exact Xi_ne (by omega))))
      rw [w79]
      refine l_iconst rfl ?_
      refine l_iaddW rfl (fun c80 w80 => ?_)
      refine l_pfi rfl rfl rfl rfl ?_
      obtain ⟨U10, eU10⟩ : ∃ T : sS, T = uI T9 904 109 (Int32.ofInt c80) := ⟨_, rfl⟩
      rw [← eU10]
      have hHU10 : HI U10 := by rw [eU10]; exact HI_any hHT9 (rfl)
      have hFU10 : FR md_mo_parted S U10 := by rw [eU10]; exact FR.wI hFT9 (mdf_i (r := (904, 905, 109, 110)) (List.mem_of_getElem? (i := 1) rfl) (inR_i (by omega) (by omega) (by omega) (by omega)))
      have w81 : Xi U10 904 109 = c80 := by rw [eU10]; exact Xi_same (by unfold rg; omega)
      have r45 : RDV U10 dfd := by first | exact rdv_i (by omega) (fun i hi => d35 i (by omega)) eU10 | exact rdv_i (hrd (by omega)).1 (hrd (by omega)).2 eU10
      have c45 : CHV U10 dfd m := CHV_FR (FR_e eU10) rfl (by first | exact c35 | exact hch)
      refine l_return rfl rfl ?_
      have w82 : Xi U10 904 110 = Xi U7 904 110 := (show Xi U10 904 110 = Xi T9 904 110 from by rw [eU10]; exact Xi_ne (by omega)).trans ( (show Xi T9 904 110 = Xi U8 904 110 from w78.x _ _ rfl).trans ((show Xi U8 904 110 = Xi U7 904 110 from by rw [eU8]; exact Xi_ne (by omega))))
      have w83 : 0 ≤ Xi U7 904 110 ∧ Xi U7 904 110 ≤ 15 := hHU7.c _ _
      have w84 : Xi U10 904 112 = Xi U8 904 112 := (show Xi U10 904 112 = Xi T9 904 112 from by rw [eU10]; exact Xi_ne (by omega)).trans ((show Xi T9 904 112 = Xi U8 904 112 from w78.x _ _ rfl))
      have w85 : 0 ≤ Xi U8 904 112 ∧ Xi U8 904 112 ≤ 6 := hHU8.c _ _
      have w86 : Xi U10 904 16 = Xi S 904 16 := (show Xi U10 904 16 = Xi T9 904 16 from by rw [eU10]; exact Xi_ne (by omega)).trans ( (show Xi T9 904 16 = Xi U8 904 16 from w78.x _ _ rfl).trans ( (show Xi U8 904 16 = Xi U7 904 16 from by rw [eU8]; exact Xi_ne (by omega)).trans ((show Xi U7 904 16 = Xi S 904 16 from by rw [eU7]; exact Xi_ne (by omega)))))
      have w87 : 0 ≤ Xi S 904 16 ∧ Xi S 904 16 ≤ 16 := hH.c _ _
      exact ⟨hHU10, hFU10, rfl, (by first | exact r45 | exact R52), (by first | exact c45 | exact C52)⟩
theorem k_mp (n : Nat) : ∀ (d : Nat) {S : sS} (_ : HI S) (from_ : Int) (to : Int) (kind : Int) (dfd : Int) (m : Int) (hfrom_ : 0 ≤ from_ ∧ from_ ≤ 5001) (hto : 0 ≤ to ∧ to ≤ 5001) (hkind : 0 ≤ kind ∧ kind ≤ 15) (hdfd : 0 ≤ dfd ∧ dfd ≤ 1) (hm : 0 ≤ m ∧ m ≤ 6) (hM : LXM S) (hB : ABV S) (hC : DCM S) (hft : from_ ≤ to) (hb : m + (to - from_) ≤ 5) (hk : kind < Xi S 904 16) (hch : CHV S dfd m) (hrd : RDV S dfd), (to - from_).toNat = n → Mt lay0 (d + n + 4) m_mo_parted [.ref 904, iv from_, iv to, iv kind, iv dfd, iv m] S (Q_mo_parted S from_ to kind dfd m) := by
  induction n using Nat.strongRecOn with
  | ind n ih =>
    intro d S hH from_ to kind dfd m hfrom_ hto hkind hdfd hm hM hB hC hft hb hk hch hrd hmeas
    exact u_mo_parted hH from_ to kind dfd m hfrom_ hto hkind hdfd hm hM hB hC hft hb hk hch hrd (d + n) (fun {S} hH2 xfrom_ xto xkind xdfd xm xhfrom_ xhto xhkind xhdfd xhm xhM xhB xhC xhft xhb xhk xhch xhrd hlt => by
      have t := ih (xto - xfrom_).toNat (by omega) (d + n - 1 - (xto - xfrom_).toNat) hH2 xfrom_ xto xkind xdfd xm xhfrom_ xhto xhkind xhdfd xhm xhM xhB xhC xhft xhb xhk xhch xhrd rfl
      rw [show d + n - 1 - (xto - xfrom_).toNat + (xto - xfrom_).toNat + 4 = d + n + 3 by omega] at t
      exact t)
theorem t_mo_parted {S : sS} (hH : HI S) (from_ : Int) (to : Int) (kind : Int) (dfd : Int) (m : Int) (hfrom_ : 0 ≤ from_ ∧ from_ ≤ 5001) (hto : 0 ≤ to ∧ to ≤ 5001) (hkind : 0 ≤ kind ∧ kind ≤ 15) (hdfd : 0 ≤ dfd ∧ dfd ≤ 1) (hm : 0 ≤ m ∧ m ≤ 6) (hM : LXM S) (hB : ABV S) (hC : DCM S) (hft : from_ ≤ to) (hb : m + (to - from_) ≤ 5) (hk : kind < Xi S 904 16) (hch : CHV S dfd m) (hrd : RDV S dfd) (d : Nat) : Mt lay0 (d + 9) m_mo_parted [.ref 904, iv from_, iv to, iv kind, iv dfd, iv m] S (Q_mo_parted S from_ to kind dfd m) := by
  have t := k_mp (to - from_).toNat (d + (5 - (to - from_).toNat)) hH from_ to kind dfd m hfrom_ hto hkind hdfd hm hM hB hC hft hb hk hch hrd rfl
  rw [show d + (5 - (to - from_).toNat) + (to - from_).toNat + 4 = d + 9 by omega] at t
  exact t

/-! SAFETY of the reference: kinds, properties, adjectives as functions -/
def blN (S : sS) (o : Int) : Nat → Int → Int
  | 0, _ => 0
  | f + 1, k => if k < 0 then 0 else if k = o then 1 else blN S o f (Xi S 917 k.toNat)
theorem blN_st {S : sS} {o : Int} (hB : ABV S) : ∀ (f g : Nat) (k : Int), k ≤ 15 → k + 2 ≤ f → k + 2 ≤ g → blN S o f k = blN S o g k
  | 0, 0, _, _, _, _ => rfl
  | 0, g + 1, k, _, h, _ => by
    show 0 = if k < 0 then 0 else _
    rw [if_pos (by omega)]
  | f + 1, 0, k, _, _, h => by
    show (if k < 0 then 0 else _) = 0
    rw [if_pos (by omega)]
  | f + 1, g + 1, k, h1, h2, h3 => by
    show (if k < 0 then 0 else if k = o then 1 else blN S o f (Xi S 917 k.toNat)) = (if k < 0 then 0 else if k = o then 1 else blN S o g (Xi S 917 k.toNat))
    by_cases q : k < 0
    · rw [if_pos q, if_pos q]
    · have a := hB k.toNat (by omega)
      rw [if_neg q, if_neg q, blN_st hB f g (Xi S 917 k.toNat) (by omega) (by omega) (by omega)]
/-- is a kind another, or below it -/
def blR (S : sS) (k o : Int) : Int := blN S o 17 k
theorem blR_n {S : sS} {k o : Int} (h : k < 0) : blR S k o = 0 := if_pos h
theorem blR_e {S : sS} {k o : Int} (h : 0 ≤ k) (e : k = o) : blR S k o = 1 := by
  show (if k < 0 then 0 else if k = o then 1 else _) = 1
  rw [if_neg (by omega), if_pos e]
theorem blR_s {S : sS} {k o : Int} (hB : ABV S) (h : 0 ≤ k) (h2 : k ≤ 15) (e : k ≠ o) : blR S k o = blR S (Xi S 917 k.toNat) o := by
  show (if k < 0 then 0 else if k = o then 1 else blN S o 16 (Xi S 917 k.toNat)) = blN S o 17 (Xi S 917 k.toNat)
  have a := hB k.toNat (by omega)
  rw [if_neg (by omega), if_neg e, blN_st hB 16 17 _ (by omega) (by omega) (by omega)]
def hsN (S : sS) (p : Int) : Nat → Int → Int
  | 0, _ => 0
  | f + 1, k => if k < 0 then 0 else if Xi S 929 (12 * k + p).toNat ≠ 0 then 1 else hsN S p f (Xi S 917 k.toNat)
theorem hsN_st {S : sS} {p : Int} (hB : ABV S) : ∀ (f g : Nat) (k : Int), k ≤ 15 → k + 2 ≤ f → k + 2 ≤ g → hsN S p f k = hsN S p g k
  | 0, 0, _, _, _, _ => rfl
  | 0, g + 1, k, _, h, _ => by
    show 0 = if k < 0 then 0 else _
    rw [if_pos (by omega)]
  | f + 1, 0, k, _, _, h => by
    show (if k < 0 then 0 else _) = 0
    rw [if_pos (by omega)]
  | f + 1, g + 1, k, h1, h2, h3 => by
    show (if k < 0 then 0 else if Xi S 929 (12 * k + p).toNat ≠ 0 then 1 else hsN S p f (Xi S 917 k.toNat)) = (if k < 0 then 0 else if Xi S 929 (12 * k + p).toNat ≠ 0 then 1 else hsN S p g (Xi S 917 k.toNat))
    by_cases q : k < 0
    · rw [if_pos q, if_pos q]
    · have a := hB k.toNat (by omega)
      rw [if_neg q, if_neg q, hsN_st hB f g (Xi S 917 k.toNat) (by omega) (by omega) (by omega)]
/-- has a kind, or one above it, that property -/
def hsR (S : sS) (k p : Int) : Int := hsN S p 17 k
theorem hsR_n {S : sS} {k p : Int} (h : k < 0) : hsR S k p = 0 := if_pos h
theorem hsR_e {S : sS} {k p : Int} (h : 0 ≤ k) (e : Xi S 929 (12 * k + p).toNat ≠ 0) : hsR S k p = 1 := by
  show (if k < 0 then 0 else if Xi S 929 (12 * k + p).toNat ≠ 0 then 1 else _) = 1
  rw [if_neg (by omega), if_pos e]
theorem hsR_s {S : sS} {k p : Int} (hB : ABV S) (h : 0 ≤ k) (h2 : k ≤ 15) (e : Xi S 929 (12 * k + p).toNat = 0) : hsR S k p = hsR S (Xi S 917 k.toNat) p := by
  show (if k < 0 then 0 else if Xi S 929 (12 * k + p).toNat ≠ 0 then 1 else hsN S p 16 (Xi S 917 k.toNat)) = hsN S p 17 (Xi S 917 k.toNat)
  have a := hB k.toNat (by omega)
  rw [if_neg (by omega), if_neg (fun q => q e), hsN_st hB 16 17 _ (by omega) (by omega) (by omega)]
/-- how many of the first properties of a kind are of a type -/
def mtN (S : sS) (k t : Int) : Nat → Int
  | 0 => 0
  | m + 1 => mtN S k t m + (if Xi S 928 m = t ∧ hsR S k m = 1 then 1 else 0)
theorem mtN_s {S : sS} {k t v : Int} (h : 0 ≤ v) : mtN S k t (v + 1).toNat = mtN S k t v.toNat + (if Xi S 928 v.toNat = t ∧ hsR S k v = 1 then 1 else 0) := by
  rw [show (v + 1).toNat = v.toNat + 1 by omega]
  show mtN S k t v.toNat + (if Xi S 928 v.toNat = t ∧ hsR S k (v.toNat : Int) = 1 then 1 else 0) = _
  rw [show ((v.toNat : Nat) : Int) = v by omega]
def mtR (S : sS) (k t : Int) : Int := if k < 0 then 0 else mtN S k t (Xi S 904 32).toNat
/-- how often an adjective is meant -/
noncomputable def adR (S : sS) (t m k f v : Int) : Int := if nmR S t m = -1 then 0 else if Xi S 914 (nmR S t m).toNat = 5 ∧ blR S k (Xi S 921 (Xi S 915 (nmR S t m).toNat).toNat) = 1 ∧ (f ≠ 0 ∨ Xi S 924 (Xi S 915 (nmR S t m).toNat).toNat = 0) then 1 else if Xi S 914 (nmR S t m).toNat = 6 ∧ v ≠ 0 then mtR S k (Xi S 927 (Xi S 915 (nmR S t m).toNat).toNat) else 0
theorem blN_k {S T : sS} {o : Int} (e : ∀ j, Xi T 917 j = Xi S 917 j) : ∀ (f : Nat) (k : Int), blN T o f k = blN S o f k
  | 0, _ => rfl
  | f + 1, k => by
    show (if k < 0 then 0 else if k = o then 1 else blN T o f (Xi T 917 k.toNat)) = (if k < 0 then 0 else if k = o then 1 else blN S o f (Xi S 917 k.toNat))
    rw [e, blN_k e f]
theorem hsN_k {S T : sS} {p : Int} (e : ∀ j, Xi T 917 j = Xi S 917 j) (e2 : ∀ j, Xi T 929 j = Xi S 929 j) : ∀ (f : Nat) (k : Int), hsN T p f k = hsN S p f k
  | 0, _ => rfl
  | f + 1, k => by
    show (if k < 0 then 0 else if Xi T 929 (12 * k + p).toNat ≠ 0 then 1 else hsN T p f (Xi T 917 k.toNat)) = (if k < 0 then 0 else if Xi S 929 (12 * k + p).toNat ≠ 0 then 1 else hsN S p f (Xi S 917 k.toNat))
    rw [e, e2, hsN_k e e2 f]
theorem mtN_k {S T : sS} {k t : Int} (e : ∀ j, Xi T 917 j = Xi S 917 j) (e2 : ∀ j, Xi T 929 j = Xi S 929 j) (e3 : ∀ j, Xi T 928 j = Xi S 928 j) : ∀ m : Nat, mtN T k t m = mtN S k t m
  | 0 => rfl
  | m + 1 => by
    show mtN T k t m + (if Xi T 928 m = t ∧ hsN T m 17 k = 1 then 1 else 0) = mtN S k t m + (if Xi S 928 m = t ∧ hsN S m 17 k = 1 then 1 else 0)
    rw [mtN_k e e2 e3 m, e3, hsN_k e e2]
theorem mtR_k {S T : sS} {k t : Int} (e : ∀ j, Xi T 917 j = Xi S 917 j) (e2 : ∀ j, Xi T 929 j = Xi S 929 j) (e3 : ∀ j, Xi T 928 j = Xi S 928 j) (e4 : Xi T 904 32 = Xi S 904 32) : mtR T k t = mtR S k t := by
  unfold mtR
  rw [e4, mtN_k e e2 e3]
def kAD : List (Nat × Nat) := [(917, 918), (921, 922), (924, 925), (927, 930)]
theorem adR_FR {l : List rec} {S T : sS} {t m k f v : Int} (h : FR l S T) (e : (kdis l kLX && mD l [15]) = true) (e2 : (kdis l kAD && mD l [32]) = true) : adR T t m k f v = adR S t m k f v := by
  unfold adR
  rw [nmR_FR h e]
  rw [Bool.and_eq_true] at e e2
  have q := h.smk e.1
  have r := h.smk e2.1
  have b : ∀ o, blR T k o = blR S k o := fun o => blN_k (fun j => r.x 917 rfl j) 17 k
  have c : ∀ y, mtR T k y = mtR S k y := fun y => by
    unfold mtR
    rw [mD_x h e2.2 32 (by decide), mtN_k (fun j => r.x 917 rfl j) (fun j => r.x 929 rfl j) (fun j => r.x 928 rfl j)]
  rw [q.x 914 rfl, q.x 915 rfl, r.x 921 rfl, r.x 924 rfl, r.x 927 rfl, b, c]
abbrev Q_mo_isBelow__2 (S : sS) (kind : Int) (of_ : Int) : pst := fun r S1 => S = S1 ∧ (∃ z : Int, r = some (iv z) ∧ (0 ≤ z ∧ z ≤ 1) ∧ (z = 1 → 0 ≤ kind ∧ 0 ≤ of_) ∧ (z = blR S kind of_))
set_option maxRecDepth 100000 in
theorem t_mo_isBelow__2 {S : sS} (hH : HI S) (kind : Int) (of_ : Int) (hkind : -1 ≤ kind ∧ kind ≤ 15) (hof_ : -2147483648 ≤ of_ ∧ of_ ≤ 2147483647) (hB : ABV S) (d : Nat) : Mt lay0 (d + 1) m_mo_isBelow [.ref 904, iv kind, iv of_] S (Q_mo_isBelow__2 S kind of_) := by
  refine Mt_R rfl rfl ?_
  have C2 : ∀ (n2 : Nat) (v3 : Int), (-1 ≤ v3 ∧ v3 ≤ 15) → (v3 ≤ kind) → (blR S kind of_ = blR S v3 of_) → n2 = (v3 + 1).toNat → Rl lay0 (d + 0) m_mo_isBelow 2 [(0, .ref 904), (2, iv of_), (3, iv v3)] [] S (Q_mo_isBelow__2 S kind of_) := by
    intro n2
    induction n2 using Nat.strongRecOn with
    | ind n2 ih2 =>
      intro v3 w1 w2 f2 hm2
      have C21 : ∀  (v3 : Int), (-1 ≤ v3 ∧ v3 ≤ 15) → (v3 ≤ kind) → (blR S kind of_ = blR S v3 of_) → (v3 < 0 ∨ v3 ≠ of_ → blR S v3 of_ = 0) → Rl lay0 (d + 0) m_mo_isBelow 21 [(2, iv of_), (3, iv v3)] [] S (Q_mo_isBelow__2 S kind of_) := by
        intro v3 w3 w4 f21 g21
        refine l_iload_n rfl rfl ?_
        refine l_iload_n rfl rfl ?_
        refine l_icmp_ne rfl rfl (by unfold rg; omega) (by unfold rg; omega) (fun w5 => ?_) (fun w6 => ?_)
        · refine l_iconst rfl ?_
          refine l_ireturn rfl rfl ?_
          exact ⟨rfl, _, rfl, ⟨by omega, by omega⟩, (by first | assumption | omega), (by first | (rw [f21]; exact (blR_e (by omega) (by omega)).symm) | (rw [f21]; exact (g21 (by omega)).symm))⟩
        · refine l_iload_n rfl rfl ?_
          refine l_if_lt rfl rfl (by unfold rg; omega) (fun w7 => ?_) (fun w8 => ?_)
          · refine l_iconst rfl ?_
            refine l_ireturn rfl rfl ?_
            exact ⟨rfl, _, rfl, ⟨by omega, by omega⟩, (by first | assumption | omega), (by first | (rw [f21]; exact (blR_e (by omega) (by omega)).symm) | (rw [f21]; exact (g21 (by omega)).symm))⟩
          · refine l_iconst rfl ?_
            refine l_goto rfl rfl ?_
            refine l_ireturn rfl rfl ?_
            exact ⟨rfl, _, rfl, ⟨by omega, by omega⟩, (by first | assumption | omega), (by first | (rw [f21]; exact (blR_e (by omega) (by omega)).symm) | (rw [f21]; exact (g21 (by omega)).symm))⟩
      refine l_iload_n rfl rfl ?_
      refine l_if_lt rfl rfl (by unfold rg; omega) (fun w9 => ?_) (fun w10 => ?_)
      · exact Rl_weak (C21 (v3) (by omega) (by omega) (f2) (fun q => blR_n (by omega))) (And.intro rfl (And.intro rfl (True.intro)))
      · refine l_iload_n rfl rfl ?_
        refine l_iload_n rfl rfl ?_
        refine l_icmp_eq rfl rfl (by unfold rg; omega) (by unfold rg; omega) (fun w11 => ?_) (fun w12 => ?_)
        · exact Rl_weak (C21 (v3) (by omega) (by omega) (f2) (fun q => blR_n (by omega))) (And.intro rfl (And.intro rfl (True.intro)))
        · refine l_aload_n rfl rfl ?_
          refine l_gfr rfl rfl rfl rfl rfl (hH.r 904 17 917 rfl) ?_
          refine l_iload_n rfl rfl ?_
          refine l_iaload (n := 16) rfl rfl (by omega) (by omega) (by unfold rg; omega) ?_
          have w13 : -1 ≤ (Xi S 917 ((v3).toNat)) ∧ (Xi S 917 ((v3).toNat)) ≤ 15 := hH.c _ _
          have b16 : (Xi S 917 ((v3).toNat)) < v3 := by have t := hB (v3).toNat (by omega); omega
          refine l_istore_n rfl rfl rfl ?_
          refine l_goto rfl rfl ?_
          exact Rl_weak (ih2 _ (by omega) ((Xi S 917 ((v3).toNat))) (by omega) (by omega) (by first | rfl | exact f2.trans (blR_s hB (by omega) (by omega) (by omega))) rfl) (And.intro rfl (And.intro rfl (And.intro rfl (True.intro))))
  refine l_iload_n rfl rfl ?_
  refine l_istore_n rfl rfl rfl ?_
  exact Rl_weak (C2 _ (kind) (by omega) (by omega) (by first | rfl | exact f2.trans (blR_s hB (by omega) (by omega) (by omega))) rfl) (And.intro rfl (And.intro rfl (And.intro rfl (True.intro))))
abbrev Q_mo_has__2 (S : sS) (kind : Int) (p : Int) : pst := fun r S1 => S = S1 ∧ (∃ z : Int, r = some (iv z) ∧ (0 ≤ z ∧ z ≤ 1) ∧ (z = 1 → 0 ≤ kind) ∧ (z = hsR S kind p))
set_option maxRecDepth 100000 in
theorem t_mo_has__2 {S : sS} (hH : HI S) (kind : Int) (p : Int) (hkind : -1 ≤ kind ∧ kind ≤ 15) (hp : 0 ≤ p ∧ p ≤ 11) (hB : ABV S) (d : Nat) : Mt lay0 (d + 1) m_mo_has [.ref 904, iv kind, iv p] S (Q_mo_has__2 S kind p) := by
  refine Mt_R rfl rfl ?_
  have C2 : ∀ (n2 : Nat) (v3 : Int), (-1 ≤ v3 ∧ v3 ≤ 15) → (v3 ≤ kind) → (hsR S kind p = hsR S v3 p) → n2 = (v3 + 1).toNat → Rl lay0 (d + 0) m_mo_has 2 [(0, .ref 904), (2, iv p), (3, iv v3)] [] S (Q_mo_has__2 S kind p) := by
    intro n2
    induction n2 using Nat.strongRecOn with
    | ind n2 ih2 =>
      intro v3 w1 w2 f2 hm2
      refine l_iload_n rfl rfl ?_
      refine l_if_lt rfl rfl (by unfold rg; omega) (fun w3 => ?_) (fun w4 => ?_)
      · refine l_iconst rfl ?_
        refine l_ireturn rfl rfl ?_
        exact ⟨rfl, _, rfl, ⟨by omega, by omega⟩, (by first | assumption | omega), (by first | (rw [f2]; exact (hsR_e (by omega) (by omega)).symm) | (rw [f2]; exact (hsR_n (by omega)).symm))⟩
      · refine l_aload_n rfl rfl ?_
        refine l_gfr rfl rfl rfl rfl rfl (hH.r 904 34 929 rfl) ?_
        refine l_bipush rfl rfl ?_
        refine l_iload_n rfl rfl ?_
        refine l_imul rfl ?_
        refine l_iload_n rfl rfl ?_
        refine l_iadd rfl ?_
        refine l_baload (n := 192) rfl rfl rfl (by decide) (by omega) (by omega) (by unfold rg; omega) ?_
        have w5 : 0 ≤ (Xi S 929 ((((12 * v3) + p)).toNat)) ∧ (Xi S 929 ((((12 * v3) + p)).toNat)) ≤ 1 := hH.c _ _
        refine l_if_eq rfl rfl (by unfold rg; omega) (fun w6 => ?_) (fun w7 => ?_)
        · refine l_aload_n rfl rfl ?_
          refine l_gfr rfl rfl rfl rfl rfl (hH.r 904 17 917 rfl) ?_
          refine l_iload_n rfl rfl ?_
          refine l_iaload (n := 16) rfl rfl (by omega) (by omega) (by unfold rg; omega) ?_
          have w8 : -1 ≤ (Xi S 917 ((v3).toNat)) ∧ (Xi S 917 ((v3).toNat)) ≤ 15 := hH.c _ _
          have b27 : (Xi S 917 ((v3).toNat)) < v3 := by have t := hB (v3).toNat (by omega); omega
          refine l_istore_n rfl rfl rfl ?_
          refine l_goto rfl rfl ?_
          exact Rl_weak (ih2 _ (by omega) ((Xi S 917 ((v3).toNat))) (by omega) (by omega) (by first | rfl | exact f2.trans (hsR_s hB (by omega) (by omega) (by omega))) rfl) (And.intro rfl (And.intro rfl (And.intro rfl (True.intro))))
        · refine l_iconst rfl ?_
          refine l_ireturn rfl rfl ?_
          exact ⟨rfl, _, rfl, ⟨by omega, by omega⟩, (by first | assumption | omega), (by first | (rw [f2]; exact (hsR_e (by omega) (by omega)).symm) | (rw [f2]; exact (hsR_n (by omega)).symm))⟩
  refine l_iload_n rfl rfl ?_
  refine l_istore_n rfl rfl rfl ?_
  exact Rl_weak (C2 _ (kind) (by omega) (by omega) (by first | rfl | exact f2.trans (hsR_s hB (by omega) (by omega) (by omega))) rfl) (And.intro rfl (And.intro rfl (And.intro rfl (True.intro))))
def md_mo_propertyOf__2 : List rec := [(904, 905, 64, 65)]
abbrev Q_mo_propertyOf__2 (S : sS) (kind : Int) (type : Int) : pst := fun r S1 => HI S1 ∧ FR md_mo_propertyOf__2 S S1 ∧ (∃ z : Int, r = some (iv z) ∧ (-1 ≤ z ∧ z ≤ 11) ∧ (z = -1 → Xi S1 904 64 = 0) ∧ (z ≠ -1 → z < Xi S 904 32) ∧ (z ≠ -1 → 0 ≤ kind) ∧ (Xi S1 904 64 = mtR S kind type))
set_option maxRecDepth 100000 in
theorem t_mo_propertyOf__2 {S : sS} (hH : HI S) (kind : Int) (type : Int) (hkind : -1 ≤ kind ∧ kind ≤ 15) (htype : -2147483648 ≤ type ∧ type ≤ 2147483647) (hB : ABV S) (d : Nat) : Mt lay0 (d + 2) m_mo_propertyOf [.ref 904, iv kind, iv type] S (Q_mo_propertyOf__2 S kind type) := by
  refine Mt_R rfl rfl ?_
  have hF : FR md_mo_propertyOf__2 S S := FR.rf
  have w1 : 0 ≤ Xi S 904 32 ∧ Xi S 904 32 ≤ 12 := hH.c _ _
  have w2 : 0 ≤ Xi S 904 64 ∧ Xi S 904 64 ≤ 12 := hH.c _ _
  have hc32 : 0 ≤ Xi S 904 32 ∧ Xi S 904 32 ≤ 12 := hH.c _ _
  have C10 : ∀ (n10 : Nat) (T1 : sS) (_ : HI T1) (_ : FR md_mo_propertyOf__2 S T1) (v3 : Int) (v4 : Int), (-1 ≤ v3 ∧ v3 ≤ 11) → (0 ≤ v4 ∧ v4 ≤ 12) → (Xi T1 904 64 ≤ v4) → (v3 = -1 → Xi T1 904 64 = 0) → (v3 ≠ -1 → 1 ≤ Xi T1 904 64) → (v3 ≠ -1 → v3 < Xi S 904 32) → (v3 ≠ -1 → 0 ≤ kind) → (v4 ≤ Xi S 904 32) → (Xi T1 904 64 = if kind < 0 then 0 else mtN S kind type (v4).toNat) → n10 = (13 - v4).toNat → Rl lay0 (d + 1) m_mo_propertyOf 10 [(0, .ref 904), (1, iv kind), (2, iv type), (3, iv v3), (4, iv v4)] [] T1 (Q_mo_propertyOf__2 S kind type) := by
    intro n10
    induction n10 using Nat.strongRecOn with
    | ind n10 ih10 =>
      intro T1 hHT1 hFT1 v3 v4 w3 w4 w5 w6 w7 w8 w9 w10 f10 hm10
      have w11 : Xi T1 904 32 = Xi S 904 32 := hFT1.x _ _ rfl
      have w12 : 0 ≤ Xi T1 904 64 ∧ Xi T1 904 64 ≤ 12 := hHT1.c _ _
      have C74 : ∀  (T2 : sS) (_ : HI T2) (_ : FR md_mo_propertyOf__2 S T2) (v3 : Int), (-1 ≤ v3 ∧ v3 ≤ 11) → (v3 = -1 → Xi T2 904 64 = 0) → (v3 ≠ -1 → v3 < Xi S 904 32) → (v3 ≠ -1 → 0 ≤ kind) → (Xi T2 904 64 = mtR S kind type) → Rl lay0 (d + 1) m_mo_propertyOf 74 [(3, iv v3)] [] T2 (Q_mo_propertyOf__2 S kind type) := by
        intro T2 hHT2 hFT2 v3 w13 w14 w15 w16 f74
        have w17 : Xi T2 904 32 = Xi S 904 32 := hFT2.x _ _ rfl
        have w18 : 0 ≤ Xi T2 904 64 ∧ Xi T2 904 64 ≤ 12 := hHT2.c _ _
        refine l_iload_n rfl rfl ?_
        refine l_ireturn rfl rfl ?_
        have w19 : 0 ≤ Xi T2 904 32 ∧ Xi T2 904 32 ≤ 12 := hHT2.c _ _
        have w20 : 0 ≤ Xi T2 904 64 ∧ Xi T2 904 64 ≤ 12 := hHT2.c _ _
        exact ⟨hHT2, hFT2, _, rfl, ⟨by omega, by omega⟩, (by first | assumption | omega), (by first | assumption | omega), (by first | assumption | omega), (f74)⟩
      refine l_iload rfl rfl ?_
      refine l_aload_n rfl rfl ?_
      refine l_gfi rfl rfl rfl rfl rfl ?_
      have p13 : (Xi T1 904 32) = Xi S 904 32 := by first | rfl | exact hFT1.x 904 32 rfl
      refine l_icmp_ge rfl rfl (by unfold rg; omega) (by unfold rg; omega) (fun w21 => ?_) (fun w22 => ?_)
      · have w23 : 0 ≤ Xi T1 904 32 ∧ Xi T1 904 32 ≤ 12 := hHT1.c _ _
        have w24 : 0 ≤ Xi T1 904 64 ∧ Xi T1 904 64 ≤ 12 := hHT1.c _ _
        exact Rl_weak (C74 T1 hHT1 hFT1 (v3) (by omega) (by omega) (by omega) (by omega) (by unfold mtR; first | (rw [if_pos (by omega)]; have t := f10; rw [if_pos (by omega)] at t; omega) | (rw [if_neg (by omega)]; have t := f10; rw [if_neg (by omega)] at t; rw [show Xi S 904 32 = v4 by omega]; omega))) (And.intro rfl (True.intro))
      · refine l_iload_n rfl rfl ?_
        refine l_if_lt rfl rfl (by unfold rg; omega) (fun w25 => ?_) (fun w26 => ?_)
        · have w27 : 0 ≤ Xi T1 904 32 ∧ Xi T1 904 32 ≤ 12 := hHT1.c _ _
          have w28 : 0 ≤ Xi T1 904 64 ∧ Xi T1 904 64 ≤ 12 := hHT1.c _ _
          exact Rl_weak (C74 T1 hHT1 hFT1 (v3) (by omega) (by omega) (by omega) (by omega) (by unfold mtR; first | (rw [if_pos (by omega)]; have t := f10; rw [if_pos (by omega)] at t; omega) | (rw [if_neg (by omega)]; have t := f10; rw [if_neg (by omega)] at t; rw [show Xi S 904 32 = v4 by omega]; omega))) (And.intro rfl (True.intro))
        · refine l_aload_n rfl rfl ?_
          refine l_gfr rfl rfl rfl rfl rfl (hHT1.r 904 33 928 rfl) ?_
          refine l_iload rfl rfl ?_
          refine l_iaload (n := 12) rfl rfl (by omega) (by omega) (by unfold rg; omega) ?_
          have w29 : 0 ≤ (Xi T1 928 ((v4).toNat)) ∧ (Xi T1 928 ((v4).toNat)) ≤ 7 := hHT1.c _ _
          have t29 : (Xi T1 928 ((v4).toNat)) = Xi S 928 (v4).toNat := by first | rfl | exact (hFT1.cx 928 rfl _).1
          refine l_iload_n rfl rfl ?_
          refine l_icmp_ne rfl rfl (by unfold rg; omega) (by unfold rg; omega) (fun w30 => ?_) (fun w31 => ?_)
          · refine l_iinc rfl rfl rfl rfl ?_
            refine l_goto rfl rfl ?_
            have w32 : 0 ≤ Xi T1 904 32 ∧ Xi T1 904 32 ≤ 12 := hHT1.c _ _
            have w33 : 0 ≤ Xi T1 904 64 ∧ Xi T1 904 64 ≤ 12 := hHT1.c _ _
            exact Rl_weak (ih10 _ (by omega) T1 hHT1 hFT1 (v3) ((v4 + 1)) (by omega) (by omega) (by omega) (by omega) (by omega) (by omega) (by omega) (by omega) (by first | (rw [show Xi T1 904 64 = 0 by omega]; split <;> rfl) | (rw [if_neg (by omega), mtN_s (by omega), if_pos ⟨by omega, by omega⟩]; have t := f10; rw [if_neg (by omega)] at t; omega) | (rw [if_neg (by omega), mtN_s (by omega), if_neg (fun q => by omega)]; have t := f10; rw [if_neg (by omega)] at t; omega)) rfl) (And.intro rfl (And.intro rfl (And.intro rfl (And.intro rfl (And.intro rfl (True.intro))))))
          · refine l_aload_n rfl rfl ?_
            refine l_iload_n rfl rfl ?_
            refine l_iload rfl rfl ?_
            have w34 : 0 ≤ Xi T1 904 32 ∧ Xi T1 904 32 ≤ 12 := hHT1.c _ _
            have w35 : 0 ≤ Xi T1 904 64 ∧ Xi T1 904 64 ≤ 12 := hHT1.c _ _
            refine l_callV rfl rfl rfl (t_mo_has__2 hHT1 kind v4 ⟨by omega, by omega⟩ ⟨by omega, by omega⟩ (by first | assumption | exact (ABV_FR hFT1 rfl (by assumption : ABV S))) _) ?_
            rintro _ _ ⟨rfl, z38, rfl, w38, w36, w37⟩
            show Rl _ _ _ _ _ [iv z38] _ _
            have h38 : z38 = hsR S kind v4 := by first | assumption | exact (by assumption : z38 = hsR T1 kind v4).trans (hsN_k (fun j => (hFT1.cx 917 rfl j).1) (fun j => (hFT1.cx 929 rfl j).1) 17 kind)
            refine l_if_eq rfl rfl (by unfold rg; omega) (fun w39 => ?_) (fun w40 => ?_)
            · refine l_iinc rfl rfl rfl rfl ?_
              refine l_goto rfl rfl ?_
              have w41 : 0 ≤ Xi T1 904 32 ∧ Xi T1 904 32 ≤ 12 := hHT1.c _ _
              have w42 : 0 ≤ Xi T1 904 64 ∧ Xi T1 904 64 ≤ 12 := hHT1.c _ _
              exact Rl_weak (ih10 _ (by omega) T1 hHT1 hFT1 (v3) ((v4 + 1)) (by omega) (by omega) (by omega) (by omega) (by omega) (by omega) (by omega) (by omega) (by first | (rw [show Xi T1 904 64 = 0 by omega]; split <;> rfl) | (rw [if_neg (by omega), mtN_s (by omega), if_pos ⟨by omega, by omega⟩]; have t := f10; rw [if_neg (by omega)] at t; omega) | (rw [if_neg (by omega), mtN_s (by omega), if_neg (fun q => by omega)]; have t := f10; rw [if_neg (by omega)] at t; omega)) rfl) (And.intro rfl (And.intro rfl (And.intro rfl (And.intro rfl (And.intro rfl (True.intro))))))
            · refine l_aload_n rfl rfl ?_
              refine l_gfi rfl rfl rfl rfl rfl ?_
              refine l_if_ne rfl rfl (by unfold rg; omega) (fun w43 => ?_) (fun w44 => ?_)
              · refine l_iload_n rfl rfl ?_
                refine l_istore_n rfl rfl rfl ?_
                refine l_aload_n rfl rfl ?_
                refine l_dup rfl rfl ?_
                refine l_gfi rfl rfl rfl rfl rfl ?_
                refine l_iconst rfl ?_
                refine l_iadd rfl ?_
                refine l_pfi rfl rfl rfl rfl ?_
                obtain ⟨U3, eU3⟩ : ∃ T : sS, T = uI T1 904 64 (Int32.ofInt ((Xi T1 904 64) + 1)) := ⟨_, rfl⟩
                rw [← eU3]
                have hHU3 : HI U3 := by rw [eU3]; exact HI_w hHT1 (show 0 ≤ ((Xi T1 904 64) + 1) by omega) (show ((Xi T1 904 64) + 1) ≤ 12 by omega)
                have hFU3 : FR md_mo_propertyOf__2 S U3 := by rw [eU3]; exact FR.wI hFT1 (mdf_i (r := (904, 905, 64, 65)) (List.mem_of_getElem? (i := 0) rfl) (inR_i (by omega) (by omega) (by omega) (by omega)))
                have w45 : Xi U3 904 64 = ((Xi T1 904 64) + 1) := by rw [eU3]; exact Xi_same (by unfold rg; omega)
                refine l_iinc rfl rfl rfl rfl ?_
                refine l_goto rfl rfl ?_
                have w46 : Xi U3 904 32 = Xi T1 904 32 := (show Xi U3 904 32 = Xi T1 904 32 from by rw [eU3]; exact Xi_ne (by omega))
                have w47 : 0 ≤ Xi T1 904 32 ∧ Xi T1 904 32 ≤ 12 := hHT1.c _ _
                have w48 : 0 ≤ Xi U3 904 64 ∧ Xi U3 904 64 ≤ 12 := hHU3.c _ _
                exact Rl_weak (ih10 _ (by omega) U3 hHU3 hFU3 (v3) ((v4 + 1)) (by omega) (by omega) (by omega) (by omega) (by omega) (by omega) (by omega) (by omega) (by first | (rw [show Xi U3 904 64 = 0 by omega]; split <;> rfl) | (rw [if_neg (by omega), mtN_s (by omega), if_pos ⟨by omega, by omega⟩]; have t := f10; rw [if_neg (by omega)] at t; omega) | (rw [if_neg (by omega), mtN_s (by omega), if_neg (fun q => by omega)]; have t := f10; rw [if_neg (by omega)] at t; omega)) rfl) (And.intro rfl (And.intro rfl (And.intro rfl (And.intro rfl (And.intro rfl (True.intro))))))
              · refine l_iload rfl rfl ?_
                refine l_goto rfl rfl ?_
                refine l_istore_n rfl rfl rfl ?_
                refine l_aload_n rfl rfl ?_
                refine l_dup rfl rfl ?_
                refine l_gfi rfl rfl rfl rfl rfl ?_
                refine l_iconst rfl ?_
                refine l_iadd rfl ?_
                refine l_pfi rfl rfl rfl rfl ?_
                obtain ⟨U4, eU4⟩ : ∃ T : sS, T = uI T1 904 64 (Int32.ofInt ((Xi T1 904 64) + 1)) := ⟨_, rfl⟩
                rw [← eU4]
                have hHU4 : HI U4 := by rw [eU4]; exact HI_w hHT1 (show 0 ≤ ((Xi T1 904 64) + 1) by omega) (show ((Xi T1 904 64) + 1) ≤ 12 by omega)
                have hFU4 : FR md_mo_propertyOf__2 S U4 := by rw [eU4]; exact FR.wI hFT1 (mdf_i (r := (904, 905, 64, 65)) (List.mem_of_getElem? (i := 0) rfl) (inR_i (by omega) (by omega) (by omega) (by omega)))
                have w49 : Xi U4 904 64 = ((Xi T1 904 64) + 1) := by rw [eU4]; exact Xi_same (by unfold rg; omega)
                refine l_iinc rfl rfl rfl rfl ?_
                refine l_goto rfl rfl ?_
                have w50 : Xi U4 904 32 = Xi T1 904 32 := (show Xi U4 904 32 = Xi T1 904 32 from by rw [eU4]; exact Xi_ne (by omega))
                have w51 : 0 ≤ Xi T1 904 32 ∧ Xi T1 904 32 ≤ 12 := hHT1.c _ _
                have w52 : 0 ≤ Xi U4 904 64 ∧ Xi U4 904 64 ≤ 12 := hHU4.c _ _
                exact Rl_weak (ih10 _ (by omega) U4 hHU4 hFU4 (v4) ((v4 + 1)) (by omega) (by omega) (by omega) (by omega) (by omega) (by omega) (by omega) (by omega) (by first | (rw [show Xi U4 904 64 = 0 by omega]; split <;> rfl) | (rw [if_neg (by omega), mtN_s (by omega), if_pos ⟨by omega, by omega⟩]; have t := f10; rw [if_neg (by omega)] at t; omega) | (rw [if_neg (by omega), mtN_s (by omega), if_neg (fun q => by omega)]; have t := f10; rw [if_neg (by omega)] at t; omega)) rfl) (And.intro rfl (And.intro rfl (And.intro rfl (And.intro rfl (And.intro rfl (True.intro))))))
  refine l_iconst rfl ?_
  refine l_istore_n rfl rfl rfl ?_
  refine l_aload_n rfl rfl ?_
  refine l_iconst rfl ?_
  refine l_pfi rfl rfl rfl rfl ?_
  obtain ⟨U5, eU5⟩ : ∃ T : sS, T = uI S 904 64 (Int32.ofInt 0) := ⟨_, rfl⟩
  rw [← eU5]
  have hHU5 : HI U5 := by rw [eU5]; exact HI_w hH (show 0 ≤ 0 by omega) (show 0 ≤ 12 by omega)
  have hFU5 : FR md_mo_propertyOf__2 S U5 := by rw [eU5]; exact FR.wI hF (mdf_i (r := (904, 905, 64, 65)) (List.mem_of_getElem? (i := 0) rfl) (inR_i (by omega) (by omega) (by omega) (by omega)))
  have w53 : Xi U5 904 64 = 0 := by rw [eU5]; exact Xi_same (by unfold rg; omega)
  refine l_iconst rfl ?_
  refine l_istore rfl rfl rfl ?_
  have w54 : Xi U5 904 32 = Xi S 904 32 := (show Xi U5 904 32 = Xi S 904 32 from by rw [eU5]; exact Xi_ne (by omega))
  have w55 : 0 ≤ Xi S 904 32 ∧ Xi S 904 32 ≤ 12 := hH.c _ _
  have w56 : 0 ≤ Xi U5 904 64 ∧ Xi U5 904 64 ≤ 12 := hHU5.c _ _
  exact Rl_weak (C10 _ U5 hHU5 hFU5 ((-1)) (0) (by omega) (by omega) (by omega) (by omega) (by omega) (by omega) (by omega) (by omega) (by first | (rw [show Xi U5 904 64 = 0 by omega]; split <;> rfl) | (rw [if_neg (by omega), mtN_s (by omega), if_pos ⟨by omega, by omega⟩]; have t := f10; rw [if_neg (by omega)] at t; omega) | (rw [if_neg (by omega), mtN_s (by omega), if_neg (fun q => by omega)]; have t := f10; rw [if_neg (by omega)] at t; omega)) rfl) (And.intro rfl (And.intro rfl (And.intro rfl (And.intro rfl (And.intro rfl (True.intro))))))
def md_mo_adjective__2 : List rec := [(904, 905, 64, 65), (904, 905, 113, 114)]
abbrev Q_mo_adjective__2 (S : sS) (t : Int) (m : Int) (kind : Int) (dfd : Int) (vls : Int) : pst := fun r S1 => HI S1 ∧ FR md_mo_adjective__2 S S1 ∧ (∃ z : Int, r = some (iv z) ∧ (0 ≤ z ∧ z ≤ 12) ∧ (1 ≤ z → ADM S1 (Xi S1 904 113)) ∧ (1 ≤ z → dfd = 0 → Xi S1 904 113 < 100 → Xi S 922 (Xi S1 904 113).toNat ≠ -1) ∧ (z = adR S t m kind dfd vls))
set_option maxRecDepth 100000 in
set_option maxHeartbeats 4000000 in
theorem t_mo_adjective__2 {S : sS} (hH : HI S) (t : Int) (m : Int) (kind : Int) (dfd : Int) (vls : Int) (ht : 0 ≤ t ∧ t ≤ 5001) (hm : -2147483648 ≤ m ∧ m ≤ 2147483647) (hkind : -1 ≤ kind ∧ kind ≤ 15) (hdfd : 0 ≤ dfd ∧ dfd ≤ 1) (hvls : 0 ≤ vls ∧ vls ≤ 1) (hn : m ≤ 3 → t + m ≤ 5002) (hM : LXM S) (hB : ABV S) (hC : DCM S) (d : Nat) : Mt lay0 (d + 3) m_mo_adjective [.ref 904, iv t, iv m, iv kind, iv dfd, iv vls] S (Q_mo_adjective__2 S t m kind dfd vls) := by
  refine Mt_R rfl rfl ?_
  have hF : FR md_mo_adjective__2 S S := FR.rf
  have hc3 : 0 ≤ Xi S 904 23 ∧ Xi S 904 23 ≤ 24 := hH.c _ _
  have hc19 : 0 ≤ Xi S 904 19 ∧ Xi S 904 19 ≤ 24 := hH.c _ _
  have hc32 : 0 ≤ Xi S 904 32 ∧ Xi S 904 32 ≤ 12 := hH.c _ _
  have hc30 : 0 ≤ Xi S 904 30 ∧ Xi S 904 30 ≤ 64 := hH.c _ _
  refine l_aload_n rfl rfl ?_
  refine l_iload_n rfl rfl ?_
  refine l_iload_n rfl rfl ?_
  have w1 : -1 ≤ Xi S 904 113 ∧ Xi S 904 113 ≤ 6411 := hH.c _ _
  have w2 : 0 ≤ Xi S 904 15 ∧ Xi S 904 15 ≤ 300 := hH.c _ _
  have w3 : 0 ≤ Xi S 904 23 ∧ Xi S 904 23 ≤ 24 := hH.c _ _
  have w4 : 0 ≤ Xi S 904 32 ∧ Xi S 904 32 ≤ 12 := hH.c _ _
  have w5 : 0 ≤ Xi S 904 64 ∧ Xi S 904 64 ≤ 12 := hH.c _ _
  refine l_callV rfl rfl rfl (t_mo_mean__2 hH t m ⟨by omega, by omega⟩ ⟨by omega, by omega⟩ (by first | assumption | omega) _) ?_
  rintro _ _ ⟨rfl, z7, rfl, w7, w6, m3⟩
  show Rl _ _ _ _ _ [iv z7] _ _
  refine l_istore rfl rfl rfl ?_
  refine l_aload_n rfl rfl ?_
  refine l_iconst rfl ?_
  refine l_pfi rfl rfl rfl rfl ?_
  obtain ⟨U1, eU1⟩ : ∃ T : sS, T = uI S 904 113 (Int32.ofInt (-1)) := ⟨_, rfl⟩
  rw [← eU1]
  have hHU1 : HI U1 := by rw [eU1]; exact HI_w hH (show -1 ≤ (-1) by omega) (show (-1) ≤ 6411 by omega)
  have hFU1 : FR md_mo_adjective__2 S U1 := by rw [eU1]; exact FR.wI hF (mdf_i (r := (904, 905, 113, 114)) (List.mem_of_getElem? (i := 1) rfl) (inR_i (by omega) (by omega) (by omega) (by omega)))
  have w8 : Xi U1 904 113 = (-1) := by rw [eU1]; exact Xi_same (by unfold rg; omega)
  refine l_iload rfl rfl ?_
  refine l_iconst rfl ?_
  refine l_icmp_ne rfl rfl (by unfold rg; omega) (by unfold rg; omega) (fun w9 => ?_) (fun w10 => ?_)
  · refine l_aload_n rfl rfl ?_
    refine l_gfr rfl rfl rfl rfl rfl (hHU1.r 904 13 915 rfl) ?_
    refine l_iload rfl rfl ?_
    refine l_iaload (n := 300) rfl rfl (by omega) (by omega) (by unfold rg; omega) ?_
    have w11 : 0 ≤ (Xi U1 915 ((z7).toNat)) ∧ (Xi U1 915 ((z7).toNat)) ≤ 63 := hHU1.c _ _
    have M27 : LXM U1 := LXM_FR (FR_e eU1) rfl hM
    have y27 : Xi U1 904 23 = Xi S 904 23 ∧ Xi U1 904 30 = Xi S 904 30 ∧ Xi U1 904 15 = Xi S 904 15 := ⟨hFU1.x 904 23 rfl, hFU1.x 904 30 rfl, hFU1.x 904 15 rfl⟩
    have a27 : Xi U1 914 (z7).toNat = 5 → (Xi U1 915 ((z7).toNat)) < Xi S 904 23 := fun q => by have t := lxm (s := 5) M27 (k := z7) (by omega) (by omega) q; rw [cM5] at t; omega
    have b27 : Xi U1 914 (z7).toNat = 6 → (Xi U1 915 ((z7).toNat)) < Xi S 904 30 := fun q => by have t := lxm (s := 6) M27 (k := z7) (by omega) (by omega) q; rw [cM6] at t; omega
    have e27i : (Xi U1 915 ((z7).toNat)) = Xi S 915 (z7).toNat := by first | rfl | exact (hFU1.cx 915 rfl _).1
    refine l_istore rfl rfl rfl ?_
    refine l_aload_n rfl rfl ?_
    refine l_gfr rfl rfl rfl rfl rfl (hHU1.r 904 12 914 rfl) ?_
    refine l_iload rfl rfl ?_
    refine l_iaload (n := 300) rfl rfl (by omega) (by omega) (by unfold rg; omega) ?_
    have w12 : 0 ≤ (Xi U1 914 ((z7).toNat)) ∧ (Xi U1 914 ((z7).toNat)) ≤ 12 := hHU1.c _ _
    have e36 : (Xi U1 914 ((z7).toNat)) = Xi S 914 (z7).toNat := by first | rfl | exact (hFU1.cx 914 rfl _).1
    refine l_iconst rfl ?_
    refine l_icmp_ne rfl rfl (by unfold rg; omega) (by unfold rg; omega) (fun w13 => ?_) (fun w14 => ?_)
    · refine l_aload_n rfl rfl ?_
      refine l_gfr rfl rfl rfl rfl rfl (hHU1.r 904 12 914 rfl) ?_
      refine l_iload rfl rfl ?_
      refine l_iaload (n := 300) rfl rfl (by omega) (by omega) (by unfold rg; omega) ?_
      have e85 : (Xi U1 914 ((z7).toNat)) = Xi S 914 (z7).toNat := by first | rfl | exact (hFU1.cx 914 rfl _).1
      refine l_bipush rfl rfl ?_
      refine l_icmp_ne rfl rfl (by unfold rg; omega) (by unfold rg; omega) (fun w15 => ?_) (fun w16 => ?_)
      · refine l_iconst rfl ?_
        refine l_ireturn rfl rfl ?_
        have w17 : -1 ≤ Xi U1 904 113 ∧ Xi U1 904 113 ≤ 6411 := hHU1.c _ _
        have w18 : Xi U1 904 23 = Xi S 904 23 := (show Xi U1 904 23 = Xi S 904 23 from by rw [eU1]; exact Xi_ne (by omega))
        have w19 : 0 ≤ Xi S 904 23 ∧ Xi S 904 23 ≤ 24 := hH.c _ _
        have w20 : Xi U1 904 32 = Xi S 904 32 := (show Xi U1 904 32 = Xi S 904 32 from by rw [eU1]; exact Xi_ne (by omega))
        have w21 : 0 ≤ Xi S 904 32 ∧ Xi S 904 32 ≤ 12 := hH.c _ _
        have w22 : Xi U1 904 64 = Xi S 904 64 := (show Xi U1 904 64 = Xi S 904 64 from by rw [eU1]; exact Xi_ne (by omega))
        have w23 : 0 ≤ Xi S 904 64 ∧ Xi S 904 64 ≤ 12 := hH.c _ _
        exact ⟨hHU1, hFU1, _, rfl, ⟨by omega, by omega⟩, (fun q => by first | (exfalso; omega) | exact Or.inl ⟨by omega, by omega⟩ | exact Or.inr ⟨by omega, by omega, by omega⟩), (fun q q2 q3 => by first | (exfalso; omega) | (rw [x74]; exact c67 (by omega))), (by unfold adR; rw [← m3]; first | rw [if_pos (by omega)] | (rw [if_neg (by omega), if_pos ⟨by omega, by omega, by omega⟩]) | (rw [if_neg (by omega), if_neg (fun q => by omega), if_pos ⟨by omega, by omega⟩]; omega) | (rw [if_neg (by omega), if_neg (fun q => by omega), if_neg (fun q => by omega)]))⟩
      · refine l_iload rfl rfl ?_
        refine l_if_eq rfl rfl (by unfold rg; omega) (fun w24 => ?_) (fun w25 => ?_)
        · refine l_iconst rfl ?_
          refine l_ireturn rfl rfl ?_
          have w26 : -1 ≤ Xi U1 904 113 ∧ Xi U1 904 113 ≤ 6411 := hHU1.c _ _
          have w27 : Xi U1 904 23 = Xi S 904 23 := (show Xi U1 904 23 = Xi S 904 23 from by rw [eU1]; exact Xi_ne (by omega))
          have w28 : 0 ≤ Xi S 904 23 ∧ Xi S 904 23 ≤ 24 := hH.c _ _
          have w29 : Xi U1 904 32 = Xi S 904 32 := (show Xi U1 904 32 = Xi S 904 32 from by rw [eU1]; exact Xi_ne (by omega))
          have w30 : 0 ≤ Xi S 904 32 ∧ Xi S 904 32 ≤ 12 := hH.c _ _
          have w31 : Xi U1 904 64 = Xi S 904 64 := (show Xi U1 904 64 = Xi S 904 64 from by rw [eU1]; exact Xi_ne (by omega))
          have w32 : 0 ≤ Xi S 904 64 ∧ Xi S 904 64 ≤ 12 := hH.c _ _
          exact ⟨hHU1, hFU1, _, rfl, ⟨by omega, by omega⟩, (fun q => by first | (exfalso; omega) | exact Or.inl ⟨by omega, by omega⟩ | exact Or.inr ⟨by omega, by omega, by omega⟩), (fun q q2 q3 => by first | (exfalso; omega) | (rw [x74]; exact c67 (by omega))), (by unfold adR; rw [← m3]; first | rw [if_pos (by omega)] | (rw [if_neg (by omega), if_pos ⟨by omega, by omega, by omega⟩]) | (rw [if_neg (by omega), if_neg (fun q => by omega), if_pos ⟨by omega, by omega⟩]; omega) | (rw [if_neg (by omega), if_neg (fun q => by omega), if_neg (fun q => by omega)]))⟩
        · refine l_aload_n rfl rfl ?_
          refine l_iload_n rfl rfl ?_
          refine l_aload_n rfl rfl ?_
          refine l_gfr rfl rfl rfl rfl rfl (hHU1.r 904 31 927 rfl) ?_
          refine l_iload rfl rfl ?_
          refine l_iaload (n := 64) rfl rfl (by omega) (by omega) (by unfold rg; omega) ?_
          have w33 : 0 ≤ (Xi U1 927 (((Xi U1 915 ((z7).toNat))).toNat)) ∧ (Xi U1 927 (((Xi U1 915 ((z7).toNat))).toNat)) ≤ 7 := hHU1.c _ _
          have e104 : (Xi U1 927 (((Xi U1 915 ((z7).toNat))).toNat)) = Xi S 927 (Xi S 915 (z7).toNat).toNat := by rw [← e27i]; first | rfl | exact (hFU1.cx 927 rfl _).1
          have w34 : -1 ≤ Xi U1 904 113 ∧ Xi U1 904 113 ≤ 6411 := hHU1.c _ _
          have w35 : Xi U1 904 23 = Xi S 904 23 := (show Xi U1 904 23 = Xi S 904 23 from by rw [eU1]; exact Xi_ne (by omega))
          have w36 : 0 ≤ Xi S 904 23 ∧ Xi S 904 23 ≤ 24 := hH.c _ _
          have w37 : Xi U1 904 32 = Xi S 904 32 := (show Xi U1 904 32 = Xi S 904 32 from by rw [eU1]; exact Xi_ne (by omega))
          have w38 : 0 ≤ Xi S 904 32 ∧ Xi S 904 32 ≤ 12 := hH.c _ _
          have w39 : Xi U1 904 64 = Xi S 904 64 := (show Xi U1 904 64 = Xi S 904 64 from by rw [eU1]; exact Xi_ne (by omega))
          have w40 : 0 ≤ Xi S 904 64 ∧ Xi S 904 64 ≤ 12 := hH.c _ _
          refine l_callV rfl rfl rfl (t_mo_propertyOf__2 hHU1 kind (Xi U1 927 (((Xi U1 915 ((z7).toNat))).toNat)) ⟨by omega, by omega⟩ ⟨by omega, by omega⟩ (by first | assumption | exact (ABV_FR hFU1 rfl (by assumption : ABV S))) _) ?_
          rintro _ T2 ⟨hHT2, w46, z45, rfl, w45, w41, w42, w43, w44⟩
          have hFT2 : FR md_mo_adjective__2 S T2 := FR.tr hFU1 w46 rfl
          show Rl _ _ _ _ _ [iv z45] _ _
          have c105 : Xi T2 904 64 = mtR S kind (Xi S 927 (Xi S 915 (z7).toNat).toNat) := by rw [← e104]; exact (by assumption : Xi T2 904 64 = mtR U1 kind _).trans (mtR_k (fun j => (hFU1.cx 917 rfl j).1) (fun j => (hFU1.cx 929 rfl j).1) (fun j => (hFU1.cx 928 rfl j).1) (hFU1.x 904 32 rfl))
          refine l_istore rfl rfl rfl ?_
          refine l_aload_n rfl rfl ?_
          refine l_iload rfl rfl ?_
          refine l_iconst rfl ?_
          refine l_icmp_ne rfl rfl (by unfold rg; omega) (by unfold rg; omega) (fun w47 => ?_) (fun w48 => ?_)
          · refine l_bipush rfl rfl ?_
            refine l_bipush rfl rfl ?_
            refine l_iload rfl rfl ?_
            refine l_imul rfl ?_
            refine l_iadd rfl ?_
            refine l_iload rfl rfl ?_
            refine l_iadd rfl ?_
            refine l_pfi rfl rfl rfl rfl ?_
            obtain ⟨U3, eU3⟩ : ∃ T : sS, T = uI T2 904 113 (Int32.ofInt ((100 + (100 * (Xi U1 915 ((z7).toNat)))) + z45)) := ⟨_, rfl⟩
            rw [← eU3]
            have hHU3 : HI U3 := by rw [eU3]; exact HI_w hHT2 (show -1 ≤ ((100 + (100 * (Xi U1 915 ((z7).toNat)))) + z45) by omega) (show ((100 + (100 * (Xi U1 915 ((z7).toNat)))) + z45) ≤ 6411 by omega)
            have hFU3 : FR md_mo_adjective__2 S U3 := by rw [eU3]; exact FR.wI hFT2 (mdf_i (r := (904, 905, 113, 114)) (List.mem_of_getElem? (i := 1) rfl) (inR_i (by omega) (by omega) (by omega) (by omega)))
            have w49 : Xi U3 904 113 = ((100 + (100 * (Xi U1 915 ((z7).toNat)))) + z45) := by rw [eU3]; exact Xi_same (by unfold rg; omega)
            have z132 : Xi U3 904 32 = Xi S 904 32 := hFU3.x 904 32 rfl
            have v132 : Xi U3 904 64 = Xi T2 904 64 := by rw [eU3, Xi_ne (by omega)]
            refine l_aload_n rfl rfl ?_
            refine l_gfi rfl rfl rfl rfl rfl ?_
            have w50 : 0 ≤ (Xi U3 904 64) ∧ (Xi U3 904 64) ≤ 12 := hHU3.c _ _
            refine l_ireturn rfl rfl ?_
            have w51 : -1 ≤ Xi U3 904 113 ∧ Xi U3 904 113 ≤ 6411 := hHU3.c _ _
            have w52 : Xi U3 904 23 = Xi S 904 23 := (show Xi U3 904 23 = Xi T2 904 23 from by rw [eU3]; exact Xi_ne (by omega)).trans ( (show Xi T2 904 23 = Xi U1 904 23 from w46.x _ _ rfl).trans ((show Xi U1 904 23 = Xi S 904 23 from by rw [eU1]; exact Xi_ne (by omega))))
            have w53 : 0 ≤ Xi S 904 23 ∧ Xi S 904 23 ≤ 24 := hH.c _ _
            have w54 : Xi U3 904 32 = Xi S 904 32 := (show Xi U3 904 32 = Xi T2 904 32 from by rw [eU3]; exact Xi_ne (by omega)).trans ( (show Xi T2 904 32 = Xi U1 904 32 from w46.x _ _ rfl).trans ((show Xi U1 904 32 = Xi S 904 32 from by rw [eU1]; exact Xi_ne (by omega))))
            have w55 : 0 ≤ Xi S 904 32 ∧ Xi S 904 32 ≤ 12 := hH.c _ _
            have w56 : Xi U3 904 64 = Xi T2 904 64 := (show Xi U3 904 64 = Xi T2 904 64 from by rw [eU3]; exact Xi_ne (by omega))
            have w57 : 0 ≤ Xi T2 904 64 ∧ Xi T2 904 64 ≤ 12 := hHT2.c _ _
            exact ⟨hHU3, hFU3, _, rfl, ⟨by omega, by omega⟩, (fun q => by first | (exfalso; omega) | exact Or.inl ⟨by omega, by omega⟩ | exact Or.inr ⟨by omega, by omega, by omega⟩), (fun q q2 q3 => by first | (exfalso; omega) | (rw [x74]; exact c67 (by omega))), (by unfold adR; rw [← m3]; first | rw [if_pos (by omega)] | (rw [if_neg (by omega), if_pos ⟨by omega, by omega, by omega⟩]) | (rw [if_neg (by omega), if_neg (fun q => by omega), if_pos ⟨by omega, by omega⟩]; omega) | (rw [if_neg (by omega), if_neg (fun q => by omega), if_neg (fun q => by omega)]))⟩
          · refine l_iconst rfl ?_
            refine l_goto rfl rfl ?_
            refine l_pfi rfl rfl rfl rfl ?_
            obtain ⟨U4, eU4⟩ : ∃ T : sS, T = uI T2 904 113 (Int32.ofInt (-1)) := ⟨_, rfl⟩
            rw [← eU4]
            have hHU4 : HI U4 := by rw [eU4]; exact HI_w hHT2 (show -1 ≤ (-1) by omega) (show (-1) ≤ 6411 by omega)
            have hFU4 : FR md_mo_adjective__2 S U4 := by rw [eU4]; exact FR.wI hFT2 (mdf_i (r := (904, 905, 113, 114)) (List.mem_of_getElem? (i := 1) rfl) (inR_i (by omega) (by omega) (by omega) (by omega)))
            have w58 : Xi U4 904 113 = (-1) := by rw [eU4]; exact Xi_same (by unfold rg; omega)
            have z132 : Xi U4 904 32 = Xi S 904 32 := hFU4.x 904 32 rfl
            have v132 : Xi U4 904 64 = Xi T2 904 64 := by rw [eU4, Xi_ne (by omega)]
            refine l_aload_n rfl rfl ?_
            refine l_gfi rfl rfl rfl rfl rfl ?_
            have w59 : 0 ≤ (Xi U4 904 64) ∧ (Xi U4 904 64) ≤ 12 := hHU4.c _ _
            refine l_ireturn rfl rfl ?_
            have w60 : -1 ≤ Xi U4 904 113 ∧ Xi U4 904 113 ≤ 6411 := hHU4.c _ _
            have w61 : Xi U4 904 23 = Xi S 904 23 := (show Xi U4 904 23 = Xi T2 904 23 from by rw [eU4]; exact Xi_ne (by omega)).trans ( (show Xi T2 904 23 = Xi U1 904 23 from w46.x _ _ rfl).trans ((show Xi U1 904 23 = Xi S 904 23 from by rw [eU1]; exact Xi_ne (by omega))))
            have w62 : 0 ≤ Xi S 904 23 ∧ Xi S 904 23 ≤ 24 := hH.c _ _
            have w63 : Xi U4 904 32 = Xi S 904 32 := (show Xi U4 904 32 = Xi T2 904 32 from by rw [eU4]; exact Xi_ne (by omega)).trans ( (show Xi T2 904 32 = Xi U1 904 32 from w46.x _ _ rfl).trans ((show Xi U1 904 32 = Xi S 904 32 from by rw [eU1]; exact Xi_ne (by omega))))
            have w64 : 0 ≤ Xi S 904 32 ∧ Xi S 904 32 ≤ 12 := hH.c _ _
            have w65 : Xi U4 904 64 = Xi T2 904 64 := (show Xi U4 904 64 = Xi T2 904 64 from by rw [eU4]; exact Xi_ne (by omega))
            have w66 : 0 ≤ Xi T2 904 64 ∧ Xi T2 904 64 ≤ 12 := hHT2.c _ _
            exact ⟨hHU4, hFU4, _, rfl, ⟨by omega, by omega⟩, (fun q => by first | (exfalso; omega) | exact Or.inl ⟨by omega, by omega⟩ | exact Or.inr ⟨by omega, by omega, by omega⟩), (fun q q2 q3 => by first | (exfalso; omega) | (rw [x74]; exact c67 (by omega))), (by unfold adR; rw [← m3]; first | rw [if_pos (by omega)] | (rw [if_neg (by omega), if_pos ⟨by omega, by omega, by omega⟩]) | (rw [if_neg (by omega), if_neg (fun q => by omega), if_pos ⟨by omega, by omega⟩]; omega) | (rw [if_neg (by omega), if_neg (fun q => by omega), if_neg (fun q => by omega)]))⟩
    · refine l_aload_n rfl rfl ?_
      refine l_iload_n rfl rfl ?_
      refine l_aload_n rfl rfl ?_
      refine l_gfr rfl rfl rfl rfl rfl (hHU1.r 904 24 921 rfl) ?_
      refine l_iload rfl rfl ?_
      refine l_iaload (n := 24) rfl rfl (by omega) (by omega) (by unfold rg; omega) ?_
      have w67 : 0 ≤ (Xi U1 921 (((Xi U1 915 ((z7).toNat))).toNat)) ∧ (Xi U1 921 (((Xi U1 915 ((z7).toNat))).toNat)) ≤ 15 := hHU1.c _ _
      have e49 : (Xi U1 921 (((Xi U1 915 ((z7).toNat))).toNat)) = Xi S 921 (Xi S 915 (z7).toNat).toNat := by rw [← e27i]; first | rfl | exact (hFU1.cx 921 rfl _).1
      have w68 : -1 ≤ Xi U1 904 113 ∧ Xi U1 904 113 ≤ 6411 := hHU1.c _ _
      have w69 : Xi U1 904 23 = Xi S 904 23 := (show Xi U1 904 23 = Xi S 904 23 from by rw [eU1]; exact Xi_ne (by omega))
      have w70 : 0 ≤ Xi S 904 23 ∧ Xi S 904 23 ≤ 24 := hH.c _ _
      have w71 : Xi U1 904 32 = Xi S 904 32 := (show Xi U1 904 32 = Xi S 904 32 from by rw [eU1]; exact Xi_ne (by omega))
      have w72 : 0 ≤ Xi S 904 32 ∧ Xi S 904 32 ≤ 12 := hH.c _ _
      have w73 : Xi U1 904 64 = Xi S 904 64 := (show Xi U1 904 64 = Xi S 904 64 from by rw [eU1]; exact Xi_ne (by omega))
      have w74 : 0 ≤ Xi S 904 64 ∧ Xi S 904 64 ≤ 12 := hH.c _ _
      refine l_callV rfl rfl rfl (t_mo_isBelow__2 hHU1 kind (Xi U1 921 (((Xi U1 915 ((z7).toNat))).toNat)) ⟨by omega, by omega⟩ ⟨by omega, by omega⟩ (by first | assumption | exact (ABV_FR hFU1 rfl (by assumption : ABV S))) _) ?_
      rintro _ _ ⟨rfl, z77, rfl, w77, w75, w76⟩
      show Rl _ _ _ _ _ [iv z77] _ _
      have b50 : z77 = blR S kind (Xi S 921 (Xi S 915 (z7).toNat).toNat) := by rw [← e49]; exact (by assumption : z77 = blR U1 kind _).trans (blN_k (fun j => (hFU1.cx 917 rfl j).1) 17 kind)
      refine l_if_eq rfl rfl (by unfold rg; omega) (fun w78 => ?_) (fun w79 => ?_)
      · refine l_aload_n rfl rfl ?_
        refine l_gfr rfl rfl rfl rfl rfl (hHU1.r 904 12 914 rfl) ?_
        refine l_iload rfl rfl ?_
        refine l_iaload (n := 300) rfl rfl (by omega) (by omega) (by unfold rg; omega) ?_
        have e85 : (Xi U1 914 ((z7).toNat)) = Xi S 914 (z7).toNat := by first | rfl | exact (hFU1.cx 914 rfl _).1
        refine l_bipush rfl rfl ?_
        refine l_icmp_ne rfl rfl (by unfold rg; omega) (by unfold rg; omega) (fun w80 => ?_) (fun w81 => ?_)
        · refine l_iconst rfl ?_
          refine l_ireturn rfl rfl ?_
          have w82 : -1 ≤ Xi U1 904 113 ∧ Xi U1 904 113 ≤ 6411 := hHU1.c _ _
          have w83 : Xi U1 904 23 = Xi S 904 23 := (show Xi U1 904 23 = Xi S 904 23 from by rw [eU1]; exact Xi_ne (by omega))
          have w84 : 0 ≤ Xi S 904 23 ∧ Xi S 904 23 ≤ 24 := hH.c _ _
          have w85 : Xi U1 904 32 = Xi S 904 32 := (show Xi U1 904 32 = Xi S 904 32 from by rw [eU1]; exact Xi_ne (by omega))
          have w86 : 0 ≤ Xi S 904 32 ∧ Xi S 904 32 ≤ 12 := hH.c _ _
          have w87 : Xi U1 904 64 = Xi S 904 64 := (show Xi U1 904 64 = Xi S 904 64 from by rw [eU1]; exact Xi_ne (by omega))
          have w88 : 0 ≤ Xi S 904 64 ∧ Xi S 904 64 ≤ 12 := hH.c _ _
          exact ⟨hHU1, hFU1, _, rfl, ⟨by omega, by omega⟩, (fun q => by first | (exfalso; omega) | exact Or.inl ⟨by omega, by omega⟩ | exact Or.inr ⟨by omega, by omega, by omega⟩), (fun q q2 q3 => by first | (exfalso; omega) | (rw [x74]; exact c67 (by omega))), (by unfold adR; rw [← m3]; first | rw [if_pos (by omega)] | (rw [if_neg (by omega), if_pos ⟨by omega, by omega, by omega⟩]) | (rw [if_neg (by omega), if_neg (fun q => by omega), if_pos ⟨by omega, by omega⟩]; omega) | (rw [if_neg (by omega), if_neg (fun q => by omega), if_neg (fun q => by omega)]))⟩
        · refine l_iload rfl rfl ?_
          refine l_if_eq rfl rfl (by unfold rg; omega) (fun w89 => ?_) (fun w90 => ?_)
          · refine l_iconst rfl ?_
            refine l_ireturn rfl rfl ?_
            have w91 : -1 ≤ Xi U1 904 113 ∧ Xi U1 904 113 ≤ 6411 := hHU1.c _ _
            have w92 : Xi U1 904 23 = Xi S 904 23 := (show Xi U1 904 23 = Xi S 904 23 from by rw [eU1]; exact Xi_ne (by omega))
            have w93 : 0 ≤ Xi S 904 23 ∧ Xi S 904 23 ≤ 24 := hH.c _ _
            have w94 : Xi U1 904 32 = Xi S 904 32 := (show Xi U1 904 32 = Xi S 904 32 from by rw [eU1]; exact Xi_ne (by omega))
            have w95 : 0 ≤ Xi S 904 32 ∧ Xi S 904 32 ≤ 12 := hH.c _ _
            have w96 : Xi U1 904 64 = Xi S 904 64 := (show Xi U1 904 64 = Xi S 904 64 from by rw [eU1]; exact Xi_ne (by omega))
            have w97 : 0 ≤ Xi S 904 64 ∧ Xi S 904 64 ≤ 12 := hH.c _ _
            exact ⟨hHU1, hFU1, _, rfl, ⟨by omega, by omega⟩, (fun q => by first | (exfalso; omega) | exact Or.inl ⟨by omega, by omega⟩ | exact Or.inr ⟨by omega, by omega, by omega⟩), (fun q q2 q3 => by first | (exfalso; omega) | (rw [x74]; exact c67 (by omega))), (by unfold adR; rw [← m3]; first | rw [if_pos (by omega)] | (rw [if_neg (by omega), if_pos ⟨by omega, by omega, by omega⟩]) | (rw [if_neg (by omega), if_neg (fun q => by omega), if_pos ⟨by omega, by omega⟩]; omega) | (rw [if_neg (by omega), if_neg (fun q => by omega), if_neg (fun q => by omega)]))⟩
          · refine l_aload_n rfl rfl ?_
            refine l_iload_n rfl rfl ?_
            refine l_aload_n rfl rfl ?_
            refine l_gfr rfl rfl rfl rfl rfl (hHU1.r 904 31 927 rfl) ?_
            refine l_iload rfl rfl ?_
            refine l_iaload (n := 64) rfl rfl (by omega) (by omega) (by unfold rg; omega) ?_
            have w98 : 0 ≤ (Xi U1 927 (((Xi U1 915 ((z7).toNat))).toNat)) ∧ (Xi U1 927 (((Xi U1 915 ((z7).toNat))).toNat)) ≤ 7 := hHU1.c _ _
            have e104 : (Xi U1 927 (((Xi U1 915 ((z7).toNat))).toNat)) = Xi S 927 (Xi S 915 (z7).toNat).toNat := by rw [← e27i]; first | rfl | exact (hFU1.cx 927 rfl _).1
            have w99 : -1 ≤ Xi U1 904 113 ∧ Xi U1 904 113 ≤ 6411 := hHU1.c _ _
            have w100 : Xi U1 904 23 = Xi S 904 23 := (show Xi U1 904 23 = Xi S 904 23 from by rw [eU1]; exact Xi_ne (by omega))
            have w101 : 0 ≤ Xi S 904 23 ∧ Xi S 904 23 ≤ 24 := hH.c _ _
            have w102 : Xi U1 904 32 = Xi S 904 32 := (show Xi U1 904 32 = Xi S 904 32 from by rw [eU1]; exact Xi_ne (by omega))
            have w103 : 0 ≤ Xi S 904 32 ∧ Xi S 904 32 ≤ 12 := hH.c _ _
            have w104 : Xi U1 904 64 = Xi S 904 64 := (show Xi U1 904 64 = Xi S 904 64 from by rw [eU1]; exact Xi_ne (by omega))
            have w105 : 0 ≤ Xi S 904 64 ∧ Xi S 904 64 ≤ 12 := hH.c _ _
            refine l_callV rfl rfl rfl (t_mo_propertyOf__2 hHU1 kind (Xi U1 927 (((Xi U1 915 ((z7).toNat))).toNat)) ⟨by omega, by omega⟩ ⟨by omega, by omega⟩ (by first | assumption | exact (ABV_FR hFU1 rfl (by assumption : ABV S))) _) ?_
            rintro _ T5 ⟨hHT5, w111, z110, rfl, w110, w106, w107, w108, w109⟩
            have hFT5 : FR md_mo_adjective__2 S T5 := FR.tr hFU1 w111 rfl
            show Rl _ _ _ _ _ [iv z110] _ _
            have c105 : Xi T5 904 64 = mtR S kind (Xi S 927 (Xi S 915 (z7).toNat).toNat) := by rw [← e104]; exact (by assumption : Xi T5 904 64 = mtR U1 kind _).trans (mtR_k (fun j => (hFU1.cx 917 rfl j).1) (fun j => (hFU1.cx 929 rfl j).1) (fun j => (hFU1.cx 928 rfl j).1) (hFU1.x 904 32 rfl))
            refine l_istore rfl rfl rfl ?_
            refine l_aload_n rfl rfl ?_
            refine l_iload rfl rfl ?_
            refine l_iconst rfl ?_
            refine l_icmp_ne rfl rfl (by unfold rg; omega) (by unfold rg; omega) (fun w112 => ?_) (fun w113 => ?_)
            · refine l_bipush rfl rfl ?_
              refine l_bipush rfl rfl ?_
              refine l_iload rfl rfl ?_
              refine l_imul rfl ?_
              refine l_iadd rfl ?_
              refine l_iload rfl rfl ?_
              refine l_iadd rfl ?_
              refine l_pfi rfl rfl rfl rfl ?_
              obtain ⟨U6, eU6⟩ : ∃ T : sS, T = uI T5 904 113 (Int32.ofInt ((100 + (100 * (Xi U1 915 ((z7).toNat)))) + z110)) := ⟨_, rfl⟩
              rw [← eU6]
              have hHU6 : HI U6 := by rw [eU6]; exact HI_w hHT5 (show -1 ≤ ((100 + (100 * (Xi U1 915 ((z7).toNat)))) + z110) by omega) (show ((100 + (100 * (Xi U1 915 ((z7).toNat)))) + z110) ≤ 6411 by omega)
              have hFU6 : FR md_mo_adjective__2 S U6 := by rw [eU6]; exact FR.wI hFT5 (mdf_i (r := (904, 905, 113, 114)) (List.mem_of_getElem? (i := 1) rfl) (inR_i (by omega) (by omega) (by omega) (by omega)))
              have w114 : Xi U6 904 113 = ((100 + (100 * (Xi U1 915 ((z7).toNat)))) + z110) := by rw [eU6]; exact Xi_same (by unfold rg; omega)
              have z132 : Xi U6 904 32 = Xi S 904 32 := hFU6.x 904 32 rfl
              have v132 : Xi U6 904 64 = Xi T5 904 64 := by rw [eU6, Xi_ne (by omega)]
              refine l_aload_n rfl rfl ?_
              refine l_gfi rfl rfl rfl rfl rfl ?_
              have w115 : 0 ≤ (Xi U6 904 64) ∧ (Xi U6 904 64) ≤ 12 := hHU6.c _ _
              refine l_ireturn rfl rfl ?_
              have w116 : -1 ≤ Xi U6 904 113 ∧ Xi U6 904 113 ≤ 6411 := hHU6.c _ _
              have w117 : Xi U6 904 23 = Xi S 904 23 := (show Xi U6 904 23 = Xi T5 904 23 from by rw [eU6]; exact Xi_ne (by omega)).trans ( (show Xi T5 904 23 = Xi U1 904 23 from w111.x _ _ rfl).trans ((show Xi U1 904 23 = Xi S 904 23 from by rw [eU1]; exact Xi_ne (by omega))))
              have w118 : 0 ≤ Xi S 904 23 ∧ Xi S 904 23 ≤ 24 := hH.c _ _
              have w119 : Xi U6 904 32 = Xi S 904 32 := (show Xi U6 904 32 = Xi T5 904 32 from by rw [eU6]; exact Xi_ne (by omega)).trans ( (show Xi T5 904 32 = Xi U1 904 32 from w111.x _ _ rfl).trans ((show Xi U1 904 32 = Xi S 904 32 from by rw [eU1]; exact Xi_ne (by omega))))
              have w120 : 0 ≤ Xi S 904 32 ∧ Xi S 904 32 ≤ 12 := hH.c _ _
              have w121 : Xi U6 904 64 = Xi T5 904 64 := (show Xi U6 904 64 = Xi T5 904 64 from by rw [eU6]; exact Xi_ne (by omega))
              have w122 : 0 ≤ Xi T5 904 64 ∧ Xi T5 904 64 ≤ 12 := hHT5.c _ _
              exact ⟨hHU6, hFU6, _, rfl, ⟨by omega, by omega⟩, (fun q => by first | (exfalso; omega) | exact Or.inl ⟨by omega, by omega⟩ | exact Or.inr ⟨by omega, by omega, by omega⟩), (fun q q2 q3 => by first | (exfalso; omega) | (rw [x74]; exact c67 (by omega))), (by unfold adR; rw [← m3]; first | rw [if_pos (by omega)] | (rw [if_neg (by omega), if_pos ⟨by omega, by omega, by omega⟩]) | (rw [if_neg (by omega), if_neg (fun q => by omega), if_pos ⟨by omega, by omega⟩]; omega) | (rw [if_neg (by omega), if_neg (fun q => by omega), if_neg (fun q => by omega)]))⟩
            · refine l_iconst rfl ?_
              refine l_goto rfl rfl ?_
              refine l_pfi rfl rfl rfl rfl ?_
              obtain ⟨U7, eU7⟩ : ∃ T : sS, T = uI T5 904 113 (Int32.ofInt (-1)) := ⟨_, rfl⟩
              rw [← eU7]
              have hHU7 : HI U7 := by rw [eU7]; exact HI_w hHT5 (show -1 ≤ (-1) by omega) (show (-1) ≤ 6411 by omega)
              have hFU7 : FR md_mo_adjective__2 S U7 := by rw [eU7]; exact FR.wI hFT5 (mdf_i (r := (904, 905, 113, 114)) (List.mem_of_getElem? (i := 1) rfl) (inR_i (by omega) (by omega) (by omega) (by omega)))
              have w123 : Xi U7 904 113 = (-1) := by rw [eU7]; exact Xi_same (by unfold rg; omega)
              have z132 : Xi U7 904 32 = Xi S 904 32 := hFU7.x 904 32 rfl
              have v132 : Xi U7 904 64 = Xi T5 904 64 := by rw [eU7, Xi_ne (by omega)]
              refine l_aload_n rfl rfl ?_
              refine l_gfi rfl rfl rfl rfl rfl ?_
              have w124 : 0 ≤ (Xi U7 904 64) ∧ (Xi U7 904 64) ≤ 12 := hHU7.c _ _
              refine l_ireturn rfl rfl ?_
              have w125 : -1 ≤ Xi U7 904 113 ∧ Xi U7 904 113 ≤ 6411 := hHU7.c _ _
              have w126 : Xi U7 904 23 = Xi S 904 23 := (show Xi U7 904 23 = Xi T5 904 23 from by rw [eU7]; exact Xi_ne (by omega)).trans ( (show Xi T5 904 23 = Xi U1 904 23 from w111.x _ _ rfl).trans ((show Xi U1 904 23 = Xi S 904 23 from by rw [eU1]; exact Xi_ne (by omega))))
              have w127 : 0 ≤ Xi S 904 23 ∧ Xi S 904 23 ≤ 24 := hH.c _ _
              have w128 : Xi U7 904 32 = Xi S 904 32 := (show Xi U7 904 32 = Xi T5 904 32 from by rw [eU7]; exact Xi_ne (by omega)).trans ( (show Xi T5 904 32 = Xi U1 904 32 from w111.x _ _ rfl).trans ((show Xi U1 904 32 = Xi S 904 32 from by rw [eU1]; exact Xi_ne (by omega))))
              have w129 : 0 ≤ Xi S 904 32 ∧ Xi S 904 32 ≤ 12 := hH.c _ _
              have w130 : Xi U7 904 64 = Xi T5 904 64 := (show Xi U7 904 64 = Xi T5 904 64 from by rw [eU7]; exact Xi_ne (by omega))
              have w131 : 0 ≤ Xi T5 904 64 ∧ Xi T5 904 64 ≤ 12 := hHT5.c _ _
              exact ⟨hHU7, hFU7, _, rfl, ⟨by omega, by omega⟩, (fun q => by first | (exfalso; omega) | exact Or.inl ⟨by omega, by omega⟩ | exact Or.inr ⟨by omega, by omega, by omega⟩), (fun q q2 q3 => by first | (exfalso; omega) | (rw [x74]; exact c67 (by omega))), (by unfold adR; rw [← m3]; first | rw [if_pos (by omega)] | (rw [if_neg (by omega), if_pos ⟨by omega, by omega, by omega⟩]) | (rw [if_neg (by omega), if_neg (fun q => by omega), if_pos ⟨by omega, by omega⟩]; omega) | (rw [if_neg (by omega), if_neg (fun q => by omega), if_neg (fun q => by omega)]))⟩
      · refine l_iload rfl rfl ?_
        refine l_if_ne rfl rfl (by unfold rg; omega) (fun w132 => ?_) (fun w133 => ?_)
        · refine l_aload_n rfl rfl ?_
          refine l_iload rfl rfl ?_
          refine l_pfi rfl rfl rfl rfl ?_
          obtain ⟨U8, eU8⟩ : ∃ T : sS, T = uI U1 904 113 (Int32.ofInt (Xi U1 915 ((z7).toNat))) := ⟨_, rfl⟩
          rw [← eU8]
          have hHU8 : HI U8 := by rw [eU8]; exact HI_w hHU1 (show -1 ≤ (Xi U1 915 ((z7).toNat)) by omega) (show (Xi U1 915 ((z7).toNat)) ≤ 6411 by omega)
          have hFU8 : FR md_mo_adjective__2 S U8 := by rw [eU8]; exact FR.wI hFU1 (mdf_i (r := (904, 905, 113, 114)) (List.mem_of_getElem? (i := 1) rfl) (inR_i (by omega) (by omega) (by omega) (by omega)))
          have w134 : Xi U8 904 113 = (Xi U1 915 ((z7).toNat)) := by rw [eU8]; exact Xi_same (by unfold rg; omega)
          have x74 : Xi U8 904 113 = (Xi U1 915 ((z7).toNat)) := by omega
          have z74 : Xi U8 904 23 = Xi S 904 23 := hFU8.x 904 23 rfl
          refine l_iconst rfl ?_
          refine l_ireturn rfl rfl ?_
          have w135 : -1 ≤ Xi U8 904 113 ∧ Xi U8 904 113 ≤ 6411 := hHU8.c _ _
          have w136 : Xi U8 904 23 = Xi S 904 23 := (show Xi U8 904 23 = Xi U1 904 23 from by rw [eU8]; exact Xi_ne (by omega)).trans ((show Xi U1 904 23 = Xi S 904 23 from by rw [eU1]; exact Xi_ne (by omega)))
          have w137 : 0 ≤ Xi S 904 23 ∧ Xi S 904 23 ≤ 24 := hH.c _ _
          have w138 : Xi U8 904 32 = Xi S 904 32 := (show Xi U8 904 32 = Xi U1 904 32 from by rw [eU8]; exact Xi_ne (by omega)).trans ((show Xi U1 904 32 = Xi S 904 32 from by rw [eU1]; exact Xi_ne (by omega)))
          have w139 : 0 ≤ Xi S 904 32 ∧ Xi S 904 32 ≤ 12 := hH.c _ _
          have w140 : Xi U8 904 64 = Xi S 904 64 := (show Xi U8 904 64 = Xi U1 904 64 from by rw [eU8]; exact Xi_ne (by omega)).trans ((show Xi U1 904 64 = Xi S 904 64 from by rw [eU1]; exact Xi_ne (by omega)))
          have w141 : 0 ≤ Xi S 904 64 ∧ Xi S 904 64 ≤ 12 := hH.c _ _
          exact ⟨hHU8, hFU8, _, rfl, ⟨by omega, by omega⟩, (fun q => by first | (exfalso; omega) | exact Or.inl ⟨by omega, by omega⟩ | exact Or.inr ⟨by omega, by omega, by omega⟩), (fun q q2 q3 => by first | (exfalso; omega) | (rw [x74]; exact c67 (by omega))), (by unfold adR; rw [← m3]; first | rw [if_pos (by omega)] | (rw [if_neg (by omega), if_pos ⟨by omega, by omega, by omega⟩]) | (rw [if_neg (by omega), if_neg (fun q => by omega), if_pos ⟨by omega, by omega⟩]; omega) | (rw [if_neg (by omega), if_neg (fun q => by omega), if_neg (fun q => by omega)]))⟩
        · refine l_aload_n rfl rfl ?_
          refine l_gfr rfl rfl rfl rfl rfl (hHU1.r 904 27 924 rfl) ?_
          refine l_iload rfl rfl ?_
          refine l_iaload (n := 24) rfl rfl (by omega) (by omega) (by unfold rg; omega) ?_
          have w142 : 0 ≤ (Xi U1 924 (((Xi U1 915 ((z7).toNat))).toNat)) ∧ (Xi U1 924 (((Xi U1 915 ((z7).toNat))).toNat)) ≤ 6 := hHU1.c _ _
          have d67 : (Xi U1 924 (((Xi U1 915 ((z7).toNat))).toNat)) = Xi S 924 ((Xi U1 915 ((z7).toNat))).toNat := by first | rfl | exact (hFU1.cx 924 rfl _).1
          have c67 : (Xi U1 924 (((Xi U1 915 ((z7).toNat))).toNat)) = 0 → Xi S 922 ((Xi U1 915 ((z7).toNat))).toNat ≠ -1 := fun q => hC ((Xi U1 915 ((z7).toNat))).toNat (by omega) (by omega)
          have d67b : (Xi U1 924 (((Xi U1 915 ((z7).toNat))).toNat)) = Xi S 924 (Xi S 915 (z7).toNat).toNat := by rw [← e27i]; exact d67
          refine l_if_ne rfl rfl (by unfold rg; omega) (fun w143 => ?_) (fun w144 => ?_)
          · refine l_aload_n rfl rfl ?_
            refine l_gfr rfl rfl rfl rfl rfl (hHU1.r 904 12 914 rfl) ?_
            refine l_iload rfl rfl ?_
            refine l_iaload (n := 300) rfl rfl (by omega) (by omega) (by unfold rg; omega) ?_
            have e85 : (Xi U1 914 ((z7).toNat)) = Xi S 914 (z7).toNat := by first | rfl | exact (hFU1.cx 914 rfl _).1
            refine l_bipush rfl rfl ?_
            refine l_icmp_ne rfl rfl (by unfold rg; omega) (by unfold rg; omega) (fun w145 => ?_) (fun w146 => ?_)
            · refine l_iconst rfl ?_
              refine l_ireturn rfl rfl ?_
              have w147 : -1 ≤ Xi U1 904 113 ∧ Xi U1 904 113 ≤ 6411 := hHU1.c _ _
              have w148 : Xi U1 904 23 = Xi S 904 23 := (show Xi U1 904 23 = Xi S 904 23 from by rw [eU1]; exact Xi_ne (by omega))
              have w149 : 0 ≤ Xi S 904 23 ∧ Xi S 904 23 ≤ 24 := hH.c _ _
              have w150 : Xi U1 904 32 = Xi S 904 32 := (show Xi U1 904 32 = Xi S 904 32 from by rw [eU1]; exact Xi_ne (by omega))
              have w151 : 0 ≤ Xi S 904 32 ∧ Xi S 904 32 ≤ 12 := hH.c _ _
              have w152 : Xi U1 904 64 = Xi S 904 64 := (show Xi U1 904 64 = Xi S 904 64 from by rw [eU1]; exact Xi_ne (by omega))
              have w153 : 0 ≤ Xi S 904 64 ∧ Xi S 904 64 ≤ 12 := hH.c _ _
              exact ⟨hHU1, hFU1, _, rfl, ⟨by omega, by omega⟩, (fun q => by first | (exfalso; omega) | exact Or.inl ⟨by omega, by omega⟩ | exact Or.inr ⟨by omega, by omega, by omega⟩), (fun q q2 q3 => by first | (exfalso; omega) | (rw [x74]; exact c67 (by omega))), (by unfold adR; rw [← m3]; first | rw [if_pos (by omega)] | (rw [if_neg (by omega), if_pos ⟨by omega, by omega, by omega⟩]) | (rw [if_neg (by omega), if_neg (fun q => by omega), if_pos ⟨by omega, by omega⟩]; omega) | (rw [if_neg (by omega), if_neg (fun q => by omega), if_neg (fun q => by omega)]))⟩
            · refine l_iload rfl rfl ?_
              refine l_if_eq rfl rfl (by unfold rg; omega) (fun w154 => ?_) (fun w155 => ?_)
              · refine l_iconst rfl ?_
                refine l_ireturn rfl rfl ?_
                have w156 : -1 ≤ Xi U1 904 113 ∧ Xi U1 904 113 ≤ 6411 := hHU1.c _ _
                have w157 : Xi U1 904 23 = Xi S 904 23 := (show Xi U1 904 23 = Xi S 904 23 from by rw [eU1]; exact Xi_ne (by omega))
                have w158 : 0 ≤ Xi S 904 23 ∧ Xi S 904 23 ≤ 24 := hH.c _ _
                have w159 : Xi U1 904 32 = Xi S 904 32 := (show Xi U1 904 32 = Xi S 904 32 from by rw [eU1]; exact Xi_ne (by omega))
                have w160 : 0 ≤ Xi S 904 32 ∧ Xi S 904 32 ≤ 12 := hH.c _ _
                have w161 : Xi U1 904 64 = Xi S 904 64 := (show Xi U1 904 64 = Xi S 904 64 from by rw [eU1]; exact Xi_ne (by omega))
                have w162 : 0 ≤ Xi S 904 64 ∧ Xi S 904 64 ≤ 12 := hH.c _ _
                exact ⟨hHU1, hFU1, _, rfl, ⟨by omega, by omega⟩, (fun q => by first | (exfalso; omega) | exact Or.inl ⟨by omega, by omega⟩ | exact Or.inr ⟨by omega, by omega, by omega⟩), (fun q q2 q3 => by first | (exfalso; omega) | (rw [x74]; exact c67 (by omega))), (by unfold adR; rw [← m3]; first | rw [if_pos (by omega)] | (rw [if_neg (by omega), if_pos ⟨by omega, by omega, by omega⟩]) | (rw [if_neg (by omega), if_neg (fun q => by omega), if_pos ⟨by omega, by omega⟩]; omega) | (rw [if_neg (by omega), if_neg (fun q => by omega), if_neg (fun q => by omega)]))⟩
              · refine l_aload_n rfl rfl ?_
                refine l_iload_n rfl rfl ?_
                refine l_aload_n rfl rfl ?_
                refine l_gfr rfl rfl rfl rfl rfl (hHU1.r 904 31 927 rfl) ?_
                refine l_iload rfl rfl ?_
                refine l_iaload (n := 64) rfl rfl (by omega) (by omega) (by unfold rg; omega) ?_
                have w163 : 0 ≤ (Xi U1 927 (((Xi U1 915 ((z7).toNat))).toNat)) ∧ (Xi U1 927 (((Xi U1 915 ((z7).toNat))).toNat)) ≤ 7 := hHU1.c _ _
                have e104 : (Xi U1 927 (((Xi U1 915 ((z7).toNat))).toNat)) = Xi S 927 (Xi S 915 (z7).toNat).toNat := by rw [← e27i]; first | rfl | exact (hFU1.cx 927 rfl _).1
                have w164 : -1 ≤ Xi U1 904 113 ∧ Xi U1 904 113 ≤ 6411 := hHU1.c _ _
                have w165 : Xi U1 904 23 = Xi S 904 23 := (show Xi U1 904 23 = Xi S 904 23 from by rw [eU1]; exact Xi_ne (by omega))
                have w166 : 0 ≤ Xi S 904 23 ∧ Xi S 904 23 ≤ 24 := hH.c _ _
                have w167 : Xi U1 904 32 = Xi S 904 32 := (show Xi U1 904 32 = Xi S 904 32 from by rw [eU1]; exact Xi_ne (by omega))
                have w168 : 0 ≤ Xi S 904 32 ∧ Xi S 904 32 ≤ 12 := hH.c _ _
                have w169 : Xi U1 904 64 = Xi S 904 64 := (show Xi U1 904 64 = Xi S 904 64 from by rw [eU1]; exact Xi_ne (by omega))
                have w170 : 0 ≤ Xi S 904 64 ∧ Xi S 904 64 ≤ 12 := hH.c _ _
                refine l_callV rfl rfl rfl (t_mo_propertyOf__2 hHU1 kind (Xi U1 927 (((Xi U1 915 ((z7).toNat))).toNat)) ⟨by omega, by omega⟩ ⟨by omega, by omega⟩ (by first | assumption | exact (ABV_FR hFU1 rfl (by assumption : ABV S))) _) ?_
                rintro _ T9 ⟨hHT9, w176, z175, rfl, w175, w171, w172, w173, w174⟩
                have hFT9 : FR md_mo_adjective__2 S T9 := FR.tr hFU1 w176 rfl
                show Rl _ _ _ _ _ [iv z175] _ _
                have c105 : Xi T9 904 64 = mtR S kind (Xi S 927 (Xi S 915 (z7).toNat).toNat) := by rw [← e104]; exact (by assumption : Xi T9 904 64 = mtR U1 kind _).trans (mtR_k (fun j => (hFU1.cx 917 rfl j).1) (fun j => (hFU1.cx 929 rfl j).1) (fun j => (hFU1.cx 928 rfl j).1) (hFU1.x 904 32 rfl))
                refine l_istore rfl rfl rfl ?_
                refine l_aload_n rfl rfl ?_
                refine l_iload rfl rfl ?_
                refine l_iconst rfl ?_
                refine l_icmp_ne rfl rfl (by unfold rg; omega) (by unfold rg; omega) (fun w177 => ?_) (fun w178 => ?_)
                · refine l_bipush rfl rfl ?_
                  refine l_bipush rfl rfl ?_
                  refine l_iload rfl rfl ?_
                  refine l_imul rfl ?_
                  refine l_iadd rfl ?_
                  refine l_iload rfl rfl ?_
                  refine l_iadd rfl ?_
                  refine l_pfi rfl rfl rfl rfl ?_
                  obtain ⟨U10, eU10⟩ : ∃ T : sS, T = uI T9 904 113 (Int32.ofInt ((100 + (100 * (Xi U1 915 ((z7).toNat)))) + z175)) := ⟨_, rfl⟩
                  rw [← eU10]
                  have hHU10 : HI U10 := by rw [eU10]; exact HI_w hHT9 (show -1 ≤ ((100 + (100 * (Xi U1 915 ((z7).toNat)))) + z175) by omega) (show ((100 + (100 * (Xi U1 915 ((z7).toNat)))) + z175) ≤ 6411 by omega)
                  have hFU10 : FR md_mo_adjective__2 S U10 := by rw [eU10]; exact FR.wI hFT9 (mdf_i (r := (904, 905, 113, 114)) (List.mem_of_getElem? (i := 1) rfl) (inR_i (by omega) (by omega) (by omega) (by omega)))
                  have w179 : Xi U10 904 113 = ((100 + (100 * (Xi U1 915 ((z7).toNat)))) + z175) := by rw [eU10]; exact Xi_same (by unfold rg; omega)
                  have z132 : Xi U10 904 32 = Xi S 904 32 := hFU10.x 904 32 rfl
                  have v132 : Xi U10 904 64 = Xi T9 904 64 := by rw [eU10, Xi_ne (by omega)]
                  refine l_aload_n rfl rfl ?_
                  refine l_gfi rfl rfl rfl rfl rfl ?_
                  have w180 : 0 ≤ (Xi U10 904 64) ∧ (Xi U10 904 64) ≤ 12 := hHU10.c _ _
                  refine l_ireturn rfl rfl ?_
                  have w181 : -1 ≤ Xi U10 904 113 ∧ Xi U10 904 113 ≤ 6411 := hHU10.c _ _
                  have w182 : Xi U10 904 23 = Xi S 904 23 := (show Xi U10 904 23 = Xi T9 904 23 from by rw [eU10]; exact Xi_ne (by omega)).trans ( (show Xi T9 904 23 = Xi U1 904 23 from w176.x _ _ rfl).trans ((show Xi U1 904 23 = Xi S 904 23 from by rw [eU1]; exact Xi_ne (by omega))))
                  have w183 : 0 ≤ Xi S 904 23 ∧ Xi S 904 23 ≤ 24 := hH.c _ _
                  have w184 : Xi U10 904 32 = Xi S 904 32 := (show Xi U10 904 32 = Xi T9 904 32 from by rw [eU10]; exact Xi_ne (by omega)).trans ( (show Xi T9 904 32 = Xi U1 904 32 from w176.x _ _ rfl).trans ((show Xi U1 904 32 = Xi S 904 32 from by rw [eU1]; exact Xi_ne (by omega))))
                  have w185 : 0 ≤ Xi S 904 32 ∧ Xi S 904 32 ≤ 12 := hH.c _ _
                  have w186 : Xi U10 904 64 = Xi T9 904 64 := (show Xi U10 904 64 = Xi T9 904 64 from by rw [eU10]; exact Xi_ne (by omega))
                  have w187 : 0 ≤ Xi T9 904 64 ∧ Xi T9 904 64 ≤ 12 := hHT9.c _ _
                  exact ⟨hHU10, hFU10, _, rfl, ⟨by omega, by omega⟩, (fun q => by first | (exfalso; omega) | exact Or.inl ⟨by omega, by omega⟩ | exact Or.inr ⟨by omega, by omega, by omega⟩), (fun q q2 q3 => by first | (exfalso; omega) | (rw [x74]; exact c67 (by omega))), (by unfold adR; rw [← m3]; first | rw [if_pos (by omega)] | (rw [if_neg (by omega), if_pos ⟨by omega, by omega, by omega⟩]) | (rw [if_neg (by omega), if_neg (fun q => by omega), if_pos ⟨by omega, by omega⟩]; omega) | (rw [if_neg (by omega), if_neg (fun q => by omega), if_neg (fun q => by omega)]))⟩
                · refine l_iconst rfl ?_
                  refine l_goto rfl rfl ?_
                  refine l_pfi rfl rfl rfl rfl ?_
                  obtain ⟨U11, eU11⟩ : ∃ T : sS, T = uI T9 904 113 (Int32.ofInt (-1)) := ⟨_, rfl⟩
                  rw [← eU11]
                  have hHU11 : HI U11 := by rw [eU11]; exact HI_w hHT9 (show -1 ≤ (-1) by omega) (show (-1) ≤ 6411 by omega)
                  have hFU11 : FR md_mo_adjective__2 S U11 := by rw [eU11]; exact FR.wI hFT9 (mdf_i (r := (904, 905, 113, 114)) (List.mem_of_getElem? (i := 1) rfl) (inR_i (by omega) (by omega) (by omega) (by omega)))
                  have w188 : Xi U11 904 113 = (-1) := by rw [eU11]; exact Xi_same (by unfold rg; omega)
                  have z132 : Xi U11 904 32 = Xi S 904 32 := hFU11.x 904 32 rfl
                  have v132 : Xi U11 904 64 = Xi T9 904 64 := by rw [eU11, Xi_ne (by omega)]
                  refine l_aload_n rfl rfl ?_
                  refine l_gfi rfl rfl rfl rfl rfl ?_
                  have w189 : 0 ≤ (Xi U11 904 64) ∧ (Xi U11 904 64) ≤ 12 := hHU11.c _ _
                  refine l_ireturn rfl rfl ?_
                  have w190 : -1 ≤ Xi U11 904 113 ∧ Xi U11 904 113 ≤ 6411 := hHU11.c _ _
                  have w191 : Xi U11 904 23 = Xi S 904 23 := (show Xi U11 904 23 = Xi T9 904 23 from by rw [eU11]; exact Xi_ne (by omega)).trans ( (show Xi T9 904 23 = Xi U1 904 23 from w176.x _ _ rfl).trans ((show Xi U1 904 23 = Xi S 904 23 from by rw [eU1]; exact Xi_ne (by omega))))
                  have w192 : 0 ≤ Xi S 904 23 ∧ Xi S 904 23 ≤ 24 := hH.c _ _
                  have w193 : Xi U11 904 32 = Xi S 904 32 := (show Xi U11 904 32 = Xi T9 904 32 from by rw [eU11]; exact Xi_ne (by omega)).trans ( (show Xi T9 904 32 = Xi U1 904 32 from w176.x _ _ rfl).trans ((show Xi U1 904 32 = Xi S 904 32 from by rw [eU1]; exact Xi_ne (by omega))))
                  have w194 : 0 ≤ Xi S 904 32 ∧ Xi S 904 32 ≤ 12 := hH.c _ _
                  have w195 : Xi U11 904 64 = Xi T9 904 64 := (show Xi U11 904 64 = Xi T9 904 64 from by rw [eU11]; exact Xi_ne (by omega))
                  have w196 : 0 ≤ Xi T9 904 64 ∧ Xi T9 904 64 ≤ 12 := hHT9.c _ _
                  exact ⟨hHU11, hFU11, _, rfl, ⟨by omega, by omega⟩, (fun q => by first | (exfalso; omega) | exact Or.inl ⟨by omega, by omega⟩ | exact Or.inr ⟨by omega, by omega, by omega⟩), (fun q q2 q3 => by first | (exfalso; omega) | (rw [x74]; exact c67 (by omega))), (by unfold adR; rw [← m3]; first | rw [if_pos (by omega)] | (rw [if_neg (by omega), if_pos ⟨by omega, by omega, by omega⟩]) | (rw [if_neg (by omega), if_neg (fun q => by omega), if_pos ⟨by omega, by omega⟩]; omega) | (rw [if_neg (by omega), if_neg (fun q => by omega), if_neg (fun q => by omega)]))⟩
          · refine l_aload_n rfl rfl ?_
            refine l_iload rfl rfl ?_
            refine l_pfi rfl rfl rfl rfl ?_
            obtain ⟨U12, eU12⟩ : ∃ T : sS, T = uI U1 904 113 (Int32.ofInt (Xi U1 915 ((z7).toNat))) := ⟨_, rfl⟩
            rw [← eU12]
            have hHU12 : HI U12 := by rw [eU12]; exact HI_w hHU1 (show -1 ≤ (Xi U1 915 ((z7).toNat)) by omega) (show (Xi U1 915 ((z7).toNat)) ≤ 6411 by omega)
            have hFU12 : FR md_mo_adjective__2 S U12 := by rw [eU12]; exact FR.wI hFU1 (mdf_i (r := (904, 905, 113, 114)) (List.mem_of_getElem? (i := 1) rfl) (inR_i (by omega) (by omega) (by omega) (by omega)))
            have w197 : Xi U12 904 113 = (Xi U1 915 ((z7).toNat)) := by rw [eU12]; exact Xi_same (by unfold rg; omega)
            have x74 : Xi U12 904 113 = (Xi U1 915 ((z7).toNat)) := by omega
            have z74 : Xi U12 904 23 = Xi S 904 23 := hFU12.x 904 23 rfl
            refine l_iconst rfl ?_
            refine l_ireturn rfl rfl ?_
            have w198 : -1 ≤ Xi U12 904 113 ∧ Xi U12 904 113 ≤ 6411 := hHU12.c _ _
            have w199 : Xi U12 904 23 = Xi S 904 23 := (show Xi U12 904 23 = Xi U1 904 23 from by rw [eU12]; exact Xi_ne (by omega)).trans ((show Xi U1 904 23 = Xi S 904 23 from by rw [eU1]; exact Xi_ne (by omega)))
            have w200 : 0 ≤ Xi S 904 23 ∧ Xi S 904 23 ≤ 24 := hH.c _ _
            have w201 : Xi U12 904 32 = Xi S 904 32 := (show Xi U12 904 32 = Xi U1 904 32 from by rw [eU12]; exact Xi_ne (by omega)).trans ((show Xi U1 904 32 = Xi S 904 32 from by rw [eU1]; exact Xi_ne (by omega)))
            have w202 : 0 ≤ Xi S 904 32 ∧ Xi S 904 32 ≤ 12 := hH.c _ _
            have w203 : Xi U12 904 64 = Xi S 904 64 := (show Xi U12 904 64 = Xi U1 904 64 from by rw [eU12]; exact Xi_ne (by omega)).trans ((show Xi U1 904 64 = Xi S 904 64 from by rw [eU1]; exact Xi_ne (by omega)))
            have w204 : 0 ≤ Xi S 904 64 ∧ Xi S 904 64 ≤ 12 := hH.c _ _
            exact ⟨hHU12, hFU12, _, rfl, ⟨by omega, by omega⟩, (fun q => by first | (exfalso; omega) | exact Or.inl ⟨by omega, by omega⟩ | exact Or.inr ⟨by omega, by omega, by omega⟩), (fun q q2 q3 => by first | (exfalso; omega) | (rw [x74]; exact c67 (by omega))), (by unfold adR; rw [← m3]; first | rw [if_pos (by omega)] | (rw [if_neg (by omega), if_pos ⟨by omega, by omega, by omega⟩]) | (rw [if_neg (by omega), if_neg (fun q => by omega), if_pos ⟨by omega, by omega⟩]; omega) | (rw [if_neg (by omega), if_neg (fun q => by omega), if_neg (fun q => by omega)]))⟩
  · refine l_iconst rfl ?_
    refine l_ireturn rfl rfl ?_
    have w205 : -1 ≤ Xi U1 904 113 ∧ Xi U1 904 113 ≤ 6411 := hHU1.c _ _
    have w206 : Xi U1 904 23 = Xi S 904 23 := (show Xi U1 904 23 = Xi S 904 23 from by rw [eU1]; exact Xi_ne (by omega))
    have w207 : 0 ≤ Xi S 904 23 ∧ Xi S 904 23 ≤ 24 := hH.c _ _
    have w208 : Xi U1 904 32 = Xi S 904 32 := (show Xi U1 904 32 = Xi S 904 32 from by rw [eU1]; exact Xi_ne (by omega))
    have w209 : 0 ≤ Xi S 904 32 ∧ Xi S 904 32 ≤ 12 := hH.c _ _
    have w210 : Xi U1 904 64 = Xi S 904 64 := (show Xi U1 904 64 = Xi S 904 64 from by rw [eU1]; exact Xi_ne (by omega))
    have w211 : 0 ≤ Xi S 904 64 ∧ Xi S 904 64 ≤ 12 := hH.c _ _
    exact ⟨hHU1, hFU1, _, rfl, ⟨by omega, by omega⟩, (fun q => by first | (exfalso; omega) | exact Or.inl ⟨by omega, by omega⟩ | exact Or.inr ⟨by omega, by omega, by omega⟩), (fun q q2 q3 => by first | (exfalso; omega) | (rw [x74]; exact c67 (by omega))), (by unfold adR; rw [← m3]; first | rw [if_pos (by omega)] | (rw [if_neg (by omega), if_pos ⟨by omega, by omega, by omega⟩]) | (rw [if_neg (by omega), if_neg (fun q => by omega), if_pos ⟨by omega, by omega⟩]; omega) | (rw [if_neg (by omega), if_neg (fun q => by omega), if_neg (fun q => by omega)]))⟩
