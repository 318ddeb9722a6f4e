/-! SAFETY of methods: printed by wip/safe (vc.py, decl.py) -/
def md_mo_rest__2 : List rec := [(904, 905, 8, 9), (904, 905, 65, 66), (904, 905, 66, 67), (904, 905, 69, 70), (904, 905, 70, 71), (904, 905, 73, 74), (904, 905, 74, 75), (904, 905, 75, 76), (904, 905, 76, 77), (904, 905, 78, 79), (950, 951, 0, 100000), (951, 952, 0, 100000)]
abbrev Q_mo_rest__2 (S : sS) (n : Nat) (c : Nat) : pst := fun r S1 => HI S1 ∧ FR md_mo_rest__2 S S1 ∧ (r = none ∧ (AT S1 n c) ∧ (Xi S 904 8 ≤ Xi S1 904 8 ∧ Xi S1 904 8 ≤ n) ∧ (RNV S1 n) ∧ (Xi S1 904 65 = 0 → Xi S 904 65 = 0) ∧ (Xi S 904 69 ≤ Xi S1 904 69) ∧ (10 ≤ Xi S1 904 70 ∧ Xi S1 904 70 ≤ 16) ∧ (Xi S1 904 65 = 0 → SNQ S1 n) ∧ (Xi S1 904 65 = 0 → Xi S1 904 70 = 11 → -1 ≤ Xi S1 904 78) ∧ (BDA S1))
set_option maxRecDepth 100000 in
set_option maxHeartbeats 8000000 in
theorem t_mo_rest__2 {S : sS} (hH : HI S) (n : Nat) (c : Nat) (hT : TK S n) (hA : AT S n c) (hv : RNV S n) (hb : Xi S 904 65 = 0) (hl : Xi S 904 71 + Xi S 904 72 ≤ Xi S 904 69 ∧ 1 ≤ Xi S 904 72) (hBDA : BDA S) (d : Nat) : Mt lay0 (d + 4) m_mo_rest [.ref 904] S (Q_mo_rest__2 S n c) := by
  refine Mt_R rfl rfl ?_
  have hF : FR md_mo_rest__2 S S := FR.rf
  have w1 : 0 ≤ Xi S 904 65 ∧ Xi S 904 65 ≤ 1 := hH.c _ _
  have w2 : 0 ≤ Xi S 904 69 ∧ Xi S 904 69 ≤ 2600 := hH.c _ _
  have w3 : 0 ≤ Xi S 904 70 ∧ Xi S 904 70 ≤ 20 := hH.c _ _
  have w4 : 0 ≤ Xi S 904 71 ∧ Xi S 904 71 ≤ 2600 := hH.c _ _
  have w5 : 0 ≤ Xi S 904 72 ∧ Xi S 904 72 ≤ 2600 := hH.c _ _
  have w6 : 0 ≤ Xi S 904 73 ∧ Xi S 904 73 ≤ 5 := hH.c _ _
  have w7 : -2 ≤ Xi S 904 78 ∧ Xi S 904 78 ≤ 5010 := hH.c _ _
  have w8 : 0 ≤ Xi S 904 8 ∧ Xi S 904 8 ≤ 5010 := hH.c _ _
  have hn5 := hT.1
  have hat := hA
  have h8 : 0 ≤ Xi S 904 8 ∧ Xi S 904 8 ≤ 5010 := hH.c _ _
  have h69 : 0 ≤ Xi S 904 69 ∧ Xi S 904 69 ≤ 2600 := hH.c _ _
  have ha0 : Xi S 904 65 = 0 → Xi S 904 8 ≤ n := fun q => (hA q).1
  have ha3 : Xi S 904 65 = 0 → 2 * Xi S 904 69 ≤ Xi S 904 8 + 1 := fun q => (hA q).2.1
  clear hat
  have hx := ha0 hb
  have C111 : ∀  (T1 : sS) (_ : HI T1) (_ : FR md_mo_rest__2 S T1) (v1 : Int), (0 ≤ v1 ∧ v1 ≤ 154) → (AT T1 n c) → (RNV T1 n) → (v1 ≠ 1 → Xi T1 904 65 = 0 ∧ Xi T1 907 (Xi T1 904 8).toNat = v1) → (Xi T1 904 8 = Xi S 904 8) → (Xi T1 904 65 = 0) → (Xi T1 904 69 = Xi S 904 69) → (Xi T1 904 71 = Xi S 904 71 ∧ Xi T1 904 72 = Xi S 904 72) → (Xi T1 904 73 = 0) → (BDA T1) → Rl lay0 (d + 3) m_mo_rest 111 [(0, .ref 904), (1, iv v1)] [] T1 (Q_mo_rest__2 S n c) := by
    intro T1 hHT1 hFT1 v1 w9 A111 V111 w10 w11 w12 w13 w14 w15 BDA_111
    have w16 : Xi T1 904 71 = Xi S 904 71 := hFT1.x _ _ rfl
    have w17 : Xi T1 904 72 = Xi S 904 72 := hFT1.x _ _ rfl
    have w18 : 0 ≤ Xi T1 904 65 ∧ Xi T1 904 65 ≤ 1 := hHT1.c _ _
    have w19 : 0 ≤ Xi T1 904 69 ∧ Xi T1 904 69 ≤ 2600 := hHT1.c _ _
    have w20 : 0 ≤ Xi T1 904 71 ∧ Xi T1 904 71 ≤ 2600 := hHT1.c _ _
    have w21 : 0 ≤ Xi T1 904 72 ∧ Xi T1 904 72 ≤ 2600 := hHT1.c _ _
    have w22 : 0 ≤ Xi T1 904 73 ∧ Xi T1 904 73 ≤ 5 := hHT1.c _ _
    have w23 : 0 ≤ Xi T1 904 8 ∧ Xi T1 904 8 ≤ 5010 := hHT1.c _ _
    have C197 : ∀  (v1 : Int), (0 ≤ v1 ∧ v1 ≤ 154) → (AT T1 n c) → (RNV T1 n) → (v1 ≠ 1 → Xi T1 904 65 = 0 ∧ Xi T1 907 (Xi T1 904 8).toNat = v1) → (Xi T1 904 8 = Xi S 904 8) → (Xi T1 904 65 = 0) → (Xi T1 904 69 = Xi S 904 69) → (Xi T1 904 71 = Xi S 904 71 ∧ Xi T1 904 72 = Xi S 904 72) → (Xi T1 904 73 = 0) → (BDA T1) → Rl lay0 (d + 3) m_mo_rest 197 [(0, .ref 904), (1, iv v1)] [] T1 (Q_mo_rest__2 S n c) := by
      intro v1 w24 A197 V197 w25 w26 w27 w28 w29 w30 BDA_197
      have C313 : ∀  (T2 : sS) (_ : HI T2) (_ : FR md_mo_rest__2 S T2), (AT T2 n c) → (RNV T2 n) → (v1 ≠ 1 → Xi T2 904 65 = 0 ∧ Xi T2 907 (Xi T2 904 8).toNat = v1) → (Xi T2 904 8 = Xi S 904 8) → (Xi T2 904 65 = 0) → (Xi T2 904 69 = Xi S 904 69) → (Xi T2 904 71 = Xi S 904 71 ∧ Xi T2 904 72 = Xi S 904 72) → (Xi T2 904 73 = 0) → (Xi T2 904 70 = 15) → (v1 ≠ 1) → (BDA T2) → Rl lay0 (d + 3) m_mo_rest 313 [(0, .ref 904)] [] T2 (Q_mo_rest__2 S n c) := by
        intro T2 hHT2 hFT2 A313 V313 L313 w31 w32 w33 w34 w35 w36 w37 BDA_313
        have w38 : Xi T2 904 71 = Xi S 904 71 := hFT2.x _ _ rfl
        have w39 : Xi T2 904 72 = Xi S 904 72 := hFT2.x _ _ rfl
        have w40 : 0 ≤ Xi T2 904 65 ∧ Xi T2 904 65 ≤ 1 := hHT2.c _ _
        have w41 : 0 ≤ Xi T2 904 69 ∧ Xi T2 904 69 ≤ 2600 := hHT2.c _ _
        have w42 : 0 ≤ Xi T2 904 70 ∧ Xi T2 904 70 ≤ 20 := hHT2.c _ _
        have w43 : 0 ≤ Xi T2 904 71 ∧ Xi T2 904 71 ≤ 2600 := hHT2.c _ _
        have w44 : 0 ≤ Xi T2 904 72 ∧ Xi T2 904 72 ≤ 2600 := hHT2.c _ _
        have w45 : 0 ≤ Xi T2 904 73 ∧ Xi T2 904 73 ≤ 5 := hHT2.c _ _
        have w46 : 0 ≤ Xi T2 904 8 ∧ Xi T2 904 8 ≤ 5010 := hHT2.c _ _
        refine l_aload_n rfl rfl ?_
        refine l_dup rfl rfl ?_
        refine l_gfi rfl rfl rfl rfl rfl ?_
        refine l_iconst rfl ?_
        refine l_iadd rfl ?_
        refine l_pfi rfl rfl rfl rfl ?_
        obtain ⟨U3, eU3⟩ : ∃ T : sS, T = uI T2 904 8 (Int32.ofInt ((Xi T2 904 8) + 1)) := ⟨_, rfl⟩
        rw [← eU3]
        have hHU3 : HI U3 := by rw [eU3]; exact HI_w hHT2 (show 0 ≤ ((Xi T2 904 8) + 1) by omega) (show ((Xi T2 904 8) + 1) ≤ 5010 by omega)
        have hFU3 : FR md_mo_rest__2 S U3 := by rw [eU3]; exact FR.wI hFT2 (mdf_i (r := (904, 905, 8, 9)) (List.mem_of_getElem? (i := 0) rfl) (inR_i (by omega) (by omega) (by omega) (by omega)))
        have w47 : Xi U3 904 8 = ((Xi T2 904 8) + 1) := by rw [eU3]; exact Xi_same (by unfold rg; omega)
        have t320 : AT U3 n c ∧ _ := (at_mv (S := T2) (P := T2) (TK_FR hFT2 rfl (by assumption : TK S _)) (by first | assumption | exact (by assumption : AT T2 _ _)) (fun j => rfl) (fun j => rfl) (rfl) (rfl) (rfl) (rfl) eU3 (by omega) (by omega) (by omega) (by omega) (Or.inl rfl))
        have a320 : AT U3 n c := t320.1
        have l320 := t320.2
        refine l_aload_n rfl rfl ?_
        refine l_aload_n rfl rfl ?_
        have w48 : Xi U3 904 65 = Xi T2 904 65 := (show Xi U3 904 65 = Xi T2 904 65 from by rw [eU3]; exact Xi_ne (by omega))
        have w49 : 0 ≤ Xi T2 904 65 ∧ Xi T2 904 65 ≤ 1 := hHT2.c _ _
        have w50 : Xi U3 904 69 = Xi T2 904 69 := (show Xi U3 904 69 = Xi T2 904 69 from by rw [eU3]; exact Xi_ne (by omega))
        have w51 : 0 ≤ Xi T2 904 69 ∧ Xi T2 904 69 ≤ 2600 := hHT2.c _ _
        have w52 : Xi U3 904 70 = Xi T2 904 70 := (show Xi U3 904 70 = Xi T2 904 70 from by rw [eU3]; exact Xi_ne (by omega))
        have w53 : 0 ≤ Xi T2 904 70 ∧ Xi T2 904 70 ≤ 20 := hHT2.c _ _
        have w54 : Xi U3 904 71 = Xi T2 904 71 := (show Xi U3 904 71 = Xi T2 904 71 from by rw [eU3]; exact Xi_ne (by omega))
        have w55 : 0 ≤ Xi T2 904 71 ∧ Xi T2 904 71 ≤ 2600 := hHT2.c _ _
        have w56 : Xi U3 904 72 = Xi T2 904 72 := (show Xi U3 904 72 = Xi T2 904 72 from by rw [eU3]; exact Xi_ne (by omega))
        have w57 : 0 ≤ Xi T2 904 72 ∧ Xi T2 904 72 ≤ 2600 := hHT2.c _ _
        have w58 : Xi U3 904 73 = Xi T2 904 73 := (show Xi U3 904 73 = Xi T2 904 73 from by rw [eU3]; exact Xi_ne (by omega))
        have w59 : 0 ≤ Xi T2 904 73 ∧ Xi T2 904 73 ≤ 5 := hHT2.c _ _
        have w60 : Xi U3 904 74 = Xi T2 904 74 := (show Xi U3 904 74 = Xi T2 904 74 from by rw [eU3]; exact Xi_ne (by omega))
        have w61 : 0 ≤ Xi T2 904 74 ∧ Xi T2 904 74 ≤ 2600 := hHT2.c _ _
        have w62 : Xi U3 904 78 = Xi T2 904 78 := (show Xi U3 904 78 = Xi T2 904 78 from by rw [eU3]; exact Xi_ne (by omega))
        have w63 : -2 ≤ Xi T2 904 78 ∧ Xi T2 904 78 ≤ 5010 := hHT2.c _ _
        have w64 : 0 ≤ Xi U3 904 8 ∧ Xi U3 904 8 ≤ 5010 := hHU3.c _ _
        have w65 : Xi U3 904 93 = Xi T2 904 93 := (show Xi U3 904 93 = Xi T2 904 93 from by rw [eU3]; exact Xi_ne (by omega))
        have w66 : 0 ≤ Xi T2 904 93 ∧ Xi T2 904 93 ≤ 1700 := hHT2.c _ _
        refine l_callV rfl rfl rfl (t_mo_run__2 hHU3 n c (by first | assumption | exact (TK_FR hFU3 rfl (by assumption : TK S _))) (by first | assumption | exact (by assumption : AT U3 _ _)) (by first | assumption | exact (RNV_FR (FR_e eU3) rfl (by assumption : RNV T2 _))) (by first | assumption | exact (BDA_FR (FR_e eU3) rfl (by assumption : BDA T2))) _) ?_
        rintro _ T4 ⟨hHT4, w74, z73, rfl, w73, w67, w68, w69, w70, w71, w72⟩
        have hFT4 : FR md_mo_rest__2 S T4 := FR.tr hFU3 w74 rfl
        show Rl _ _ _ _ _ [iv z73, .ref 904] _ _
        have w76 : 0 ≤ Xi T4 904 8 ∧ Xi T4 904 8 ≤ 5010 := hHT4.c _ _
        have w77 : 0 ≤ Xi T4 904 65 ∧ Xi T4 904 65 ≤ 1 := hHT4.c _ _
        have w78 : 0 ≤ Xi T4 904 69 ∧ Xi T4 904 69 ≤ 2600 := hHT4.c _ _
        have w79 : Xi T4 904 93 = Xi T2 904 93 := (show Xi T4 904 93 = Xi U3 904 93 from w74.x _ _ rfl).trans ((show Xi U3 904 93 = Xi T2 904 93 from by rw [eU3]; exact Xi_ne (by omega)))
        have w80 : 0 ≤ Xi T2 904 93 ∧ Xi T2 904 93 ≤ 1700 := hHT2.c _ _
        have w75 : Xi S 904 8 ≤ Xi T4 904 8 ∧ Xi T4 904 8 ≤ n ∧ Xi S 904 69 ≤ Xi T4 904 69 ∧ (Xi T4 904 65 = 0 → Xi S 904 65 = 0) := by omega
        clear w68
        refine l_pfi rfl rfl rfl rfl ?_
        obtain ⟨U5, eU5⟩ : ∃ T : sS, T = uI T4 904 78 (Int32.ofInt z73) := ⟨_, rfl⟩
        rw [← eU5]
        have hHU5 : HI U5 := by rw [eU5]; exact HI_w hHT4 (show -2 ≤ z73 by omega) (show z73 ≤ 5010 by omega)
        have hFU5 : FR md_mo_rest__2 S U5 := by rw [eU5]; exact FR.wI hFT4 (mdf_i (r := (904, 905, 78, 79)) (List.mem_of_getElem? (i := 9) rfl) (inR_i (by omega) (by omega) (by omega) (by omega)))
        have w81 : Xi U5 904 78 = z73 := by rw [eU5]; exact Xi_same (by unfold rg; omega)
        refine l_goto rfl rfl ?_
        refine l_return rfl rfl ?_
        have w82 : Xi U5 904 65 = Xi T4 904 65 := (show Xi U5 904 65 = Xi T4 904 65 from by rw [eU5]; exact Xi_ne (by omega))
        have w83 : 0 ≤ Xi T4 904 65 ∧ Xi T4 904 65 ≤ 1 := hHT4.c _ _
        have w84 : Xi U5 904 69 = Xi T4 904 69 := (show Xi U5 904 69 = Xi T4 904 69 from by rw [eU5]; exact Xi_ne (by omega))
        have w85 : 0 ≤ Xi T4 904 69 ∧ Xi T4 904 69 ≤ 2600 := hHT4.c _ _
        have w86 : Xi U5 904 70 = Xi T2 904 70 := (show Xi U5 904 70 = Xi T4 904 70 from by rw [eU5]; exact Xi_ne (by omega)).trans ( (show Xi T4 904 70 = Xi U3 904 70 from w74.x _ _ rfl).trans ((show Xi U3 904 70 = Xi T2 904 70 from by rw [eU3]; exact Xi_ne (by omega))))
        have w87 : 0 ≤ Xi T2 904 70 ∧ Xi T2 904 70 ≤ 20 := hHT2.c _ _
        have w88 : Xi U5 904 71 = Xi T2 904 71 := (show Xi U5 904 71 = Xi T4 904 71 from by rw [eU5]; exact Xi_ne (by omega)).trans ( (show Xi T4 904 71 = Xi U3 904 71 from w74.x _ _ rfl).trans ((show Xi U3 904 71 = Xi T2 904 71 from by rw [eU3]; exact Xi_ne (by omega))))
        have w89 : 0 ≤ Xi T2 904 71 ∧ Xi T2 904 71 ≤ 2600 := hHT2.c _ _
        have w90 : Xi U5 904 72 = Xi T2 904 72 := (show Xi U5 904 72 = Xi T4 904 72 from by rw [eU5]; exact Xi_ne (by omega)).trans ( (show Xi T4 904 72 = Xi U3 904 72 from w74.x _ _ rfl).trans ((show Xi U3 904 72 = Xi T2 904 72 from by rw [eU3]; exact Xi_ne (by omega))))
        have w91 : 0 ≤ Xi T2 904 72 ∧ Xi T2 904 72 ≤ 2600 := hHT2.c _ _
        have w92 : Xi U5 904 73 = Xi T2 904 73 := (show Xi U5 904 73 = Xi T4 904 73 from by rw [eU5]; exact Xi_ne (by omega)).trans ( (show Xi T4 904 73 = Xi U3 904 73 from w74.x _ _ rfl).trans ((show Xi U3 904 73 = Xi T2 904 73 from by rw [eU3]; exact Xi_ne (by omega))))
        have w93 : 0 ≤ Xi T2 904 73 ∧ Xi T2 904 73 ≤ 5 := hHT2.c _ _
        have w94 : Xi U5 904 74 = Xi T2 904 74 := (show Xi U5 904 74 = Xi T4 904 74 from by rw [eU5]; exact Xi_ne (by omega)).trans ( (show Xi T4 904 74 = Xi U3 904 74 from w74.x _ _ rfl).trans ((show Xi U3 904 74 = Xi T2 904 74 from by rw [eU3]; exact Xi_ne (by omega))))
        have w95 : 0 ≤ Xi T2 904 74 ∧ Xi T2 904 74 ≤ 2600 := hHT2.c _ _
        have w96 : -2 ≤ Xi U5 904 78 ∧ Xi U5 904 78 ≤ 5010 := hHU5.c _ _
        have w97 : Xi U5 904 8 = Xi T4 904 8 := (show Xi U5 904 8 = Xi T4 904 8 from by rw [eU5]; exact Xi_ne (by omega))
        have w98 : 0 ≤ Xi T4 904 8 ∧ Xi T4 904 8 ≤ 5010 := hHT4.c _ _
        have w99 : Xi U5 904 93 = Xi T2 904 93 := (show Xi U5 904 93 = Xi T4 904 93 from by rw [eU5]; exact Xi_ne (by omega)).trans ( (show Xi T4 904 93 = Xi U3 904 93 from w74.x _ _ rfl).trans ((show Xi U3 904 93 = Xi T2 904 93 from by rw [eU3]; exact Xi_ne (by omega))))
        have w100 : 0 ≤ Xi T2 904 93 ∧ Xi T2 904 93 ≤ 1700 := hHT2.c _ _
        exact ⟨hHU5, hFU5, rfl, (by first | assumption | exact (AT_FR (FR_e eU5) rfl (by assumption : AT T4 _ _))), (by omega), (by first | assumption | exact (RNV_FR (FR_e eU5) rfl (by assumption : RNV T4 _))), (by omega), (by omega), (by omega), (fun q => by unfold SNQ; refine ⟨fun q1 => absurd q1 (by omega), by omega, by omega, by omega, fun q9 => absurd q9 (by omega), by omega, by omega, by omega, by omega, by omega⟩), (by omega), (by first | assumption | exact (BDA_FR (FR_e eU5) rfl (by assumption : BDA T4)))⟩
      have C413 : ∀ (n413 : Nat) (T6 : sS) (_ : HI T6) (_ : FR md_mo_rest__2 S T6), (AT T6 n c) → (RNV T6 n) → (Xi S 904 8 ≤ Xi T6 904 8 ∧ Xi T6 904 8 ≤ n) → (Xi S 904 69 ≤ Xi T6 904 69) → (Xi T6 904 70 = 16) → (Xi T6 904 65 = 0 → 0 ≤ Xi T6 904 78 ∧ Xi T6 904 78 < Xi T6 904 69) → (Xi T6 904 71 = Xi S 904 71 ∧ Xi T6 904 72 = Xi S 904 72) → (BDA T6) → n413 = (5002 - Xi T6 904 8).toNat → Rl lay0 (d + 3) m_mo_rest 413 [(0, .ref 904)] [] T6 (Q_mo_rest__2 S n c) := by
        intro n413
        induction n413 using Nat.strongRecOn with
        | ind n413 ih413 =>
          intro T6 hHT6 hFT6 A413 V413 w101 w102 w103 w104 w105 BDA_413 hm413
          have w106 : Xi T6 904 71 = Xi S 904 71 := hFT6.x _ _ rfl
          have w107 : Xi T6 904 72 = Xi S 904 72 := hFT6.x _ _ rfl
          have w108 : 0 ≤ Xi T6 904 65 ∧ Xi T6 904 65 ≤ 1 := hHT6.c _ _
          have w109 : 0 ≤ Xi T6 904 69 ∧ Xi T6 904 69 ≤ 2600 := hHT6.c _ _
          have w110 : 0 ≤ Xi T6 904 70 ∧ Xi T6 904 70 ≤ 20 := hHT6.c _ _
          have w111 : 0 ≤ Xi T6 904 71 ∧ Xi T6 904 71 ≤ 2600 := hHT6.c _ _
          have w112 : 0 ≤ Xi T6 904 72 ∧ Xi T6 904 72 ≤ 2600 := hHT6.c _ _
          have w113 : -2 ≤ Xi T6 904 78 ∧ Xi T6 904 78 ≤ 5010 := hHT6.c _ _
          have w114 : 0 ≤ Xi T6 904 8 ∧ Xi T6 904 8 ≤ 5010 := hHT6.c _ _
          refine l_aload_n rfl rfl ?_
          refine l_gfi rfl rfl rfl rfl rfl ?_
          refine l_if_ne rfl rfl (by unfold rg; omega) (fun w115 => ?_) (fun w116 => ?_)
          · refine l_return rfl rfl ?_
            have w117 : 0 ≤ Xi T6 904 65 ∧ Xi T6 904 65 ≤ 1 := hHT6.c _ _
            have w118 : 0 ≤ Xi T6 904 69 ∧ Xi T6 904 69 ≤ 2600 := hHT6.c _ _
            have w119 : 0 ≤ Xi T6 904 70 ∧ Xi T6 904 70 ≤ 20 := hHT6.c _ _
            have w120 : 0 ≤ Xi T6 904 71 ∧ Xi T6 904 71 ≤ 2600 := hHT6.c _ _
            have w121 : 0 ≤ Xi T6 904 72 ∧ Xi T6 904 72 ≤ 2600 := hHT6.c _ _
            have w122 : 0 ≤ Xi T6 904 73 ∧ Xi T6 904 73 ≤ 5 := hHT6.c _ _
            have w123 : 0 ≤ Xi T6 904 74 ∧ Xi T6 904 74 ≤ 2600 := hHT6.c _ _
            have w124 : -2 ≤ Xi T6 904 78 ∧ Xi T6 904 78 ≤ 5010 := hHT6.c _ _
            have w125 : 0 ≤ Xi T6 904 8 ∧ Xi T6 904 8 ≤ 5010 := hHT6.c _ _
            have w126 : 0 ≤ Xi T6 904 93 ∧ Xi T6 904 93 ≤ 1700 := hHT6.c _ _
            exact ⟨hHT6, hFT6, rfl, (by first | assumption | exact (by assumption : AT T6 _ _)), (by omega), (by first | assumption | exact (by assumption : RNV T6 _)), (by omega), (by omega), (by omega), (fun q => by unfold SNQ; refine ⟨fun q1 => absurd q1 (by omega), by omega, by omega, by omega, fun q9 => absurd q9 (by omega), by omega, by omega, by omega, by omega, by omega⟩), (by omega), (by first | assumption | exact (by assumption : BDA T6))⟩
          · refine l_aload_n rfl rfl ?_
            have w127 : 0 ≤ Xi T6 904 65 ∧ Xi T6 904 65 ≤ 1 := hHT6.c _ _
            have w128 : 0 ≤ Xi T6 904 69 ∧ Xi T6 904 69 ≤ 2600 := hHT6.c _ _
            have w129 : 0 ≤ Xi T6 904 70 ∧ Xi T6 904 70 ≤ 20 := hHT6.c _ _
            have w130 : 0 ≤ Xi T6 904 71 ∧ Xi T6 904 71 ≤ 2600 := hHT6.c _ _
            have w131 : 0 ≤ Xi T6 904 72 ∧ Xi T6 904 72 ≤ 2600 := hHT6.c _ _
            have w132 : 0 ≤ Xi T6 904 73 ∧ Xi T6 904 73 ≤ 5 := hHT6.c _ _
            have w133 : 0 ≤ Xi T6 904 74 ∧ Xi T6 904 74 ≤ 2600 := hHT6.c _ _
            have w134 : -2 ≤ Xi T6 904 78 ∧ Xi T6 904 78 ≤ 5010 := hHT6.c _ _
            have w135 : 0 ≤ Xi T6 904 8 ∧ Xi T6 904 8 ≤ 5010 := hHT6.c _ _
            have w136 : 0 ≤ Xi T6 904 93 ∧ Xi T6 904 93 ≤ 1700 := hHT6.c _ _
            refine l_callV rfl rfl rfl (t_mo_isMore hHT6 n c (by first | assumption | exact (TK_FR hFT6 rfl (by assumption : TK S _))) (by first | assumption | exact (by assumption : AT T6 _ _)) _) ?_
            rintro _ T7 ⟨hHT7, w142, z141, rfl, w141, w137, w138, w139, w140⟩
            have hFT7 : FR md_mo_rest__2 S T7 := FR.tr hFT6 w142 rfl
            show Rl _ _ _ _ _ [iv z141] _ _
            have w144 : 0 ≤ Xi T7 904 8 ∧ Xi T7 904 8 ≤ 5010 := hHT7.c _ _
            have w145 : Xi T7 904 65 = Xi T6 904 65 := (show Xi T7 904 65 = Xi T6 904 65 from w142.x _ _ rfl)
            have w146 : 0 ≤ Xi T6 904 65 ∧ Xi T6 904 65 ≤ 1 := hHT6.c _ _
            have w147 : Xi T7 904 69 = Xi T6 904 69 := (show Xi T7 904 69 = Xi T6 904 69 from w142.x _ _ rfl)
            have w148 : 0 ≤ Xi T6 904 69 ∧ Xi T6 904 69 ≤ 2600 := hHT6.c _ _
            have w149 : Xi T7 904 93 = Xi T6 904 93 := (show Xi T7 904 93 = Xi T6 904 93 from w142.x _ _ rfl)
            have w150 : 0 ≤ Xi T6 904 93 ∧ Xi T6 904 93 ≤ 1700 := hHT6.c _ _
            have w143 : Xi S 904 8 ≤ Xi T7 904 8 ∧ Xi T7 904 8 ≤ n ∧ Xi S 904 69 ≤ Xi T7 904 69 ∧ (Xi T7 904 65 = 0 → Xi S 904 65 = 0) := by omega
            clear w138
            refine l_if_eq rfl rfl (by unfold rg; omega) (fun w151 => ?_) (fun w152 => ?_)
            · refine l_return rfl rfl ?_
              have w153 : Xi T7 904 65 = Xi T6 904 65 := (show Xi T7 904 65 = Xi T6 904 65 from w142.x _ _ rfl)
              have w154 : 0 ≤ Xi T6 904 65 ∧ Xi T6 904 65 ≤ 1 := hHT6.c _ _
              have w155 : Xi T7 904 69 = Xi T6 904 69 := (show Xi T7 904 69 = Xi T6 904 69 from w142.x _ _ rfl)
              have w156 : 0 ≤ Xi T6 904 69 ∧ Xi T6 904 69 ≤ 2600 := hHT6.c _ _
              have w157 : Xi T7 904 70 = Xi T6 904 70 := (show Xi T7 904 70 = Xi T6 904 70 from w142.x _ _ rfl)
              have w158 : 0 ≤ Xi T6 904 70 ∧ Xi T6 904 70 ≤ 20 := hHT6.c _ _
              have w159 : Xi T7 904 71 = Xi T6 904 71 := (show Xi T7 904 71 = Xi T6 904 71 from w142.x _ _ rfl)
              have w160 : 0 ≤ Xi T6 904 71 ∧ Xi T6 904 71 ≤ 2600 := hHT6.c _ _
              have w161 : Xi T7 904 72 = Xi T6 904 72 := (show Xi T7 904 72 = Xi T6 904 72 from w142.x _ _ rfl)
              have w162 : 0 ≤ Xi T6 904 72 ∧ Xi T6 904 72 ≤ 2600 := hHT6.c _ _
              have w163 : Xi T7 904 73 = Xi T6 904 73 := (show Xi T7 904 73 = Xi T6 904 73 from w142.x _ _ rfl)
              have w164 : 0 ≤ Xi T6 904 73 ∧ Xi T6 904 73 ≤ 5 := hHT6.c _ _
              have w165 : Xi T7 904 74 = Xi T6 904 74 := (show Xi T7 904 74 = Xi T6 904 74 from w142.x _ _ rfl)
              have w166 : 0 ≤ Xi T6 904 74 ∧ Xi T6 904 74 ≤ 2600 := hHT6.c _ _
              have w167 : Xi T7 904 78 = Xi T6 904 78 := (show Xi T7 904 78 = Xi T6 904 78 from w142.x _ _ rfl)
              have w168 : -2 ≤ Xi T6 904 78 ∧ Xi T6 904 78 ≤ 5010 := hHT6.c _ _
              have w169 : 0 ≤ Xi T7 904 8 ∧ Xi T7 904 8 ≤ 5010 := hHT7.c _ _
              have w170 : Xi T7 904 93 = Xi T6 904 93 := (show Xi T7 904 93 = Xi T6 904 93 from w142.x _ _ rfl)
              have w171 : 0 ≤ Xi T6 904 93 ∧ Xi T6 904 93 ≤ 1700 := hHT6.c _ _
              exact ⟨hHT7, hFT7, rfl, (by first | assumption | exact (by assumption : AT T7 _ _)), (by omega), (by first | assumption | exact (RNV_FR w142 rfl (by assumption : RNV T6 _))), (by omega), (by omega), (by omega), (fun q => by unfold SNQ; refine ⟨fun q1 => absurd q1 (by omega), by omega, by omega, by omega, fun q9 => absurd q9 (by omega), by omega, by omega, by omega, by omega, by omega⟩), (by omega), (by first | assumption | exact (BDA_FR w142 rfl (by assumption : BDA T6)))⟩
            · refine l_aload_n rfl rfl ?_
              have w172 : Xi T7 904 65 = Xi T6 904 65 := (show Xi T7 904 65 = Xi T6 904 65 from w142.x _ _ rfl)
              have w173 : 0 ≤ Xi T6 904 65 ∧ Xi T6 904 65 ≤ 1 := hHT6.c _ _
              have w174 : Xi T7 904 69 = Xi T6 904 69 := (show Xi T7 904 69 = Xi T6 904 69 from w142.x _ _ rfl)
              have w175 : 0 ≤ Xi T6 904 69 ∧ Xi T6 904 69 ≤ 2600 := hHT6.c _ _
              have w176 : Xi T7 904 70 = Xi T6 904 70 := (show Xi T7 904 70 = Xi T6 904 70 from w142.x _ _ rfl)
              have w177 : 0 ≤ Xi T6 904 70 ∧ Xi T6 904 70 ≤ 20 := hHT6.c _ _
              have w178 : Xi T7 904 71 = Xi T6 904 71 := (show Xi T7 904 71 = Xi T6 904 71 from w142.x _ _ rfl)
              have w179 : 0 ≤ Xi T6 904 71 ∧ Xi T6 904 71 ≤ 2600 := hHT6.c _ _
              have w180 : Xi T7 904 72 = Xi T6 904 72 := (show Xi T7 904 72 = Xi T6 904 72 from w142.x _ _ rfl)
              have w181 : 0 ≤ Xi T6 904 72 ∧ Xi T6 904 72 ≤ 2600 := hHT6.c _ _
              have w182 : Xi T7 904 73 = Xi T6 904 73 := (show Xi T7 904 73 = Xi T6 904 73 from w142.x _ _ rfl)
              have w183 : 0 ≤ Xi T6 904 73 ∧ Xi T6 904 73 ≤ 5 := hHT6.c _ _
              have w184 : Xi T7 904 74 = Xi T6 904 74 := (show Xi T7 904 74 = Xi T6 904 74 from w142.x _ _ rfl)
              have w185 : 0 ≤ Xi T6 904 74 ∧ Xi T6 904 74 ≤ 2600 := hHT6.c _ _
              have w186 : Xi T7 904 78 = Xi T6 904 78 := (show Xi T7 904 78 = Xi T6 904 78 from w142.x _ _ rfl)
              have w187 : -2 ≤ Xi T6 904 78 ∧ Xi T6 904 78 ≤ 5010 := hHT6.c _ _
              have w188 : 0 ≤ Xi T7 904 8 ∧ Xi T7 904 8 ≤ 5010 := hHT7.c _ _
              have w189 : Xi T7 904 93 = Xi T6 904 93 := (show Xi T7 904 93 = Xi T6 904 93 from w142.x _ _ rfl)
              have w190 : 0 ≤ Xi T6 904 93 ∧ Xi T6 904 93 ≤ 1700 := hHT6.c _ _
              refine l_callV rfl rfl rfl (t_mo_run__2 hHT7 n c (by first | assumption | exact (TK_FR hFT7 rfl (by assumption : TK S _))) (by first | assumption | exact (by assumption : AT T7 _ _)) (by first | assumption | exact (RNV_FR w142 rfl (by assumption : RNV T6 _))) (by first | assumption | exact (BDA_FR w142 rfl (by assumption : BDA T6))) _) ?_
              rintro _ T8 ⟨hHT8, w198, z197, rfl, w197, w191, w192, w193, w194, w195, w196⟩
              have hFT8 : FR md_mo_rest__2 S T8 := FR.tr hFT7 w198 rfl
              show Rl _ _ _ _ _ [iv z197] _ _
              have w200 : 0 ≤ Xi T8 904 8 ∧ Xi T8 904 8 ≤ 5010 := hHT8.c _ _
              have w201 : 0 ≤ Xi T8 904 65 ∧ Xi T8 904 65 ≤ 1 := hHT8.c _ _
              have w202 : 0 ≤ Xi T8 904 69 ∧ Xi T8 904 69 ≤ 2600 := hHT8.c _ _
              have w203 : Xi T8 904 93 = Xi T6 904 93 := (show Xi T8 904 93 = Xi T7 904 93 from w198.x _ _ rfl).trans ((show Xi T7 904 93 = Xi T6 904 93 from w142.x _ _ rfl))
              have w204 : 0 ≤ Xi T6 904 93 ∧ Xi T6 904 93 ≤ 1700 := hHT6.c _ _
              have n428 : Xi T7 904 8 ≤ Xi T8 904 8 := by omega
              have w199 : Xi S 904 8 ≤ Xi T8 904 8 ∧ Xi T8 904 8 ≤ n ∧ Xi S 904 69 ≤ Xi T8 904 69 ∧ (Xi T8 904 65 = 0 → Xi S 904 65 = 0) := by omega
              clear w192 w143
              refine l_pop rfl rfl ?_
              refine l_goto rfl rfl ?_
              have w205 : 0 ≤ Xi T8 904 65 ∧ Xi T8 904 65 ≤ 1 := hHT8.c _ _
              have w206 : 0 ≤ Xi T8 904 69 ∧ Xi T8 904 69 ≤ 2600 := hHT8.c _ _
              have w207 : Xi T8 904 70 = Xi T6 904 70 := (show Xi T8 904 70 = Xi T7 904 70 from w198.x _ _ rfl).trans ((show Xi T7 904 70 = Xi T6 904 70 from w142.x _ _ rfl))
              have w208 : 0 ≤ Xi T6 904 70 ∧ Xi T6 904 70 ≤ 20 := hHT6.c _ _
              have w209 : Xi T8 904 71 = Xi T6 904 71 := (show Xi T8 904 71 = Xi T7 904 71 from w198.x _ _ rfl).trans ((show Xi T7 904 71 = Xi T6 904 71 from w142.x _ _ rfl))
              have w210 : 0 ≤ Xi T6 904 71 ∧ Xi T6 904 71 ≤ 2600 := hHT6.c _ _
              have w211 : Xi T8 904 72 = Xi T6 904 72 := (show Xi T8 904 72 = Xi T7 904 72 from w198.x _ _ rfl).trans ((show Xi T7 904 72 = Xi T6 904 72 from w142.x _ _ rfl))
              have w212 : 0 ≤ Xi T6 904 72 ∧ Xi T6 904 72 ≤ 2600 := hHT6.c _ _
              have w213 : Xi T8 904 73 = Xi T6 904 73 := (show Xi T8 904 73 = Xi T7 904 73 from w198.x _ _ rfl).trans ((show Xi T7 904 73 = Xi T6 904 73 from w142.x _ _ rfl))
              have w214 : 0 ≤ Xi T6 904 73 ∧ Xi T6 904 73 ≤ 5 := hHT6.c _ _
              have w215 : Xi T8 904 74 = Xi T6 904 74 := (show Xi T8 904 74 = Xi T7 904 74 from w198.x _ _ rfl).trans ((show Xi T7 904 74 = Xi T6 904 74 from w142.x _ _ rfl))
              have w216 : 0 ≤ Xi T6 904 74 ∧ Xi T6 904 74 ≤ 2600 := hHT6.c _ _
              have w217 : Xi T8 904 78 = Xi T6 904 78 := (show Xi T8 904 78 = Xi T7 904 78 from w198.x _ _ rfl).trans ((show Xi T7 904 78 = Xi T6 904 78 from w142.x _ _ rfl))
              have w218 : -2 ≤ Xi T6 904 78 ∧ Xi T6 904 78 ≤ 5010 := hHT6.c _ _
              have w219 : 0 ≤ Xi T8 904 8 ∧ Xi T8 904 8 ≤ 5010 := hHT8.c _ _
              have w220 : Xi T8 904 93 = Xi T6 904 93 := (show Xi T8 904 93 = Xi T7 904 93 from w198.x _ _ rfl).trans ((show Xi T7 904 93 = Xi T6 904 93 from w142.x _ _ rfl))
              have w221 : 0 ≤ Xi T6 904 93 ∧ Xi T6 904 93 ≤ 1700 := hHT6.c _ _
              exact Rl_weak (ih413 _ (by omega) T8 hHT8 hFT8  (by first | assumption | exact (by assumption : AT T8 _ _)) (by first | assumption | exact (by assumption : RNV T8 _)) (by omega) (by omega) (by omega) (by omega) (by omega) (by first | assumption | exact (by assumption : BDA T8)) rfl) (And.intro rfl (True.intro))
      refine l_iload_n rfl rfl ?_
      have w222 : 0 ≤ Xi T1 904 65 ∧ Xi T1 904 65 ≤ 1 := hHT1.c _ _
      have w223 : 0 ≤ Xi T1 904 69 ∧ Xi T1 904 69 ≤ 2600 := hHT1.c _ _
      have w224 : 0 ≤ Xi T1 904 70 ∧ Xi T1 904 70 ≤ 20 := hHT1.c _ _
      have w225 : 0 ≤ Xi T1 904 71 ∧ Xi T1 904 71 ≤ 2600 := hHT1.c _ _
      have w226 : 0 ≤ Xi T1 904 72 ∧ Xi T1 904 72 ≤ 2600 := hHT1.c _ _
      have w227 : 0 ≤ Xi T1 904 73 ∧ Xi T1 904 73 ≤ 5 := hHT1.c _ _
      have w228 : 0 ≤ Xi T1 904 74 ∧ Xi T1 904 74 ≤ 2600 := hHT1.c _ _
      have w229 : -2 ≤ Xi T1 904 78 ∧ Xi T1 904 78 ≤ 5010 := hHT1.c _ _
      have w230 : 0 ≤ Xi T1 904 8 ∧ Xi T1 904 8 ≤ 5010 := hHT1.c _ _
      have w231 : 0 ≤ Xi T1 904 93 ∧ Xi T1 904 93 ≤ 1700 := hHT1.c _ _
      refine l_callS rfl rfl (by decide) rfl (t_mo_isArt hHT1 v1 ⟨by omega, by omega⟩ _) ?_
      rintro _ _ ⟨rfl, z233, rfl, w233, w232⟩
      show Rl _ _ _ _ _ [iv z233] _ _
      refine l_if_eq rfl rfl (by unfold rg; omega) (fun w234 => ?_) (fun w235 => ?_)
      · refine l_iload_n rfl rfl ?_
        refine l_bipush rfl rfl ?_
        refine l_icmp_eq rfl rfl (by unfold rg; omega) (by unfold rg; omega) (fun w236 => ?_) (fun w237 => ?_)
        · refine l_aload_n rfl rfl ?_
          refine l_bipush rfl rfl ?_
          refine l_pfi rfl rfl rfl rfl ?_
          obtain ⟨U9, eU9⟩ : ∃ T : sS, T = uI T1 904 70 (Int32.ofInt 15) := ⟨_, rfl⟩
          rw [← eU9]
          have hHU9 : HI U9 := by rw [eU9]; exact HI_w hHT1 (show 0 ≤ 15 by omega) (show 15 ≤ 20 by omega)
          have hFU9 : FR md_mo_rest__2 S U9 := by rw [eU9]; exact FR.wI hFT1 (mdf_i (r := (904, 905, 70, 71)) (List.mem_of_getElem? (i := 4) rfl) (inR_i (by omega) (by omega) (by omega) (by omega)))
          have w238 : Xi U9 904 70 = 15 := by rw [eU9]; exact Xi_same (by unfold rg; omega)
          refine l_aload_n rfl rfl ?_
          refine l_iload_n rfl rfl ?_
          refine l_bipush rfl rfl ?_
          refine l_icmp_ne rfl rfl (by unfold rg; omega) (by unfold rg; omega) (fun w239 => ?_) (fun w240 => ?_)
          · refine l_iconst rfl ?_
            refine l_pfz rfl rfl rfl rfl (by omega) ?_
            obtain ⟨U10, eU10⟩ : ∃ T : sS, T = uI U9 904 75 (Int32.ofInt 0) := ⟨_, rfl⟩
            rw [← eU10]
            have hHU10 : HI U10 := by rw [eU10]; exact HI_w hHU9 (show 0 ≤ 0 by omega) (show 0 ≤ 1 by omega)
            have hFU10 : FR md_mo_rest__2 S U10 := by rw [eU10]; exact FR.wI hFU9 (mdf_i (r := (904, 905, 75, 76)) (List.mem_of_getElem? (i := 7) rfl) (inR_i (by omega) (by omega) (by omega) (by omega)))
            have w241 : Xi U10 904 75 = 0 := by rw [eU10]; exact Xi_same (by unfold rg; omega)
            refine l_aload_n rfl rfl ?_
            refine l_iload_n rfl rfl ?_
            refine l_sipush rfl rfl ?_
            refine l_icmp_ne rfl rfl (by unfold rg; omega) (by unfold rg; omega) (fun w242 => ?_) (fun w243 => ?_)
            · refine l_iconst rfl ?_
              refine l_pfz rfl rfl rfl rfl (by omega) ?_
              obtain ⟨U11, eU11⟩ : ∃ T : sS, T = uI U10 904 76 (Int32.ofInt 0) := ⟨_, rfl⟩
              rw [← eU11]
              have hHU11 : HI U11 := by rw [eU11]; exact HI_w hHU10 (show 0 ≤ 0 by omega) (show 0 ≤ 1 by omega)
              have hFU11 : FR md_mo_rest__2 S U11 := by rw [eU11]; exact FR.wI hFU10 (mdf_i (r := (904, 905, 76, 77)) (List.mem_of_getElem? (i := 8) rfl) (inR_i (by omega) (by omega) (by omega) (by omega)))
              have w244 : Xi U11 904 76 = 0 := by rw [eU11]; exact Xi_same (by unfold rg; omega)
              have w245 : Xi U11 904 65 = Xi T1 904 65 := (show Xi U11 904 65 = Xi U10 904 65 from by rw [eU11]; exact Xi_ne (by omega)).trans ( (show Xi U10 904 65 = Xi U9 904 65 from by rw [eU10]; exact Xi_ne (by omega)).trans ((show Xi U9 904 65 = Xi T1 904 65 from by rw [eU9]; exact Xi_ne (by omega))))
              have w246 : 0 ≤ Xi T1 904 65 ∧ Xi T1 904 65 ≤ 1 := hHT1.c _ _
              have w247 : Xi U11 904 69 = Xi T1 904 69 := (show Xi U11 904 69 = Xi U10 904 69 from by rw [eU11]; exact Xi_ne (by omega)).trans ( (show Xi U10 904 69 = Xi U9 904 69 from by rw [eU10]; exact Xi_ne (by omega)).trans ((show Xi U9 904 69 = Xi T1 904 69 from by rw [eU9]; exact Xi_ne (by omega))))
              have w248 : 0 ≤ Xi T1 904 69 ∧ Xi T1 904 69 ≤ 2600 := hHT1.c _ _
              have w249 : Xi U11 904 70 = Xi U9 904 70 := (show Xi U11 904 70 = Xi U10 904 70 from by rw [eU11]; exact Xi_ne (by omega)).trans ((show Xi U10 904 70 = Xi U9 904 70 from by rw [eU10]; exact Xi_ne (by omega)))
              have w250 : 0 ≤ Xi U9 904 70 ∧ Xi U9 904 70 ≤ 20 := hHU9.c _ _
              have w251 : Xi U11 904 71 = Xi T1 904 71 := (show Xi U11 904 71 = Xi U10 904 71 from by rw [eU11]; exact Xi_ne (by omega)).trans ( (show Xi U10 904 71 = Xi U9 904 71 from by rw [eU10]; exact Xi_ne (by omega)).trans ((show Xi U9 904 71 = Xi T1 904 71 from by rw [eU9]; exact Xi_ne (by omega))))
              have w252 : 0 ≤ Xi T1 904 71 ∧ Xi T1 904 71 ≤ 2600 := hHT1.c _ _
              have w253 : Xi U11 904 72 = Xi T1 904 72 := (show Xi U11 904 72 = Xi U10 904 72 from by rw [eU11]; exact Xi_ne (by omega)).trans ( (show Xi U10 904 72 = Xi U9 904 72 from by rw [eU10]; exact Xi_ne (by omega)).trans ((show Xi U9 904 72 = Xi T1 904 72 from by rw [eU9]; exact Xi_ne (by omega))))
              have w254 : 0 ≤ Xi T1 904 72 ∧ Xi T1 904 72 ≤ 2600 := hHT1.c _ _
              have w255 : Xi U11 904 73 = Xi T1 904 73 := (show Xi U11 904 73 = Xi U10 904 73 from by rw [eU11]; exact Xi_ne (by omega)).trans ( (show Xi U10 904 73 = Xi U9 904 73 from by rw [eU10]; exact Xi_ne (by omega)).trans ((show Xi U9 904 73 = Xi T1 904 73 from by rw [eU9]; exact Xi_ne (by omega))))
              have w256 : 0 ≤ Xi T1 904 73 ∧ Xi T1 904 73 ≤ 5 := hHT1.c _ _
              have w257 : Xi U11 904 74 = Xi T1 904 74 := (show Xi U11 904 74 = Xi U10 904 74 from by rw [eU11]; exact Xi_ne (by omega)).trans ( (show Xi U10 904 74 = Xi U9 904 74 from by rw [eU10]; exact Xi_ne (by omega)).trans ((show Xi U9 904 74 = Xi T1 904 74 from by rw [eU9]; exact Xi_ne (by omega))))
              have w258 : 0 ≤ Xi T1 904 74 ∧ Xi T1 904 74 ≤ 2600 := hHT1.c _ _
              have w259 : Xi U11 904 78 = Xi T1 904 78 := (show Xi U11 904 78 = Xi U10 904 78 from by rw [eU11]; exact Xi_ne (by omega)).trans ( (show Xi U10 904 78 = Xi U9 904 78 from by rw [eU10]; exact Xi_ne (by omega)).trans ((show Xi U9 904 78 = Xi T1 904 78 from by rw [eU9]; exact Xi_ne (by omega))))
              have w260 : -2 ≤ Xi T1 904 78 ∧ Xi T1 904 78 ≤ 5010 := hHT1.c _ _
              have w261 : Xi U11 904 8 = Xi T1 904 8 := (show Xi U11 904 8 = Xi U10 904 8 from by rw [eU11]; exact Xi_ne (by omega)).trans ( (show Xi U10 904 8 = Xi U9 904 8 from by rw [eU10]; exact Xi_ne (by omega)).trans ((show Xi U9 904 8 = Xi T1 904 8 from by rw [eU9]; exact Xi_ne (by omega))))
              have w262 : 0 ≤ Xi T1 904 8 ∧ Xi T1 904 8 ≤ 5010 := hHT1.c _ _
              have w263 : Xi U11 904 93 = Xi T1 904 93 := (show Xi U11 904 93 = Xi U10 904 93 from by rw [eU11]; exact Xi_ne (by omega)).trans ( (show Xi U10 904 93 = Xi U9 904 93 from by rw [eU10]; exact Xi_ne (by omega)).trans ((show Xi U9 904 93 = Xi T1 904 93 from by rw [eU9]; exact Xi_ne (by omega))))
              have w264 : 0 ≤ Xi T1 904 93 ∧ Xi T1 904 93 ≤ 1700 := hHT1.c _ _
              exact Rl_weak (C313 U11 hHU11 hFU11  (by first | assumption | exact (AT_FR (FR_e eU11) rfl (AT_FR (FR_e eU10) rfl (AT_FR (FR_e eU9) rfl (by assumption : AT T1 _ _))))) (by first | assumption | exact (RNV_FR (FR_e eU11) rfl (RNV_FR (FR_e eU10) rfl (RNV_FR (FR_e eU9) rfl (by assumption : RNV T1 _))))) (fun q => (by rw [(fun j => ((FR_e eU11).cx 907 rfl j).1.trans (((FR_e eU10).cx 907 rfl j).1.trans (((FR_e eU9).cx 907 rfl j).1))) (Xi U11 904 8).toNat, show Xi U11 904 8 = Xi T1 904 8 by omega]; omega)) (by omega) (by omega) (by omega) (by omega) (by omega) (by omega) (by omega) (by first | assumption | exact (BDA_FR (FR_e eU11) rfl (BDA_FR (FR_e eU10) rfl (BDA_FR (FR_e eU9) rfl (by assumption : BDA T1)))))) (And.intro rfl (True.intro))
            · refine l_iconst rfl ?_
              refine l_goto rfl rfl ?_
              refine l_pfz rfl rfl rfl rfl (by omega) ?_
              obtain ⟨U12, eU12⟩ : ∃ T : sS, T = uI U10 904 76 (Int32.ofInt 1) := ⟨_, rfl⟩
              rw [← eU12]
              have hHU12 : HI U12 := by rw [eU12]; exact HI_w hHU10 (show 0 ≤ 1 by omega) (show 1 ≤ 1 by omega)
              have hFU12 : FR md_mo_rest__2 S U12 := by rw [eU12]; exact FR.wI hFU10 (mdf_i (r := (904, 905, 76, 77)) (List.mem_of_getElem? (i := 8) rfl) (inR_i (by omega) (by omega) (by omega) (by omega)))
              have w265 : Xi U12 904 76 = 1 := by rw [eU12]; exact Xi_same (by unfold rg; omega)
              have w266 : Xi U12 904 65 = Xi T1 904 65 := (show Xi U12 904 65 = Xi U10 904 65 from by rw [eU12]; exact Xi_ne (by omega)).trans ( (show Xi U10 904 65 = Xi U9 904 65 from by rw [eU10]; exact Xi_ne (by omega)).trans ((show Xi U9 904 65 = Xi T1 904 65 from by rw [eU9]; exact Xi_ne (by omega))))
              have w267 : 0 ≤ Xi T1 904 65 ∧ Xi T1 904 65 ≤ 1 := hHT1.c _ _
              have w268 : Xi U12 904 69 = Xi T1 904 69 := (show Xi U12 904 69 = Xi U10 904 69 from by rw [eU12]; exact Xi_ne (by omega)).trans ( (show Xi U10 904 69 = Xi U9 904 69 from by rw [eU10]; exact Xi_ne (by omega)).trans ((show Xi U9 904 69 = Xi T1 904 69 from by rw [eU9]; exact Xi_ne (by omega))))
              have w269 : 0 ≤ Xi T1 904 69 ∧ Xi T1 904 69 ≤ 2600 := hHT1.c _ _
              have w270 : Xi U12 904 70 = Xi U9 904 70 := (show Xi U12 904 70 = Xi U10 904 70 from by rw [eU12]; exact Xi_ne (by omega)).trans ((show Xi U10 904 70 = Xi U9 904 70 from by rw [eU10]; exact Xi_ne (by omega)))
              have w271 : 0 ≤ Xi U9 904 70 ∧ Xi U9 904 70 ≤ 20 := hHU9.c _ _
              have w272 : Xi U12 904 71 = Xi T1 904 71 := (show Xi U12 904 71 = Xi U10 904 71 from by rw [eU12]; exact Xi_ne (by omega)).trans ( (show Xi U10 904 71 = Xi U9 904 71 from by rw [eU10]; exact Xi_ne (by omega)).trans ((show Xi U9 904 71 = Xi T1 904 71 from by rw [eU9]; exact Xi_ne (by omega))))
              have w273 : 0 ≤ Xi T1 904 71 ∧ Xi T1 904 71 ≤ 2600 := hHT1.c _ _
              have w274 : Xi U12 904 72 = Xi T1 904 72 := (show Xi U12 904 72 = Xi U10 904 72 from by rw [eU12]; exact Xi_ne (by omega)).trans ( (show Xi U10 904 72 = Xi U9 904 72 from by rw [eU10]; exact Xi_ne (by omega)).trans ((show Xi U9 904 72 = Xi T1 904 72 from by rw [eU9]; exact Xi_ne (by omega))))
              have w275 : 0 ≤ Xi T1 904 72 ∧ Xi T1 904 72 ≤ 2600 := hHT1.c _ _
              have w276 : Xi U12 904 73 = Xi T1 904 73 := (show Xi U12 904 73 = Xi U10 904 73 from by rw [eU12]; exact Xi_ne (by omega)).trans ( (show Xi U10 904 73 = Xi U9 904 73 from by rw [eU10]; exact Xi_ne (by omega)).trans ((show Xi U9 904 73 = Xi T1 904 73 from by rw [eU9]; exact Xi_ne (by omega))))
              have w277 : 0 ≤ Xi T1 904 73 ∧ Xi T1 904 73 ≤ 5 := hHT1.c _ _
              have w278 : Xi U12 904 74 = Xi T1 904 74 := (show Xi U12 904 74 = Xi U10 904 74 from by rw [eU12]; exact Xi_ne (by omega)).trans ( (show Xi U10 904 74 = Xi U9 904 74 from by rw [eU10]; exact Xi_ne (by omega)).trans ((show Xi U9 904 74 = Xi T1 904 74 from by rw [eU9]; exact Xi_ne (by omega))))
              have w279 : 0 ≤ Xi T1 904 74 ∧ Xi T1 904 74 ≤ 2600 := hHT1.c _ _
              have w280 : Xi U12 904 78 = Xi T1 904 78 := (show Xi U12 904 78 = Xi U10 904 78 from by rw [eU12]; exact Xi_ne (by omega)).trans ( (show Xi U10 904 78 = Xi U9 904 78 from by rw [eU10]; exact Xi_ne (by omega)).trans ((show Xi U9 904 78 = Xi T1 904 78 from by rw [eU9]; exact Xi_ne (by omega))))
              have w281 : -2 ≤ Xi T1 904 78 ∧ Xi T1 904 78 ≤ 5010 := hHT1.c _ _
              have w282 : Xi U12 904 8 = Xi T1 904 8 := (show Xi U12 904 8 = Xi U10 904 8 from by rw [eU12]; exact Xi_ne (by omega)).trans ( (show Xi U10 904 8 = Xi U9 904 8 from by rw [eU10]; exact Xi_ne (by omega)).trans ((show Xi U9 904 8 = Xi T1 904 8 from by rw [eU9]; exact Xi_ne (by omega))))
              have w283 : 0 ≤ Xi T1 904 8 ∧ Xi T1 904 8 ≤ 5010 := hHT1.c _ _
              have w284 : Xi U12 904 93 = Xi T1 904 93 := (show Xi U12 904 93 = Xi U10 904 93 from by rw [eU12]; exact Xi_ne (by omega)).trans ( (show Xi U10 904 93 = Xi U9 904 93 from by rw [eU10]; exact Xi_ne (by omega)).trans ((show Xi U9 904 93 = Xi T1 904 93 from by rw [eU9]; exact Xi_ne (by omega))))
              have w285 : 0 ≤ Xi T1 904 93 ∧ Xi T1 904 93 ≤ 1700 := hHT1.c _ _
              exact Rl_weak (C313 U12 hHU12 hFU12  (by first | assumption | exact (AT_FR (FR_e eU12) rfl (AT_FR (FR_e eU10) rfl (AT_FR (FR_e eU9) rfl (by assumption : AT T1 _ _))))) (by first | assumption | exact (RNV_FR (FR_e eU12) rfl (RNV_FR (FR_e eU10) rfl (RNV_FR (FR_e eU9) rfl (by assumption : RNV T1 _))))) (fun q => (by rw [(fun j => ((FR_e eU12).cx 907 rfl j).1.trans (((FR_e eU10).cx 907 rfl j).1.trans (((FR_e eU9).cx 907 rfl j).1))) (Xi U12 904 8).toNat, show Xi U12 904 8 = Xi T1 904 8 by omega]; omega)) (by omega) (by omega) (by omega) (by omega) (by omega) (by omega) (by omega) (by first | assumption | exact (BDA_FR (FR_e eU12) rfl (BDA_FR (FR_e eU10) rfl (BDA_FR (FR_e eU9) rfl (by assumption : BDA T1)))))) (And.intro rfl (True.intro))
          · refine l_iconst rfl ?_
            refine l_goto rfl rfl ?_
            refine l_pfz rfl rfl rfl rfl (by omega) ?_
            obtain ⟨U13, eU13⟩ : ∃ T : sS, T = uI U9 904 75 (Int32.ofInt 1) := ⟨_, rfl⟩
            rw [← eU13]
            have hHU13 : HI U13 := by rw [eU13]; exact HI_w hHU9 (show 0 ≤ 1 by omega) (show 1 ≤ 1 by omega)
            have hFU13 : FR md_mo_rest__2 S U13 := by rw [eU13]; exact FR.wI hFU9 (mdf_i (r := (904, 905, 75, 76)) (List.mem_of_getElem? (i := 7) rfl) (inR_i (by omega) (by omega) (by omega) (by omega)))
            have w286 : Xi U13 904 75 = 1 := by rw [eU13]; exact Xi_same (by unfold rg; omega)
            refine l_aload_n rfl rfl ?_
            refine l_iload_n rfl rfl ?_
            refine l_sipush rfl rfl ?_
            refine l_icmp_ne rfl rfl (by unfold rg; omega) (by unfold rg; omega) (fun w287 => ?_) (fun w288 => ?_)
            · refine l_iconst rfl ?_
              refine l_pfz rfl rfl rfl rfl (by omega) ?_
              obtain ⟨U14, eU14⟩ : ∃ T : sS, T = uI U13 904 76 (Int32.ofInt 0) := ⟨_, rfl⟩
              rw [← eU14]
              have hHU14 : HI U14 := by rw [eU14]; exact HI_w hHU13 (show 0 ≤ 0 by omega) (show 0 ≤ 1 by omega)
              have hFU14 : FR md_mo_rest__2 S U14 := by rw [eU14]; exact FR.wI hFU13 (mdf_i (r := (904, 905, 76, 77)) (List.mem_of_getElem? (i := 8) rfl) (inR_i (by omega) (by omega) (by omega) (by omega)))
              have w289 : Xi U14 904 76 = 0 := by rw [eU14]; exact Xi_same (by unfold rg; omega)
              have w290 : Xi U14 904 65 = Xi T1 904 65 := (show Xi U14 904 65 = Xi U13 904 65 from by rw [eU14]; exact Xi_ne (by omega)).trans ( (show Xi U13 904 65 = Xi U9 904 65 from by rw [eU13]; exact Xi_ne (by omega)).trans ((show Xi U9 904 65 = Xi T1 904 65 from by rw [eU9]; exact Xi_ne (by omega))))
              have w291 : 0 ≤ Xi T1 904 65 ∧ Xi T1 904 65 ≤ 1 := hHT1.c _ _
              have w292 : Xi U14 904 69 = Xi T1 904 69 := (show Xi U14 904 69 = Xi U13 904 69 from by rw [eU14]; exact Xi_ne (by omega)).trans ( (show Xi U13 904 69 = Xi U9 904 69 from by rw [eU13]; exact Xi_ne (by omega)).trans ((show Xi U9 904 69 = Xi T1 904 69 from by rw [eU9]; exact Xi_ne (by omega))))
              have w293 : 0 ≤ Xi T1 904 69 ∧ Xi T1 904 69 ≤ 2600 := hHT1.c _ _
              have w294 : Xi U14 904 70 = Xi U9 904 70 := (show Xi U14 904 70 = Xi U13 904 70 from by rw [eU14]; exact Xi_ne (by omega)).trans ((show Xi U13 904 70 = Xi U9 904 70 from by rw [eU13]; exact Xi_ne (by omega)))
              have w295 : 0 ≤ Xi U9 904 70 ∧ Xi U9 904 70 ≤ 20 := hHU9.c _ _
              have w296 : Xi U14 904 71 = Xi T1 904 71 := (show Xi U14 904 71 = Xi U13 904 71 from by rw [eU14]; exact Xi_ne (by omega)).trans ( (show Xi U13 904 71 = Xi U9 904 71 from by rw [eU13]; exact Xi_ne (by omega)).trans ((show Xi U9 904 71 = Xi T1 904 71 from by rw [eU9]; exact Xi_ne (by omega))))
              have w297 : 0 ≤ Xi T1 904 71 ∧ Xi T1 904 71 ≤ 2600 := hHT1.c _ _
              have w298 : Xi U14 904 72 = Xi T1 904 72 := (show Xi U14 904 72 = Xi U13 904 72 from by rw [eU14]; exact Xi_ne (by omega)).trans ( (show Xi U13 904 72 = Xi U9 904 72 from by rw [eU13]; exact Xi_ne (by omega)).trans ((show Xi U9 904 72 = Xi T1 904 72 from by rw [eU9]; exact Xi_ne (by omega))))
              have w299 : 0 ≤ Xi T1 904 72 ∧ Xi T1 904 72 ≤ 2600 := hHT1.c _ _
              have w300 : Xi U14 904 73 = Xi T1 904 73 := (show Xi U14 904 73 = Xi U13 904 73 from by rw [eU14]; exact Xi_ne (by omega)).trans ( (show Xi U13 904 73 = Xi U9 904 73 from by rw [eU13]; exact Xi_ne (by omega)).trans ((show Xi U9 904 73 = Xi T1 904 73 from by rw [eU9]; exact Xi_ne (by omega))))
              have w301 : 0 ≤ Xi T1 904 73 ∧ Xi T1 904 73 ≤ 5 := hHT1.c _ _
              have w302 : Xi U14 904 74 = Xi T1 904 74 := (show Xi U14 904 74 = Xi U13 904 74 from by rw [eU14]; exact Xi_ne (by omega)).trans ( (show Xi U13 904 74 = Xi U9 904 74 from by rw [eU13]; exact Xi_ne (by omega)).trans ((show Xi U9 904 74 = Xi T1 904 74 from by rw [eU9]; exact Xi_ne (by omega))))
              have w303 : 0 ≤ Xi T1 904 74 ∧ Xi T1 904 74 ≤ 2600 := hHT1.c _ _
              have w304 : Xi U14 904 78 = Xi T1 904 78 := (show Xi U14 904 78 = Xi U13 904 78 from by rw [eU14]; exact Xi_ne (by omega)).trans ( (show Xi U13 904 78 = Xi U9 904 78 from by rw [eU13]; exact Xi_ne (by omega)).trans ((show Xi U9 904 78 = Xi T1 904 78 from by rw [eU9]; exact Xi_ne (by omega))))
              have w305 : -2 ≤ Xi T1 904 78 ∧ Xi T1 904 78 ≤ 5010 := hHT1.c _ _
              have w306 : Xi U14 904 8 = Xi T1 904 8 := (show Xi U14 904 8 = Xi U13 904 8 from by rw [eU14]; exact Xi_ne (by omega)).trans ( (show Xi U13 904 8 = Xi U9 904 8 from by rw [eU13]; exact Xi_ne (by omega)).trans ((show Xi U9 904 8 = Xi T1 904 8 from by rw [eU9]; exact Xi_ne (by omega))))
              have w307 : 0 ≤ Xi T1 904 8 ∧ Xi T1 904 8 ≤ 5010 := hHT1.c _ _
              have w308 : Xi U14 904 93 = Xi T1 904 93 := (show Xi U14 904 93 = Xi U13 904 93 from by rw [eU14]; exact Xi_ne (by omega)).trans ( (show Xi U13 904 93 = Xi U9 904 93 from by rw [eU13]; exact Xi_ne (by omega)).trans ((show Xi U9 904 93 = Xi T1 904 93 from by rw [eU9]; exact Xi_ne (by omega))))
              have w309 : 0 ≤ Xi T1 904 93 ∧ Xi T1 904 93 ≤ 1700 := hHT1.c _ _
              exact Rl_weak (C313 U14 hHU14 hFU14  (by first | assumption | exact (AT_FR (FR_e eU14) rfl (AT_FR (FR_e eU13) rfl (AT_FR (FR_e eU9) rfl (by assumption : AT T1 _ _))))) (by first | assumption | exact (RNV_FR (FR_e eU14) rfl (RNV_FR (FR_e eU13) rfl (RNV_FR (FR_e eU9) rfl (by assumption : RNV T1 _))))) (fun q => (by rw [(fun j => ((FR_e eU14).cx 907 rfl j).1.trans (((FR_e eU13).cx 907 rfl j).1.trans (((FR_e eU9).cx 907 rfl j).1))) (Xi U14 904 8).toNat, show Xi U14 904 8 = Xi T1 904 8 by omega]; omega)) (by omega) (by omega) (by omega) (by omega) (by omega) (by omega) (by omega) (by first | assumption | exact (BDA_FR (FR_e eU14) rfl (BDA_FR (FR_e eU13) rfl (BDA_FR (FR_e eU9) rfl (by assumption : BDA T1)))))) (And.intro rfl (True.intro))
            · refine l_iconst rfl ?_
              refine l_goto rfl rfl ?_
              refine l_pfz rfl rfl rfl rfl (by omega) ?_
              obtain ⟨U15, eU15⟩ : ∃ T : sS, T = uI U13 904 76 (Int32.ofInt 1) := ⟨_, rfl⟩
              rw [← eU15]
              have hHU15 : HI U15 := by rw [eU15]; exact HI_w hHU13 (show 0 ≤ 1 by omega) (show 1 ≤ 1 by omega)
              have hFU15 : FR md_mo_rest__2 S U15 := by rw [eU15]; exact FR.wI hFU13 (mdf_i (r := (904, 905, 76, 77)) (List.mem_of_getElem? (i := 8) rfl) (inR_i (by omega) (by omega) (by omega) (by omega)))
              have w310 : Xi U15 904 76 = 1 := by rw [eU15]; exact Xi_same (by unfold rg; omega)
              have w311 : Xi U15 904 65 = Xi T1 904 65 := (show Xi U15 904 65 = Xi U13 904 65 from by rw [eU15]; exact Xi_ne (by omega)).trans ( (show Xi U13 904 65 = Xi U9 904 65 from by rw [eU13]; exact Xi_ne (by omega)).trans ((show Xi U9 904 65 = Xi T1 904 65 from by rw [eU9]; exact Xi_ne (by omega))))
              have w312 : 0 ≤ Xi T1 904 65 ∧ Xi T1 904 65 ≤ 1 := hHT1.c _ _
              have w313 : Xi U15 904 69 = Xi T1 904 69 := (show Xi U15 904 69 = Xi U13 904 69 from by rw [eU15]; exact Xi_ne (by omega)).trans ( (show Xi U13 904 69 = Xi U9 904 69 from by rw [eU13]; exact Xi_ne (by omega)).trans ((show Xi U9 904 69 = Xi T1 904 69 from by rw [eU9]; exact Xi_ne (by omega))))
              have w314 : 0 ≤ Xi T1 904 69 ∧ Xi T1 904 69 ≤ 2600 := hHT1.c _ _
              have w315 : Xi U15 904 70 = Xi U9 904 70 := (show Xi U15 904 70 = Xi U13 904 70 from by rw [eU15]; exact Xi_ne (by omega)).trans ((show Xi U13 904 70 = Xi U9 904 70 from by rw [eU13]; exact Xi_ne (by omega)))
              have w316 : 0 ≤ Xi U9 904 70 ∧ Xi U9 904 70 ≤ 20 := hHU9.c _ _
              have w317 : Xi U15 904 71 = Xi T1 904 71 := (show Xi U15 904 71 = Xi U13 904 71 from by rw [eU15]; exact Xi_ne (by omega)).trans ( (show Xi U13 904 71 = Xi U9 904 71 from by rw [eU13]; exact Xi_ne (by omega)).trans ((show Xi U9 904 71 = Xi T1 904 71 from by rw [eU9]; exact Xi_ne (by omega))))
              have w318 : 0 ≤ Xi T1 904 71 ∧ Xi T1 904 71 ≤ 2600 := hHT1.c _ _
              have w319 : Xi U15 904 72 = Xi T1 904 72 := (show Xi U15 904 72 = Xi U13 904 72 from by rw [eU15]; exact Xi_ne (by omega)).trans ( (show Xi U13 904 72 = Xi U9 904 72 from by rw [eU13]; exact Xi_ne (by omega)).trans ((show Xi U9 904 72 = Xi T1 904 72 from by rw [eU9]; exact Xi_ne (by omega))))
              have w320 : 0 ≤ Xi T1 904 72 ∧ Xi T1 904 72 ≤ 2600 := hHT1.c _ _
              have w321 : Xi U15 904 73 = Xi T1 904 73 := (show Xi U15 904 73 = Xi U13 904 73 from by rw [eU15]; exact Xi_ne (by omega)).trans ( (show Xi U13 904 73 = Xi U9 904 73 from by rw [eU13]; exact Xi_ne (by omega)).trans ((show Xi U9 904 73 = Xi T1 904 73 from by rw [eU9]; exact Xi_ne (by omega))))
              have w322 : 0 ≤ Xi T1 904 73 ∧ Xi T1 904 73 ≤ 5 := hHT1.c _ _
              have w323 : Xi U15 904 74 = Xi T1 904 74 := (show Xi U15 904 74 = Xi U13 904 74 from by rw [eU15]; exact Xi_ne (by omega)).trans ( (show Xi U13 904 74 = Xi U9 904 74 from by rw [eU13]; exact Xi_ne (by omega)).trans ((show Xi U9 904 74 = Xi T1 904 74 from by rw [eU9]; exact Xi_ne (by omega))))
              have w324 : 0 ≤ Xi T1 904 74 ∧ Xi T1 904 74 ≤ 2600 := hHT1.c _ _
              have w325 : Xi U15 904 78 = Xi T1 904 78 := (show Xi U15 904 78 = Xi U13 904 78 from by rw [eU15]; exact Xi_ne (by omega)).trans ( (show Xi U13 904 78 = Xi U9 904 78 from by rw [eU13]; exact Xi_ne (by omega)).trans ((show Xi U9 904 78 = Xi T1 904 78 from by rw [eU9]; exact Xi_ne (by omega))))
              have w326 : -2 ≤ Xi T1 904 78 ∧ Xi T1 904 78 ≤ 5010 := hHT1.c _ _
              have w327 : Xi U15 904 8 = Xi T1 904 8 := (show Xi U15 904 8 = Xi U13 904 8 from by rw [eU15]; exact Xi_ne (by omega)).trans ( (show Xi U13 904 8 = Xi U9 904 8 from by rw [eU13]; exact Xi_ne (by omega)).trans ((show Xi U9 904 8 = Xi T1 904 8 from by rw [eU9]; exact Xi_ne (by omega))))
              have w328 : 0 ≤ Xi T1 904 8 ∧ Xi T1 904 8 ≤ 5010 := hHT1.c _ _
              have w329 : Xi U15 904 93 = Xi T1 904 93 := (show Xi U15 904 93 = Xi U13 904 93 from by rw [eU15]; exact Xi_ne (by omega)).trans ( (show Xi U13 904 93 = Xi U9 904 93 from by rw [eU13]; exact Xi_ne (by omega)).trans ((show Xi U9 904 93 = Xi T1 904 93 from by rw [eU9]; exact Xi_ne (by omega))))
              have w330 : 0 ≤ Xi T1 904 93 ∧ Xi T1 904 93 ≤ 1700 := hHT1.c _ _
              exact Rl_weak (C313 U15 hHU15 hFU15  (by first | assumption | exact (AT_FR (FR_e eU15) rfl (AT_FR (FR_e eU13) rfl (AT_FR (FR_e eU9) rfl (by assumption : AT T1 _ _))))) (by first | assumption | exact (RNV_FR (FR_e eU15) rfl (RNV_FR (FR_e eU13) rfl (RNV_FR (FR_e eU9) rfl (by assumption : RNV T1 _))))) (fun q => (by rw [(fun j => ((FR_e eU15).cx 907 rfl j).1.trans (((FR_e eU13).cx 907 rfl j).1.trans (((FR_e eU9).cx 907 rfl j).1))) (Xi U15 904 8).toNat, show Xi U15 904 8 = Xi T1 904 8 by omega]; omega)) (by omega) (by omega) (by omega) (by omega) (by omega) (by omega) (by omega) (by first | assumption | exact (BDA_FR (FR_e eU15) rfl (BDA_FR (FR_e eU13) rfl (BDA_FR (FR_e eU9) rfl (by assumption : BDA T1)))))) (And.intro rfl (True.intro))
        · refine l_iload_n rfl rfl ?_
          refine l_sipush rfl rfl ?_
          refine l_icmp_ne rfl rfl (by unfold rg; omega) (by unfold rg; omega) (fun w331 => ?_) (fun w332 => ?_)
          · refine l_iload_n rfl rfl ?_
            refine l_iconst rfl ?_
            refine l_icmp_ne rfl rfl (by unfold rg; omega) (by unfold rg; omega) (fun w333 => ?_) (fun w334 => ?_)
            · refine l_aload_n rfl rfl ?_
              refine l_bipush rfl rfl ?_
              refine l_pfi rfl rfl rfl rfl ?_
              obtain ⟨U16, eU16⟩ : ∃ T : sS, T = uI T1 904 70 (Int32.ofInt 13) := ⟨_, rfl⟩
              rw [← eU16]
              have hHU16 : HI U16 := by rw [eU16]; exact HI_w hHT1 (show 0 ≤ 13 by omega) (show 13 ≤ 20 by omega)
              have hFU16 : FR md_mo_rest__2 S U16 := by rw [eU16]; exact FR.wI hFT1 (mdf_i (r := (904, 905, 70, 71)) (List.mem_of_getElem? (i := 4) rfl) (inR_i (by omega) (by omega) (by omega) (by omega)))
              have w335 : Xi U16 904 70 = 13 := by rw [eU16]; exact Xi_same (by unfold rg; omega)
              refine l_aload_n rfl rfl ?_
              refine l_aload_n rfl rfl ?_
              have w336 : Xi U16 904 65 = Xi T1 904 65 := (show Xi U16 904 65 = Xi T1 904 65 from by rw [eU16]; exact Xi_ne (by omega))
              have w337 : 0 ≤ Xi T1 904 65 ∧ Xi T1 904 65 ≤ 1 := hHT1.c _ _
              have w338 : Xi U16 904 69 = Xi T1 904 69 := (show Xi U16 904 69 = Xi T1 904 69 from by rw [eU16]; exact Xi_ne (by omega))
              have w339 : 0 ≤ Xi T1 904 69 ∧ Xi T1 904 69 ≤ 2600 := hHT1.c _ _
              have w340 : 0 ≤ Xi U16 904 70 ∧ Xi U16 904 70 ≤ 20 := hHU16.c _ _
              have w341 : Xi U16 904 71 = Xi T1 904 71 := (show Xi U16 904 71 = Xi T1 904 71 from by rw [eU16]; exact Xi_ne (by omega))
              have w342 : 0 ≤ Xi T1 904 71 ∧ Xi T1 904 71 ≤ 2600 := hHT1.c _ _
              have w343 : Xi U16 904 72 = Xi T1 904 72 := (show Xi U16 904 72 = Xi T1 904 72 from by rw [eU16]; exact Xi_ne (by omega))
              have w344 : 0 ≤ Xi T1 904 72 ∧ Xi T1 904 72 ≤ 2600 := hHT1.c _ _
              have w345 : Xi U16 904 73 = Xi T1 904 73 := (show Xi U16 904 73 = Xi T1 904 73 from by rw [eU16]; exact Xi_ne (by omega))
              have w346 : 0 ≤ Xi T1 904 73 ∧ Xi T1 904 73 ≤ 5 := hHT1.c _ _
              have w347 : Xi U16 904 74 = Xi T1 904 74 := (show Xi U16 904 74 = Xi T1 904 74 from by rw [eU16]; exact Xi_ne (by omega))
              have w348 : 0 ≤ Xi T1 904 74 ∧ Xi T1 904 74 ≤ 2600 := hHT1.c _ _
              have w349 : Xi U16 904 78 = Xi T1 904 78 := (show Xi U16 904 78 = Xi T1 904 78 from by rw [eU16]; exact Xi_ne (by omega))
              have w350 : -2 ≤ Xi T1 904 78 ∧ Xi T1 904 78 ≤ 5010 := hHT1.c _ _
              have w351 : Xi U16 904 8 = Xi T1 904 8 := (show Xi U16 904 8 = Xi T1 904 8 from by rw [eU16]; exact Xi_ne (by omega))
              have w352 : 0 ≤ Xi T1 904 8 ∧ Xi T1 904 8 ≤ 5010 := hHT1.c _ _
              have w353 : Xi U16 904 93 = Xi T1 904 93 := (show Xi U16 904 93 = Xi T1 904 93 from by rw [eU16]; exact Xi_ne (by omega))
              have w354 : 0 ≤ Xi T1 904 93 ∧ Xi T1 904 93 ≤ 1700 := hHT1.c _ _
              refine l_callV rfl rfl rfl (t_mo_placing__3 hHU16 n c (by first | assumption | exact (TK_FR hFU16 rfl (by assumption : TK S _))) (by first | assumption | exact (AT_FR (FR_e eU16) rfl (by assumption : AT T1 _ _))) (by first | assumption | exact (BDA_FR (FR_e eU16) rfl (by assumption : BDA T1))) _) ?_
              rintro _ T17 ⟨hHT17, w360, z359, rfl, w359, w355, w356, w357, w358⟩
              have hFT17 : FR md_mo_rest__2 S T17 := FR.tr hFU16 w360 rfl
              show Rl _ _ _ _ _ [iv z359, .ref 904] _ _
              have w362 : 0 ≤ Xi T17 904 8 ∧ Xi T17 904 8 ≤ 5010 := hHT17.c _ _
              have w363 : 0 ≤ Xi T17 904 65 ∧ Xi T17 904 65 ≤ 1 := hHT17.c _ _
              have w364 : Xi T17 904 69 = Xi T1 904 69 := (show Xi T17 904 69 = Xi U16 904 69 from w360.x _ _ rfl).trans ((show Xi U16 904 69 = Xi T1 904 69 from by rw [eU16]; exact Xi_ne (by omega)))
              have w365 : 0 ≤ Xi T1 904 69 ∧ Xi T1 904 69 ≤ 2600 := hHT1.c _ _
              have w366 : Xi T17 904 93 = Xi T1 904 93 := (show Xi T17 904 93 = Xi U16 904 93 from w360.x _ _ rfl).trans ((show Xi U16 904 93 = Xi T1 904 93 from by rw [eU16]; exact Xi_ne (by omega)))
              have w367 : 0 ≤ Xi T1 904 93 ∧ Xi T1 904 93 ≤ 1700 := hHT1.c _ _
              have w361 : Xi S 904 8 ≤ Xi T17 904 8 ∧ Xi T17 904 8 ≤ n ∧ Xi S 904 69 ≤ Xi T17 904 69 ∧ (Xi T17 904 65 = 0 → Xi S 904 65 = 0) := by omega
              clear w356
              refine l_pfi rfl rfl rfl rfl ?_
              obtain ⟨U18, eU18⟩ : ∃ T : sS, T = uI T17 904 73 (Int32.ofInt z359) := ⟨_, rfl⟩
              rw [← eU18]
              have hHU18 : HI U18 := by rw [eU18]; exact HI_w hHT17 (show 0 ≤ z359 by omega) (show z359 ≤ 5 by omega)
              have hFU18 : FR md_mo_rest__2 S U18 := by rw [eU18]; exact FR.wI hFT17 (mdf_i (r := (904, 905, 73, 74)) (List.mem_of_getElem? (i := 5) rfl) (inR_i (by omega) (by omega) (by omega) (by omega)))
              have w368 : Xi U18 904 73 = z359 := by rw [eU18]; exact Xi_same (by unfold rg; omega)
              refine l_aload_n rfl rfl ?_
              refine l_aload_n rfl rfl ?_
              have w369 : Xi U18 904 65 = Xi T17 904 65 := (show Xi U18 904 65 = Xi T17 904 65 from by rw [eU18]; exact Xi_ne (by omega))
              have w370 : 0 ≤ Xi T17 904 65 ∧ Xi T17 904 65 ≤ 1 := hHT17.c _ _
              have w371 : Xi U18 904 69 = Xi T1 904 69 := (show Xi U18 904 69 = Xi T17 904 69 from by rw [eU18]; exact Xi_ne (by omega)).trans ( (show Xi T17 904 69 = Xi U16 904 69 from w360.x _ _ rfl).trans ((show Xi U16 904 69 = Xi T1 904 69 from by rw [eU16]; exact Xi_ne (by omega))))
              have w372 : 0 ≤ Xi T1 904 69 ∧ Xi T1 904 69 ≤ 2600 := hHT1.c _ _
              have w373 : Xi U18 904 70 = Xi U16 904 70 := (show Xi U18 904 70 = Xi T17 904 70 from by rw [eU18]; exact Xi_ne (by omega)).trans ((show Xi T17 904 70 = Xi U16 904 70 from w360.x _ _ rfl))
              have w374 : 0 ≤ Xi U16 904 70 ∧ Xi U16 904 70 ≤ 20 := hHU16.c _ _
              have w375 : Xi U18 904 71 = Xi T1 904 71 := (show Xi U18 904 71 = Xi T17 904 71 from by rw [eU18]; exact Xi_ne (by omega)).trans ( (show Xi T17 904 71 = Xi U16 904 71 from w360.x _ _ rfl).trans ((show Xi U16 904 71 = Xi T1 904 71 from by rw [eU16]; exact Xi_ne (by omega))))
              have w376 : 0 ≤ Xi T1 904 71 ∧ Xi T1 904 71 ≤ 2600 := hHT1.c _ _
              have w377 : Xi U18 904 72 = Xi T1 904 72 := (show Xi U18 904 72 = Xi T17 904 72 from by rw [eU18]; exact Xi_ne (by omega)).trans ( (show Xi T17 904 72 = Xi U16 904 72 from w360.x _ _ rfl).trans ((show Xi U16 904 72 = Xi T1 904 72 from by rw [eU16]; exact Xi_ne (by omega))))
              have w378 : 0 ≤ Xi T1 904 72 ∧ Xi T1 904 72 ≤ 2600 := hHT1.c _ _
              have w379 : 0 ≤ Xi U18 904 73 ∧ Xi U18 904 73 ≤ 5 := hHU18.c _ _
              have w380 : Xi U18 904 74 = Xi T1 904 74 := (show Xi U18 904 74 = Xi T17 904 74 from by rw [eU18]; exact Xi_ne (by omega)).trans ( (show Xi T17 904 74 = Xi U16 904 74 from w360.x _ _ rfl).trans ((show Xi U16 904 74 = Xi T1 904 74 from by rw [eU16]; exact Xi_ne (by omega))))
              have w381 : 0 ≤ Xi T1 904 74 ∧ Xi T1 904 74 ≤ 2600 := hHT1.c _ _
              have w382 : Xi U18 904 78 = Xi T1 904 78 := (show Xi U18 904 78 = Xi T17 904 78 from by rw [eU18]; exact Xi_ne (by omega)).trans ( (show Xi T17 904 78 = Xi U16 904 78 from w360.x _ _ rfl).trans ((show Xi U16 904 78 = Xi T1 904 78 from by rw [eU16]; exact Xi_ne (by omega))))
              have w383 : -2 ≤ Xi T1 904 78 ∧ Xi T1 904 78 ≤ 5010 := hHT1.c _ _
              have w384 : Xi U18 904 8 = Xi T17 904 8 := (show Xi U18 904 8 = Xi T17 904 8 from by rw [eU18]; exact Xi_ne (by omega))
              have w385 : 0 ≤ Xi T17 904 8 ∧ Xi T17 904 8 ≤ 5010 := hHT17.c _ _
              have w386 : Xi U18 904 93 = Xi T1 904 93 := (show Xi U18 904 93 = Xi T17 904 93 from by rw [eU18]; exact Xi_ne (by omega)).trans ( (show Xi T17 904 93 = Xi U16 904 93 from w360.x _ _ rfl).trans ((show Xi U16 904 93 = Xi T1 904 93 from by rw [eU16]; exact Xi_ne (by omega))))
              have w387 : 0 ≤ Xi T1 904 93 ∧ Xi T1 904 93 ≤ 1700 := hHT1.c _ _
              refine l_callV rfl rfl rfl (t_mo_name__2 hHU18 n c (by first | assumption | exact (TK_FR hFU18 rfl (by assumption : TK S _))) (by first | assumption | exact (AT_FR (FR_e eU18) rfl (by assumption : AT T17 _ _))) (by first | assumption | exact (RNV_FR (FR_e eU18) rfl (RNV_FR w360 rfl (RNV_FR (FR_e eU16) rfl (by assumption : RNV T1 _))))) (by first | assumption | exact (BDA_FR (FR_e eU18) rfl (by assumption : BDA T17))) _) ?_
              rintro _ T19 ⟨hHT19, w395, z394, rfl, w394, w388, w389, w390, w391, w392, w393⟩
              have hFT19 : FR md_mo_rest__2 S T19 := FR.tr hFU18 w395 rfl
              show Rl _ _ _ _ _ [iv z394, .ref 904] _ _
              have w397 : 0 ≤ Xi T19 904 8 ∧ Xi T19 904 8 ≤ 5010 := hHT19.c _ _
              have w398 : 0 ≤ Xi T19 904 65 ∧ Xi T19 904 65 ≤ 1 := hHT19.c _ _
              have w399 : 0 ≤ Xi T19 904 69 ∧ Xi T19 904 69 ≤ 2600 := hHT19.c _ _
              have w400 : Xi T19 904 93 = Xi T1 904 93 := (show Xi T19 904 93 = Xi U18 904 93 from w395.x _ _ rfl).trans ( (show Xi U18 904 93 = Xi T17 904 93 from by rw [eU18]; exact Xi_ne (by omega)).trans ( (show Xi T17 904 93 = Xi U16 904 93 from w360.x _ _ rfl).trans ((show Xi U16 904 93 = Xi T1 904 93 from by rw [eU16]; exact Xi_ne (by omega)))))
              have w401 : 0 ≤ Xi T1 904 93 ∧ Xi T1 904 93 ≤ 1700 := hHT1.c _ _
              have w396 : Xi S 904 8 ≤ Xi T19 904 8 ∧ Xi T19 904 8 ≤ n ∧ Xi S 904 69 ≤ Xi T19 904 69 ∧ (Xi T19 904 65 = 0 → Xi S 904 65 = 0) := by omega
              clear w389 w361
              refine l_pfi rfl rfl rfl rfl ?_
              obtain ⟨U20, eU20⟩ : ∃ T : sS, T = uI T19 904 74 (Int32.ofInt z394) := ⟨_, rfl⟩
              rw [← eU20]
              have hHU20 : HI U20 := by rw [eU20]; exact HI_w hHT19 (show 0 ≤ z394 by omega) (show z394 ≤ 2600 by omega)
              have hFU20 : FR md_mo_rest__2 S U20 := by rw [eU20]; exact FR.wI hFT19 (mdf_i (r := (904, 905, 74, 75)) (List.mem_of_getElem? (i := 6) rfl) (inR_i (by omega) (by omega) (by omega) (by omega)))
              have w402 : Xi U20 904 74 = z394 := by rw [eU20]; exact Xi_same (by unfold rg; omega)
              refine l_return rfl rfl ?_
              have w403 : Xi U20 904 65 = Xi T19 904 65 := (show Xi U20 904 65 = Xi T19 904 65 from by rw [eU20]; exact Xi_ne (by omega))
              have w404 : 0 ≤ Xi T19 904 65 ∧ Xi T19 904 65 ≤ 1 := hHT19.c _ _
              have w405 : Xi U20 904 69 = Xi T19 904 69 := (show Xi U20 904 69 = Xi T19 904 69 from by rw [eU20]; exact Xi_ne (by omega))
              have w406 : 0 ≤ Xi T19 904 69 ∧ Xi T19 904 69 ≤ 2600 := hHT19.c _ _
              have w407 : Xi U20 904 70 = Xi U16 904 70 := (show Xi U20 904 70 = Xi T19 904 70 from by rw [eU20]; exact Xi_ne (by omega)).trans ( (show Xi T19 904 70 = Xi U18 904 70 from w395.x _ _ rfl).trans ( (show Xi U18 904 70 = Xi T17 904 70 from by rw [eU18]; exact Xi_ne (by omega)).trans ((show Xi T17 904 70 = Xi U16 904 70 from w360.x _ _ rfl))))
              have w408 : 0 ≤ Xi U16 904 70 ∧ Xi U16 904 70 ≤ 20 := hHU16.c _ _
              have w409 : Xi U20 904 71 = Xi T1 904 71 := (show Xi U20 904 71 = Xi T19 904 71 from by rw [eU20]; exact Xi_ne (by omega)).trans ( (show Xi T19 904 71 = Xi U18 904 71 from w395.x _ _ rfl).trans ( (show Xi U18 904 71 = Xi T17 904 71 from by rw [eU18]; exact Xi_ne (by omega)).trans ( (show Xi T17 904 71 = Xi U16 904 71 from w360.x _ _ rfl).trans ((show Xi U16 904 71 = Xi T1 904 71 from by rw [eU16]; exact Xi_ne (by omega))))))
              have w410 : 0 ≤ Xi T1 904 71 ∧ Xi T1 904 71 ≤ 2600 := hHT1.c _ _
              have w411 : Xi U20 904 72 = Xi T1 904 72 := (show Xi U20 904 72 = Xi T19 904 72 from by rw [eU20]; exact Xi_ne (by omega)).trans ( (show Xi T19 904 72 = Xi U18 904 72 from w395.x _ _ rfl).trans ( (show Xi U18 904 72 = Xi T17 904 72 from by rw [eU18]; exact Xi_ne (by omega)).trans ( (show Xi T17 904 72 = Xi U16 904 72 from w360.x _ _ rfl).trans ((show Xi U16 904 72 = Xi T1 904 72 from by rw [eU16]; exact Xi_ne (by omega))))))
              have w412 : 0 ≤ Xi T1 904 72 ∧ Xi T1 904 72 ≤ 2600 := hHT1.c _ _
              have w413 : Xi U20 904 73 = Xi U18 904 73 := (show Xi U20 904 73 = Xi T19 904 73 from by rw [eU20]; exact Xi_ne (by omega)).trans ((show Xi T19 904 73 = Xi U18 904 73 from w395.x _ _ rfl))
              have w414 : 0 ≤ Xi U18 904 73 ∧ Xi U18 904 73 ≤ 5 := hHU18.c _ _
              have w415 : 0 ≤ Xi U20 904 74 ∧ Xi U20 904 74 ≤ 2600 := hHU20.c _ _
              have w416 : Xi U20 904 78 = Xi T1 904 78 := (show Xi U20 904 78 = Xi T19 904 78 from by rw [eU20]; exact Xi_ne (by omega)).trans ( (show Xi T19 904 78 = Xi U18 904 78 from w395.x _ _ rfl).trans ( (show Xi U18 904 78 = Xi T17 904 78 from by rw [eU18]; exact Xi_ne (by omega)).trans ( (show Xi T17 904 78 = Xi U16 904 78 from w360.x _ _ rfl).trans ((show Xi U16 904 78 = Xi T1 904 78 from by rw [eU16]; exact Xi_ne (by omega))))))
              have w417 : -2 ≤ Xi T1 904 78 ∧ Xi T1 904 78 ≤ 5010 := hHT1.c _ _
              have w418 : Xi U20 904 8 = Xi T19 904 8 := (show Xi U20 904 8 = Xi T19 904 8 from by rw [eU20]; exact Xi_ne (by omega))
              have w419 : 0 ≤ Xi T19 904 8 ∧ Xi T19 904 8 ≤ 5010 := hHT19.c _ _
              have w420 : Xi U20 904 93 = Xi T1 904 93 := (show Xi U20 904 93 = Xi T19 904 93 from by rw [eU20]; exact Xi_ne (by omega)).trans ( (show Xi T19 904 93 = Xi U18 904 93 from w395.x _ _ rfl).trans ( (show Xi U18 904 93 = Xi T17 904 93 from by rw [eU18]; exact Xi_ne (by omega)).trans ( (show Xi T17 904 93 = Xi U16 904 93 from w360.x _ _ rfl).trans ((show Xi U16 904 93 = Xi T1 904 93 from by rw [eU16]; exact Xi_ne (by omega))))))
              have w421 : 0 ≤ Xi T1 904 93 ∧ Xi T1 904 93 ≤ 1700 := hHT1.c _ _
              exact ⟨hHU20, hFU20, rfl, (by first | assumption | exact (AT_FR (FR_e eU20) rfl (by assumption : AT T19 _ _))), (by omega), (by first | assumption | exact (RNV_FR (FR_e eU20) rfl (by assumption : RNV T19 _))), (by omega), (by omega), (by omega), (fun q => by unfold SNQ; refine ⟨fun q1 => absurd q1 (by omega), by omega, by omega, by omega, fun q9 => absurd q9 (by omega), by omega, by omega, by omega, by omega, by omega⟩), (by omega), (by first | assumption | exact (BDA_FR (FR_e eU20) rfl (by assumption : BDA T19)))⟩
            · refine l_aload_n rfl rfl ?_
              refine l_aload_n rfl rfl ?_
              have w422 : 0 ≤ Xi T1 904 65 ∧ Xi T1 904 65 ≤ 1 := hHT1.c _ _
              have w423 : 0 ≤ Xi T1 904 69 ∧ Xi T1 904 69 ≤ 2600 := hHT1.c _ _
              have w424 : 0 ≤ Xi T1 904 70 ∧ Xi T1 904 70 ≤ 20 := hHT1.c _ _
              have w425 : 0 ≤ Xi T1 904 71 ∧ Xi T1 904 71 ≤ 2600 := hHT1.c _ _
              have w426 : 0 ≤ Xi T1 904 72 ∧ Xi T1 904 72 ≤ 2600 := hHT1.c _ _
              have w427 : 0 ≤ Xi T1 904 73 ∧ Xi T1 904 73 ≤ 5 := hHT1.c _ _
              have w428 : 0 ≤ Xi T1 904 74 ∧ Xi T1 904 74 ≤ 2600 := hHT1.c _ _
              have w429 : -2 ≤ Xi T1 904 78 ∧ Xi T1 904 78 ≤ 5010 := hHT1.c _ _
              have w430 : 0 ≤ Xi T1 904 8 ∧ Xi T1 904 8 ≤ 5010 := hHT1.c _ _
              have w431 : 0 ≤ Xi T1 904 93 ∧ Xi T1 904 93 ≤ 1700 := hHT1.c _ _
              refine l_callV rfl rfl rfl (t_mo_run__2 hHT1 n c (by first | assumption | exact (TK_FR hFT1 rfl (by assumption : TK S _))) (by first | assumption | exact (by assumption : AT T1 _ _)) (by first | assumption | exact (by assumption : RNV T1 _)) (by first | assumption | exact (by assumption : BDA T1)) _) ?_
              rintro _ T21 ⟨hHT21, w439, z438, rfl, w438, w432, w433, w434, w435, w436, w437⟩
              have hFT21 : FR md_mo_rest__2 S T21 := FR.tr hFT1 w439 rfl
              show Rl _ _ _ _ _ [iv z438, .ref 904] _ _
              have w441 : 0 ≤ Xi T21 904 8 ∧ Xi T21 904 8 ≤ 5010 := hHT21.c _ _
              have w442 : 0 ≤ Xi T21 904 65 ∧ Xi T21 904 65 ≤ 1 := hHT21.c _ _
              have w443 : 0 ≤ Xi T21 904 69 ∧ Xi T21 904 69 ≤ 2600 := hHT21.c _ _
              have w444 : Xi T21 904 93 = Xi T1 904 93 := (show Xi T21 904 93 = Xi T1 904 93 from w439.x _ _ rfl)
              have w445 : 0 ≤ Xi T1 904 93 ∧ Xi T1 904 93 ≤ 1700 := hHT1.c _ _
              have w440 : Xi S 904 8 ≤ Xi T21 904 8 ∧ Xi T21 904 8 ≤ n ∧ Xi S 904 69 ≤ Xi T21 904 69 ∧ (Xi T21 904 65 = 0 → Xi S 904 65 = 0) := by omega
              clear w433
              refine l_pfi rfl rfl rfl rfl ?_
              obtain ⟨U22, eU22⟩ : ∃ T : sS, T = uI T21 904 78 (Int32.ofInt z438) := ⟨_, rfl⟩
              rw [← eU22]
              have hHU22 : HI U22 := by rw [eU22]; exact HI_w hHT21 (show -2 ≤ z438 by omega) (show z438 ≤ 5010 by omega)
              have hFU22 : FR md_mo_rest__2 S U22 := by rw [eU22]; exact FR.wI hFT21 (mdf_i (r := (904, 905, 78, 79)) (List.mem_of_getElem? (i := 9) rfl) (inR_i (by omega) (by omega) (by omega) (by omega)))
              have w446 : Xi U22 904 78 = z438 := by rw [eU22]; exact Xi_same (by unfold rg; omega)
              refine l_aload_n rfl rfl ?_
              refine l_bipush rfl rfl ?_
              refine l_pfi rfl rfl rfl rfl ?_
              obtain ⟨U23, eU23⟩ : ∃ T : sS, T = uI U22 904 70 (Int32.ofInt 15) := ⟨_, rfl⟩
              rw [← eU23]
              have hHU23 : HI U23 := by rw [eU23]; exact HI_w hHU22 (show 0 ≤ 15 by omega) (show 15 ≤ 20 by omega)
              have hFU23 : FR md_mo_rest__2 S U23 := by rw [eU23]; exact FR.wI hFU22 (mdf_i (r := (904, 905, 70, 71)) (List.mem_of_getElem? (i := 4) rfl) (inR_i (by omega) (by omega) (by omega) (by omega)))
              have w447 : Xi U23 904 70 = 15 := by rw [eU23]; exact Xi_same (by unfold rg; omega)
              refine l_aload_n rfl rfl ?_
              refine l_bipush rfl rfl ?_
              have w448 : Xi U23 904 65 = Xi T21 904 65 := (show Xi U23 904 65 = Xi U22 904 65 from by rw [eU23]; exact Xi_ne (by omega)).trans ((show Xi U22 904 65 = Xi T21 904 65 from by rw [eU22]; exact Xi_ne (by omega)))
              have w449 : 0 ≤ Xi T21 904 65 ∧ Xi T21 904 65 ≤ 1 := hHT21.c _ _
              have w450 : Xi U23 904 69 = Xi T21 904 69 := (show Xi U23 904 69 = Xi U22 904 69 from by rw [eU23]; exact Xi_ne (by omega)).trans ((show Xi U22 904 69 = Xi T21 904 69 from by rw [eU22]; exact Xi_ne (by omega)))
              have w451 : 0 ≤ Xi T21 904 69 ∧ Xi T21 904 69 ≤ 2600 := hHT21.c _ _
              have w452 : 0 ≤ Xi U23 904 70 ∧ Xi U23 904 70 ≤ 20 := hHU23.c _ _
              have w453 : Xi U23 904 71 = Xi T1 904 71 := (show Xi U23 904 71 = Xi U22 904 71 from by rw [eU23]; exact Xi_ne (by omega)).trans ( (show Xi U22 904 71 = Xi T21 904 71 from by rw [eU22]; exact Xi_ne (by omega)).trans ((show Xi T21 904 71 = Xi T1 904 71 from w439.x _ _ rfl)))
              have w454 : 0 ≤ Xi T1 904 71 ∧ Xi T1 904 71 ≤ 2600 := hHT1.c _ _
              have w455 : Xi U23 904 72 = Xi T1 904 72 := (show Xi U23 904 72 = Xi U22 904 72 from by rw [eU23]; exact Xi_ne (by omega)).trans ( (show Xi U22 904 72 = Xi T21 904 72 from by rw [eU22]; exact Xi_ne (by omega)).trans ((show Xi T21 904 72 = Xi T1 904 72 from w439.x _ _ rfl)))
              have w456 : 0 ≤ Xi T1 904 72 ∧ Xi T1 904 72 ≤ 2600 := hHT1.c _ _
              have w457 : Xi U23 904 73 = Xi T1 904 73 := (show Xi U23 904 73 = Xi U22 904 73 from by rw [eU23]; exact Xi_ne (by omega)).trans ( (show Xi U22 904 73 = Xi T21 904 73 from by rw [eU22]; exact Xi_ne (by omega)).trans ((show Xi T21 904 73 = Xi T1 904 73 from w439.x _ _ rfl)))
              have w458 : 0 ≤ Xi T1 904 73 ∧ Xi T1 904 73 ≤ 5 := hHT1.c _ _
              have w459 : Xi U23 904 74 = Xi T1 904 74 := (show Xi U23 904 74 = Xi U22 904 74 from by rw [eU23]; exact Xi_ne (by omega)).trans ( (show Xi U22 904 74 = Xi T21 904 74 from by rw [eU22]; exact Xi_ne (by omega)).trans ((show Xi T21 904 74 = Xi T1 904 74 from w439.x _ _ rfl)))
              have w460 : 0 ≤ Xi T1 904 74 ∧ Xi T1 904 74 ≤ 2600 := hHT1.c _ _
              have w461 : Xi U23 904 78 = Xi U22 904 78 := (show Xi U23 904 78 = Xi U22 904 78 from by rw [eU23]; exact Xi_ne (by omega))
              have w462 : -2 ≤ Xi U22 904 78 ∧ Xi U22 904 78 ≤ 5010 := hHU22.c _ _
              have w463 : Xi U23 904 8 = Xi T21 904 8 := (show Xi U23 904 8 = Xi U22 904 8 from by rw [eU23]; exact Xi_ne (by omega)).trans ((show Xi U22 904 8 = Xi T21 904 8 from by rw [eU22]; exact Xi_ne (by omega)))
              have w464 : 0 ≤ Xi T21 904 8 ∧ Xi T21 904 8 ≤ 5010 := hHT21.c _ _
              have w465 : Xi U23 904 93 = Xi T1 904 93 := (show Xi U23 904 93 = Xi U22 904 93 from by rw [eU23]; exact Xi_ne (by omega)).trans ( (show Xi U22 904 93 = Xi T21 904 93 from by rw [eU22]; exact Xi_ne (by omega)).trans ((show Xi T21 904 93 = Xi T1 904 93 from w439.x _ _ rfl)))
              have w466 : 0 ≤ Xi T1 904 93 ∧ Xi T1 904 93 ≤ 1700 := hHT1.c _ _
              refine l_callV rfl rfl rfl (t_mo_isNext hHU23 n c 107 ⟨by omega, by omega⟩ (by first | assumption | exact (TK_FR hFU23 rfl (by assumption : TK S _))) (by first | assumption | exact (AT_FR (FR_e eU23) rfl (AT_FR (FR_e eU22) rfl (by assumption : AT T21 _ _)))) _) ?_
              rintro _ _ ⟨rfl, z469, rfl, w469, w467, w468⟩
              show Rl _ _ _ _ _ [iv z469] _ _
              have j356 : z469 = 1 → Xi U23 904 65 = 0 ∧ Xi U23 907 (Xi U23 904 8).toNat = 107 := by assumption
              refine l_if_eq rfl rfl (by unfold rg; omega) (fun w470 => ?_) (fun w471 => ?_)
              · refine l_aload_n rfl rfl ?_
                refine l_bipush rfl rfl ?_
                have w472 : Xi U23 904 65 = Xi T21 904 65 := (show Xi U23 904 65 = Xi U22 904 65 from by rw [eU23]; exact Xi_ne (by omega)).trans ((show Xi U22 904 65 = Xi T21 904 65 from by rw [eU22]; exact Xi_ne (by omega)))
                have w473 : 0 ≤ Xi T21 904 65 ∧ Xi T21 904 65 ≤ 1 := hHT21.c _ _
                have w474 : Xi U23 904 69 = Xi T21 904 69 := (show Xi U23 904 69 = Xi U22 904 69 from by rw [eU23]; exact Xi_ne (by omega)).trans ((show Xi U22 904 69 = Xi T21 904 69 from by rw [eU22]; exact Xi_ne (by omega)))
                have w475 : 0 ≤ Xi T21 904 69 ∧ Xi T21 904 69 ≤ 2600 := hHT21.c _ _
                have w476 : 0 ≤ Xi U23 904 70 ∧ Xi U23 904 70 ≤ 20 := hHU23.c _ _
                have w477 : Xi U23 904 71 = Xi T1 904 71 := (show Xi U23 904 71 = Xi U22 904 71 from by rw [eU23]; exact Xi_ne (by omega)).trans ( (show Xi U22 904 71 = Xi T21 904 71 from by rw [eU22]; exact Xi_ne (by omega)).trans ((show Xi T21 904 71 = Xi T1 904 71 from w439.x _ _ rfl)))
                have w478 : 0 ≤ Xi T1 904 71 ∧ Xi T1 904 71 ≤ 2600 := hHT1.c _ _
                have w479 : Xi U23 904 72 = Xi T1 904 72 := (show Xi U23 904 72 = Xi U22 904 72 from by rw [eU23]; exact Xi_ne (by omega)).trans ( (show Xi U22 904 72 = Xi T21 904 72 from by rw [eU22]; exact Xi_ne (by omega)).trans ((show Xi T21 904 72 = Xi T1 904 72 from w439.x _ _ rfl)))
                have w480 : 0 ≤ Xi T1 904 72 ∧ Xi T1 904 72 ≤ 2600 := hHT1.c _ _
                have w481 : Xi U23 904 73 = Xi T1 904 73 := (show Xi U23 904 73 = Xi U22 904 73 from by rw [eU23]; exact Xi_ne (by omega)).trans ( (show Xi U22 904 73 = Xi T21 904 73 from by rw [eU22]; exact Xi_ne (by omega)).trans ((show Xi T21 904 73 = Xi T1 904 73 from w439.x _ _ rfl)))
                have w482 : 0 ≤ Xi T1 904 73 ∧ Xi T1 904 73 ≤ 5 := hHT1.c _ _
                have w483 : Xi U23 904 74 = Xi T1 904 74 := (show Xi U23 904 74 = Xi U22 904 74 from by rw [eU23]; exact Xi_ne (by omega)).trans ( (show Xi U22 904 74 = Xi T21 904 74 from by rw [eU22]; exact Xi_ne (by omega)).trans ((show Xi T21 904 74 = Xi T1 904 74 from w439.x _ _ rfl)))
                have w484 : 0 ≤ Xi T1 904 74 ∧ Xi T1 904 74 ≤ 2600 := hHT1.c _ _
                have w485 : Xi U23 904 78 = Xi U22 904 78 := (show Xi U23 904 78 = Xi U22 904 78 from by rw [eU23]; exact Xi_ne (by omega))
                have w486 : -2 ≤ Xi U22 904 78 ∧ Xi U22 904 78 ≤ 5010 := hHU22.c _ _
                have w487 : Xi U23 904 8 = Xi T21 904 8 := (show Xi U23 904 8 = Xi U22 904 8 from by rw [eU23]; exact Xi_ne (by omega)).trans ((show Xi U22 904 8 = Xi T21 904 8 from by rw [eU22]; exact Xi_ne (by omega)))
                have w488 : 0 ≤ Xi T21 904 8 ∧ Xi T21 904 8 ≤ 5010 := hHT21.c _ _
                have w489 : Xi U23 904 93 = Xi T1 904 93 := (show Xi U23 904 93 = Xi U22 904 93 from by rw [eU23]; exact Xi_ne (by omega)).trans ( (show Xi U22 904 93 = Xi T21 904 93 from by rw [eU22]; exact Xi_ne (by omega)).trans ((show Xi T21 904 93 = Xi T1 904 93 from w439.x _ _ rfl)))
                have w490 : 0 ≤ Xi T1 904 93 ∧ Xi T1 904 93 ≤ 1700 := hHT1.c _ _
                refine l_callV rfl rfl rfl (t_mo_isNext hHU23 n c 116 ⟨by omega, by omega⟩ (by first | assumption | exact (TK_FR hFU23 rfl (by assumption : TK S _))) (by first | assumption | exact (AT_FR (FR_e eU23) rfl (AT_FR (FR_e eU22) rfl (by assumption : AT T21 _ _)))) _) ?_
                rintro _ _ ⟨rfl, z493, rfl, w493, w491, w492⟩
                show Rl _ _ _ _ _ [iv z493] _ _
                refine l_if_ne rfl rfl (by unfold rg; omega) (fun w494 => ?_) (fun w495 => ?_)
                · refine l_aload_n rfl rfl ?_
                  refine l_bipush rfl rfl ?_
                  refine l_pfi rfl rfl rfl rfl ?_
                  obtain ⟨U24, eU24⟩ : ∃ T : sS, T = uI U23 904 70 (Int32.ofInt 16) := ⟨_, rfl⟩
                  rw [← eU24]
                  have hHU24 : HI U24 := by rw [eU24]; exact HI_w hHU23 (show 0 ≤ 16 by omega) (show 16 ≤ 20 by omega)
                  have hFU24 : FR md_mo_rest__2 S U24 := by rw [eU24]; exact FR.wI hFU23 (mdf_i (r := (904, 905, 70, 71)) (List.mem_of_getElem? (i := 4) rfl) (inR_i (by omega) (by omega) (by omega) (by omega)))
                  have w496 : Xi U24 904 70 = 16 := by rw [eU24]; exact Xi_same (by unfold rg; omega)
                  have w497 : Xi U24 904 65 = Xi T21 904 65 := (show Xi U24 904 65 = Xi U23 904 65 from by rw [eU24]; exact Xi_ne (by omega)).trans ( (show Xi U23 904 65 = Xi U22 904 65 from by rw [eU23]; exact Xi_ne (by omega)).trans ((show Xi U22 904 65 = Xi T21 904 65 from by rw [eU22]; exact Xi_ne (by omega))))
                  have w498 : 0 ≤ Xi T21 904 65 ∧ Xi T21 904 65 ≤ 1 := hHT21.c _ _
                  have w499 : Xi U24 904 69 = Xi T21 904 69 := (show Xi U24 904 69 = Xi U23 904 69 from by rw [eU24]; exact Xi_ne (by omega)).trans ( (show Xi U23 904 69 = Xi U22 904 69 from by rw [eU23]; exact Xi_ne (by omega)).trans ((show Xi U22 904 69 = Xi T21 904 69 from by rw [eU22]; exact Xi_ne (by omega))))
                  have w500 : 0 ≤ Xi T21 904 69 ∧ Xi T21 904 69 ≤ 2600 := hHT21.c _ _
                  have w501 : 0 ≤ Xi U24 904 70 ∧ Xi U24 904 70 ≤ 20 := hHU24.c _ _
                  have w502 : Xi U24 904 71 = Xi T1 904 71 := (show Xi U24 904 71 = Xi U23 904 71 from by rw [eU24]; exact Xi_ne (by omega)).trans ( (show Xi U23 904 71 = Xi U22 904 71 from by rw [eU23]; exact Xi_ne (by omega)).trans ( (show Xi U22 904 71 = Xi T21 904 71 from by rw [eU22]; exact Xi_ne (by omega)).trans ((show Xi T21 904 71 = Xi T1 904 71 from w439.x _ _ rfl))))
                  have w503 : 0 ≤ Xi T1 904 71 ∧ Xi T1 904 71 ≤ 2600 := hHT1.c _ _
                  have w504 : Xi U24 904 72 = Xi T1 904 72 := (show Xi U24 904 72 = Xi U23 904 72 from by rw [eU24]; exact Xi_ne (by omega)).trans ( (show Xi U23 904 72 = Xi U22 904 72 from by rw [eU23]; exact Xi_ne (by omega)).trans ( (show Xi U22 904 72 = Xi T21 904 72 from by rw [eU22]; exact Xi_ne (by omega)).trans ((show Xi T21 904 72 = Xi T1 904 72 from w439.x _ _ rfl))))
                  have w505 : 0 ≤ Xi T1 904 72 ∧ Xi T1 904 72 ≤ 2600 := hHT1.c _ _
                  have w506 : Xi U24 904 73 = Xi T1 904 73 := (show Xi U24 904 73 = Xi U23 904 73 from by rw [eU24]; exact Xi_ne (by omega)).trans ( (show Xi U23 904 73 = Xi U22 904 73 from by rw [eU23]; exact Xi_ne (by omega)).trans ( (show Xi U22 904 73 = Xi T21 904 73 from by rw [eU22]; exact Xi_ne (by omega)).trans ((show Xi T21 904 73 = Xi T1 904 73 from w439.x _ _ rfl))))
                  have w507 : 0 ≤ Xi T1 904 73 ∧ Xi T1 904 73 ≤ 5 := hHT1.c _ _
                  have w508 : Xi U24 904 74 = Xi T1 904 74 := (show Xi U24 904 74 = Xi U23 904 74 from by rw [eU24]; exact Xi_ne (by omega)).trans ( (show Xi U23 904 74 = Xi U22 904 74 from by rw [eU23]; exact Xi_ne (by omega)).trans ( (show Xi U22 904 74 = Xi T21 904 74 from by rw [eU22]; exact Xi_ne (by omega)).trans ((show Xi T21 904 74 = Xi T1 904 74 from w439.x _ _ rfl))))
                  have w509 : 0 ≤ Xi T1 904 74 ∧ Xi T1 904 74 ≤ 2600 := hHT1.c _ _
                  have w510 : Xi U24 904 78 = Xi U22 904 78 := (show Xi U24 904 78 = Xi U23 904 78 from by rw [eU24]; exact Xi_ne (by omega)).trans ((show Xi U23 904 78 = Xi U22 904 78 from by rw [eU23]; exact Xi_ne (by omega)))
                  have w511 : -2 ≤ Xi U22 904 78 ∧ Xi U22 904 78 ≤ 5010 := hHU22.c _ _
                  have w512 : Xi U24 904 8 = Xi T21 904 8 := (show Xi U24 904 8 = Xi U23 904 8 from by rw [eU24]; exact Xi_ne (by omega)).trans ( (show Xi U23 904 8 = Xi U22 904 8 from by rw [eU23]; exact Xi_ne (by omega)).trans ((show Xi U22 904 8 = Xi T21 904 8 from by rw [eU22]; exact Xi_ne (by omega))))
                  have w513 : 0 ≤ Xi T21 904 8 ∧ Xi T21 904 8 ≤ 5010 := hHT21.c _ _
                  have w514 : Xi U24 904 93 = Xi T1 904 93 := (show Xi U24 904 93 = Xi U23 904 93 from by rw [eU24]; exact Xi_ne (by omega)).trans ( (show Xi U23 904 93 = Xi U22 904 93 from by rw [eU23]; exact Xi_ne (by omega)).trans ( (show Xi U22 904 93 = Xi T21 904 93 from by rw [eU22]; exact Xi_ne (by omega)).trans ((show Xi T21 904 93 = Xi T1 904 93 from w439.x _ _ rfl))))
                  have w515 : 0 ≤ Xi T1 904 93 ∧ Xi T1 904 93 ≤ 1700 := hHT1.c _ _
                  exact Rl_weak (C413 _ U24 hHU24 hFU24  (by first | assumption | exact (AT_FR (FR_e eU24) rfl (AT_FR (FR_e eU23) rfl (AT_FR (FR_e eU22) rfl (by assumption : AT T21 _ _))))) (by first | assumption | exact (RNV_FR (FR_e eU24) rfl (RNV_FR (FR_e eU23) rfl (RNV_FR (FR_e eU22) rfl (by assumption : RNV T21 _))))) (by omega) (by omega) (by omega) (by omega) (by omega) (by first | assumption | exact (BDA_FR (FR_e eU24) rfl (BDA_FR (FR_e eU23) rfl (BDA_FR (FR_e eU22) rfl (by assumption : BDA T21))))) rfl) (And.intro rfl (True.intro))
                · refine l_aload_n rfl rfl ?_
                  refine l_bipush rfl rfl ?_
                  have w516 : Xi U23 904 65 = Xi T21 904 65 := (show Xi U23 904 65 = Xi U22 904 65 from by rw [eU23]; exact Xi_ne (by omega)).trans ((show Xi U22 904 65 = Xi T21 904 65 from by rw [eU22]; exact Xi_ne (by omega)))
                  have w517 : 0 ≤ Xi T21 904 65 ∧ Xi T21 904 65 ≤ 1 := hHT21.c _ _
                  have w518 : Xi U23 904 69 = Xi T21 904 69 := (show Xi U23 904 69 = Xi U22 904 69 from by rw [eU23]; exact Xi_ne (by omega)).trans ((show Xi U22 904 69 = Xi T21 904 69 from by rw [eU22]; exact Xi_ne (by omega)))
                  have w519 : 0 ≤ Xi T21 904 69 ∧ Xi T21 904 69 ≤ 2600 := hHT21.c _ _
                  have w520 : 0 ≤ Xi U23 904 70 ∧ Xi U23 904 70 ≤ 20 := hHU23.c _ _
                  have w521 : Xi U23 904 71 = Xi T1 904 71 := (show Xi U23 904 71 = Xi U22 904 71 from by rw [eU23]; exact Xi_ne (by omega)).trans ( (show Xi U22 904 71 = Xi T21 904 71 from by rw [eU22]; exact Xi_ne (by omega)).trans ((show Xi T21 904 71 = Xi T1 904 71 from w439.x _ _ rfl)))
                  have w522 : 0 ≤ Xi T1 904 71 ∧ Xi T1 904 71 ≤ 2600 := hHT1.c _ _
                  have w523 : Xi U23 904 72 = Xi T1 904 72 := (show Xi U23 904 72 = Xi U22 904 72 from by rw [eU23]; exact Xi_ne (by omega)).trans ( (show Xi U22 904 72 = Xi T21 904 72 from by rw [eU22]; exact Xi_ne (by omega)).trans ((show Xi T21 904 72 = Xi T1 904 72 from w439.x _ _ rfl)))
                  have w524 : 0 ≤ Xi T1 904 72 ∧ Xi T1 904 72 ≤ 2600 := hHT1.c _ _
                  have w525 : Xi U23 904 73 = Xi T1 904 73 := (show Xi U23 904 73 = Xi U22 904 73 from by rw [eU23]; exact Xi_ne (by omega)).trans ( (show Xi U22 904 73 = Xi T21 904 73 from by rw [eU22]; exact Xi_ne (by omega)).trans ((show Xi T21 904 73 = Xi T1 904 73 from w439.x _ _ rfl)))
                  have w526 : 0 ≤ Xi T1 904 73 ∧ Xi T1 904 73 ≤ 5 := hHT1.c _ _
                  have w527 : Xi U23 904 74 = Xi T1 904 74 := (show Xi U23 904 74 = Xi U22 904 74 from by rw [eU23]; exact Xi_ne (by omega)).trans ( (show Xi U22 904 74 = Xi T21 904 74 from by rw [eU22]; exact Xi_ne (by omega)).trans ((show Xi T21 904 74 = Xi T1 904 74 from w439.x _ _ rfl)))
                  have w528 : 0 ≤ Xi T1 904 74 ∧ Xi T1 904 74 ≤ 2600 := hHT1.c _ _
                  have w529 : Xi U23 904 78 = Xi U22 904 78 := (show Xi U23 904 78 = Xi U22 904 78 from by rw [eU23]; exact Xi_ne (by omega))
                  have w530 : -2 ≤ Xi U22 904 78 ∧ Xi U22 904 78 ≤ 5010 := hHU22.c _ _
                  have w531 : Xi U23 904 8 = Xi T21 904 8 := (show Xi U23 904 8 = Xi U22 904 8 from by rw [eU23]; exact Xi_ne (by omega)).trans ((show Xi U22 904 8 = Xi T21 904 8 from by rw [eU22]; exact Xi_ne (by omega)))
                  have w532 : 0 ≤ Xi T21 904 8 ∧ Xi T21 904 8 ≤ 5010 := hHT21.c _ _
                  have w533 : Xi U23 904 93 = Xi T1 904 93 := (show Xi U23 904 93 = Xi U22 904 93 from by rw [eU23]; exact Xi_ne (by omega)).trans ( (show Xi U22 904 93 = Xi T21 904 93 from by rw [eU22]; exact Xi_ne (by omega)).trans ((show Xi T21 904 93 = Xi T1 904 93 from w439.x _ _ rfl)))
                  have w534 : 0 ≤ Xi T1 904 93 ∧ Xi T1 904 93 ≤ 1700 := hHT1.c _ _
                  refine l_callV rfl rfl rfl (t_mo_isNext hHU23 n c 44 ⟨by omega, by omega⟩ (by first | assumption | exact (TK_FR hFU23 rfl (by assumption : TK S _))) (by first | assumption | exact (AT_FR (FR_e eU23) rfl (AT_FR (FR_e eU22) rfl (by assumption : AT T21 _ _)))) _) ?_
                  rintro _ _ ⟨rfl, z537, rfl, w537, w535, w536⟩
                  show Rl _ _ _ _ _ [iv z537] _ _
                  refine l_if_eq rfl rfl (by unfold rg; omega) (fun w538 => ?_) (fun w539 => ?_)
                  · refine l_return rfl rfl ?_
                    have w540 : Xi U23 904 65 = Xi T21 904 65 := (show Xi U23 904 65 = Xi U22 904 65 from by rw [eU23]; exact Xi_ne (by omega)).trans ((show Xi U22 904 65 = Xi T21 904 65 from by rw [eU22]; exact Xi_ne (by omega)))
                    have w541 : 0 ≤ Xi T21 904 65 ∧ Xi T21 904 65 ≤ 1 := hHT21.c _ _
                    have w542 : Xi U23 904 69 = Xi T21 904 69 := (show Xi U23 904 69 = Xi U22 904 69 from by rw [eU23]; exact Xi_ne (by omega)).trans ((show Xi U22 904 69 = Xi T21 904 69 from by rw [eU22]; exact Xi_ne (by omega)))
                    have w543 : 0 ≤ Xi T21 904 69 ∧ Xi T21 904 69 ≤ 2600 := hHT21.c _ _
                    have w544 : 0 ≤ Xi U23 904 70 ∧ Xi U23 904 70 ≤ 20 := hHU23.c _ _
                    have w545 : Xi U23 904 71 = Xi T1 904 71 := (show Xi U23 904 71 = Xi U22 904 71 from by rw [eU23]; exact Xi_ne (by omega)).trans ( (show Xi U22 904 71 = Xi T21 904 71 from by rw [eU22]; exact Xi_ne (by omega)).trans ((show Xi T21 904 71 = Xi T1 904 71 from w439.x _ _ rfl)))
                    have w546 : 0 ≤ Xi T1 904 71 ∧ Xi T1 904 71 ≤ 2600 := hHT1.c _ _
                    have w547 : Xi U23 904 72 = Xi T1 904 72 := (show Xi U23 904 72 = Xi U22 904 72 from by rw [eU23]; exact Xi_ne (by omega)).trans ( (show Xi U22 904 72 = Xi T21 904 72 from by rw [eU22]; exact Xi_ne (by omega)).trans ((show Xi T21 904 72 = Xi T1 904 72 from w439.x _ _ rfl)))
                    have w548 : 0 ≤ Xi T1 904 72 ∧ Xi T1 904 72 ≤ 2600 := hHT1.c _ _
                    have w549 : Xi U23 904 73 = Xi T1 904 73 := (show Xi U23 904 73 = Xi U22 904 73 from by rw [eU23]; exact Xi_ne (by omega)).trans ( (show Xi U22 904 73 = Xi T21 904 73 from by rw [eU22]; exact Xi_ne (by omega)).trans ((show Xi T21 904 73 = Xi T1 904 73 from w439.x _ _ rfl)))
                    have w550 : 0 ≤ Xi T1 904 73 ∧ Xi T1 904 73 ≤ 5 := hHT1.c _ _
                    have w551 : Xi U23 904 74 = Xi T1 904 74 := (show Xi U23 904 74 = Xi U22 904 74 from by rw [eU23]; exact Xi_ne (by omega)).trans ( (show Xi U22 904 74 = Xi T21 904 74 from by rw [eU22]; exact Xi_ne (by omega)).trans ((show Xi T21 904 74 = Xi T1 904 74 from w439.x _ _ rfl)))
                    have w552 : 0 ≤ Xi T1 904 74 ∧ Xi T1 904 74 ≤ 2600 := hHT1.c _ _
                    have w553 : Xi U23 904 78 = Xi U22 904 78 := (show Xi U23 904 78 = Xi U22 904 78 from by rw [eU23]; exact Xi_ne (by omega))
                    have w554 : -2 ≤ Xi U22 904 78 ∧ Xi U22 904 78 ≤ 5010 := hHU22.c _ _
                    have w555 : Xi U23 904 8 = Xi T21 904 8 := (show Xi U23 904 8 = Xi U22 904 8 from by rw [eU23]; exact Xi_ne (by omega)).trans ((show Xi U22 904 8 = Xi T21 904 8 from by rw [eU22]; exact Xi_ne (by omega)))
                    have w556 : 0 ≤ Xi T21 904 8 ∧ Xi T21 904 8 ≤ 5010 := hHT21.c _ _
                    have w557 : Xi U23 904 93 = Xi T1 904 93 := (show Xi U23 904 93 = Xi U22 904 93 from by rw [eU23]; exact Xi_ne (by omega)).trans ( (show Xi U22 904 93 = Xi T21 904 93 from by rw [eU22]; exact Xi_ne (by omega)).trans ((show Xi T21 904 93 = Xi T1 904 93 from w439.x _ _ rfl)))
                    have w558 : 0 ≤ Xi T1 904 93 ∧ Xi T1 904 93 ≤ 1700 := hHT1.c _ _
                    exact ⟨hHU23, hFU23, rfl, (by first | assumption | exact (AT_FR (FR_e eU23) rfl (AT_FR (FR_e eU22) rfl (by assumption : AT T21 _ _)))), (by omega), (by first | assumption | exact (RNV_FR (FR_e eU23) rfl (RNV_FR (FR_e eU22) rfl (by assumption : RNV T21 _)))), (by omega), (by omega), (by omega), (fun q => by unfold SNQ; refine ⟨fun q1 => absurd q1 (by omega), by omega, by omega, by omega, fun q9 => absurd q9 (by omega), by omega, by omega, by omega, by omega, by omega⟩), (by omega), (by first | assumption | exact (BDA_FR (FR_e eU23) rfl (BDA_FR (FR_e eU22) rfl (by assumption : BDA T21))))⟩
                  · refine l_aload_n rfl rfl ?_
                    refine l_bipush rfl rfl ?_
                    refine l_pfi rfl rfl rfl rfl ?_
                    obtain ⟨U25, eU25⟩ : ∃ T : sS, T = uI U23 904 70 (Int32.ofInt 16) := ⟨_, rfl⟩
                    rw [← eU25]
                    have hHU25 : HI U25 := by rw [eU25]; exact HI_w hHU23 (show 0 ≤ 16 by omega) (show 16 ≤ 20 by omega)
                    have hFU25 : FR md_mo_rest__2 S U25 := by rw [eU25]; exact FR.wI hFU23 (mdf_i (r := (904, 905, 70, 71)) (List.mem_of_getElem? (i := 4) rfl) (inR_i (by omega) (by omega) (by omega) (by omega)))
                    have w559 : Xi U25 904 70 = 16 := by rw [eU25]; exact Xi_same (by unfold rg; omega)
                    have w560 : Xi U25 904 65 = Xi T21 904 65 := (show Xi U25 904 65 = Xi U23 904 65 from by rw [eU25]; exact Xi_ne (by omega)).trans ( (show Xi U23 904 65 = Xi U22 904 65 from by rw [eU23]; exact Xi_ne (by omega)).trans ((show Xi U22 904 65 = Xi T21 904 65 from by rw [eU22]; exact Xi_ne (by omega))))
                    have w561 : 0 ≤ Xi T21 904 65 ∧ Xi T21 904 65 ≤ 1 := hHT21.c _ _
                    have w562 : Xi U25 904 69 = Xi T21 904 69 := (show Xi U25 904 69 = Xi U23 904 69 from by rw [eU25]; exact Xi_ne (by omega)).trans ( (show Xi U23 904 69 = Xi U22 904 69 from by rw [eU23]; exact Xi_ne (by omega)).trans ((show Xi U22 904 69 = Xi T21 904 69 from by rw [eU22]; exact Xi_ne (by omega))))
                    have w563 : 0 ≤ Xi T21 904 69 ∧ Xi T21 904 69 ≤ 2600 := hHT21.c _ _
                    have w564 : 0 ≤ Xi U25 904 70 ∧ Xi U25 904 70 ≤ 20 := hHU25.c _ _
                    have w565 : Xi U25 904 71 = Xi T1 904 71 := (show Xi U25 904 71 = Xi U23 904 71 from by rw [eU25]; exact Xi_ne (by omega)).trans ( (show Xi U23 904 71 = Xi U22 904 71 from by rw [eU23]; exact Xi_ne (by omega)).trans ( (show Xi U22 904 71 = Xi T21 904 71 from by rw [eU22]; exact Xi_ne (by omega)).trans ((show Xi T21 904 71 = Xi T1 904 71 from w439.x _ _ rfl))))
                    have w566 : 0 ≤ Xi T1 904 71 ∧ Xi T1 904 71 ≤ 2600 := hHT1.c _ _
                    have w567 : Xi U25 904 72 = Xi T1 904 72 := (show Xi U25 904 72 = Xi U23 904 72 from by rw [eU25]; exact Xi_ne (by omega)).trans ( (show Xi U23 904 72 = Xi U22 904 72 from by rw [eU23]; exact Xi_ne (by omega)).trans ( (show Xi U22 904 72 = Xi T21 904 72 from by rw [eU22]; exact Xi_ne (by omega)).trans ((show Xi T21 904 72 = Xi T1 904 72 from w439.x _ _ rfl))))
                    have w568 : 0 ≤ Xi T1 904 72 ∧ Xi T1 904 72 ≤ 2600 := hHT1.c _ _
                    have w569 : Xi U25 904 73 = Xi T1 904 73 := (show Xi U25 904 73 = Xi U23 904 73 from by rw [eU25]; exact Xi_ne (by omega)).trans ( (show Xi U23 904 73 = Xi U22 904 73 from by rw [eU23]; exact Xi_ne (by omega)).trans ( (show Xi U22 904 73 = Xi T21 904 73 from by rw [eU22]; exact Xi_ne (by omega)).trans ((show Xi T21 904 73 = Xi T1 904 73 from w439.x _ _ rfl))))
                    have w570 : 0 ≤ Xi T1 904 73 ∧ Xi T1 904 73 ≤ 5 := hHT1.c _ _
                    have w571 : Xi U25 904 74 = Xi T1 904 74 := (show Xi U25 904 74 = Xi U23 904 74 from by rw [eU25]; exact Xi_ne (by omega)).trans ( (show Xi U23 904 74 = Xi U22 904 74 from by rw [eU23]; exact Xi_ne (by omega)).trans ( (show Xi U22 904 74 = Xi T21 904 74 from by rw [eU22]; exact Xi_ne (by omega)).trans ((show Xi T21 904 74 = Xi T1 904 74 from w439.x _ _ rfl))))
                    have w572 : 0 ≤ Xi T1 904 74 ∧ Xi T1 904 74 ≤ 2600 := hHT1.c _ _
                    have w573 : Xi U25 904 78 = Xi U22 904 78 := (show Xi U25 904 78 = Xi U23 904 78 from by rw [eU25]; exact Xi_ne (by omega)).trans ((show Xi U23 904 78 = Xi U22 904 78 from by rw [eU23]; exact Xi_ne (by omega)))
                    have w574 : -2 ≤ Xi U22 904 78 ∧ Xi U22 904 78 ≤ 5010 := hHU22.c _ _
                    have w575 : Xi U25 904 8 = Xi T21 904 8 := (show Xi U25 904 8 = Xi U23 904 8 from by rw [eU25]; exact Xi_ne (by omega)).trans ( (show Xi U23 904 8 = Xi U22 904 8 from by rw [eU23]; exact Xi_ne (by omega)).trans ((show Xi U22 904 8 = Xi T21 904 8 from by rw [eU22]; exact Xi_ne (by omega))))
                    have w576 : 0 ≤ Xi T21 904 8 ∧ Xi T21 904 8 ≤ 5010 := hHT21.c _ _
                    have w577 : Xi U25 904 93 = Xi T1 904 93 := (show Xi U25 904 93 = Xi U23 904 93 from by rw [eU25]; exact Xi_ne (by omega)).trans ( (show Xi U23 904 93 = Xi U22 904 93 from by rw [eU23]; exact Xi_ne (by omega)).trans ( (show Xi U22 904 93 = Xi T21 904 93 from by rw [eU22]; exact Xi_ne (by omega)).trans ((show Xi T21 904 93 = Xi T1 904 93 from w439.x _ _ rfl))))
                    have w578 : 0 ≤ Xi T1 904 93 ∧ Xi T1 904 93 ≤ 1700 := hHT1.c _ _
                    exact Rl_weak (C413 _ U25 hHU25 hFU25  (by first | assumption | exact (AT_FR (FR_e eU25) rfl (AT_FR (FR_e eU23) rfl (AT_FR (FR_e eU22) rfl (by assumption : AT T21 _ _))))) (by first | assumption | exact (RNV_FR (FR_e eU25) rfl (RNV_FR (FR_e eU23) rfl (RNV_FR (FR_e eU22) rfl (by assumption : RNV T21 _))))) (by omega) (by omega) (by omega) (by omega) (by omega) (by first | assumption | exact (BDA_FR (FR_e eU25) rfl (BDA_FR (FR_e eU23) rfl (BDA_FR (FR_e eU22) rfl (by assumption : BDA T21))))) rfl) (And.intro rfl (True.intro))
              · refine l_aload_n rfl rfl ?_
                refine l_bipush rfl rfl ?_
                refine l_pfi rfl rfl rfl rfl ?_
                obtain ⟨U26, eU26⟩ : ∃ T : sS, T = uI U23 904 70 (Int32.ofInt 14) := ⟨_, rfl⟩
                rw [← eU26]
                have hHU26 : HI U26 := by rw [eU26]; exact HI_w hHU23 (show 0 ≤ 14 by omega) (show 14 ≤ 20 by omega)
                have hFU26 : FR md_mo_rest__2 S U26 := by rw [eU26]; exact FR.wI hFU23 (mdf_i (r := (904, 905, 70, 71)) (List.mem_of_getElem? (i := 4) rfl) (inR_i (by omega) (by omega) (by omega) (by omega)))
                have w579 : Xi U26 904 70 = 14 := by rw [eU26]; exact Xi_same (by unfold rg; omega)
                refine l_aload_n rfl rfl ?_
                refine l_dup rfl rfl ?_
                refine l_gfi rfl rfl rfl rfl rfl ?_
                have w580 : 0 ≤ (Xi U26 904 8) ∧ (Xi U26 904 8) ≤ 5010 := hHU26.c _ _
                have b370 : (Xi U26 904 8) = Xi U23 904 8 := by rw [eU26, Xi_ne (by omega)]
                refine l_iconst rfl ?_
                refine l_iadd rfl ?_
                refine l_pfi rfl rfl rfl rfl ?_
                obtain ⟨U27, eU27⟩ : ∃ T : sS, T = uI U26 904 8 (Int32.ofInt ((Xi U26 904 8) + 1)) := ⟨_, rfl⟩
                rw [← eU27]
                have hHU27 : HI U27 := by rw [eU27]; exact HI_w hHU26 (show 0 ≤ ((Xi U26 904 8) + 1) by omega) (show ((Xi U26 904 8) + 1) ≤ 5010 by omega)
                have hFU27 : FR md_mo_rest__2 S U27 := by rw [eU27]; exact FR.wI hFU26 (mdf_i (r := (904, 905, 8, 9)) (List.mem_of_getElem? (i := 0) rfl) (inR_i (by omega) (by omega) (by omega) (by omega)))
                have w581 : Xi U27 904 8 = ((Xi U26 904 8) + 1) := by rw [eU27]; exact Xi_same (by unfold rg; omega)
                have t375 : AT U27 n c ∧ _ := (at_mv (S := U23) (P := U26) (TK_FR hFU23 rfl (by assumption : TK S _)) (by first | assumption | exact (AT_FR (FR_e eU23) rfl (AT_FR (FR_e eU22) rfl (by assumption : AT T21 _ _)))) (fun j => ((FR_e eU26).cx 907 rfl j).1) (fun j => ((FR_e eU26).cx 908 rfl j).1) ((show Xi U26 904 8 = Xi U23 904 8 from by rw [eU26]; exact Xi_ne (by omega))) ((show Xi U26 904 65 = Xi U23 904 65 from by rw [eU26]; exact Xi_ne (by omega))) ((show Xi U26 904 69 = Xi U23 904 69 from by rw [eU26]; exact Xi_ne (by omega))) ((show Xi U26 904 93 = Xi U23 904 93 from by rw [eU26]; exact Xi_ne (by omega))) eU27 (by omega) (by omega) (by omega) (by omega) (Or.inl rfl))
                have a375 : AT U27 n c := t375.1
                have l375 := t375.2
                refine l_aload_n rfl rfl ?_
                refine l_aload_n rfl rfl ?_
                have w582 : Xi U27 904 65 = Xi T21 904 65 := (show Xi U27 904 65 = Xi U26 904 65 from by rw [eU27]; exact Xi_ne (by omega)).trans ( (show Xi U26 904 65 = Xi U23 904 65 from by rw [eU26]; exact Xi_ne (by omega)).trans ( (show Xi U23 904 65 = Xi U22 904 65 from by rw [eU23]; exact Xi_ne (by omega)).trans ((show Xi U22 904 65 = Xi T21 904 65 from by rw [eU22]; exact Xi_ne (by omega)))))
                have w583 : 0 ≤ Xi T21 904 65 ∧ Xi T21 904 65 ≤ 1 := hHT21.c _ _
                have w584 : Xi U27 904 69 = Xi T21 904 69 := (show Xi U27 904 69 = Xi U26 904 69 from by rw [eU27]; exact Xi_ne (by omega)).trans ( (show Xi U26 904 69 = Xi U23 904 69 from by rw [eU26]; exact Xi_ne (by omega)).trans ( (show Xi U23 904 69 = Xi U22 904 69 from by rw [eU23]; exact Xi_ne (by omega)).trans ((show Xi U22 904 69 = Xi T21 904 69 from by rw [eU22]; exact Xi_ne (by omega)))))
                have w585 : 0 ≤ Xi T21 904 69 ∧ Xi T21 904 69 ≤ 2600 := hHT21.c _ _
                have w586 : Xi U27 904 70 = Xi U26 904 70 := (show Xi U27 904 70 = Xi U26 904 70 from by rw [eU27]; exact Xi_ne (by omega))
                have w587 : 0 ≤ Xi U26 904 70 ∧ Xi U26 904 70 ≤ 20 := hHU26.c _ _
                have w588 : Xi U27 904 71 = Xi T1 904 71 := (show Xi U27 904 71 = Xi U26 904 71 from by rw [eU27]; exact Xi_ne (by omega)).trans ( (show Xi U26 904 71 = Xi U23 904 71 from by rw [eU26]; exact Xi_ne (by omega)).trans ( (show Xi U23 904 71 = Xi U22 904 71 from by rw [eU23]; exact Xi_ne (by omega)).trans ( (show Xi U22 904 71 = Xi T21 904 71 from by rw [eU22]; exact Xi_ne (by omega)).trans ((show Xi T21 904 71 = Xi T1 904 71 from w439.x _ _ rfl)))))
                have w589 : 0 ≤ Xi T1 904 71 ∧ Xi T1 904 71 ≤ 2600 := hHT1.c _ _
                have w590 : Xi U27 904 72 = Xi T1 904 72 := (show Xi U27 904 72 = Xi U26 904 72 from by rw [eU27]; exact Xi_ne (by omega)).trans ( (show Xi U26 904 72 = Xi U23 904 72 from by rw [eU26]; exact Xi_ne (by omega)).trans ( (show Xi U23 904 72 = Xi U22 904 72 from by rw [eU23]; exact Xi_ne (by omega)).trans ( (show Xi U22 904 72 = Xi T21 904 72 from by rw [eU22]; exact Xi_ne (by omega)).trans ((show Xi T21 904 72 = Xi T1 904 72 from w439.x _ _ rfl)))))
                have w591 : 0 ≤ Xi T1 904 72 ∧ Xi T1 904 72 ≤ 2600 := hHT1.c _ _
                have w592 : Xi U27 904 73 = Xi T1 904 73 := (show Xi U27 904 73 = Xi U26 904 73 from by rw [eU27]; exact Xi_ne (by omega)).trans ( (show Xi U26 904 73 = Xi U23 904 73 from by rw [eU26]; exact Xi_ne (by omega)).trans ( (show Xi U23 904 73 = Xi U22 904 73 from by rw [eU23]; exact Xi_ne (by omega)).trans ( (show Xi U22 904 73 = Xi T21 904 73 from by rw [eU22]; exact Xi_ne (by omega)).trans ((show Xi T21 904 73 = Xi T1 904 73 from w439.x _ _ rfl)))))
                have w593 : 0 ≤ Xi T1 904 73 ∧ Xi T1 904 73 ≤ 5 := hHT1.c _ _
                have w594 : Xi U27 904 74 = Xi T1 904 74 := (show Xi U27 904 74 = Xi U26 904 74 from by rw [eU27]; exact Xi_ne (by omega)).trans ( (show Xi U26 904 74 = Xi U23 904 74 from by rw [eU26]; exact Xi_ne (by omega)).trans ( (show Xi U23 904 74 = Xi U22 904 74 from by rw [eU23]; exact Xi_ne (by omega)).trans ( (show Xi U22 904 74 = Xi T21 904 74 from by rw [eU22]; exact Xi_ne (by omega)).trans ((show Xi T21 904 74 = Xi T1 904 74 from w439.x _ _ rfl)))))
                have w595 : 0 ≤ Xi T1 904 74 ∧ Xi T1 904 74 ≤ 2600 := hHT1.c _ _
                have w596 : Xi U27 904 78 = Xi U22 904 78 := (show Xi U27 904 78 = Xi U26 904 78 from by rw [eU27]; exact Xi_ne (by omega)).trans ( (show Xi U26 904 78 = Xi U23 904 78 from by rw [eU26]; exact Xi_ne (by omega)).trans ((show Xi U23 904 78 = Xi U22 904 78 from by rw [eU23]; exact Xi_ne (by omega))))
                have w597 : -2 ≤ Xi U22 904 78 ∧ Xi U22 904 78 ≤ 5010 := hHU22.c _ _
                have w598 : 0 ≤ Xi U27 904 8 ∧ Xi U27 904 8 ≤ 5010 := hHU27.c _ _
                have w599 : Xi U27 904 93 = Xi T1 904 93 := (show Xi U27 904 93 = Xi U26 904 93 from by rw [eU27]; exact Xi_ne (by omega)).trans ( (show Xi U26 904 93 = Xi U23 904 93 from by rw [eU26]; exact Xi_ne (by omega)).trans ( (show Xi U23 904 93 = Xi U22 904 93 from by rw [eU23]; exact Xi_ne (by omega)).trans ( (show Xi U22 904 93 = Xi T21 904 93 from by rw [eU22]; exact Xi_ne (by omega)).trans ((show Xi T21 904 93 = Xi T1 904 93 from w439.x _ _ rfl)))))
                have w600 : 0 ≤ Xi T1 904 93 ∧ Xi T1 904 93 ≤ 1700 := hHT1.c _ _
                refine l_callV rfl rfl rfl (t_mo_name__2 hHU27 n c (by first | assumption | exact (TK_FR hFU27 rfl (by assumption : TK S _))) (by first | assumption | exact (by assumption : AT U27 _ _)) (by first | assumption | exact (RNV_FR (FR_e eU27) rfl (RNV_FR (FR_e eU26) rfl (RNV_FR (FR_e eU23) rfl (RNV_FR (FR_e eU22) rfl (by assumption : RNV T21 _)))))) (by first | assumption | exact (BDA_FR (FR_e eU27) rfl (BDA_FR (FR_e eU26) rfl (BDA_FR (FR_e eU23) rfl (BDA_FR (FR_e eU22) rfl (by assumption : BDA T21)))))) _) ?_
                rintro _ T28 ⟨hHT28, w608, z607, rfl, w607, w601, w602, w603, w604, w605, w606⟩
                have hFT28 : FR md_mo_rest__2 S T28 := FR.tr hFU27 w608 rfl
                show Rl _ _ _ _ _ [iv z607, .ref 904] _ _
                have w610 : 0 ≤ Xi T28 904 8 ∧ Xi T28 904 8 ≤ 5010 := hHT28.c _ _
                have w611 : 0 ≤ Xi T28 904 65 ∧ Xi T28 904 65 ≤ 1 := hHT28.c _ _
                have w612 : 0 ≤ Xi T28 904 69 ∧ Xi T28 904 69 ≤ 2600 := hHT28.c _ _
                have w613 : Xi T28 904 93 = Xi T1 904 93 := (show Xi T28 904 93 = Xi U27 904 93 from w608.x _ _ rfl).trans ( (show Xi U27 904 93 = Xi U26 904 93 from by rw [eU27]; exact Xi_ne (by omega)).trans ( (show Xi U26 904 93 = Xi U23 904 93 from by rw [eU26]; exact Xi_ne (by omega)).trans ( (show Xi U23 904 93 = Xi U22 904 93 from by rw [eU23]; exact Xi_ne (by omega)).trans ( (show Xi U22 904 93 = Xi T21 904 93 from by rw [eU22]; exact Xi_ne (by omega)).trans ((show Xi T21 904 93 = Xi T1 904 93 from w439.x _ _ rfl))))))
                have w614 : 0 ≤ Xi T1 904 93 ∧ Xi T1 904 93 ≤ 1700 := hHT1.c _ _
                have w609 : Xi S 904 8 ≤ Xi T28 904 8 ∧ Xi T28 904 8 ≤ n ∧ Xi S 904 69 ≤ Xi T28 904 69 ∧ (Xi T28 904 65 = 0 → Xi S 904 65 = 0) := by omega
                clear w602 w440
                refine l_pfi rfl rfl rfl rfl ?_
                obtain ⟨U29, eU29⟩ : ∃ T : sS, T = uI T28 904 74 (Int32.ofInt z607) := ⟨_, rfl⟩
                rw [← eU29]
                have hHU29 : HI U29 := by rw [eU29]; exact HI_w hHT28 (show 0 ≤ z607 by omega) (show z607 ≤ 2600 by omega)
                have hFU29 : FR md_mo_rest__2 S U29 := by rw [eU29]; exact FR.wI hFT28 (mdf_i (r := (904, 905, 74, 75)) (List.mem_of_getElem? (i := 6) rfl) (inR_i (by omega) (by omega) (by omega) (by omega)))
                have w615 : Xi U29 904 74 = z607 := by rw [eU29]; exact Xi_same (by unfold rg; omega)
                refine l_goto rfl rfl ?_
                refine l_return rfl rfl ?_
                have w616 : Xi U29 904 65 = Xi T28 904 65 := (show Xi U29 904 65 = Xi T28 904 65 from by rw [eU29]; exact Xi_ne (by omega))
                have w617 : 0 ≤ Xi T28 904 65 ∧ Xi T28 904 65 ≤ 1 := hHT28.c _ _
                have w618 : Xi U29 904 69 = Xi T28 904 69 := (show Xi U29 904 69 = Xi T28 904 69 from by rw [eU29]; exact Xi_ne (by omega))
                have w619 : 0 ≤ Xi T28 904 69 ∧ Xi T28 904 69 ≤ 2600 := hHT28.c _ _
                have w620 : Xi U29 904 70 = Xi U26 904 70 := (show Xi U29 904 70 = Xi T28 904 70 from by rw [eU29]; exact Xi_ne (by omega)).trans ( (show Xi T28 904 70 = Xi U27 904 70 from w608.x _ _ rfl).trans ((show Xi U27 904 70 = Xi U26 904 70 from by rw [eU27]; exact Xi_ne (by omega))))
                have w621 : 0 ≤ Xi U26 904 70 ∧ Xi U26 904 70 ≤ 20 := hHU26.c _ _
                have w622 : Xi U29 904 71 = Xi T1 904 71 := (show Xi U29 904 71 = Xi T28 904 71 from by rw [eU29]; exact Xi_ne (by omega)).trans ( (show Xi T28 904 71 = Xi U27 904 71 from w608.x _ _ rfl).trans ( (show Xi U27 904 71 = Xi U26 904 71 from by rw [eU27]; exact Xi_ne (by omega)).trans ( (show Xi U26 904 71 = Xi U23 904 71 from by rw [eU26]; exact Xi_ne (by omega)).trans ( (show Xi U23 904 71 = Xi U22 904 71 from by rw [eU23]; exact Xi_ne (by omega)).trans ( (show Xi U22 904 71 = Xi T21 904 71 from by rw [eU22]; exact Xi_ne (by omega)).trans ((show Xi T21 904 71 = Xi T1 904 71 from w439.x _ _ rfl)))))))
                have w623 : 0 ≤ Xi T1 904 71 ∧ Xi T1 904 71 ≤ 2600 := hHT1.c _ _
                have w624 : Xi U29 904 72 = Xi T1 904 72 := (show Xi U29 904 72 = Xi T28 904 72 from by rw [eU29]; exact Xi_ne (by omega)).trans ( (show Xi T28 904 72 = Xi U27 904 72 from w608.x _ _ rfl).trans ( (show Xi U27 904 72 = Xi U26 904 72 from by rw [eU27]; exact Xi_ne (by omega)).trans ( (show Xi U26 904 72 = Xi U23 904 72 from by rw [eU26]; exact Xi_ne (by omega)).trans ( (show Xi U23 904 72 = Xi U22 904 72 from by rw [eU23]; exact Xi_ne (by omega)).trans ( (show Xi U22 904 72 = Xi T21 904 72 from by rw [eU22]; exact Xi_ne (by omega)).trans ((show Xi T21 904 72 = Xi T1 904 72 from w439.x _ _ rfl)))))))
                have w625 : 0 ≤ Xi T1 904 72 ∧ Xi T1 904 72 ≤ 2600 := hHT1.c _ _
                have w626 : Xi U29 904 73 = Xi T1 904 73 := (show Xi U29 904 73 = Xi T28 904 73 from by rw [eU29]; exact Xi_ne (by omega)).trans ( (show Xi T28 904 73 = Xi U27 904 73 from w608.x _ _ rfl).trans ( (show Xi U27 904 73 = Xi U26 904 73 from by rw [eU27]; exact Xi_ne (by omega)).trans ( (show Xi U26 904 73 = Xi U23 904 73 from by rw [eU26]; exact Xi_ne (by omega)).trans ( (show Xi U23 904 73 = Xi U22 904 73 from by rw [eU23]; exact Xi_ne (by omega)).trans ( (show Xi U22 904 73 = Xi T21 904 73 from by rw [eU22]; exact Xi_ne (by omega)).trans ((show Xi T21 904 73 = Xi T1 904 73 from w439.x _ _ rfl)))))))
                have w627 : 0 ≤ Xi T1 904 73 ∧ Xi T1 904 73 ≤ 5 := hHT1.c _ _
                have w628 : 0 ≤ Xi U29 904 74 ∧ Xi U29 904 74 ≤ 2600 := hHU29.c _ _
                have w629 : Xi U29 904 78 = Xi U22 904 78 := (show Xi U29 904 78 = Xi T28 904 78 from by rw [eU29]; exact Xi_ne (by omega)).trans ( (show Xi T28 904 78 = Xi U27 904 78 from w608.x _ _ rfl).trans ( (show Xi U27 904 78 = Xi U26 904 78 from by rw [eU27]; exact Xi_ne (by omega)).trans ( (show Xi U26 904 78 = Xi U23 904 78 from by rw [eU26]; exact Xi_ne (by omega)).trans ((show Xi U23 904 78 = Xi U22 904 78 from by rw [eU23]; exact Xi_ne (by omega))))))
                have w630 : -2 ≤ Xi U22 904 78 ∧ Xi U22 904 78 ≤ 5010 := hHU22.c _ _
                have w631 : Xi U29 904 8 = Xi T28 904 8 := (show Xi U29 904 8 = Xi T28 904 8 from by rw [eU29]; exact Xi_ne (by omega))
                have w632 : 0 ≤ Xi T28 904 8 ∧ Xi T28 904 8 ≤ 5010 := hHT28.c _ _
                have w633 : Xi U29 904 93 = Xi T1 904 93 := (show Xi U29 904 93 = Xi T28 904 93 from by rw [eU29]; exact Xi_ne (by omega)).trans ( (show Xi T28 904 93 = Xi U27 904 93 from w608.x _ _ rfl).trans ( (show Xi U27 904 93 = Xi U26 904 93 from by rw [eU27]; exact Xi_ne (by omega)).trans ( (show Xi U26 904 93 = Xi U23 904 93 from by rw [eU26]; exact Xi_ne (by omega)).trans ( (show Xi U23 904 93 = Xi U22 904 93 from by rw [eU23]; exact Xi_ne (by omega)).trans ( (show Xi U22 904 93 = Xi T21 904 93 from by rw [eU22]; exact Xi_ne (by omega)).trans ((show Xi T21 904 93 = Xi T1 904 93 from w439.x _ _ rfl)))))))
                have w634 : 0 ≤ Xi T1 904 93 ∧ Xi T1 904 93 ≤ 1700 := hHT1.c _ _
                exact ⟨hHU29, hFU29, rfl, (by first | assumption | exact (AT_FR (FR_e eU29) rfl (by assumption : AT T28 _ _))), (by omega), (by first | assumption | exact (RNV_FR (FR_e eU29) rfl (by assumption : RNV T28 _))), (by omega), (by omega), (by omega), (fun q => by unfold SNQ; refine ⟨fun q1 => absurd q1 (by omega), by omega, by omega, by omega, fun q9 => absurd q9 (by omega), by omega, by omega, by omega, by omega, by omega⟩), (by omega), (by first | assumption | exact (BDA_FR (FR_e eU29) rfl (by assumption : BDA T28)))⟩
          · refine l_aload_n rfl rfl ?_
            refine l_bipush rfl rfl ?_
            refine l_pfi rfl rfl rfl rfl ?_
            obtain ⟨U30, eU30⟩ : ∃ T : sS, T = uI T1 904 70 (Int32.ofInt 15) := ⟨_, rfl⟩
            rw [← eU30]
            have hHU30 : HI U30 := by rw [eU30]; exact HI_w hHT1 (show 0 ≤ 15 by omega) (show 15 ≤ 20 by omega)
            have hFU30 : FR md_mo_rest__2 S U30 := by rw [eU30]; exact FR.wI hFT1 (mdf_i (r := (904, 905, 70, 71)) (List.mem_of_getElem? (i := 4) rfl) (inR_i (by omega) (by omega) (by omega) (by omega)))
            have w635 : Xi U30 904 70 = 15 := by rw [eU30]; exact Xi_same (by unfold rg; omega)
            refine l_aload_n rfl rfl ?_
            refine l_iload_n rfl rfl ?_
            refine l_bipush rfl rfl ?_
            refine l_icmp_ne rfl rfl (by unfold rg; omega) (by unfold rg; omega) (fun w636 => ?_) (fun w637 => ?_)
            · refine l_iconst rfl ?_
              refine l_pfz rfl rfl rfl rfl (by omega) ?_
              obtain ⟨U31, eU31⟩ : ∃ T : sS, T = uI U30 904 75 (Int32.ofInt 0) := ⟨_, rfl⟩
              rw [← eU31]
              have hHU31 : HI U31 := by rw [eU31]; exact HI_w hHU30 (show 0 ≤ 0 by omega) (show 0 ≤ 1 by omega)
              have hFU31 : FR md_mo_rest__2 S U31 := by rw [eU31]; exact FR.wI hFU30 (mdf_i (r := (904, 905, 75, 76)) (List.mem_of_getElem? (i := 7) rfl) (inR_i (by omega) (by omega) (by omega) (by omega)))
              have w638 : Xi U31 904 75 = 0 := by rw [eU31]; exact Xi_same (by unfold rg; omega)
              refine l_aload_n rfl rfl ?_
              refine l_iload_n rfl rfl ?_
              refine l_sipush rfl rfl ?_
              refine l_icmp_ne rfl rfl (by unfold rg; omega) (by unfold rg; omega) (fun w639 => ?_) (fun w640 => ?_)
              · refine l_iconst rfl ?_
                refine l_pfz rfl rfl rfl rfl (by omega) ?_
                obtain ⟨U32, eU32⟩ : ∃ T : sS, T = uI U31 904 76 (Int32.ofInt 0) := ⟨_, rfl⟩
                rw [← eU32]
                have hHU32 : HI U32 := by rw [eU32]; exact HI_w hHU31 (show 0 ≤ 0 by omega) (show 0 ≤ 1 by omega)
                have hFU32 : FR md_mo_rest__2 S U32 := by rw [eU32]; exact FR.wI hFU31 (mdf_i (r := (904, 905, 76, 77)) (List.mem_of_getElem? (i := 8) rfl) (inR_i (by omega) (by omega) (by omega) (by omega)))
                have w641 : Xi U32 904 76 = 0 := by rw [eU32]; exact Xi_same (by unfold rg; omega)
                have w642 : Xi U32 904 65 = Xi T1 904 65 := (show Xi U32 904 65 = Xi U31 904 65 from by rw [eU32]; exact Xi_ne (by omega)).trans ( (show Xi U31 904 65 = Xi U30 904 65 from by rw [eU31]; exact Xi_ne (by omega)).trans ((show Xi U30 904 65 = Xi T1 904 65 from by rw [eU30]; exact Xi_ne (by omega))))
                have w643 : 0 ≤ Xi T1 904 65 ∧ Xi T1 904 65 ≤ 1 := hHT1.c _ _
                have w644 : Xi U32 904 69 = Xi T1 904 69 := (show Xi U32 904 69 = Xi U31 904 69 from by rw [eU32]; exact Xi_ne (by omega)).trans ( (show Xi U31 904 69 = Xi U30 904 69 from by rw [eU31]; exact Xi_ne (by omega)).trans ((show Xi U30 904 69 = Xi T1 904 69 from by rw [eU30]; exact Xi_ne (by omega))))
                have w645 : 0 ≤ Xi T1 904 69 ∧ Xi T1 904 69 ≤ 2600 := hHT1.c _ _
                have w646 : Xi U32 904 70 = Xi U30 904 70 := (show Xi U32 904 70 = Xi U31 904 70 from by rw [eU32]; exact Xi_ne (by omega)).trans ((show Xi U31 904 70 = Xi U30 904 70 from by rw [eU31]; exact Xi_ne (by omega)))
                have w647 : 0 ≤ Xi U30 904 70 ∧ Xi U30 904 70 ≤ 20 := hHU30.c _ _
                have w648 : Xi U32 904 71 = Xi T1 904 71 := (show Xi U32 904 71 = Xi U31 904 71 from by rw [eU32]; exact Xi_ne (by omega)).trans ( (show Xi U31 904 71 = Xi U30 904 71 from by rw [eU31]; exact Xi_ne (by omega)).trans ((show Xi U30 904 71 = Xi T1 904 71 from by rw [eU30]; exact Xi_ne (by omega))))
                have w649 : 0 ≤ Xi T1 904 71 ∧ Xi T1 904 71 ≤ 2600 := hHT1.c _ _
                have w650 : Xi U32 904 72 = Xi T1 904 72 := (show Xi U32 904 72 = Xi U31 904 72 from by rw [eU32]; exact Xi_ne (by omega)).trans ( (show Xi U31 904 72 = Xi U30 904 72 from by rw [eU31]; exact Xi_ne (by omega)).trans ((show Xi U30 904 72 = Xi T1 904 72 from by rw [eU30]; exact Xi_ne (by omega))))
                have w651 : 0 ≤ Xi T1 904 72 ∧ Xi T1 904 72 ≤ 2600 := hHT1.c _ _
                have w652 : Xi U32 904 73 = Xi T1 904 73 := (show Xi U32 904 73 = Xi U31 904 73 from by rw [eU32]; exact Xi_ne (by omega)).trans ( (show Xi U31 904 73 = Xi U30 904 73 from by rw [eU31]; exact Xi_ne (by omega)).trans ((show Xi U30 904 73 = Xi T1 904 73 from by rw [eU30]; exact Xi_ne (by omega))))
                have w653 : 0 ≤ Xi T1 904 73 ∧ Xi T1 904 73 ≤ 5 := hHT1.c _ _
                have w654 : Xi U32 904 74 = Xi T1 904 74 := (show Xi U32 904 74 = Xi U31 904 74 from by rw [eU32]; exact Xi_ne (by omega)).trans ( (show Xi U31 904 74 = Xi U30 904 74 from by rw [eU31]; exact Xi_ne (by omega)).trans ((show Xi U30 904 74 = Xi T1 904 74 from by rw [eU30]; exact Xi_ne (by omega))))
                have w655 : 0 ≤ Xi T1 904 74 ∧ Xi T1 904 74 ≤ 2600 := hHT1.c _ _
                have w656 : Xi U32 904 78 = Xi T1 904 78 := (show Xi U32 904 78 = Xi U31 904 78 from by rw [eU32]; exact Xi_ne (by omega)).trans ( (show Xi U31 904 78 = Xi U30 904 78 from by rw [eU31]; exact Xi_ne (by omega)).trans ((show Xi U30 904 78 = Xi T1 904 78 from by rw [eU30]; exact Xi_ne (by omega))))
                have w657 : -2 ≤ Xi T1 904 78 ∧ Xi T1 904 78 ≤ 5010 := hHT1.c _ _
                have w658 : Xi U32 904 8 = Xi T1 904 8 := (show Xi U32 904 8 = Xi U31 904 8 from by rw [eU32]; exact Xi_ne (by omega)).trans ( (show Xi U31 904 8 = Xi U30 904 8 from by rw [eU31]; exact Xi_ne (by omega)).trans ((show Xi U30 904 8 = Xi T1 904 8 from by rw [eU30]; exact Xi_ne (by omega))))
                have w659 : 0 ≤ Xi T1 904 8 ∧ Xi T1 904 8 ≤ 5010 := hHT1.c _ _
                have w660 : Xi U32 904 93 = Xi T1 904 93 := (show Xi U32 904 93 = Xi U31 904 93 from by rw [eU32]; exact Xi_ne (by omega)).trans ( (show Xi U31 904 93 = Xi U30 904 93 from by rw [eU31]; exact Xi_ne (by omega)).trans ((show Xi U30 904 93 = Xi T1 904 93 from by rw [eU30]; exact Xi_ne (by omega))))
                have w661 : 0 ≤ Xi T1 904 93 ∧ Xi T1 904 93 ≤ 1700 := hHT1.c _ _
                exact Rl_weak (C313 U32 hHU32 hFU32  (by first | assumption | exact (AT_FR (FR_e eU32) rfl (AT_FR (FR_e eU31) rfl (AT_FR (FR_e eU30) rfl (by assumption : AT T1 _ _))))) (by first | assumption | exact (RNV_FR (FR_e eU32) rfl (RNV_FR (FR_e eU31) rfl (RNV_FR (FR_e eU30) rfl (by assumption : RNV T1 _))))) (fun q => (by rw [(fun j => ((FR_e eU32).cx 907 rfl j).1.trans (((FR_e eU31).cx 907 rfl j).1.trans (((FR_e eU30).cx 907 rfl j).1))) (Xi U32 904 8).toNat, show Xi U32 904 8 = Xi T1 904 8 by omega]; omega)) (by omega) (by omega) (by omega) (by omega) (by omega) (by omega) (by omega) (by first | assumption | exact (BDA_FR (FR_e eU32) rfl (BDA_FR (FR_e eU31) rfl (BDA_FR (FR_e eU30) rfl (by assumption : BDA T1)))))) (And.intro rfl (True.intro))
              · refine l_iconst rfl ?_
                refine l_goto rfl rfl ?_
                refine l_pfz rfl rfl rfl rfl (by omega) ?_
                obtain ⟨U33, eU33⟩ : ∃ T : sS, T = uI U31 904 76 (Int32.ofInt 1) := ⟨_, rfl⟩
                rw [← eU33]
                have hHU33 : HI U33 := by rw [eU33]; exact HI_w hHU31 (show 0 ≤ 1 by omega) (show 1 ≤ 1 by omega)
                have hFU33 : FR md_mo_rest__2 S U33 := by rw [eU33]; exact FR.wI hFU31 (mdf_i (r := (904, 905, 76, 77)) (List.mem_of_getElem? (i := 8) rfl) (inR_i (by omega) (by omega) (by omega) (by omega)))
                have w662 : Xi U33 904 76 = 1 := by rw [eU33]; exact Xi_same (by unfold rg; omega)
                have w663 : Xi U33 904 65 = Xi T1 904 65 := (show Xi U33 904 65 = Xi U31 904 65 from by rw [eU33]; exact Xi_ne (by omega)).trans ( (show Xi U31 904 65 = Xi U30 904 65 from by rw [eU31]; exact Xi_ne (by omega)).trans ((show Xi U30 904 65 = Xi T1 904 65 from by rw [eU30]; exact Xi_ne (by omega))))
                have w664 : 0 ≤ Xi T1 904 65 ∧ Xi T1 904 65 ≤ 1 := hHT1.c _ _
                have w665 : Xi U33 904 69 = Xi T1 904 69 := (show Xi U33 904 69 = Xi U31 904 69 from by rw [eU33]; exact Xi_ne (by omega)).trans ( (show Xi U31 904 69 = Xi U30 904 69 from by rw [eU31]; exact Xi_ne (by omega)).trans ((show Xi U30 904 69 = Xi T1 904 69 from by rw [eU30]; exact Xi_ne (by omega))))
                have w666 : 0 ≤ Xi T1 904 69 ∧ Xi T1 904 69 ≤ 2600 := hHT1.c _ _
                have w667 : Xi U33 904 70 = Xi U30 904 70 := (show Xi U33 904 70 = Xi U31 904 70 from by rw [eU33]; exact Xi_ne (by omega)).trans ((show Xi U31 904 70 = Xi U30 904 70 from by rw [eU31]; exact Xi_ne (by omega)))
                have w668 : 0 ≤ Xi U30 904 70 ∧ Xi U30 904 70 ≤ 20 := hHU30.c _ _
                have w669 : Xi U33 904 71 = Xi T1 904 71 := (show Xi U33 904 71 = Xi U31 904 71 from by rw [eU33]; exact Xi_ne (by omega)).trans ( (show Xi U31 904 71 = Xi U30 904 71 from by rw [eU31]; exact Xi_ne (by omega)).trans ((show Xi U30 904 71 = Xi T1 904 71 from by rw [eU30]; exact Xi_ne (by omega))))
                have w670 : 0 ≤ Xi T1 904 71 ∧ Xi T1 904 71 ≤ 2600 := hHT1.c _ _
                have w671 : Xi U33 904 72 = Xi T1 904 72 := (show Xi U33 904 72 = Xi U31 904 72 from by rw [eU33]; exact Xi_ne (by omega)).trans ( (show Xi U31 904 72 = Xi U30 904 72 from by rw [eU31]; exact Xi_ne (by omega)).trans ((show Xi U30 904 72 = Xi T1 904 72 from by rw [eU30]; exact Xi_ne (by omega))))
                have w672 : 0 ≤ Xi T1 904 72 ∧ Xi T1 904 72 ≤ 2600 := hHT1.c _ _
                have w673 : Xi U33 904 73 = Xi T1 904 73 := (show Xi U33 904 73 = Xi U31 904 73 from by rw [eU33]; exact Xi_ne (by omega)).trans ( (show Xi U31 904 73 = Xi U30 904 73 from by rw [eU31]; exact Xi_ne (by omega)).trans ((show Xi U30 904 73 = Xi T1 904 73 from by rw [eU30]; exact Xi_ne (by omega))))
                have w674 : 0 ≤ Xi T1 904 73 ∧ Xi T1 904 73 ≤ 5 := hHT1.c _ _
                have w675 : Xi U33 904 74 = Xi T1 904 74 := (show Xi U33 904 74 = Xi U31 904 74 from by rw [eU33]; exact Xi_ne (by omega)).trans ( (show Xi U31 904 74 = Xi U30 904 74 from by rw [eU31]; exact Xi_ne (by omega)).trans ((show Xi U30 904 74 = Xi T1 904 74 from by rw [eU30]; exact Xi_ne (by omega))))
                have w676 : 0 ≤ Xi T1 904 74 ∧ Xi T1 904 74 ≤ 2600 := hHT1.c _ _
                have w677 : Xi U33 904 78 = Xi T1 904 78 := (show Xi U33 904 78 = Xi U31 904 78 from by rw [eU33]; exact Xi_ne (by omega)).trans ( (show Xi U31 904 78 = Xi U30 904 78 from by rw [eU31]; exact Xi_ne (by omega)).trans ((show Xi U30 904 78 = Xi T1 904 78 from by rw [eU30]; exact Xi_ne (by omega))))
                have w678 : -2 ≤ Xi T1 904 78 ∧ Xi T1 904 78 ≤ 5010 := hHT1.c _ _
                have w679 : Xi U33 904 8 = Xi T1 904 8 := (show Xi U33 904 8 = Xi U31 904 8 from by rw [eU33]; exact Xi_ne (by omega)).trans ( (show Xi U31 904 8 = Xi U30 904 8 from by rw [eU31]; exact Xi_ne (by omega)).trans ((show Xi U30 904 8 = Xi T1 904 8 from by rw [eU30]; exact Xi_ne (by omega))))
                have w680 : 0 ≤ Xi T1 904 8 ∧ Xi T1 904 8 ≤ 5010 := hHT1.c _ _
                have w681 : Xi U33 904 93 = Xi T1 904 93 := (show Xi U33 904 93 = Xi U31 904 93 from by rw [eU33]; exact Xi_ne (by omega)).trans ( (show Xi U31 904 93 = Xi U30 904 93 from by rw [eU31]; exact Xi_ne (by omega)).trans ((show Xi U30 904 93 = Xi T1 904 93 from by rw [eU30]; exact Xi_ne (by omega))))
                have w682 : 0 ≤ Xi T1 904 93 ∧ Xi T1 904 93 ≤ 1700 := hHT1.c _ _
                exact Rl_weak (C313 U33 hHU33 hFU33  (by first | assumption | exact (AT_FR (FR_e eU33) rfl (AT_FR (FR_e eU31) rfl (AT_FR (FR_e eU30) rfl (by assumption : AT T1 _ _))))) (by first | assumption | exact (RNV_FR (FR_e eU33) rfl (RNV_FR (FR_e eU31) rfl (RNV_FR (FR_e eU30) rfl (by assumption : RNV T1 _))))) (fun q => (by rw [(fun j => ((FR_e eU33).cx 907 rfl j).1.trans (((FR_e eU31).cx 907 rfl j).1.trans (((FR_e eU30).cx 907 rfl j).1))) (Xi U33 904 8).toNat, show Xi U33 904 8 = Xi T1 904 8 by omega]; omega)) (by omega) (by omega) (by omega) (by omega) (by omega) (by omega) (by omega) (by first | assumption | exact (BDA_FR (FR_e eU33) rfl (BDA_FR (FR_e eU31) rfl (BDA_FR (FR_e eU30) rfl (by assumption : BDA T1)))))) (And.intro rfl (True.intro))
            · refine l_iconst rfl ?_
              refine l_goto rfl rfl ?_
              refine l_pfz rfl rfl rfl rfl (by omega) ?_
              obtain ⟨U34, eU34⟩ : ∃ T : sS, T = uI U30 904 75 (Int32.ofInt 1) := ⟨_, rfl⟩
              rw [← eU34]
              have hHU34 : HI U34 := by rw [eU34]; exact HI_w hHU30 (show 0 ≤ 1 by omega) (show 1 ≤ 1 by omega)
              have hFU34 : FR md_mo_rest__2 S U34 := by rw [eU34]; exact FR.wI hFU30 (mdf_i (r := (904, 905, 75, 76)) (List.mem_of_getElem? (i := 7) rfl) (inR_i (by omega) (by omega) (by omega) (by omega)))
              have w683 : Xi U34 904 75 = 1 := by rw [eU34]; exact Xi_same (by unfold rg; omega)
              refine l_aload_n rfl rfl ?_
              refine l_iload_n rfl rfl ?_
              refine l_sipush rfl rfl ?_
              refine l_icmp_ne rfl rfl (by unfold rg; omega) (by unfold rg; omega) (fun w684 => ?_) (fun w685 => ?_)
              · refine l_iconst rfl ?_
                refine l_pfz rfl rfl rfl rfl (by omega) ?_
                obtain ⟨U35, eU35⟩ : ∃ T : sS, T = uI U34 904 76 (Int32.ofInt 0) := ⟨_, rfl⟩
                rw [← eU35]
                have hHU35 : HI U35 := by rw [eU35]; exact HI_w hHU34 (show 0 ≤ 0 by omega) (show 0 ≤ 1 by omega)
                have hFU35 : FR md_mo_rest__2 S U35 := by rw [eU35]; exact FR.wI hFU34 (mdf_i (r := (904, 905, 76, 77)) (List.mem_of_getElem? (i := 8) rfl) (inR_i (by omega) (by omega) (by omega) (by omega)))
                have w686 : Xi U35 904 76 = 0 := by rw [eU35]; exact Xi_same (by unfold rg; omega)
                have w687 : Xi U35 904 65 = Xi T1 904 65 := (show Xi U35 904 65 = Xi U34 904 65 from by rw [eU35]; exact Xi_ne (by omega)).trans ( (show Xi U34 904 65 = Xi U30 904 65 from by rw [eU34]; exact Xi_ne (by omega)).trans ((show Xi U30 904 65 = Xi T1 904 65 from by rw [eU30]; exact Xi_ne (by omega))))
                have w688 : 0 ≤ Xi T1 904 65 ∧ Xi T1 904 65 ≤ 1 := hHT1.c _ _
                have w689 : Xi U35 904 69 = Xi T1 904 69 := (show Xi U35 904 69 = Xi U34 904 69 from by rw [eU35]; exact Xi_ne (by omega)).trans ( (show Xi U34 904 69 = Xi U30 904 69 from by rw [eU34]; exact Xi_ne (by omega)).trans ((show Xi U30 904 69 = Xi T1 904 69 from by rw [eU30]; exact Xi_ne (by omega))))
                have w690 : 0 ≤ Xi T1 904 69 ∧ Xi T1 904 69 ≤ 2600 := hHT1.c _ _
                have w691 : Xi U35 904 70 = Xi U30 904 70 := (show Xi U35 904 70 = Xi U34 904 70 from by rw [eU35]; exact Xi_ne (by omega)).trans ((show Xi U34 904 70 = Xi U30 904 70 from by rw [eU34]; exact Xi_ne (by omega)))
                have w692 : 0 ≤ Xi U30 904 70 ∧ Xi U30 904 70 ≤ 20 := hHU30.c _ _
                have w693 : Xi U35 904 71 = Xi T1 904 71 := (show Xi U35 904 71 = Xi U34 904 71 from by rw [eU35]; exact Xi_ne (by omega)).trans ( (show Xi U34 904 71 = Xi U30 904 71 from by rw [eU34]; exact Xi_ne (by omega)).trans ((show Xi U30 904 71 = Xi T1 904 71 from by rw [eU30]; exact Xi_ne (by omega))))
                have w694 : 0 ≤ Xi T1 904 71 ∧ Xi T1 904 71 ≤ 2600 := hHT1.c _ _
                have w695 : Xi U35 904 72 = Xi T1 904 72 := (show Xi U35 904 72 = Xi U34 904 72 from by rw [eU35]; exact Xi_ne (by omega)).trans ( (show Xi U34 904 72 = Xi U30 904 72 from by rw [eU34]; exact Xi_ne (by omega)).trans ((show Xi U30 904 72 = Xi T1 904 72 from by rw [eU30]; exact Xi_ne (by omega))))
                have w696 : 0 ≤ Xi T1 904 72 ∧ Xi T1 904 72 ≤ 2600 := hHT1.c _ _
                have w697 : Xi U35 904 73 = Xi T1 904 73 := (show Xi U35 904 73 = Xi U34 904 73 from by rw [eU35]; exact Xi_ne (by omega)).trans ( (show Xi U34 904 73 = Xi U30 904 73 from by rw [eU34]; exact Xi_ne (by omega)).trans ((show Xi U30 904 73 = Xi T1 904 73 from by rw [eU30]; exact Xi_ne (by omega))))
                have w698 : 0 ≤ Xi T1 904 73 ∧ Xi T1 904 73 ≤ 5 := hHT1.c _ _
                have w699 : Xi U35 904 74 = Xi T1 904 74 := (show Xi U35 904 74 = Xi U34 904 74 from by rw [eU35]; exact Xi_ne (by omega)).trans ( (show Xi U34 904 74 = Xi U30 904 74 from by rw [eU34]; exact Xi_ne (by omega)).trans ((show Xi U30 904 74 = Xi T1 904 74 from by rw [eU30]; exact Xi_ne (by omega))))
                have w700 : 0 ≤ Xi T1 904 74 ∧ Xi T1 904 74 ≤ 2600 := hHT1.c _ _
                have w701 : Xi U35 904 78 = Xi T1 904 78 := (show Xi U35 904 78 = Xi U34 904 78 from by rw [eU35]; exact Xi_ne (by omega)).trans ( (show Xi U34 904 78 = Xi U30 904 78 from by rw [eU34]; exact Xi_ne (by omega)).trans ((show Xi U30 904 78 = Xi T1 904 78 from by rw [eU30]; exact Xi_ne (by omega))))
                have w702 : -2 ≤ Xi T1 904 78 ∧ Xi T1 904 78 ≤ 5010 := hHT1.c _ _
                have w703 : Xi U35 904 8 = Xi T1 904 8 := (show Xi U35 904 8 = Xi U34 904 8 from by rw [eU35]; exact Xi_ne (by omega)).trans ( (show Xi U34 904 8 = Xi U30 904 8 from by rw [eU34]; exact Xi_ne (by omega)).trans ((show Xi U30 904 8 = Xi T1 904 8 from by rw [eU30]; exact Xi_ne (by omega))))
                have w704 : 0 ≤ Xi T1 904 8 ∧ Xi T1 904 8 ≤ 5010 := hHT1.c _ _
                have w705 : Xi U35 904 93 = Xi T1 904 93 := (show Xi U35 904 93 = Xi U34 904 93 from by rw [eU35]; exact Xi_ne (by omega)).trans ( (show Xi U34 904 93 = Xi U30 904 93 from by rw [eU34]; exact Xi_ne (by omega)).trans ((show Xi U30 904 93 = Xi T1 904 93 from by rw [eU30]; exact Xi_ne (by omega))))
                have w706 : 0 ≤ Xi T1 904 93 ∧ Xi T1 904 93 ≤ 1700 := hHT1.c _ _
                exact Rl_weak (C313 U35 hHU35 hFU35  (by first | assumption | exact (AT_FR (FR_e eU35) rfl (AT_FR (FR_e eU34) rfl (AT_FR (FR_e eU30) rfl (by assumption : AT T1 _ _))))) (by first | assumption | exact (RNV_FR (FR_e eU35) rfl (RNV_FR (FR_e eU34) rfl (RNV_FR (FR_e eU30) rfl (by assumption : RNV T1 _))))) (fun q => (by rw [(fun j => ((FR_e eU35).cx 907 rfl j).1.trans (((FR_e eU34).cx 907 rfl j).1.trans (((FR_e eU30).cx 907 rfl j).1))) (Xi U35 904 8).toNat, show Xi U35 904 8 = Xi T1 904 8 by omega]; omega)) (by omega) (by omega) (by omega) (by omega) (by omega) (by omega) (by omega) (by first | assumption | exact (BDA_FR (FR_e eU35) rfl (BDA_FR (FR_e eU34) rfl (BDA_FR (FR_e eU30) rfl (by assumption : BDA T1)))))) (And.intro rfl (True.intro))
              · refine l_iconst rfl ?_
                refine l_goto rfl rfl ?_
                refine l_pfz rfl rfl rfl rfl (by omega) ?_
                obtain ⟨U36, eU36⟩ : ∃ T : sS, T = uI U34 904 76 (Int32.ofInt 1) := ⟨_, rfl⟩
                rw [← eU36]
                have hHU36 : HI U36 := by rw [eU36]; exact HI_w hHU34 (show 0 ≤ 1 by omega) (show 1 ≤ 1 by omega)
                have hFU36 : FR md_mo_rest__2 S U36 := by rw [eU36]; exact FR.wI hFU34 (mdf_i (r := (904, 905, 76, 77)) (List.mem_of_getElem? (i := 8) rfl) (inR_i (by omega) (by omega) (by omega) (by omega)))
                have w707 : Xi U36 904 76 = 1 := by rw [eU36]; exact Xi_same (by unfold rg; omega)
                have w708 : Xi U36 904 65 = Xi T1 904 65 := (show Xi U36 904 65 = Xi U34 904 65 from by rw [eU36]; exact Xi_ne (by omega)).trans ( (show Xi U34 904 65 = Xi U30 904 65 from by rw [eU34]; exact Xi_ne (by omega)).trans ((show Xi U30 904 65 = Xi T1 904 65 from by rw [eU30]; exact Xi_ne (by omega))))
                have w709 : 0 ≤ Xi T1 904 65 ∧ Xi T1 904 65 ≤ 1 := hHT1.c _ _
                have w710 : Xi U36 904 69 = Xi T1 904 69 := (show Xi U36 904 69 = Xi U34 904 69 from by rw [eU36]; exact Xi_ne (by omega)).trans ( (show Xi U34 904 69 = Xi U30 904 69 from by rw [eU34]; exact Xi_ne (by omega)).trans ((show Xi U30 904 69 = Xi T1 904 69 from by rw [eU30]; exact Xi_ne (by omega))))
                have w711 : 0 ≤ Xi T1 904 69 ∧ Xi T1 904 69 ≤ 2600 := hHT1.c _ _
                have w712 : Xi U36 904 70 = Xi U30 904 70 := (show Xi U36 904 70 = Xi U34 904 70 from by rw [eU36]; exact Xi_ne (by omega)).trans ((show Xi U34 904 70 = Xi U30 904 70 from by rw [eU34]; exact Xi_ne (by omega)))
                have w713 : 0 ≤ Xi U30 904 70 ∧ Xi U30 904 70 ≤ 20 := hHU30.c _ _
                have w714 : Xi U36 904 71 = Xi T1 904 71 := (show Xi U36 904 71 = Xi U34 904 71 from by rw [eU36]; exact Xi_ne (by omega)).trans ( (show Xi U34 904 71 = Xi U30 904 71 from by rw [eU34]; exact Xi_ne (by omega)).trans ((show Xi U30 904 71 = Xi T1 904 71 from by rw [eU30]; exact Xi_ne (by omega))))
                have w715 : 0 ≤ Xi T1 904 71 ∧ Xi T1 904 71 ≤ 2600 := hHT1.c _ _
                have w716 : Xi U36 904 72 = Xi T1 904 72 := (show Xi U36 904 72 = Xi U34 904 72 from by rw [eU36]; exact Xi_ne (by omega)).trans ( (show Xi U34 904 72 = Xi U30 904 72 from by rw [eU34]; exact Xi_ne (by omega)).trans ((show Xi U30 904 72 = Xi T1 904 72 from by rw [eU30]; exact Xi_ne (by omega))))
                have w717 : 0 ≤ Xi T1 904 72 ∧ Xi T1 904 72 ≤ 2600 := hHT1.c _ _
                have w718 : Xi U36 904 73 = Xi T1 904 73 := (show Xi U36 904 73 = Xi U34 904 73 from by rw [eU36]; exact Xi_ne (by omega)).trans ( (show Xi U34 904 73 = Xi U30 904 73 from by rw [eU34]; exact Xi_ne (by omega)).trans ((show Xi U30 904 73 = Xi T1 904 73 from by rw [eU30]; exact Xi_ne (by omega))))
                have w719 : 0 ≤ Xi T1 904 73 ∧ Xi T1 904 73 ≤ 5 := hHT1.c _ _
                have w720 : Xi U36 904 74 = Xi T1 904 74 := (show Xi U36 904 74 = Xi U34 904 74 from by rw [eU36]; exact Xi_ne (by omega)).trans ( (show Xi U34 904 74 = Xi U30 904 74 from by rw [eU34]; exact Xi_ne (by omega)).trans ((show Xi U30 904 74 = Xi T1 904 74 from by rw [eU30]; exact Xi_ne (by omega))))
                have w721 : 0 ≤ Xi T1 904 74 ∧ Xi T1 904 74 ≤ 2600 := hHT1.c _ _
                have w722 : Xi U36 904 78 = Xi T1 904 78 := (show Xi U36 904 78 = Xi U34 904 78 from by rw [eU36]; exact Xi_ne (by omega)).trans ( (show Xi U34 904 78 = Xi U30 904 78 from by rw [eU34]; exact Xi_ne (by omega)).trans ((show Xi U30 904 78 = Xi T1 904 78 from by rw [eU30]; exact Xi_ne (by omega))))
                have w723 : -2 ≤ Xi T1 904 78 ∧ Xi T1 904 78 ≤ 5010 := hHT1.c _ _
                have w724 : Xi U36 904 8 = Xi T1 904 8 := (show Xi U36 904 8 = Xi U34 904 8 from by rw [eU36]; exact Xi_ne (by omega)).trans ( (show Xi U34 904 8 = Xi U30 904 8 from by rw [eU34]; exact Xi_ne (by omega)).trans ((show Xi U30 904 8 = Xi T1 904 8 from by rw [eU30]; exact Xi_ne (by omega))))
                have w725 : 0 ≤ Xi T1 904 8 ∧ Xi T1 904 8 ≤ 5010 := hHT1.c _ _
                have w726 : Xi U36 904 93 = Xi T1 904 93 := (show Xi U36 904 93 = Xi U34 904 93 from by rw [eU36]; exact Xi_ne (by omega)).trans ( (show Xi U34 904 93 = Xi U30 904 93 from by rw [eU34]; exact Xi_ne (by omega)).trans ((show Xi U30 904 93 = Xi T1 904 93 from by rw [eU30]; exact Xi_ne (by omega))))
                have w727 : 0 ≤ Xi T1 904 93 ∧ Xi T1 904 93 ≤ 1700 := hHT1.c _ _
                exact Rl_weak (C313 U36 hHU36 hFU36  (by first | assumption | exact (AT_FR (FR_e eU36) rfl (AT_FR (FR_e eU34) rfl (AT_FR (FR_e eU30) rfl (by assumption : AT T1 _ _))))) (by first | assumption | exact (RNV_FR (FR_e eU36) rfl (RNV_FR (FR_e eU34) rfl (RNV_FR (FR_e eU30) rfl (by assumption : RNV T1 _))))) (fun q => (by rw [(fun j => ((FR_e eU36).cx 907 rfl j).1.trans (((FR_e eU34).cx 907 rfl j).1.trans (((FR_e eU30).cx 907 rfl j).1))) (Xi U36 904 8).toNat, show Xi U36 904 8 = Xi T1 904 8 by omega]; omega)) (by omega) (by omega) (by omega) (by omega) (by omega) (by omega) (by omega) (by first | assumption | exact (BDA_FR (FR_e eU36) rfl (BDA_FR (FR_e eU34) rfl (BDA_FR (FR_e eU30) rfl (by assumption : BDA T1)))))) (And.intro rfl (True.intro))
      · refine l_aload_n rfl rfl ?_
        refine l_bipush rfl rfl ?_
        refine l_pfi rfl rfl rfl rfl ?_
        obtain ⟨U37, eU37⟩ : ∃ T : sS, T = uI T1 904 70 (Int32.ofInt 12) := ⟨_, rfl⟩
        rw [← eU37]
        have hHU37 : HI U37 := by rw [eU37]; exact HI_w hHT1 (show 0 ≤ 12 by omega) (show 12 ≤ 20 by omega)
        have hFU37 : FR md_mo_rest__2 S U37 := by rw [eU37]; exact FR.wI hFT1 (mdf_i (r := (904, 905, 70, 71)) (List.mem_of_getElem? (i := 4) rfl) (inR_i (by omega) (by omega) (by omega) (by omega)))
        have w728 : Xi U37 904 70 = 12 := by rw [eU37]; exact Xi_same (by unfold rg; omega)
        refine l_aload_n rfl rfl ?_
        refine l_dup rfl rfl ?_
        refine l_gfi rfl rfl rfl rfl rfl ?_
        have w729 : (Xi U37 904 8) = (Xi T1 904 8) := (show Xi U37 904 8 = Xi T1 904 8 from by rw [eU37]; exact Xi_ne (by omega))
        rw [w729]
        refine l_iconst rfl ?_
        refine l_iadd rfl ?_
        refine l_pfi rfl rfl rfl rfl ?_
        obtain ⟨U38, eU38⟩ : ∃ T : sS, T = uI U37 904 8 (Int32.ofInt ((Xi T1 904 8) + 1)) := ⟨_, rfl⟩
        rw [← eU38]
        have hHU38 : HI U38 := by rw [eU38]; exact HI_w hHU37 (show 0 ≤ ((Xi T1 904 8) + 1) by omega) (show ((Xi T1 904 8) + 1) ≤ 5010 by omega)
        have hFU38 : FR md_mo_rest__2 S U38 := by rw [eU38]; exact FR.wI hFU37 (mdf_i (r := (904, 905, 8, 9)) (List.mem_of_getElem? (i := 0) rfl) (inR_i (by omega) (by omega) (by omega) (by omega)))
        have w730 : Xi U38 904 8 = ((Xi T1 904 8) + 1) := by rw [eU38]; exact Xi_same (by unfold rg; omega)
        have t217 : AT U38 n c ∧ _ := (at_mv (S := T1) (P := U37) (TK_FR hFT1 rfl (by assumption : TK S _)) (by first | assumption | exact (by assumption : AT T1 _ _)) (fun j => ((FR_e eU37).cx 907 rfl j).1) (fun j => ((FR_e eU37).cx 908 rfl j).1) ((show Xi U37 904 8 = Xi T1 904 8 from by rw [eU37]; exact Xi_ne (by omega))) ((show Xi U37 904 65 = Xi T1 904 65 from by rw [eU37]; exact Xi_ne (by omega))) ((show Xi U37 904 69 = Xi T1 904 69 from by rw [eU37]; exact Xi_ne (by omega))) ((show Xi U37 904 93 = Xi T1 904 93 from by rw [eU37]; exact Xi_ne (by omega))) eU38 (by omega) (by omega) (by omega) (by omega) (Or.inl rfl))
        have a217 : AT U38 n c := t217.1
        have l217 := t217.2
        refine l_aload_n rfl rfl ?_
        refine l_aload_n rfl rfl ?_
        have w731 : Xi U38 904 65 = Xi T1 904 65 := (show Xi U38 904 65 = Xi U37 904 65 from by rw [eU38]; exact Xi_ne (by omega)).trans ((show Xi U37 904 65 = Xi T1 904 65 from by rw [eU37]; exact Xi_ne (by omega)))
        have w732 : 0 ≤ Xi T1 904 65 ∧ Xi T1 904 65 ≤ 1 := hHT1.c _ _
        have w733 : Xi U38 904 69 = Xi T1 904 69 := (show Xi U38 904 69 = Xi U37 904 69 from by rw [eU38]; exact Xi_ne (by omega)).trans ((show Xi U37 904 69 = Xi T1 904 69 from by rw [eU37]; exact Xi_ne (by omega)))
        have w734 : 0 ≤ Xi T1 904 69 ∧ Xi T1 904 69 ≤ 2600 := hHT1.c _ _
        have w735 : Xi U38 904 70 = Xi U37 904 70 := (show Xi U38 904 70 = Xi U37 904 70 from by rw [eU38]; exact Xi_ne (by omega))
        have w736 : 0 ≤ Xi U37 904 70 ∧ Xi U37 904 70 ≤ 20 := hHU37.c _ _
        have w737 : Xi U38 904 71 = Xi T1 904 71 := (show Xi U38 904 71 = Xi U37 904 71 from by rw [eU38]; exact Xi_ne (by omega)).trans ((show Xi U37 904 71 = Xi T1 904 71 from by rw [eU37]; exact Xi_ne (by omega)))
        have w738 : 0 ≤ Xi T1 904 71 ∧ Xi T1 904 71 ≤ 2600 := hHT1.c _ _
        have w739 : Xi U38 904 72 = Xi T1 904 72 := (show Xi U38 904 72 = Xi U37 904 72 from by rw [eU38]; exact Xi_ne (by omega)).trans ((show Xi U37 904 72 = Xi T1 904 72 from by rw [eU37]; exact Xi_ne (by omega)))
        have w740 : 0 ≤ Xi T1 904 72 ∧ Xi T1 904 72 ≤ 2600 := hHT1.c _ _
        have w741 : Xi U38 904 73 = Xi T1 904 73 := (show Xi U38 904 73 = Xi U37 904 73 from by rw [eU38]; exact Xi_ne (by omega)).trans ((show Xi U37 904 73 = Xi T1 904 73 from by rw [eU37]; exact Xi_ne (by omega)))
        have w742 : 0 ≤ Xi T1 904 73 ∧ Xi T1 904 73 ≤ 5 := hHT1.c _ _
        have w743 : Xi U38 904 74 = Xi T1 904 74 := (show Xi U38 904 74 = Xi U37 904 74 from by rw [eU38]; exact Xi_ne (by omega)).trans ((show Xi U37 904 74 = Xi T1 904 74 from by rw [eU37]; exact Xi_ne (by omega)))
        have w744 : 0 ≤ Xi T1 904 74 ∧ Xi T1 904 74 ≤ 2600 := hHT1.c _ _
        have w745 : Xi U38 904 78 = Xi T1 904 78 := (show Xi U38 904 78 = Xi U37 904 78 from by rw [eU38]; exact Xi_ne (by omega)).trans ((show Xi U37 904 78 = Xi T1 904 78 from by rw [eU37]; exact Xi_ne (by omega)))
        have w746 : -2 ≤ Xi T1 904 78 ∧ Xi T1 904 78 ≤ 5010 := hHT1.c _ _
        have w747 : 0 ≤ Xi U38 904 8 ∧ Xi U38 904 8 ≤ 5010 := hHU38.c _ _
        have w748 : Xi U38 904 93 = Xi T1 904 93 := (show Xi U38 904 93 = Xi U37 904 93 from by rw [eU38]; exact Xi_ne (by omega)).trans ((show Xi U37 904 93 = Xi T1 904 93 from by rw [eU37]; exact Xi_ne (by omega)))
        have w749 : 0 ≤ Xi T1 904 93 ∧ Xi T1 904 93 ≤ 1700 := hHT1.c _ _
        refine l_callV rfl rfl rfl (t_mo_run__2 hHU38 n c (by first | assumption | exact (TK_FR hFU38 rfl (by assumption : TK S _))) (by first | assumption | exact (by assumption : AT U38 _ _)) (by first | assumption | exact (RNV_FR (FR_e eU38) rfl (RNV_FR (FR_e eU37) rfl (by assumption : RNV T1 _)))) (by first | assumption | exact (BDA_FR (FR_e eU38) rfl (BDA_FR (FR_e eU37) rfl (by assumption : BDA T1)))) _) ?_
        rintro _ T39 ⟨hHT39, w757, z756, rfl, w756, w750, w751, w752, w753, w754, w755⟩
        have hFT39 : FR md_mo_rest__2 S T39 := FR.tr hFU38 w757 rfl
        show Rl _ _ _ _ _ [iv z756, .ref 904] _ _
        have w759 : 0 ≤ Xi T39 904 8 ∧ Xi T39 904 8 ≤ 5010 := hHT39.c _ _
        have w760 : 0 ≤ Xi T39 904 65 ∧ Xi T39 904 65 ≤ 1 := hHT39.c _ _
        have w761 : 0 ≤ Xi T39 904 69 ∧ Xi T39 904 69 ≤ 2600 := hHT39.c _ _
        have w762 : Xi T39 904 93 = Xi T1 904 93 := (show Xi T39 904 93 = Xi U38 904 93 from w757.x _ _ rfl).trans ( (show Xi U38 904 93 = Xi U37 904 93 from by rw [eU38]; exact Xi_ne (by omega)).trans ((show Xi U37 904 93 = Xi T1 904 93 from by rw [eU37]; exact Xi_ne (by omega))))
        have w763 : 0 ≤ Xi T1 904 93 ∧ Xi T1 904 93 ≤ 1700 := hHT1.c _ _
        have w758 : Xi S 904 8 ≤ Xi T39 904 8 ∧ Xi T39 904 8 ≤ n ∧ Xi S 904 69 ≤ Xi T39 904 69 ∧ (Xi T39 904 65 = 0 → Xi S 904 65 = 0) := by omega
        clear w751
        refine l_pfi rfl rfl rfl rfl ?_
        obtain ⟨U40, eU40⟩ : ∃ T : sS, T = uI T39 904 78 (Int32.ofInt z756) := ⟨_, rfl⟩
        rw [← eU40]
        have hHU40 : HI U40 := by rw [eU40]; exact HI_w hHT39 (show -2 ≤ z756 by omega) (show z756 ≤ 5010 by omega)
        have hFU40 : FR md_mo_rest__2 S U40 := by rw [eU40]; exact FR.wI hFT39 (mdf_i (r := (904, 905, 78, 79)) (List.mem_of_getElem? (i := 9) rfl) (inR_i (by omega) (by omega) (by omega) (by omega)))
        have w764 : Xi U40 904 78 = z756 := by rw [eU40]; exact Xi_same (by unfold rg; omega)
        refine l_aload_n rfl rfl ?_
        refine l_bipush rfl rfl ?_
        have w765 : Xi U40 904 65 = Xi T39 904 65 := (show Xi U40 904 65 = Xi T39 904 65 from by rw [eU40]; exact Xi_ne (by omega))
        have w766 : 0 ≤ Xi T39 904 65 ∧ Xi T39 904 65 ≤ 1 := hHT39.c _ _
        have w767 : Xi U40 904 69 = Xi T39 904 69 := (show Xi U40 904 69 = Xi T39 904 69 from by rw [eU40]; exact Xi_ne (by omega))
        have w768 : 0 ≤ Xi T39 904 69 ∧ Xi T39 904 69 ≤ 2600 := hHT39.c _ _
        have w769 : Xi U40 904 70 = Xi U37 904 70 := (show Xi U40 904 70 = Xi T39 904 70 from by rw [eU40]; exact Xi_ne (by omega)).trans ( (show Xi T39 904 70 = Xi U38 904 70 from w757.x _ _ rfl).trans ((show Xi U38 904 70 = Xi U37 904 70 from by rw [eU38]; exact Xi_ne (by omega))))
        have w770 : 0 ≤ Xi U37 904 70 ∧ Xi U37 904 70 ≤ 20 := hHU37.c _ _
        have w771 : Xi U40 904 71 = Xi T1 904 71 := (show Xi U40 904 71 = Xi T39 904 71 from by rw [eU40]; exact Xi_ne (by omega)).trans ( (show Xi T39 904 71 = Xi U38 904 71 from w757.x _ _ rfl).trans ( (show Xi U38 904 71 = Xi U37 904 71 from by rw [eU38]; exact Xi_ne (by omega)).trans ((show Xi U37 904 71 = Xi T1 904 71 from by rw [eU37]; exact Xi_ne (by omega)))))
        have w772 : 0 ≤ Xi T1 904 71 ∧ Xi T1 904 71 ≤ 2600 := hHT1.c _ _
        have w773 : Xi U40 904 72 = Xi T1 904 72 := (show Xi U40 904 72 = Xi T39 904 72 from by rw [eU40]; exact Xi_ne (by omega)).trans ( (show Xi T39 904 72 = Xi U38 904 72 from w757.x _ _ rfl).trans ( (show Xi U38 904 72 = Xi U37 904 72 from by rw [eU38]; exact Xi_ne (by omega)).trans ((show Xi U37 904 72 = Xi T1 904 72 from by rw [eU37]; exact Xi_ne (by omega)))))
        have w774 : 0 ≤ Xi T1 904 72 ∧ Xi T1 904 72 ≤ 2600 := hHT1.c _ _
        have w775 : Xi U40 904 73 = Xi T1 904 73 := (show Xi U40 904 73 = Xi T39 904 73 from by rw [eU40]; exact Xi_ne (by omega)).trans ( (show Xi T39 904 73 = Xi U38 904 73 from w757.x _ _ rfl).trans ( (show Xi U38 904 73 = Xi U37 904 73 from by rw [eU38]; exact Xi_ne (by omega)).trans ((show Xi U37 904 73 = Xi T1 904 73 from by rw [eU37]; exact Xi_ne (by omega)))))
        have w776 : 0 ≤ Xi T1 904 73 ∧ Xi T1 904 73 ≤ 5 := hHT1.c _ _
        have w777 : Xi U40 904 74 = Xi T1 904 74 := (show Xi U40 904 74 = Xi T39 904 74 from by rw [eU40]; exact Xi_ne (by omega)).trans ( (show Xi T39 904 74 = Xi U38 904 74 from w757.x _ _ rfl).trans ( (show Xi U38 904 74 = Xi U37 904 74 from by rw [eU38]; exact Xi_ne (by omega)).trans ((show Xi U37 904 74 = Xi T1 904 74 from by rw [eU37]; exact Xi_ne (by omega)))))
        have w778 : 0 ≤ Xi T1 904 74 ∧ Xi T1 904 74 ≤ 2600 := hHT1.c _ _
        have w779 : -2 ≤ Xi U40 904 78 ∧ Xi U40 904 78 ≤ 5010 := hHU40.c _ _
        have w780 : Xi U40 904 8 = Xi T39 904 8 := (show Xi U40 904 8 = Xi T39 904 8 from by rw [eU40]; exact Xi_ne (by omega))
        have w781 : 0 ≤ Xi T39 904 8 ∧ Xi T39 904 8 ≤ 5010 := hHT39.c _ _
        have w782 : Xi U40 904 93 = Xi T1 904 93 := (show Xi U40 904 93 = Xi T39 904 93 from by rw [eU40]; exact Xi_ne (by omega)).trans ( (show Xi T39 904 93 = Xi U38 904 93 from w757.x _ _ rfl).trans ( (show Xi U38 904 93 = Xi U37 904 93 from by rw [eU38]; exact Xi_ne (by omega)).trans ((show Xi U37 904 93 = Xi T1 904 93 from by rw [eU37]; exact Xi_ne (by omega)))))
        have w783 : 0 ≤ Xi T1 904 93 ∧ Xi T1 904 93 ≤ 1700 := hHT1.c _ _
        refine l_callV rfl rfl rfl (t_mo_isNext hHU40 n c 46 ⟨by omega, by omega⟩ (by first | assumption | exact (TK_FR hFU40 rfl (by assumption : TK S _))) (by first | assumption | exact (AT_FR (FR_e eU40) rfl (by assumption : AT T39 _ _))) _) ?_
        rintro _ _ ⟨rfl, z786, rfl, w786, w784, w785⟩
        show Rl _ _ _ _ _ [iv z786] _ _
        refine l_if_ne rfl rfl (by unfold rg; omega) (fun w787 => ?_) (fun w788 => ?_)
        · refine l_return rfl rfl ?_
          have w789 : Xi U40 904 65 = Xi T39 904 65 := (show Xi U40 904 65 = Xi T39 904 65 from by rw [eU40]; exact Xi_ne (by omega))
          have w790 : 0 ≤ Xi T39 904 65 ∧ Xi T39 904 65 ≤ 1 := hHT39.c _ _
          have w791 : Xi U40 904 69 = Xi T39 904 69 := (show Xi U40 904 69 = Xi T39 904 69 from by rw [eU40]; exact Xi_ne (by omega))
          have w792 : 0 ≤ Xi T39 904 69 ∧ Xi T39 904 69 ≤ 2600 := hHT39.c _ _
          have w793 : Xi U40 904 70 = Xi U37 904 70 := (show Xi U40 904 70 = Xi T39 904 70 from by rw [eU40]; exact Xi_ne (by omega)).trans ( (show Xi T39 904 70 = Xi U38 904 70 from w757.x _ _ rfl).trans ((show Xi U38 904 70 = Xi U37 904 70 from by rw [eU38]; exact Xi_ne (by omega))))
          have w794 : 0 ≤ Xi U37 904 70 ∧ Xi U37 904 70 ≤ 20 := hHU37.c _ _
          have w795 : Xi U40 904 71 = Xi T1 904 71 := (show Xi U40 904 71 = Xi T39 904 71 from by rw [eU40]; exact Xi_ne (by omega)).trans ( (show Xi T39 904 71 = Xi U38 904 71 from w757.x _ _ rfl).trans ( (show Xi U38 904 71 = Xi U37 904 71 from by rw [eU38]; exact Xi_ne (by omega)).trans ((show Xi U37 904 71 = Xi T1 904 71 from by rw [eU37]; exact Xi_ne (by omega)))))
          have w796 : 0 ≤ Xi T1 904 71 ∧ Xi T1 904 71 ≤ 2600 := hHT1.c _ _
          have w797 : Xi U40 904 72 = Xi T1 904 72 := (show Xi U40 904 72 = Xi T39 904 72 from by rw [eU40]; exact Xi_ne (by omega)).trans ( (show Xi T39 904 72 = Xi U38 904 72 from w757.x _ _ rfl).trans ( (show Xi U38 904 72 = Xi U37 904 72 from by rw [eU38]; exact Xi_ne (by omega)).trans ((show Xi U37 904 72 = Xi T1 904 72 from by rw [eU37]; exact Xi_ne (by omega)))))
          have w798 : 0 ≤ Xi T1 904 72 ∧ Xi T1 904 72 ≤ 2600 := hHT1.c _ _
          have w799 : Xi U40 904 73 = Xi T1 904 73 := (show Xi U40 904 73 = Xi T39 904 73 from by rw [eU40]; exact Xi_ne (by omega)).trans ( (show Xi T39 904 73 = Xi U38 904 73 from w757.x _ _ rfl).trans ( (show Xi U38 904 73 = Xi U37 904 73 from by rw [eU38]; exact Xi_ne (by omega)).trans ((show Xi U37 904 73 = Xi T1 904 73 from by rw [eU37]; exact Xi_ne (by omega)))))
          have w800 : 0 ≤ Xi T1 904 73 ∧ Xi T1 904 73 ≤ 5 := hHT1.c _ _
          have w801 : Xi U40 904 74 = Xi T1 904 74 := (show Xi U40 904 74 = Xi T39 904 74 from by rw [eU40]; exact Xi_ne (by omega)).trans ( (show Xi T39 904 74 = Xi U38 904 74 from w757.x _ _ rfl).trans ( (show Xi U38 904 74 = Xi U37 904 74 from by rw [eU38]; exact Xi_ne (by omega)).trans ((show Xi U37 904 74 = Xi T1 904 74 from by rw [eU37]; exact Xi_ne (by omega)))))
          have w802 : 0 ≤ Xi T1 904 74 ∧ Xi T1 904 74 ≤ 2600 := hHT1.c _ _
          have w803 : -2 ≤ Xi U40 904 78 ∧ Xi U40 904 78 ≤ 5010 := hHU40.c _ _
          have w804 : Xi U40 904 8 = Xi T39 904 8 := (show Xi U40 904 8 = Xi T39 904 8 from by rw [eU40]; exact Xi_ne (by omega))
          have w805 : 0 ≤ Xi T39 904 8 ∧ Xi T39 904 8 ≤ 5010 := hHT39.c _ _
          have w806 : Xi U40 904 93 = Xi T1 904 93 := (show Xi U40 904 93 = Xi T39 904 93 from by rw [eU40]; exact Xi_ne (by omega)).trans ( (show Xi T39 904 93 = Xi U38 904 93 from w757.x _ _ rfl).trans ( (show Xi U38 904 93 = Xi U37 904 93 from by rw [eU38]; exact Xi_ne (by omega)).trans ((show Xi U37 904 93 = Xi T1 904 93 from by rw [eU37]; exact Xi_ne (by omega)))))
          have w807 : 0 ≤ Xi T1 904 93 ∧ Xi T1 904 93 ≤ 1700 := hHT1.c _ _
          exact ⟨hHU40, hFU40, rfl, (by first | assumption | exact (AT_FR (FR_e eU40) rfl (by assumption : AT T39 _ _))), (by omega), (by first | assumption | exact (RNV_FR (FR_e eU40) rfl (by assumption : RNV T39 _))), (by omega), (by omega), (by omega), (fun q => by unfold SNQ; refine ⟨fun q1 => absurd q1 (by omega), by omega, by omega, by omega, fun q9 => absurd q9 (by omega), by omega, by omega, by omega, by omega, by omega⟩), (by omega), (by first | assumption | exact (BDA_FR (FR_e eU40) rfl (by assumption : BDA T39)))⟩
        · refine l_aload_n rfl rfl ?_
          refine l_gfi rfl rfl rfl rfl rfl ?_
          have w808 : 0 ≤ (Xi U40 904 65) ∧ (Xi U40 904 65) ≤ 1 := hHU40.c _ _
          refine l_if_ne rfl rfl (by unfold rg; omega) (fun w809 => ?_) (fun w810 => ?_)
          · refine l_return rfl rfl ?_
            have w811 : Xi U40 904 65 = Xi T39 904 65 := (show Xi U40 904 65 = Xi T39 904 65 from by rw [eU40]; exact Xi_ne (by omega))
            have w812 : 0 ≤ Xi T39 904 65 ∧ Xi T39 904 65 ≤ 1 := hHT39.c _ _
            have w813 : Xi U40 904 69 = Xi T39 904 69 := (show Xi U40 904 69 = Xi T39 904 69 from by rw [eU40]; exact Xi_ne (by omega))
            have w814 : 0 ≤ Xi T39 904 69 ∧ Xi T39 904 69 ≤ 2600 := hHT39.c _ _
            have w815 : Xi U40 904 70 = Xi U37 904 70 := (show Xi U40 904 70 = Xi T39 904 70 from by rw [eU40]; exact Xi_ne (by omega)).trans ( (show Xi T39 904 70 = Xi U38 904 70 from w757.x _ _ rfl).trans ((show Xi U38 904 70 = Xi U37 904 70 from by rw [eU38]; exact Xi_ne (by omega))))
            have w816 : 0 ≤ Xi U37 904 70 ∧ Xi U37 904 70 ≤ 20 := hHU37.c _ _
            have w817 : Xi U40 904 71 = Xi T1 904 71 := (show Xi U40 904 71 = Xi T39 904 71 from by rw [eU40]; exact Xi_ne (by omega)).trans ( (show Xi T39 904 71 = Xi U38 904 71 from w757.x _ _ rfl).trans ( (show Xi U38 904 71 = Xi U37 904 71 from by rw [eU38]; exact Xi_ne (by omega)).trans ((show Xi U37 904 71 = Xi T1 904 71 from by rw [eU37]; exact Xi_ne (by omega)))))
            have w818 : 0 ≤ Xi T1 904 71 ∧ Xi T1 904 71 ≤ 2600 := hHT1.c _ _
            have w819 : Xi U40 904 72 = Xi T1 904 72 := (show Xi U40 904 72 = Xi T39 904 72 from by rw [eU40]; exact Xi_ne (by omega)).trans ( (show Xi T39 904 72 = Xi U38 904 72 from w757.x _ _ rfl).trans ( (show Xi U38 904 72 = Xi U37 904 72 from by rw [eU38]; exact Xi_ne (by omega)).trans ((show Xi U37 904 72 = Xi T1 904 72 from by rw [eU37]; exact Xi_ne (by omega)))))
            have w820 : 0 ≤ Xi T1 904 72 ∧ Xi T1 904 72 ≤ 2600 := hHT1.c _ _
            have w821 : Xi U40 904 73 = Xi T1 904 73 := (show Xi U40 904 73 = Xi T39 904 73 from by rw [eU40]; exact Xi_ne (by omega)).trans ( (show Xi T39 904 73 = Xi U38 904 73 from w757.x _ _ rfl).trans ( (show Xi U38 904 73 = Xi U37 904 73 from by rw [eU38]; exact Xi_ne (by omega)).trans ((show Xi U37 904 73 = Xi T1 904 73 from by rw [eU37]; exact Xi_ne (by omega)))))
            have w822 : 0 ≤ Xi T1 904 73 ∧ Xi T1 904 73 ≤ 5 := hHT1.c _ _
            have w823 : Xi U40 904 74 = Xi T1 904 74 := (show Xi U40 904 74 = Xi T39 904 74 from by rw [eU40]; exact Xi_ne (by omega)).trans ( (show Xi T39 904 74 = Xi U38 904 74 from w757.x _ _ rfl).trans ( (show Xi U38 904 74 = Xi U37 904 74 from by rw [eU38]; exact Xi_ne (by omega)).trans ((show Xi U37 904 74 = Xi T1 904 74 from by rw [eU37]; exact Xi_ne (by omega)))))
            have w824 : 0 ≤ Xi T1 904 74 ∧ Xi T1 904 74 ≤ 2600 := hHT1.c _ _
            have w825 : -2 ≤ Xi U40 904 78 ∧ Xi U40 904 78 ≤ 5010 := hHU40.c _ _
            have w826 : Xi U40 904 8 = Xi T39 904 8 := (show Xi U40 904 8 = Xi T39 904 8 from by rw [eU40]; exact Xi_ne (by omega))
            have w827 : 0 ≤ Xi T39 904 8 ∧ Xi T39 904 8 ≤ 5010 := hHT39.c _ _
            have w828 : Xi U40 904 93 = Xi T1 904 93 := (show Xi U40 904 93 = Xi T39 904 93 from by rw [eU40]; exact Xi_ne (by omega)).trans ( (show Xi T39 904 93 = Xi U38 904 93 from w757.x _ _ rfl).trans ( (show Xi U38 904 93 = Xi U37 904 93 from by rw [eU38]; exact Xi_ne (by omega)).trans ((show Xi U37 904 93 = Xi T1 904 93 from by rw [eU37]; exact Xi_ne (by omega)))))
            have w829 : 0 ≤ Xi T1 904 93 ∧ Xi T1 904 93 ≤ 1700 := hHT1.c _ _
            exact ⟨hHU40, hFU40, rfl, (by first | assumption | exact (AT_FR (FR_e eU40) rfl (by assumption : AT T39 _ _))), (by omega), (by first | assumption | exact (RNV_FR (FR_e eU40) rfl (by assumption : RNV T39 _))), (by omega), (by omega), (by omega), (fun q => by unfold SNQ; refine ⟨fun q1 => absurd q1 (by omega), by omega, by omega, by omega, fun q9 => absurd q9 (by omega), by omega, by omega, by omega, by omega, by omega⟩), (by omega), (by first | assumption | exact (BDA_FR (FR_e eU40) rfl (by assumption : BDA T39)))⟩
          · refine l_aload_n rfl rfl ?_
            refine l_aload_n rfl rfl ?_
            have w830 : Xi U40 904 65 = Xi T39 904 65 := (show Xi U40 904 65 = Xi T39 904 65 from by rw [eU40]; exact Xi_ne (by omega))
            have w831 : 0 ≤ Xi T39 904 65 ∧ Xi T39 904 65 ≤ 1 := hHT39.c _ _
            have w832 : Xi U40 904 69 = Xi T39 904 69 := (show Xi U40 904 69 = Xi T39 904 69 from by rw [eU40]; exact Xi_ne (by omega))
            have w833 : 0 ≤ Xi T39 904 69 ∧ Xi T39 904 69 ≤ 2600 := hHT39.c _ _
            have w834 : Xi U40 904 70 = Xi U37 904 70 := (show Xi U40 904 70 = Xi T39 904 70 from by rw [eU40]; exact Xi_ne (by omega)).trans ( (show Xi T39 904 70 = Xi U38 904 70 from w757.x _ _ rfl).trans ((show Xi U38 904 70 = Xi U37 904 70 from by rw [eU38]; exact Xi_ne (by omega))))
            have w835 : 0 ≤ Xi U37 904 70 ∧ Xi U37 904 70 ≤ 20 := hHU37.c _ _
            have w836 : Xi U40 904 71 = Xi T1 904 71 := (show Xi U40 904 71 = Xi T39 904 71 from by rw [eU40]; exact Xi_ne (by omega)).trans ( (show Xi T39 904 71 = Xi U38 904 71 from w757.x _ _ rfl).trans ( (show Xi U38 904 71 = Xi U37 904 71 from by rw [eU38]; exact Xi_ne (by omega)).trans ((show Xi U37 904 71 = Xi T1 904 71 from by rw [eU37]; exact Xi_ne (by omega)))))
            have w837 : 0 ≤ Xi T1 904 71 ∧ Xi T1 904 71 ≤ 2600 := hHT1.c _ _
            have w838 : Xi U40 904 72 = Xi T1 904 72 := (show Xi U40 904 72 = Xi T39 904 72 from by rw [eU40]; exact Xi_ne (by omega)).trans ( (show Xi T39 904 72 = Xi U38 904 72 from w757.x _ _ rfl).trans ( (show Xi U38 904 72 = Xi U37 904 72 from by rw [eU38]; exact Xi_ne (by omega)).trans ((show Xi U37 904 72 = Xi T1 904 72 from by rw [eU37]; exact Xi_ne (by omega)))))
            have w839 : 0 ≤ Xi T1 904 72 ∧ Xi T1 904 72 ≤ 2600 := hHT1.c _ _
            have w840 : Xi U40 904 73 = Xi T1 904 73 := (show Xi U40 904 73 = Xi T39 904 73 from by rw [eU40]; exact Xi_ne (by omega)).trans ( (show Xi T39 904 73 = Xi U38 904 73 from w757.x _ _ rfl).trans ( (show Xi U38 904 73 = Xi U37 904 73 from by rw [eU38]; exact Xi_ne (by omega)).trans ((show Xi U37 904 73 = Xi T1 904 73 from by rw [eU37]; exact Xi_ne (by omega)))))
            have w841 : 0 ≤ Xi T1 904 73 ∧ Xi T1 904 73 ≤ 5 := hHT1.c _ _
            have w842 : Xi U40 904 74 = Xi T1 904 74 := (show Xi U40 904 74 = Xi T39 904 74 from by rw [eU40]; exact Xi_ne (by omega)).trans ( (show Xi T39 904 74 = Xi U38 904 74 from w757.x _ _ rfl).trans ( (show Xi U38 904 74 = Xi U37 904 74 from by rw [eU38]; exact Xi_ne (by omega)).trans ((show Xi U37 904 74 = Xi T1 904 74 from by rw [eU37]; exact Xi_ne (by omega)))))
            have w843 : 0 ≤ Xi T1 904 74 ∧ Xi T1 904 74 ≤ 2600 := hHT1.c _ _
            have w844 : -2 ≤ Xi U40 904 78 ∧ Xi U40 904 78 ≤ 5010 := hHU40.c _ _
            have w845 : Xi U40 904 8 = Xi T39 904 8 := (show Xi U40 904 8 = Xi T39 904 8 from by rw [eU40]; exact Xi_ne (by omega))
            have w846 : 0 ≤ Xi T39 904 8 ∧ Xi T39 904 8 ≤ 5010 := hHT39.c _ _
            have w847 : Xi U40 904 93 = Xi T1 904 93 := (show Xi U40 904 93 = Xi T39 904 93 from by rw [eU40]; exact Xi_ne (by omega)).trans ( (show Xi T39 904 93 = Xi U38 904 93 from w757.x _ _ rfl).trans ( (show Xi U38 904 93 = Xi U37 904 93 from by rw [eU38]; exact Xi_ne (by omega)).trans ((show Xi U37 904 93 = Xi T1 904 93 from by rw [eU37]; exact Xi_ne (by omega)))))
            have w848 : 0 ≤ Xi T1 904 93 ∧ Xi T1 904 93 ≤ 1700 := hHT1.c _ _
            refine l_callV rfl rfl rfl (t_mo_placing__3 hHU40 n c (by first | assumption | exact (TK_FR hFU40 rfl (by assumption : TK S _))) (by first | assumption | exact (AT_FR (FR_e eU40) rfl (by assumption : AT T39 _ _))) (by first | assumption | exact (BDA_FR (FR_e eU40) rfl (by assumption : BDA T39))) _) ?_
            rintro _ T41 ⟨hHT41, w854, z853, rfl, w853, w849, w850, w851, w852⟩
            have hFT41 : FR md_mo_rest__2 S T41 := FR.tr hFU40 w854 rfl
            show Rl _ _ _ _ _ [iv z853, .ref 904] _ _
            have w856 : 0 ≤ Xi T41 904 8 ∧ Xi T41 904 8 ≤ 5010 := hHT41.c _ _
            have w857 : 0 ≤ Xi T41 904 65 ∧ Xi T41 904 65 ≤ 1 := hHT41.c _ _
            have w858 : Xi T41 904 69 = Xi T39 904 69 := (show Xi T41 904 69 = Xi U40 904 69 from w854.x _ _ rfl).trans ((show Xi U40 904 69 = Xi T39 904 69 from by rw [eU40]; exact Xi_ne (by omega)))
            have w859 : 0 ≤ Xi T39 904 69 ∧ Xi T39 904 69 ≤ 2600 := hHT39.c _ _
            have w860 : Xi T41 904 93 = Xi T1 904 93 := (show Xi T41 904 93 = Xi U40 904 93 from w854.x _ _ rfl).trans ( (show Xi U40 904 93 = Xi T39 904 93 from by rw [eU40]; exact Xi_ne (by omega)).trans ( (show Xi T39 904 93 = Xi U38 904 93 from w757.x _ _ rfl).trans ( (show Xi U38 904 93 = Xi U37 904 93 from by rw [eU38]; exact Xi_ne (by omega)).trans ((show Xi U37 904 93 = Xi T1 904 93 from by rw [eU37]; exact Xi_ne (by omega))))))
            have w861 : 0 ≤ Xi T1 904 93 ∧ Xi T1 904 93 ≤ 1700 := hHT1.c _ _
            have w855 : Xi S 904 8 ≤ Xi T41 904 8 ∧ Xi T41 904 8 ≤ n ∧ Xi S 904 69 ≤ Xi T41 904 69 ∧ (Xi T41 904 65 = 0 → Xi S 904 65 = 0) := by omega
            clear w850 w758
            refine l_pfi rfl rfl rfl rfl ?_
            obtain ⟨U42, eU42⟩ : ∃ T : sS, T = uI T41 904 73 (Int32.ofInt z853) := ⟨_, rfl⟩
            rw [← eU42]
            have hHU42 : HI U42 := by rw [eU42]; exact HI_w hHT41 (show 0 ≤ z853 by omega) (show z853 ≤ 5 by omega)
            have hFU42 : FR md_mo_rest__2 S U42 := by rw [eU42]; exact FR.wI hFT41 (mdf_i (r := (904, 905, 73, 74)) (List.mem_of_getElem? (i := 5) rfl) (inR_i (by omega) (by omega) (by omega) (by omega)))
            have w862 : Xi U42 904 73 = z853 := by rw [eU42]; exact Xi_same (by unfold rg; omega)
            refine l_aload_n rfl rfl ?_
            refine l_aload_n rfl rfl ?_
            have w863 : Xi U42 904 65 = Xi T41 904 65 := (show Xi U42 904 65 = Xi T41 904 65 from by rw [eU42]; exact Xi_ne (by omega))
            have w864 : 0 ≤ Xi T41 904 65 ∧ Xi T41 904 65 ≤ 1 := hHT41.c _ _
            have w865 : Xi U42 904 69 = Xi T39 904 69 := (show Xi U42 904 69 = Xi T41 904 69 from by rw [eU42]; exact Xi_ne (by omega)).trans ( (show Xi T41 904 69 = Xi U40 904 69 from w854.x _ _ rfl).trans ((show Xi U40 904 69 = Xi T39 904 69 from by rw [eU40]; exact Xi_ne (by omega))))
            have w866 : 0 ≤ Xi T39 904 69 ∧ Xi T39 904 69 ≤ 2600 := hHT39.c _ _
            have w867 : Xi U42 904 70 = Xi U37 904 70 := (show Xi U42 904 70 = Xi T41 904 70 from by rw [eU42]; exact Xi_ne (by omega)).trans ( (show Xi T41 904 70 = Xi U40 904 70 from w854.x _ _ rfl).trans ( (show Xi U40 904 70 = Xi T39 904 70 from by rw [eU40]; exact Xi_ne (by omega)).trans ( (show Xi T39 904 70 = Xi U38 904 70 from w757.x _ _ rfl).trans ((show Xi U38 904 70 = Xi U37 904 70 from by rw [eU38]; exact Xi_ne (by omega))))))
            have w868 : 0 ≤ Xi U37 904 70 ∧ Xi U37 904 70 ≤ 20 := hHU37.c _ _
            have w869 : Xi U42 904 71 = Xi T1 904 71 := (show Xi U42 904 71 = Xi T41 904 71 from by rw [eU42]; exact Xi_ne (by omega)).trans ( (show Xi T41 904 71 = Xi U40 904 71 from w854.x _ _ rfl).trans ( (show Xi U40 904 71 = Xi T39 904 71 from by rw [eU40]; exact Xi_ne (by omega)).trans ( (show Xi T39 904 71 = Xi U38 904 71 from w757.x _ _ rfl).trans ( (show Xi U38 904 71 = Xi U37 904 71 from by rw [eU38]; exact Xi_ne (by omega)).trans ((show Xi U37 904 71 = Xi T1 904 71 from by rw [eU37]; exact Xi_ne (by omega)))))))
            have w870 : 0 ≤ Xi T1 904 71 ∧ Xi T1 904 71 ≤ 2600 := hHT1.c _ _
            have w871 : Xi U42 904 72 = Xi T1 904 72 := (show Xi U42 904 72 = Xi T41 904 72 from by rw [eU42]; exact Xi_ne (by omega)).trans ( (show Xi T41 904 72 = Xi U40 904 72 from w854.x _ _ rfl).trans ( (show Xi U40 904 72 = Xi T39 904 72 from by rw [eU40]; exact Xi_ne (by omega)).trans ( (show Xi T39 904 72 = Xi U38 904 72 from w757.x _ _ rfl).trans ( (show Xi U38 904 72 = Xi U37 904 72 from by rw [eU38]; exact Xi_ne (by omega)).trans ((show Xi U37 904 72 = Xi T1 904 72 from by rw [eU37]; exact Xi_ne (by omega)))))))
            have w872 : 0 ≤ Xi T1 904 72 ∧ Xi T1 904 72 ≤ 2600 := hHT1.c _ _
            have w873 : 0 ≤ Xi U42 904 73 ∧ Xi U42 904 73 ≤ 5 := hHU42.c _ _
            have w874 : Xi U42 904 74 = Xi T1 904 74 := (show Xi U42 904 74 = Xi T41 904 74 from by rw [eU42]; exact Xi_ne (by omega)).trans ( (show Xi T41 904 74 = Xi U40 904 74 from w854.x _ _ rfl).trans ( (show Xi U40 904 74 = Xi T39 904 74 from by rw [eU40]; exact Xi_ne (by omega)).trans ( (show Xi T39 904 74 = Xi U38 904 74 from w757.x _ _ rfl).trans ( (show Xi U38 904 74 = Xi U37 904 74 from by rw [eU38]; exact Xi_ne (by omega)).trans ((show Xi U37 904 74 = Xi T1 904 74 from by rw [eU37]; exact Xi_ne (by omega)))))))
            have w875 : 0 ≤ Xi T1 904 74 ∧ Xi T1 904 74 ≤ 2600 := hHT1.c _ _
            have w876 : Xi U42 904 78 = Xi U40 904 78 := (show Xi U42 904 78 = Xi T41 904 78 from by rw [eU42]; exact Xi_ne (by omega)).trans ((show Xi T41 904 78 = Xi U40 904 78 from w854.x _ _ rfl))
            have w877 : -2 ≤ Xi U40 904 78 ∧ Xi U40 904 78 ≤ 5010 := hHU40.c _ _
            have w878 : Xi U42 904 8 = Xi T41 904 8 := (show Xi U42 904 8 = Xi T41 904 8 from by rw [eU42]; exact Xi_ne (by omega))
            have w879 : 0 ≤ Xi T41 904 8 ∧ Xi T41 904 8 ≤ 5010 := hHT41.c _ _
            have w880 : Xi U42 904 93 = Xi T1 904 93 := (show Xi U42 904 93 = Xi T41 904 93 from by rw [eU42]; exact Xi_ne (by omega)).trans ( (show Xi T41 904 93 = Xi U40 904 93 from w854.x _ _ rfl).trans ( (show Xi U40 904 93 = Xi T39 904 93 from by rw [eU40]; exact Xi_ne (by omega)).trans ( (show Xi T39 904 93 = Xi U38 904 93 from w757.x _ _ rfl).trans ( (show Xi U38 904 93 = Xi U37 904 93 from by rw [eU38]; exact Xi_ne (by omega)).trans ((show Xi U37 904 93 = Xi T1 904 93 from by rw [eU37]; exact Xi_ne (by omega)))))))
            have w881 : 0 ≤ Xi T1 904 93 ∧ Xi T1 904 93 ≤ 1700 := hHT1.c _ _
            refine l_callV rfl rfl rfl (t_mo_name__2 hHU42 n c (by first | assumption | exact (TK_FR hFU42 rfl (by assumption : TK S _))) (by first | assumption | exact (AT_FR (FR_e eU42) rfl (by assumption : AT T41 _ _))) (by first | assumption | exact (RNV_FR (FR_e eU42) rfl (RNV_FR w854 rfl (RNV_FR (FR_e eU40) rfl (by assumption : RNV T39 _))))) (by first | assumption | exact (BDA_FR (FR_e eU42) rfl (by assumption : BDA T41))) _) ?_
            rintro _ T43 ⟨hHT43, w889, z888, rfl, w888, w882, w883, w884, w885, w886, w887⟩
            have hFT43 : FR md_mo_rest__2 S T43 := FR.tr hFU42 w889 rfl
            show Rl _ _ _ _ _ [iv z888, .ref 904] _ _
            have w891 : 0 ≤ Xi T43 904 8 ∧ Xi T43 904 8 ≤ 5010 := hHT43.c _ _
            have w892 : 0 ≤ Xi T43 904 65 ∧ Xi T43 904 65 ≤ 1 := hHT43.c _ _
            have w893 : 0 ≤ Xi T43 904 69 ∧ Xi T43 904 69 ≤ 2600 := hHT43.c _ _
            have w894 : Xi T43 904 93 = Xi T1 904 93 := (show Xi T43 904 93 = Xi U42 904 93 from w889.x _ _ rfl).trans ( (show Xi U42 904 93 = Xi T41 904 93 from by rw [eU42]; exact Xi_ne (by omega)).trans ( (show Xi T41 904 93 = Xi U40 904 93 from w854.x _ _ rfl).trans ( (show Xi U40 904 93 = Xi T39 904 93 from by rw [eU40]; exact Xi_ne (by omega)).trans ( (show Xi T39 904 93 = Xi U38 904 93 from w757.x _ _ rfl).trans ( (show Xi U38 904 93 = Xi U37 904 93 from by rw [eU38]; exact Xi_ne (by omega)).trans ((show Xi U37 904 93 = Xi T1 904 93 from by rw [eU37]; exact Xi_ne (by omega))))))))
            have w895 : 0 ≤ Xi T1 904 93 ∧ Xi T1 904 93 ≤ 1700 := hHT1.c _ _
            have w890 : Xi S 904 8 ≤ Xi T43 904 8 ∧ Xi T43 904 8 ≤ n ∧ Xi S 904 69 ≤ Xi T43 904 69 ∧ (Xi T43 904 65 = 0 → Xi S 904 65 = 0) := by omega
            clear w883 w855
            refine l_pfi rfl rfl rfl rfl ?_
            obtain ⟨U44, eU44⟩ : ∃ T : sS, T = uI T43 904 74 (Int32.ofInt z888) := ⟨_, rfl⟩
            rw [← eU44]
            have hHU44 : HI U44 := by rw [eU44]; exact HI_w hHT43 (show 0 ≤ z888 by omega) (show z888 ≤ 2600 by omega)
            have hFU44 : FR md_mo_rest__2 S U44 := by rw [eU44]; exact FR.wI hFT43 (mdf_i (r := (904, 905, 74, 75)) (List.mem_of_getElem? (i := 6) rfl) (inR_i (by omega) (by omega) (by omega) (by omega)))
            have w896 : Xi U44 904 74 = z888 := by rw [eU44]; exact Xi_same (by unfold rg; omega)
            refine l_goto rfl rfl ?_
            refine l_return rfl rfl ?_
            have w897 : Xi U44 904 65 = Xi T43 904 65 := (show Xi U44 904 65 = Xi T43 904 65 from by rw [eU44]; exact Xi_ne (by omega))
            have w898 : 0 ≤ Xi T43 904 65 ∧ Xi T43 904 65 ≤ 1 := hHT43.c _ _
            have w899 : Xi U44 904 69 = Xi T43 904 69 := (show Xi U44 904 69 = Xi T43 904 69 from by rw [eU44]; exact Xi_ne (by omega))
            have w900 : 0 ≤ Xi T43 904 69 ∧ Xi T43 904 69 ≤ 2600 := hHT43.c _ _
            have w901 : Xi U44 904 70 = Xi U37 904 70 := (show Xi U44 904 70 = Xi T43 904 70 from by rw [eU44]; exact Xi_ne (by omega)).trans ( (show Xi T43 904 70 = Xi U42 904 70 from w889.x _ _ rfl).trans ( (show Xi U42 904 70 = Xi T41 904 70 from by rw [eU42]; exact Xi_ne (by omega)).trans ( (show Xi T41 904 70 = Xi U40 904 70 from w854.x _ _ rfl).trans ( (show Xi U40 904 70 = Xi T39 904 70 from by rw [eU40]; exact Xi_ne (by omega)).trans ( (show Xi T39 904 70 = Xi U38 904 70 from w757.x _ _ rfl).trans ((show Xi U38 904 70 = Xi U37 904 70 from by rw [eU38]; exact Xi_ne (by omega))))))))
            have w902 : 0 ≤ Xi U37 904 70 ∧ Xi U37 904 70 ≤ 20 := hHU37.c _ _
            have w903 : Xi U44 904 71 = Xi T1 904 71 := (show Xi U44 904 71 = Xi T43 904 71 from by rw [eU44]; exact Xi_ne (by omega)).trans ( (show Xi T43 904 71 = Xi U42 904 71 from w889.x _ _ rfl).trans ( (show Xi U42 904 71 = Xi T41 904 71 from by rw [eU42]; exact Xi_ne (by omega)).trans ( (show Xi T41 904 71 = Xi U40 904 71 from w854.x _ _ rfl).trans ( (show Xi U40 904 71 = Xi T39 904 71 from by rw [eU40]; exact Xi_ne (by omega)).trans ( (show Xi T39 904 71 = Xi U38 904 71 from w757.x _ _ rfl).trans ( (show Xi U38 904 71 = Xi U37 904 71 from by rw [eU38]; exact Xi_ne (by omega)).trans ((show Xi U37 904 71 = Xi T1 904 71 from by rw [eU37]; exact Xi_ne (by omega)))))))))
            have w904 : 0 ≤ Xi T1 904 71 ∧ Xi T1 904 71 ≤ 2600 := hHT1.c _ _
            have w905 : Xi U44 904 72 = Xi T1 904 72 := (show Xi U44 904 72 = Xi T43 904 72 from by rw [eU44]; exact Xi_ne (by omega)).trans ( (show Xi T43 904 72 = Xi U42 904 72 from w889.x _ _ rfl).trans ( (show Xi U42 904 72 = Xi T41 904 72 from by rw [eU42]; exact Xi_ne (by omega)).trans ( (show Xi T41 904 72 = Xi U40 904 72 from w854.x _ _ rfl).trans ( (show Xi U40 904 72 = Xi T39 904 72 from by rw [eU40]; exact Xi_ne (by omega)).trans ( (show Xi T39 904 72 = Xi U38 904 72 from w757.x _ _ rfl).trans ( (show Xi U38 904 72 = Xi U37 904 72 from by rw [eU38]; exact Xi_ne (by omega)).trans ((show Xi U37 904 72 = Xi T1 904 72 from by rw [eU37]; exact Xi_ne (by omega)))))))))
            have w906 : 0 ≤ Xi T1 904 72 ∧ Xi T1 904 72 ≤ 2600 := hHT1.c _ _
            have w907 : Xi U44 904 73 = Xi U42 904 73 := (show Xi U44 904 73 = Xi T43 904 73 from by rw [eU44]; exact Xi_ne (by omega)).trans ((show Xi T43 904 73 = Xi U42 904 73 from w889.x _ _ rfl))
            have w908 : 0 ≤ Xi U42 904 73 ∧ Xi U42 904 73 ≤ 5 := hHU42.c _ _
            have w909 : 0 ≤ Xi U44 904 74 ∧ Xi U44 904 74 ≤ 2600 := hHU44.c _ _
            have w910 : Xi U44 904 78 = Xi U40 904 78 := (show Xi U44 904 78 = Xi T43 904 78 from by rw [eU44]; exact Xi_ne (by omega)).trans ( (show Xi T43 904 78 = Xi U42 904 78 from w889.x _ _ rfl).trans ( (show Xi U42 904 78 = Xi T41 904 78 from by rw [eU42]; exact Xi_ne (by omega)).trans ((show Xi T41 904 78 = Xi U40 904 78 from w854.x _ _ rfl))))
            have w911 : -2 ≤ Xi U40 904 78 ∧ Xi U40 904 78 ≤ 5010 := hHU40.c _ _
            have w912 : Xi U44 904 8 = Xi T43 904 8 := (show Xi U44 904 8 = Xi T43 904 8 from by rw [eU44]; exact Xi_ne (by omega))
            have w913 : 0 ≤ Xi T43 904 8 ∧ Xi T43 904 8 ≤ 5010 := hHT43.c _ _
            have w914 : Xi U44 904 93 = Xi T1 904 93 := (show Xi U44 904 93 = Xi T43 904 93 from by rw [eU44]; exact Xi_ne (by omega)).trans ( (show Xi T43 904 93 = Xi U42 904 93 from w889.x _ _ rfl).trans ( (show Xi U42 904 93 = Xi T41 904 93 from by rw [eU42]; exact Xi_ne (by omega)).trans ( (show Xi T41 904 93 = Xi U40 904 93 from w854.x _ _ rfl).trans ( (show Xi U40 904 93 = Xi T39 904 93 from by rw [eU40]; exact Xi_ne (by omega)).trans ( (show Xi T39 904 93 = Xi U38 904 93 from w757.x _ _ rfl).trans ( (show Xi U38 904 93 = Xi U37 904 93 from by rw [eU38]; exact Xi_ne (by omega)).trans ((show Xi U37 904 93 = Xi T1 904 93 from by rw [eU37]; exact Xi_ne (by omega)))))))))
            have w915 : 0 ≤ Xi T1 904 93 ∧ Xi T1 904 93 ≤ 1700 := hHT1.c _ _
            exact ⟨hHU44, hFU44, rfl, (by first | assumption | exact (AT_FR (FR_e eU44) rfl (by assumption : AT T43 _ _))), (by omega), (by first | assumption | exact (RNV_FR (FR_e eU44) rfl (by assumption : RNV T43 _))), (by omega), (by omega), (by omega), (fun q => by unfold SNQ; refine ⟨fun q1 => absurd q1 (by omega), by omega, by omega, by omega, fun q9 => absurd q9 (by omega), by omega, by omega, by omega, by omega, by omega⟩), (by omega), (by first | assumption | exact (BDA_FR (FR_e eU44) rfl (by assumption : BDA T43)))⟩
    refine l_iload_n rfl rfl ?_
    refine l_bipush rfl rfl ?_
    refine l_icmp_ne rfl rfl (by unfold rg; omega) (by unfold rg; omega) (fun w916 => ?_) (fun w917 => ?_)
    · have w918 : 0 ≤ Xi T1 904 65 ∧ Xi T1 904 65 ≤ 1 := hHT1.c _ _
      have w919 : 0 ≤ Xi T1 904 69 ∧ Xi T1 904 69 ≤ 2600 := hHT1.c _ _
      have w920 : 0 ≤ Xi T1 904 70 ∧ Xi T1 904 70 ≤ 20 := hHT1.c _ _
      have w921 : 0 ≤ Xi T1 904 71 ∧ Xi T1 904 71 ≤ 2600 := hHT1.c _ _
      have w922 : 0 ≤ Xi T1 904 72 ∧ Xi T1 904 72 ≤ 2600 := hHT1.c _ _
      have w923 : 0 ≤ Xi T1 904 73 ∧ Xi T1 904 73 ≤ 5 := hHT1.c _ _
      have w924 : 0 ≤ Xi T1 904 74 ∧ Xi T1 904 74 ≤ 2600 := hHT1.c _ _
      have w925 : -2 ≤ Xi T1 904 78 ∧ Xi T1 904 78 ≤ 5010 := hHT1.c _ _
      have w926 : 0 ≤ Xi T1 904 8 ∧ Xi T1 904 8 ≤ 5010 := hHT1.c _ _
      have w927 : 0 ≤ Xi T1 904 93 ∧ Xi T1 904 93 ≤ 1700 := hHT1.c _ _
      exact Rl_weak (C197 (v1) (by omega) (by first | assumption | exact (by assumption : AT T1 _ _)) (by first | assumption | exact (by assumption : RNV T1 _)) (by omega) (by omega) (by omega) (by omega) (by omega) (by omega) (by first | assumption | exact (by assumption : BDA T1))) (And.intro rfl (And.intro rfl (True.intro)))
    · refine l_aload_n rfl rfl ?_
      refine l_gfr rfl rfl rfl rfl rfl (hHT1.r 904 4 907 rfl) ?_
      refine l_aload_n rfl rfl ?_
      refine l_gfi rfl rfl rfl rfl rfl ?_
      refine l_iconst rfl ?_
      refine l_iadd rfl ?_
      refine l_iaload (n := 5002) rfl rfl (by omega) (by omega) (by unfold rg; omega) ?_
      have w928 : 0 ≤ (Xi T1 907 ((((Xi T1 904 8) + 1)).toNat)) ∧ (Xi T1 907 ((((Xi T1 904 8) + 1)).toNat)) ≤ 154 := hHT1.c _ _
      refine l_bipush rfl rfl ?_
      refine l_icmp_ne rfl rfl (by unfold rg; omega) (by unfold rg; omega) (fun w929 => ?_) (fun w930 => ?_)
      · have w931 : 0 ≤ Xi T1 904 65 ∧ Xi T1 904 65 ≤ 1 := hHT1.c _ _
        have w932 : 0 ≤ Xi T1 904 69 ∧ Xi T1 904 69 ≤ 2600 := hHT1.c _ _
        have w933 : 0 ≤ Xi T1 904 70 ∧ Xi T1 904 70 ≤ 20 := hHT1.c _ _
        have w934 : 0 ≤ Xi T1 904 71 ∧ Xi T1 904 71 ≤ 2600 := hHT1.c _ _
        have w935 : 0 ≤ Xi T1 904 72 ∧ Xi T1 904 72 ≤ 2600 := hHT1.c _ _
        have w936 : 0 ≤ Xi T1 904 73 ∧ Xi T1 904 73 ≤ 5 := hHT1.c _ _
        have w937 : 0 ≤ Xi T1 904 74 ∧ Xi T1 904 74 ≤ 2600 := hHT1.c _ _
        have w938 : -2 ≤ Xi T1 904 78 ∧ Xi T1 904 78 ≤ 5010 := hHT1.c _ _
        have w939 : 0 ≤ Xi T1 904 8 ∧ Xi T1 904 8 ≤ 5010 := hHT1.c _ _
        have w940 : 0 ≤ Xi T1 904 93 ∧ Xi T1 904 93 ≤ 1700 := hHT1.c _ _
        exact Rl_weak (C197 (v1) (by omega) (by first | assumption | exact (by assumption : AT T1 _ _)) (by first | assumption | exact (by assumption : RNV T1 _)) (by omega) (by omega) (by omega) (by omega) (by omega) (by omega) (by first | assumption | exact (by assumption : BDA T1))) (And.intro rfl (And.intro rfl (True.intro)))
      · refine l_aload_n rfl rfl ?_
        refine l_bipush rfl rfl ?_
        refine l_pfi rfl rfl rfl rfl ?_
        obtain ⟨U45, eU45⟩ : ∃ T : sS, T = uI T1 904 70 (Int32.ofInt 11) := ⟨_, rfl⟩
        rw [← eU45]
        have hHU45 : HI U45 := by rw [eU45]; exact HI_w hHT1 (show 0 ≤ 11 by omega) (show 11 ≤ 20 by omega)
        have hFU45 : FR md_mo_rest__2 S U45 := by rw [eU45]; exact FR.wI hFT1 (mdf_i (r := (904, 905, 70, 71)) (List.mem_of_getElem? (i := 4) rfl) (inR_i (by omega) (by omega) (by omega) (by omega)))
        have w941 : Xi U45 904 70 = 11 := by rw [eU45]; exact Xi_same (by unfold rg; omega)
        refine l_aload_n rfl rfl ?_
        refine l_dup rfl rfl ?_
        refine l_gfi rfl rfl rfl rfl rfl ?_
        have w942 : (Xi U45 904 8) = (Xi T1 904 8) := (show Xi U45 904 8 = Xi T1 904 8 from by rw [eU45]; exact Xi_ne (by omega))
        rw [w942]
        refine l_iconst rfl ?_
        refine l_iadd rfl ?_
        refine l_pfi rfl rfl rfl rfl ?_
        obtain ⟨U46, eU46⟩ : ∃ T : sS, T = uI U45 904 8 (Int32.ofInt ((Xi T1 904 8) + 2)) := ⟨_, rfl⟩
        rw [← eU46]
        have hHU46 : HI U46 := by rw [eU46]; exact HI_w hHU45 (show 0 ≤ ((Xi T1 904 8) + 2) by omega) (show ((Xi T1 904 8) + 2) ≤ 5010 by omega)
        have hFU46 : FR md_mo_rest__2 S U46 := by rw [eU46]; exact FR.wI hFU45 (mdf_i (r := (904, 905, 8, 9)) (List.mem_of_getElem? (i := 0) rfl) (inR_i (by omega) (by omega) (by omega) (by omega)))
        have w943 : Xi U46 904 8 = ((Xi T1 904 8) + 2) := by rw [eU46]; exact Xi_same (by unfold rg; omega)
        have t146 : AT U46 n c ∧ _ := (at_mv2 (S := T1) (P := U45) (TK_FR hFT1 rfl (by assumption : TK S _)) (by first | assumption | exact (by assumption : AT T1 _ _)) (fun j => ((FR_e eU45).cx 907 rfl j).1) (fun j => ((FR_e eU45).cx 908 rfl j).1) ((show Xi U45 904 8 = Xi T1 904 8 from by rw [eU45]; exact Xi_ne (by omega))) ((show Xi U45 904 65 = Xi T1 904 65 from by rw [eU45]; exact Xi_ne (by omega))) ((show Xi U45 904 69 = Xi T1 904 69 from by rw [eU45]; exact Xi_ne (by omega))) ((show Xi U45 904 93 = Xi T1 904 93 from by rw [eU45]; exact Xi_ne (by omega))) eU46 (by omega) (by omega) (by omega) (by omega) (by omega))
        have a146 : AT U46 n c := t146.1
        have l146 := t146.2
        refine l_aload_n rfl rfl ?_
        refine l_iconst rfl ?_
        refine l_pfi rfl rfl rfl rfl ?_
        obtain ⟨U47, eU47⟩ : ∃ T : sS, T = uI U46 904 78 (Int32.ofInt (-1)) := ⟨_, rfl⟩
        rw [← eU47]
        have hHU47 : HI U47 := by rw [eU47]; exact HI_w hHU46 (show -2 ≤ (-1) by omega) (show (-1) ≤ 5010 by omega)
        have hFU47 : FR md_mo_rest__2 S U47 := by rw [eU47]; exact FR.wI hFU46 (mdf_i (r := (904, 905, 78, 79)) (List.mem_of_getElem? (i := 9) rfl) (inR_i (by omega) (by omega) (by omega) (by omega)))
        have w944 : Xi U47 904 78 = (-1) := by rw [eU47]; exact Xi_same (by unfold rg; omega)
        refine l_aload_n rfl rfl ?_
        refine l_sipush rfl rfl ?_
        have w945 : Xi U47 904 65 = Xi T1 904 65 := (show Xi U47 904 65 = Xi U46 904 65 from by rw [eU47]; exact Xi_ne (by omega)).trans ( (show Xi U46 904 65 = Xi U45 904 65 from by rw [eU46]; exact Xi_ne (by omega)).trans ((show Xi U45 904 65 = Xi T1 904 65 from by rw [eU45]; exact Xi_ne (by omega))))
        have w946 : 0 ≤ Xi T1 904 65 ∧ Xi T1 904 65 ≤ 1 := hHT1.c _ _
        have w947 : Xi U47 904 69 = Xi T1 904 69 := (show Xi U47 904 69 = Xi U46 904 69 from by rw [eU47]; exact Xi_ne (by omega)).trans ( (show Xi U46 904 69 = Xi U45 904 69 from by rw [eU46]; exact Xi_ne (by omega)).trans ((show Xi U45 904 69 = Xi T1 904 69 from by rw [eU45]; exact Xi_ne (by omega))))
        have w948 : 0 ≤ Xi T1 904 69 ∧ Xi T1 904 69 ≤ 2600 := hHT1.c _ _
        have w949 : Xi U47 904 70 = Xi U45 904 70 := (show Xi U47 904 70 = Xi U46 904 70 from by rw [eU47]; exact Xi_ne (by omega)).trans ((show Xi U46 904 70 = Xi U45 904 70 from by rw [eU46]; exact Xi_ne (by omega)))
        have w950 : 0 ≤ Xi U45 904 70 ∧ Xi U45 904 70 ≤ 20 := hHU45.c _ _
        have w951 : Xi U47 904 71 = Xi T1 904 71 := (show Xi U47 904 71 = Xi U46 904 71 from by rw [eU47]; exact Xi_ne (by omega)).trans ( (show Xi U46 904 71 = Xi U45 904 71 from by rw [eU46]; exact Xi_ne (by omega)).trans ((show Xi U45 904 71 = Xi T1 904 71 from by rw [eU45]; exact Xi_ne (by omega))))
        have w952 : 0 ≤ Xi T1 904 71 ∧ Xi T1 904 71 ≤ 2600 := hHT1.c _ _
        have w953 : Xi U47 904 72 = Xi T1 904 72 := (show Xi U47 904 72 = Xi U46 904 72 from by rw [eU47]; exact Xi_ne (by omega)).trans ( (show Xi U46 904 72 = Xi U45 904 72 from by rw [eU46]; exact Xi_ne (by omega)).trans ((show Xi U45 904 72 = Xi T1 904 72 from by rw [eU45]; exact Xi_ne (by omega))))
        have w954 : 0 ≤ Xi T1 904 72 ∧ Xi T1 904 72 ≤ 2600 := hHT1.c _ _
        have w955 : Xi U47 904 73 = Xi T1 904 73 := (show Xi U47 904 73 = Xi U46 904 73 from by rw [eU47]; exact Xi_ne (by omega)).trans ( (show Xi U46 904 73 = Xi U45 904 73 from by rw [eU46]; exact Xi_ne (by omega)).trans ((show Xi U45 904 73 = Xi T1 904 73 from by rw [eU45]; exact Xi_ne (by omega))))
        have w956 : 0 ≤ Xi T1 904 73 ∧ Xi T1 904 73 ≤ 5 := hHT1.c _ _
        have w957 : Xi U47 904 74 = Xi T1 904 74 := (show Xi U47 904 74 = Xi U46 904 74 from by rw [eU47]; exact Xi_ne (by omega)).trans ( (show Xi U46 904 74 = Xi U45 904 74 from by rw [eU46]; exact Xi_ne (by omega)).trans ((show Xi U45 904 74 = Xi T1 904 74 from by rw [eU45]; exact Xi_ne (by omega))))
        have w958 : 0 ≤ Xi T1 904 74 ∧ Xi T1 904 74 ≤ 2600 := hHT1.c _ _
        have w959 : -2 ≤ Xi U47 904 78 ∧ Xi U47 904 78 ≤ 5010 := hHU47.c _ _
        have w960 : Xi U47 904 8 = Xi U46 904 8 := (show Xi U47 904 8 = Xi U46 904 8 from by rw [eU47]; exact Xi_ne (by omega))
        have w961 : 0 ≤ Xi U46 904 8 ∧ Xi U46 904 8 ≤ 5010 := hHU46.c _ _
        have w962 : Xi U47 904 93 = Xi T1 904 93 := (show Xi U47 904 93 = Xi U46 904 93 from by rw [eU47]; exact Xi_ne (by omega)).trans ( (show Xi U46 904 93 = Xi U45 904 93 from by rw [eU46]; exact Xi_ne (by omega)).trans ((show Xi U45 904 93 = Xi T1 904 93 from by rw [eU45]; exact Xi_ne (by omega))))
        have w963 : 0 ≤ Xi T1 904 93 ∧ Xi T1 904 93 ≤ 1700 := hHT1.c _ _
        refine l_callV rfl rfl rfl (t_mo_isNext hHU47 n c 128 ⟨by omega, by omega⟩ (by first | assumption | exact (TK_FR hFU47 rfl (by assumption : TK S _))) (by first | assumption | exact (AT_FR (FR_e eU47) rfl (by assumption : AT U46 _ _))) _) ?_
        rintro _ _ ⟨rfl, z966, rfl, w966, w964, w965⟩
        show Rl _ _ _ _ _ [iv z966] _ _
        have j158 : z966 = 1 → Xi U47 904 65 = 0 ∧ Xi U47 907 (Xi U47 904 8).toNat = 128 := by assumption
        refine l_if_eq rfl rfl (by unfold rg; omega) (fun w967 => ?_) (fun w968 => ?_)
        · refine l_return rfl rfl ?_
          have w969 : Xi U47 904 65 = Xi T1 904 65 := (show Xi U47 904 65 = Xi U46 904 65 from by rw [eU47]; exact Xi_ne (by omega)).trans ( (show Xi U46 904 65 = Xi U45 904 65 from by rw [eU46]; exact Xi_ne (by omega)).trans ((show Xi U45 904 65 = Xi T1 904 65 from by rw [eU45]; exact Xi_ne (by omega))))
          have w970 : 0 ≤ Xi T1 904 65 ∧ Xi T1 904 65 ≤ 1 := hHT1.c _ _
          have w971 : Xi U47 904 69 = Xi T1 904 69 := (show Xi U47 904 69 = Xi U46 904 69 from by rw [eU47]; exact Xi_ne (by omega)).trans ( (show Xi U46 904 69 = Xi U45 904 69 from by rw [eU46]; exact Xi_ne (by omega)).trans ((show Xi U45 904 69 = Xi T1 904 69 from by rw [eU45]; exact Xi_ne (by omega))))
          have w972 : 0 ≤ Xi T1 904 69 ∧ Xi T1 904 69 ≤ 2600 := hHT1.c _ _
          have w973 : Xi U47 904 70 = Xi U45 904 70 := (show Xi U47 904 70 = Xi U46 904 70 from by rw [eU47]; exact Xi_ne (by omega)).trans ((show Xi U46 904 70 = Xi U45 904 70 from by rw [eU46]; exact Xi_ne (by omega)))
          have w974 : 0 ≤ Xi U45 904 70 ∧ Xi U45 904 70 ≤ 20 := hHU45.c _ _
          have w975 : Xi U47 904 71 = Xi T1 904 71 := (show Xi U47 904 71 = Xi U46 904 71 from by rw [eU47]; exact Xi_ne (by omega)).trans ( (show Xi U46 904 71 = Xi U45 904 71 from by rw [eU46]; exact Xi_ne (by omega)).trans ((show Xi U45 904 71 = Xi T1 904 71 from by rw [eU45]; exact Xi_ne (by omega))))
          have w976 : 0 ≤ Xi T1 904 71 ∧ Xi T1 904 71 ≤ 2600 := hHT1.c _ _
          have w977 : Xi U47 904 72 = Xi T1 904 72 := (show Xi U47 904 72 = Xi U46 904 72 from by rw [eU47]; exact Xi_ne (by omega)).trans ( (show Xi U46 904 72 = Xi U45 904 72 from by rw [eU46]; exact Xi_ne (by omega)).trans ((show Xi U45 904 72 = Xi T1 904 72 from by rw [eU45]; exact Xi_ne (by omega))))
          have w978 : 0 ≤ Xi T1 904 72 ∧ Xi T1 904 72 ≤ 2600 := hHT1.c _ _
          have w979 : Xi U47 904 73 = Xi T1 904 73 := (show Xi U47 904 73 = Xi U46 904 73 from by rw [eU47]; exact Xi_ne (by omega)).trans ( (show Xi U46 904 73 = Xi U45 904 73 from by rw [eU46]; exact Xi_ne (by omega)).trans ((show Xi U45 904 73 = Xi T1 904 73 from by rw [eU45]; exact Xi_ne (by omega))))
          have w980 : 0 ≤ Xi T1 904 73 ∧ Xi T1 904 73 ≤ 5 := hHT1.c _ _
          have w981 : Xi U47 904 74 = Xi T1 904 74 := (show Xi U47 904 74 = Xi U46 904 74 from by rw [eU47]; exact Xi_ne (by omega)).trans ( (show Xi U46 904 74 = Xi U45 904 74 from by rw [eU46]; exact Xi_ne (by omega)).trans ((show Xi U45 904 74 = Xi T1 904 74 from by rw [eU45]; exact Xi_ne (by omega))))
          have w982 : 0 ≤ Xi T1 904 74 ∧ Xi T1 904 74 ≤ 2600 := hHT1.c _ _
          have w983 : -2 ≤ Xi U47 904 78 ∧ Xi U47 904 78 ≤ 5010 := hHU47.c _ _
          have w984 : Xi U47 904 8 = Xi U46 904 8 := (show Xi U47 904 8 = Xi U46 904 8 from by rw [eU47]; exact Xi_ne (by omega))
          have w985 : 0 ≤ Xi U46 904 8 ∧ Xi U46 904 8 ≤ 5010 := hHU46.c _ _
          have w986 : Xi U47 904 93 = Xi T1 904 93 := (show Xi U47 904 93 = Xi U46 904 93 from by rw [eU47]; exact Xi_ne (by omega)).trans ( (show Xi U46 904 93 = Xi U45 904 93 from by rw [eU46]; exact Xi_ne (by omega)).trans ((show Xi U45 904 93 = Xi T1 904 93 from by rw [eU45]; exact Xi_ne (by omega))))
          have w987 : 0 ≤ Xi T1 904 93 ∧ Xi T1 904 93 ≤ 1700 := hHT1.c _ _
          exact ⟨hHU47, hFU47, rfl, (by first | assumption | exact (AT_FR (FR_e eU47) rfl (by assumption : AT U46 _ _))), (by omega), (by first | assumption | exact (RNV_FR (FR_e eU47) rfl (RNV_FR (FR_e eU46) rfl (RNV_FR (FR_e eU45) rfl (by assumption : RNV T1 _))))), (by omega), (by omega), (by omega), (fun q => by unfold SNQ; refine ⟨fun q1 => absurd q1 (by omega), by omega, by omega, by omega, fun q9 => absurd q9 (by omega), by omega, by omega, by omega, by omega, by omega⟩), (by omega), (by first | assumption | exact (BDA_FR (FR_e eU47) rfl (BDA_FR (FR_e eU46) rfl (BDA_FR (FR_e eU45) rfl (by assumption : BDA T1)))))⟩
        · refine l_aload_n rfl rfl ?_
          refine l_dup rfl rfl ?_
          refine l_gfi rfl rfl rfl rfl rfl ?_
          have w988 : (Xi U47 904 8) = (Xi U46 904 8) := (show Xi U47 904 8 = Xi U46 904 8 from by rw [eU47]; exact Xi_ne (by omega))
          rw [w988]
          refine l_iconst rfl ?_
          refine l_iadd rfl ?_
          refine l_pfi rfl rfl rfl rfl ?_
          obtain ⟨U48, eU48⟩ : ∃ T : sS, T = uI U47 904 8 (Int32.ofInt ((Xi U46 904 8) + 1)) := ⟨_, rfl⟩
          rw [← eU48]
          have hHU48 : HI U48 := by rw [eU48]; exact HI_w hHU47 (show 0 ≤ ((Xi U46 904 8) + 1) by omega) (show ((Xi U46 904 8) + 1) ≤ 5010 by omega)
          have hFU48 : FR md_mo_rest__2 S U48 := by rw [eU48]; exact FR.wI hFU47 (mdf_i (r := (904, 905, 8, 9)) (List.mem_of_getElem? (i := 0) rfl) (inR_i (by omega) (by omega) (by omega) (by omega)))
          have w989 : Xi U48 904 8 = ((Xi U46 904 8) + 1) := by rw [eU48]; exact Xi_same (by unfold rg; omega)
          have t171 : AT U48 n c ∧ _ := (at_mv (S := U47) (P := U47) (TK_FR hFU47 rfl (by assumption : TK S _)) (by first | assumption | exact (AT_FR (FR_e eU47) rfl (by assumption : AT U46 _ _))) (fun j => rfl) (fun j => rfl) (rfl) (rfl) (rfl) (rfl) eU48 (by omega) (by omega) (by omega) (by omega) (Or.inl rfl))
          have a171 : AT U48 n c := t171.1
          have l171 := t171.2
          refine l_aload_n rfl rfl ?_
          refine l_bipush rfl rfl ?_
          have w990 : Xi U48 904 65 = Xi T1 904 65 := (show Xi U48 904 65 = Xi U47 904 65 from by rw [eU48]; exact Xi_ne (by omega)).trans ( (show Xi U47 904 65 = Xi U46 904 65 from by rw [eU47]; exact Xi_ne (by omega)).trans ( (show Xi U46 904 65 = Xi U45 904 65 from by rw [eU46]; exact Xi_ne (by omega)).trans ((show Xi U45 904 65 = Xi T1 904 65 from by rw [eU45]; exact Xi_ne (by omega)))))
          have w991 : 0 ≤ Xi T1 904 65 ∧ Xi T1 904 65 ≤ 1 := hHT1.c _ _
          have w992 : Xi U48 904 69 = Xi T1 904 69 := (show Xi U48 904 69 = Xi U47 904 69 from by rw [eU48]; exact Xi_ne (by omega)).trans ( (show Xi U47 904 69 = Xi U46 904 69 from by rw [eU47]; exact Xi_ne (by omega)).trans ( (show Xi U46 904 69 = Xi U45 904 69 from by rw [eU46]; exact Xi_ne (by omega)).trans ((show Xi U45 904 69 = Xi T1 904 69 from by rw [eU45]; exact Xi_ne (by omega)))))
          have w993 : 0 ≤ Xi T1 904 69 ∧ Xi T1 904 69 ≤ 2600 := hHT1.c _ _
          have w994 : Xi U48 904 70 = Xi U45 904 70 := (show Xi U48 904 70 = Xi U47 904 70 from by rw [eU48]; exact Xi_ne (by omega)).trans ( (show Xi U47 904 70 = Xi U46 904 70 from by rw [eU47]; exact Xi_ne (by omega)).trans ((show Xi U46 904 70 = Xi U45 904 70 from by rw [eU46]; exact Xi_ne (by omega))))
          have w995 : 0 ≤ Xi U45 904 70 ∧ Xi U45 904 70 ≤ 20 := hHU45.c _ _
          have w996 : Xi U48 904 71 = Xi T1 904 71 := (show Xi U48 904 71 = Xi U47 904 71 from by rw [eU48]; exact Xi_ne (by omega)).trans ( (show Xi U47 904 71 = Xi U46 904 71 from by rw [eU47]; exact Xi_ne (by omega)).trans ( (show Xi U46 904 71 = Xi U45 904 71 from by rw [eU46]; exact Xi_ne (by omega)).trans ((show Xi U45 904 71 = Xi T1 904 71 from by rw [eU45]; exact Xi_ne (by omega)))))
          have w997 : 0 ≤ Xi T1 904 71 ∧ Xi T1 904 71 ≤ 2600 := hHT1.c _ _
          have w998 : Xi U48 904 72 = Xi T1 904 72 := (show Xi U48 904 72 = Xi U47 904 72 from by rw [eU48]; exact Xi_ne (by omega)).trans ( (show Xi U47 904 72 = Xi U46 904 72 from by rw [eU47]; exact Xi_ne (by omega)).trans ( (show Xi U46 904 72 = Xi U45 904 72 from by rw [eU46]; exact Xi_ne (by omega)).trans ((show Xi U45 904 72 = Xi T1 904 72 from by rw [eU45]; exact Xi_ne (by omega)))))
          have w999 : 0 ≤ Xi T1 904 72 ∧ Xi T1 904 72 ≤ 2600 := hHT1.c _ _
          have w1000 : Xi U48 904 73 = Xi T1 904 73 := (show Xi U48 904 73 = Xi U47 904 73 from by rw [eU48]; exact Xi_ne (by omega)).trans ( (show Xi U47 904 73 = Xi U46 904 73 from by rw [eU47]; exact Xi_ne (by omega)).trans ( (show Xi U46 904 73 = Xi U45 904 73 from by rw [eU46]; exact Xi_ne (by omega)).trans ((show Xi U45 904 73 = Xi T1 904 73 from by rw [eU45]; exact Xi_ne (by omega)))))
          have w1001 : 0 ≤ Xi T1 904 73 ∧ Xi T1 904 73 ≤ 5 := hHT1.c _ _
          have w1002 : Xi U48 904 74 = Xi T1 904 74 := (show Xi U48 904 74 = Xi U47 904 74 from by rw [eU48]; exact Xi_ne (by omega)).trans ( (show Xi U47 904 74 = Xi U46 904 74 from by rw [eU47]; exact Xi_ne (by omega)).trans ( (show Xi U46 904 74 = Xi U45 904 74 from by rw [eU46]; exact Xi_ne (by omega)).trans ((show Xi U45 904 74 = Xi T1 904 74 from by rw [eU45]; exact Xi_ne (by omega)))))
          have w1003 : 0 ≤ Xi T1 904 74 ∧ Xi T1 904 74 ≤ 2600 := hHT1.c _ _
          have w1004 : Xi U48 904 78 = Xi U47 904 78 := (show Xi U48 904 78 = Xi U47 904 78 from by rw [eU48]; exact Xi_ne (by omega))
          have w1005 : -2 ≤ Xi U47 904 78 ∧ Xi U47 904 78 ≤ 5010 := hHU47.c _ _
          have w1006 : 0 ≤ Xi U48 904 8 ∧ Xi U48 904 8 ≤ 5010 := hHU48.c _ _
          have w1007 : Xi U48 904 93 = Xi T1 904 93 := (show Xi U48 904 93 = Xi U47 904 93 from by rw [eU48]; exact Xi_ne (by omega)).trans ( (show Xi U47 904 93 = Xi U46 904 93 from by rw [eU47]; exact Xi_ne (by omega)).trans ( (show Xi U46 904 93 = Xi U45 904 93 from by rw [eU46]; exact Xi_ne (by omega)).trans ((show Xi U45 904 93 = Xi T1 904 93 from by rw [eU45]; exact Xi_ne (by omega)))))
          have w1008 : 0 ≤ Xi T1 904 93 ∧ Xi T1 904 93 ≤ 1700 := hHT1.c _ _
          refine l_callV rfl rfl rfl (t_mo_take__3 hHU48 n c 111 ⟨by omega, by omega⟩ (by first | assumption | exact (TK_FR hFU48 rfl (by assumption : TK S _))) (by first | assumption | exact (by assumption : AT U48 _ _)) (by first | assumption | omega) (by first | assumption | exact (BDA_FR (FR_e eU48) rfl (BDA_FR (FR_e eU47) rfl (BDA_FR (FR_e eU46) rfl (BDA_FR (FR_e eU45) rfl (by assumption : BDA T1)))))) _) ?_
          rintro _ T49 ⟨hHT49, w1015, rfl, w1009, w1010, w1011, w1012, w1013⟩
          have hFT49 : FR md_mo_rest__2 S T49 := FR.tr hFU48 w1015 rfl
          show Rl _ _ _ _ _ [] _ _
          have w1017 : 0 ≤ Xi T49 904 8 ∧ Xi T49 904 8 ≤ 5010 := hHT49.c _ _
          have w1018 : 0 ≤ Xi T49 904 65 ∧ Xi T49 904 65 ≤ 1 := hHT49.c _ _
          have w1019 : Xi T49 904 69 = Xi T1 904 69 := (show Xi T49 904 69 = Xi U48 904 69 from w1015.x _ _ rfl).trans ( (show Xi U48 904 69 = Xi U47 904 69 from by rw [eU48]; exact Xi_ne (by omega)).trans ( (show Xi U47 904 69 = Xi U46 904 69 from by rw [eU47]; exact Xi_ne (by omega)).trans ( (show Xi U46 904 69 = Xi U45 904 69 from by rw [eU46]; exact Xi_ne (by omega)).trans ((show Xi U45 904 69 = Xi T1 904 69 from by rw [eU45]; exact Xi_ne (by omega))))))
          have w1020 : 0 ≤ Xi T1 904 69 ∧ Xi T1 904 69 ≤ 2600 := hHT1.c _ _
          have w1021 : Xi T49 904 93 = Xi T1 904 93 := (show Xi T49 904 93 = Xi U48 904 93 from w1015.x _ _ rfl).trans ( (show Xi U48 904 93 = Xi U47 904 93 from by rw [eU48]; exact Xi_ne (by omega)).trans ( (show Xi U47 904 93 = Xi U46 904 93 from by rw [eU47]; exact Xi_ne (by omega)).trans ( (show Xi U46 904 93 = Xi U45 904 93 from by rw [eU46]; exact Xi_ne (by omega)).trans ((show Xi U45 904 93 = Xi T1 904 93 from by rw [eU45]; exact Xi_ne (by omega))))))
          have w1022 : 0 ≤ Xi T1 904 93 ∧ Xi T1 904 93 ≤ 1700 := hHT1.c _ _
          have w1016 : Xi S 904 8 ≤ Xi T49 904 8 ∧ Xi T49 904 8 ≤ n ∧ Xi S 904 69 ≤ Xi T49 904 69 ∧ (Xi T49 904 65 = 0 → Xi S 904 65 = 0) := by omega
          clear w1010
          refine l_aload_n rfl rfl ?_
          refine l_bipush rfl rfl ?_
          have w1023 : 0 ≤ Xi T49 904 65 ∧ Xi T49 904 65 ≤ 1 := hHT49.c _ _
          have w1024 : Xi T49 904 69 = Xi T1 904 69 := (show Xi T49 904 69 = Xi U48 904 69 from w1015.x _ _ rfl).trans ( (show Xi U48 904 69 = Xi U47 904 69 from by rw [eU48]; exact Xi_ne (by omega)).trans ( (show Xi U47 904 69 = Xi U46 904 69 from by rw [eU47]; exact Xi_ne (by omega)).trans ( (show Xi U46 904 69 = Xi U45 904 69 from by rw [eU46]; exact Xi_ne (by omega)).trans ((show Xi U45 904 69 = Xi T1 904 69 from by rw [eU45]; exact Xi_ne (by omega))))))
          have w1025 : 0 ≤ Xi T1 904 69 ∧ Xi T1 904 69 ≤ 2600 := hHT1.c _ _
          have w1026 : Xi T49 904 70 = Xi U45 904 70 := (show Xi T49 904 70 = Xi U48 904 70 from w1015.x _ _ rfl).trans ( (show Xi U48 904 70 = Xi U47 904 70 from by rw [eU48]; exact Xi_ne (by omega)).trans ( (show Xi U47 904 70 = Xi U46 904 70 from by rw [eU47]; exact Xi_ne (by omega)).trans ((show Xi U46 904 70 = Xi U45 904 70 from by rw [eU46]; exact Xi_ne (by omega)))))
          have w1027 : 0 ≤ Xi U45 904 70 ∧ Xi U45 904 70 ≤ 20 := hHU45.c _ _
          have w1028 : Xi T49 904 71 = Xi T1 904 71 := (show Xi T49 904 71 = Xi U48 904 71 from w1015.x _ _ rfl).trans ( (show Xi U48 904 71 = Xi U47 904 71 from by rw [eU48]; exact Xi_ne (by omega)).trans ( (show Xi U47 904 71 = Xi U46 904 71 from by rw [eU47]; exact Xi_ne (by omega)).trans ( (show Xi U46 904 71 = Xi U45 904 71 from by rw [eU46]; exact Xi_ne (by omega)).trans ((show Xi U45 904 71 = Xi T1 904 71 from by rw [eU45]; exact Xi_ne (by omega))))))
          have w1029 : 0 ≤ Xi T1 904 71 ∧ Xi T1 904 71 ≤ 2600 := hHT1.c _ _
          have w1030 : Xi T49 904 72 = Xi T1 904 72 := (show Xi T49 904 72 = Xi U48 904 72 from w1015.x _ _ rfl).trans ( (show Xi U48 904 72 = Xi U47 904 72 from by rw [eU48]; exact Xi_ne (by omega)).trans ( (show Xi U47 904 72 = Xi U46 904 72 from by rw [eU47]; exact Xi_ne (by omega)).trans ( (show Xi U46 904 72 = Xi U45 904 72 from by rw [eU46]; exact Xi_ne (by omega)).trans ((show Xi U45 904 72 = Xi T1 904 72 from by rw [eU45]; exact Xi_ne (by omega))))))
          have w1031 : 0 ≤ Xi T1 904 72 ∧ Xi T1 904 72 ≤ 2600 := hHT1.c _ _
          have w1032 : Xi T49 904 73 = Xi T1 904 73 := (show Xi T49 904 73 = Xi U48 904 73 from w1015.x _ _ rfl).trans ( (show Xi U48 904 73 = Xi U47 904 73 from by rw [eU48]; exact Xi_ne (by omega)).trans ( (show Xi U47 904 73 = Xi U46 904 73 from by rw [eU47]; exact Xi_ne (by omega)).trans ( (show Xi U46 904 73 = Xi U45 904 73 from by rw [eU46]; exact Xi_ne (by omega)).trans ((show Xi U45 904 73 = Xi T1 904 73 from by rw [eU45]; exact Xi_ne (by omega))))))
          have w1033 : 0 ≤ Xi T1 904 73 ∧ Xi T1 904 73 ≤ 5 := hHT1.c _ _
          have w1034 : Xi T49 904 74 = Xi T1 904 74 := (show Xi T49 904 74 = Xi U48 904 74 from w1015.x _ _ rfl).trans ( (show Xi U48 904 74 = Xi U47 904 74 from by rw [eU48]; exact Xi_ne (by omega)).trans ( (show Xi U47 904 74 = Xi U46 904 74 from by rw [eU47]; exact Xi_ne (by omega)).trans ( (show Xi U46 904 74 = Xi U45 904 74 from by rw [eU46]; exact Xi_ne (by omega)).trans ((show Xi U45 904 74 = Xi T1 904 74 from by rw [eU45]; exact Xi_ne (by omega))))))
          have w1035 : 0 ≤ Xi T1 904 74 ∧ Xi T1 904 74 ≤ 2600 := hHT1.c _ _
          have w1036 : Xi T49 904 78 = Xi U47 904 78 := (show Xi T49 904 78 = Xi U48 904 78 from w1015.x _ _ rfl).trans ((show Xi U48 904 78 = Xi U47 904 78 from by rw [eU48]; exact Xi_ne (by omega)))
          have w1037 : -2 ≤ Xi U47 904 78 ∧ Xi U47 904 78 ≤ 5010 := hHU47.c _ _
          have w1038 : 0 ≤ Xi T49 904 8 ∧ Xi T49 904 8 ≤ 5010 := hHT49.c _ _
          have w1039 : Xi T49 904 93 = Xi T1 904 93 := (show Xi T49 904 93 = Xi U48 904 93 from w1015.x _ _ rfl).trans ( (show Xi U48 904 93 = Xi U47 904 93 from by rw [eU48]; exact Xi_ne (by omega)).trans ( (show Xi U47 904 93 = Xi U46 904 93 from by rw [eU47]; exact Xi_ne (by omega)).trans ( (show Xi U46 904 93 = Xi U45 904 93 from by rw [eU46]; exact Xi_ne (by omega)).trans ((show Xi U45 904 93 = Xi T1 904 93 from by rw [eU45]; exact Xi_ne (by omega))))))
          have w1040 : 0 ≤ Xi T1 904 93 ∧ Xi T1 904 93 ≤ 1700 := hHT1.c _ _
          refine l_callV rfl rfl rfl (t_mo_take__3 hHT49 n c 122 ⟨by omega, by omega⟩ (by first | assumption | exact (TK_FR hFT49 rfl (by assumption : TK S _))) (by first | assumption | exact (by assumption : AT T49 _ _)) (by first | assumption | omega) (by first | assumption | exact (by assumption : BDA T49)) _) ?_
          rintro _ T50 ⟨hHT50, w1047, rfl, w1041, w1042, w1043, w1044, w1045⟩
          have hFT50 : FR md_mo_rest__2 S T50 := FR.tr hFT49 w1047 rfl
          show Rl _ _ _ _ _ [] _ _
          have w1049 : 0 ≤ Xi T50 904 8 ∧ Xi T50 904 8 ≤ 5010 := hHT50.c _ _
          have w1050 : 0 ≤ Xi T50 904 65 ∧ Xi T50 904 65 ≤ 1 := hHT50.c _ _
          have w1051 : Xi T50 904 69 = Xi T1 904 69 := (show Xi T50 904 69 = Xi T49 904 69 from w1047.x _ _ rfl).trans ( (show Xi T49 904 69 = Xi U48 904 69 from w1015.x _ _ rfl).trans ( (show Xi U48 904 69 = Xi U47 904 69 from by rw [eU48]; exact Xi_ne (by omega)).trans ( (show Xi U47 904 69 = Xi U46 904 69 from by rw [eU47]; exact Xi_ne (by omega)).trans ( (show Xi U46 904 69 = Xi U45 904 69 from by rw [eU46]; exact Xi_ne (by omega)).trans ((show Xi U45 904 69 = Xi T1 904 69 from by rw [eU45]; exact Xi_ne (by omega)))))))
          have w1052 : 0 ≤ Xi T1 904 69 ∧ Xi T1 904 69 ≤ 2600 := hHT1.c _ _
          have w1053 : Xi T50 904 93 = Xi T1 904 93 := (show Xi T50 904 93 = Xi T49 904 93 from w1047.x _ _ rfl).trans ( (show Xi T49 904 93 = Xi U48 904 93 from w1015.x _ _ rfl).trans ( (show Xi U48 904 93 = Xi U47 904 93 from by rw [eU48]; exact Xi_ne (by omega)).trans ( (show Xi U47 904 93 = Xi U46 904 93 from by rw [eU47]; exact Xi_ne (by omega)).trans ( (show Xi U46 904 93 = Xi U45 904 93 from by rw [eU46]; exact Xi_ne (by omega)).trans ((show Xi U45 904 93 = Xi T1 904 93 from by rw [eU45]; exact Xi_ne (by omega)))))))
          have w1054 : 0 ≤ Xi T1 904 93 ∧ Xi T1 904 93 ≤ 1700 := hHT1.c _ _
          have w1048 : Xi S 904 8 ≤ Xi T50 904 8 ∧ Xi T50 904 8 ≤ n ∧ Xi S 904 69 ≤ Xi T50 904 69 ∧ (Xi T50 904 65 = 0 → Xi S 904 65 = 0) := by omega
          clear w1042 w1016
          refine l_aload_n rfl rfl ?_
          refine l_aload_n rfl rfl ?_
          have w1055 : 0 ≤ Xi T50 904 65 ∧ Xi T50 904 65 ≤ 1 := hHT50.c _ _
          have w1056 : Xi T50 904 69 = Xi T1 904 69 := (show Xi T50 904 69 = Xi T49 904 69 from w1047.x _ _ rfl).trans ( (show Xi T49 904 69 = Xi U48 904 69 from w1015.x _ _ rfl).trans ( (show Xi U48 904 69 = Xi U47 904 69 from by rw [eU48]; exact Xi_ne (by omega)).trans ( (show Xi U47 904 69 = Xi U46 904 69 from by rw [eU47]; exact Xi_ne (by omega)).trans ( (show Xi U46 904 69 = Xi U45 904 69 from by rw [eU46]; exact Xi_ne (by omega)).trans ((show Xi U45 904 69 = Xi T1 904 69 from by rw [eU45]; exact Xi_ne (by omega)))))))
          have w1057 : 0 ≤ Xi T1 904 69 ∧ Xi T1 904 69 ≤ 2600 := hHT1.c _ _
          have w1058 : Xi T50 904 70 = Xi U45 904 70 := (show Xi T50 904 70 = Xi T49 904 70 from w1047.x _ _ rfl).trans ( (show Xi T49 904 70 = Xi U48 904 70 from w1015.x _ _ rfl).trans ( (show Xi U48 904 70 = Xi U47 904 70 from by rw [eU48]; exact Xi_ne (by omega)).trans ( (show Xi U47 904 70 = Xi U46 904 70 from by rw [eU47]; exact Xi_ne (by omega)).trans ((show Xi U46 904 70 = Xi U45 904 70 from by rw [eU46]; exact Xi_ne (by omega))))))
          have w1059 : 0 ≤ Xi U45 904 70 ∧ Xi U45 904 70 ≤ 20 := hHU45.c _ _
          have w1060 : Xi T50 904 71 = Xi T1 904 71 := (show Xi T50 904 71 = Xi T49 904 71 from w1047.x _ _ rfl).trans ( (show Xi T49 904 71 = Xi U48 904 71 from w1015.x _ _ rfl).trans ( (show Xi U48 904 71 = Xi U47 904 71 from by rw [eU48]; exact Xi_ne (by omega)).trans ( (show Xi U47 904 71 = Xi U46 904 71 from by rw [eU47]; exact Xi_ne (by omega)).trans ( (show Xi U46 904 71 = Xi U45 904 71 from by rw [eU46]; exact Xi_ne (by omega)).trans ((show Xi U45 904 71 = Xi T1 904 71 from by rw [eU45]; exact Xi_ne (by omega)))))))
          have w1061 : 0 ≤ Xi T1 904 71 ∧ Xi T1 904 71 ≤ 2600 := hHT1.c _ _
          have w1062 : Xi T50 904 72 = Xi T1 904 72 := (show Xi T50 904 72 = Xi T49 904 72 from w1047.x _ _ rfl).trans ( (show Xi T49 904 72 = Xi U48 904 72 from w1015.x _ _ rfl).trans ( (show Xi U48 904 72 = Xi U47 904 72 from by rw [eU48]; exact Xi_ne (by omega)).trans ( (show Xi U47 904 72 = Xi U46 904 72 from by rw [eU47]; exact Xi_ne (by omega)).trans ( (show Xi U46 904 72 = Xi U45 904 72 from by rw [eU46]; exact Xi_ne (by omega)).trans ((show Xi U45 904 72 = Xi T1 904 72 from by rw [eU45]; exact Xi_ne (by omega)))))))
          have w1063 : 0 ≤ Xi T1 904 72 ∧ Xi T1 904 72 ≤ 2600 := hHT1.c _ _
          have w1064 : Xi T50 904 73 = Xi T1 904 73 := (show Xi T50 904 73 = Xi T49 904 73 from w1047.x _ _ rfl).trans ( (show Xi T49 904 73 = Xi U48 904 73 from w1015.x _ _ rfl).trans ( (show Xi U48 904 73 = Xi U47 904 73 from by rw [eU48]; exact Xi_ne (by omega)).trans ( (show Xi U47 904 73 = Xi U46 904 73 from by rw [eU47]; exact Xi_ne (by omega)).trans ( (show Xi U46 904 73 = Xi U45 904 73 from by rw [eU46]; exact Xi_ne (by omega)).trans ((show Xi U45 904 73 = Xi T1 904 73 from by rw [eU45]; exact Xi_ne (by omega)))))))
          have w1065 : 0 ≤ Xi T1 904 73 ∧ Xi T1 904 73 ≤ 5 := hHT1.c _ _
          have w1066 : Xi T50 904 74 = Xi T1 904 74 := (show Xi T50 904 74 = Xi T49 904 74 from w1047.x _ _ rfl).trans ( (show Xi T49 904 74 = Xi U48 904 74 from w1015.x _ _ rfl).trans ( (show Xi U48 904 74 = Xi U47 904 74 from by rw [eU48]; exact Xi_ne (by omega)).trans ( (show Xi U47 904 74 = Xi U46 904 74 from by rw [eU47]; exact Xi_ne (by omega)).trans ( (show Xi U46 904 74 = Xi U45 904 74 from by rw [eU46]; exact Xi_ne (by omega)).trans ((show Xi U45 904 74 = Xi T1 904 74 from by rw [eU45]; exact Xi_ne (by omega)))))))
          have w1067 : 0 ≤ Xi T1 904 74 ∧ Xi T1 904 74 ≤ 2600 := hHT1.c _ _
          have w1068 : Xi T50 904 78 = Xi U47 904 78 := (show Xi T50 904 78 = Xi T49 904 78 from w1047.x _ _ rfl).trans ( (show Xi T49 904 78 = Xi U48 904 78 from w1015.x _ _ rfl).trans ((show Xi U48 904 78 = Xi U47 904 78 from by rw [eU48]; exact Xi_ne (by omega))))
          have w1069 : -2 ≤ Xi U47 904 78 ∧ Xi U47 904 78 ≤ 5010 := hHU47.c _ _
          have w1070 : 0 ≤ Xi T50 904 8 ∧ Xi T50 904 8 ≤ 5010 := hHT50.c _ _
          have w1071 : Xi T50 904 93 = Xi T1 904 93 := (show Xi T50 904 93 = Xi T49 904 93 from w1047.x _ _ rfl).trans ( (show Xi T49 904 93 = Xi U48 904 93 from w1015.x _ _ rfl).trans ( (show Xi U48 904 93 = Xi U47 904 93 from by rw [eU48]; exact Xi_ne (by omega)).trans ( (show Xi U47 904 93 = Xi U46 904 93 from by rw [eU47]; exact Xi_ne (by omega)).trans ( (show Xi U46 904 93 = Xi U45 904 93 from by rw [eU46]; exact Xi_ne (by omega)).trans ((show Xi U45 904 93 = Xi T1 904 93 from by rw [eU45]; exact Xi_ne (by omega)))))))
          have w1072 : 0 ≤ Xi T1 904 93 ∧ Xi T1 904 93 ≤ 1700 := hHT1.c _ _
          refine l_callV rfl rfl rfl (t_mo_run__2 hHT50 n c (by first | assumption | exact (TK_FR hFT50 rfl (by assumption : TK S _))) (by first | assumption | exact (by assumption : AT T50 _ _)) (by first | assumption | exact (RNV_FR w1047 rfl (RNV_FR w1015 rfl (RNV_FR (FR_e eU48) rfl (RNV_FR (FR_e eU47) rfl (RNV_FR (FR_e eU46) rfl (RNV_FR (FR_e eU45) rfl (by assumption : RNV T1 _)))))))) (by first | assumption | exact (by assumption : BDA T50)) _) ?_
          rintro _ T51 ⟨hHT51, w1080, z1079, rfl, w1079, w1073, w1074, w1075, w1076, w1077, w1078⟩
          have hFT51 : FR md_mo_rest__2 S T51 := FR.tr hFT50 w1080 rfl
          show Rl _ _ _ _ _ [iv z1079, .ref 904] _ _
          have w1082 : 0 ≤ Xi T51 904 8 ∧ Xi T51 904 8 ≤ 5010 := hHT51.c _ _
          have w1083 : 0 ≤ Xi T51 904 65 ∧ Xi T51 904 65 ≤ 1 := hHT51.c _ _
          have w1084 : 0 ≤ Xi T51 904 69 ∧ Xi T51 904 69 ≤ 2600 := hHT51.c _ _
          have w1085 : Xi T51 904 93 = Xi T1 904 93 := (show Xi T51 904 93 = Xi T50 904 93 from w1080.x _ _ rfl).trans ( (show Xi T50 904 93 = Xi T49 904 93 from w1047.x _ _ rfl).trans ( (show Xi T49 904 93 = Xi U48 904 93 from w1015.x _ _ rfl).trans ( (show Xi U48 904 93 = Xi U47 904 93 from by rw [eU48]; exact Xi_ne (by omega)).trans ( (show Xi U47 904 93 = Xi U46 904 93 from by rw [eU47]; exact Xi_ne (by omega)).trans ( (show Xi U46 904 93 = Xi U45 904 93 from by rw [eU46]; exact Xi_ne (by omega)).trans ((show Xi U45 904 93 = Xi T1 904 93 from by rw [eU45]; exact Xi_ne (by omega))))))))
          have w1086 : 0 ≤ Xi T1 904 93 ∧ Xi T1 904 93 ≤ 1700 := hHT1.c _ _
          have w1081 : Xi S 904 8 ≤ Xi T51 904 8 ∧ Xi T51 904 8 ≤ n ∧ Xi S 904 69 ≤ Xi T51 904 69 ∧ (Xi T51 904 65 = 0 → Xi S 904 65 = 0) := by omega
          clear w1074 w1048
          refine l_pfi rfl rfl rfl rfl ?_
          obtain ⟨U52, eU52⟩ : ∃ T : sS, T = uI T51 904 78 (Int32.ofInt z1079) := ⟨_, rfl⟩
          rw [← eU52]
          have hHU52 : HI U52 := by rw [eU52]; exact HI_w hHT51 (show -2 ≤ z1079 by omega) (show z1079 ≤ 5010 by omega)
          have hFU52 : FR md_mo_rest__2 S U52 := by rw [eU52]; exact FR.wI hFT51 (mdf_i (r := (904, 905, 78, 79)) (List.mem_of_getElem? (i := 9) rfl) (inR_i (by omega) (by omega) (by omega) (by omega)))
          have w1087 : Xi U52 904 78 = z1079 := by rw [eU52]; exact Xi_same (by unfold rg; omega)
          refine l_goto rfl rfl ?_
          refine l_return rfl rfl ?_
          have w1088 : Xi U52 904 65 = Xi T51 904 65 := (show Xi U52 904 65 = Xi T51 904 65 from by rw [eU52]; exact Xi_ne (by omega))
          have w1089 : 0 ≤ Xi T51 904 65 ∧ Xi T51 904 65 ≤ 1 := hHT51.c _ _
          have w1090 : Xi U52 904 69 = Xi T51 904 69 := (show Xi U52 904 69 = Xi T51 904 69 from by rw [eU52]; exact Xi_ne (by omega))
          have w1091 : 0 ≤ Xi T51 904 69 ∧ Xi T51 904 69 ≤ 2600 := hHT51.c _ _
          have w1092 : Xi U52 904 70 = Xi U45 904 70 := (show Xi U52 904 70 = Xi T51 904 70 from by rw [eU52]; exact Xi_ne (by omega)).trans ( (show Xi T51 904 70 = Xi T50 904 70 from w1080.x _ _ rfl).trans ( (show Xi T50 904 70 = Xi T49 904 70 from w1047.x _ _ rfl).trans ( (show Xi T49 904 70 = Xi U48 904 70 from w1015.x _ _ rfl).trans ( (show Xi U48 904 70 = Xi U47 904 70 from by rw [eU48]; exact Xi_ne (by omega)).trans ( (show Xi U47 904 70 = Xi U46 904 70 from by rw [eU47]; exact Xi_ne (by omega)).trans ((show Xi U46 904 70 = Xi U45 904 70 from by rw [eU46]; exact Xi_ne (by omega))))))))
          have w1093 : 0 ≤ Xi U45 904 70 ∧ Xi U45 904 70 ≤ 20 := hHU45.c _ _
          have w1094 : Xi U52 904 71 = Xi T1 904 71 := (show Xi U52 904 71 = Xi T51 904 71 from by rw [eU52]; exact Xi_ne (by omega)).trans ( (show Xi T51 904 71 = Xi T50 904 71 from w1080.x _ _ rfl).trans ( (show Xi T50 904 71 = Xi T49 904 71 from w1047.x _ _ rfl).trans ( (show Xi T49 904 71 = Xi U48 904 71 from w1015.x _ _ rfl).trans ( (show Xi U48 904 71 = Xi U47 904 71 from by rw [eU48]; exact Xi_ne (by omega)).trans ( (show Xi U47 904 71 = Xi U46 904 71 from by rw [eU47]; exact Xi_ne (by omega)).trans ( (show Xi U46 904 71 = Xi U45 904 71 from by rw [eU46]; exact Xi_ne (by omega)).trans ((show Xi U45 904 71 = Xi T1 904 71 from by rw [eU45]; exact Xi_ne (by omega)))))))))
          have w1095 : 0 ≤ Xi T1 904 71 ∧ Xi T1 904 71 ≤ 2600 := hHT1.c _ _
          have w1096 : Xi U52 904 72 = Xi T1 904 72 := (show Xi U52 904 72 = Xi T51 904 72 from by rw [eU52]; exact Xi_ne (by omega)).trans ( (show Xi T51 904 72 = Xi T50 904 72 from w1080.x _ _ rfl).trans ( (show Xi T50 904 72 = Xi T49 904 72 from w1047.x _ _ rfl).trans ( (show Xi T49 904 72 = Xi U48 904 72 from w1015.x _ _ rfl).trans ( (show Xi U48 904 72 = Xi U47 904 72 from by rw [eU48]; exact Xi_ne (by omega)).trans ( (show Xi U47 904 72 = Xi U46 904 72 from by rw [eU47]; exact Xi_ne (by omega)).trans ( (show Xi U46 904 72 = Xi U45 904 72 from by rw [eU46]; exact Xi_ne (by omega)).trans ((show Xi U45 904 72 = Xi T1 904 72 from by rw [eU45]; exact Xi_ne (by omega)))))))))
          have w1097 : 0 ≤ Xi T1 904 72 ∧ Xi T1 904 72 ≤ 2600 := hHT1.c _ _
          have w1098 : Xi U52 904 73 = Xi T1 904 73 := (show Xi U52 904 73 = Xi T51 904 73 from by rw [eU52]; exact Xi_ne (by omega)).trans ( (show Xi T51 904 73 = Xi T50 904 73 from w1080.x _ _ rfl).trans ( (show Xi T50 904 73 = Xi T49 904 73 from w1047.x _ _ rfl).trans ( (show Xi T49 904 73 = Xi U48 904 73 from w1015.x _ _ rfl).trans ( (show Xi U48 904 73 = Xi U47 904 73 from by rw [eU48]; exact Xi_ne (by omega)).trans ( (show Xi U47 904 73 = Xi U46 904 73 from by rw [eU47]; exact Xi_ne (by omega)).trans ( (show Xi U46 904 73 = Xi U45 904 73 from by rw [eU46]; exact Xi_ne (by omega)).trans ((show Xi U45 904 73 = Xi T1 904 73 from by rw [eU45]; exact Xi_ne (by omega)))))))))
          have w1099 : 0 ≤ Xi T1 904 73 ∧ Xi T1 904 73 ≤ 5 := hHT1.c _ _
          have w1100 : Xi U52 904 74 = Xi T1 904 74 := (show Xi U52 904 74 = Xi T51 904 74 from by rw [eU52]; exact Xi_ne (by omega)).trans ( (show Xi T51 904 74 = Xi T50 904 74 from w1080.x _ _ rfl).trans ( (show Xi T50 904 74 = Xi T49 904 74 from w1047.x _ _ rfl).trans ( (show Xi T49 904 74 = Xi U48 904 74 from w1015.x _ _ rfl).trans ( (show Xi U48 904 74 = Xi U47 904 74 from by rw [eU48]; exact Xi_ne (by omega)).trans ( (show Xi U47 904 74 = Xi U46 904 74 from by rw [eU47]; exact Xi_ne (by omega)).trans ( (show Xi U46 904 74 = Xi U45 904 74 from by rw [eU46]; exact Xi_ne (by omega)).trans ((show Xi U45 904 74 = Xi T1 904 74 from by rw [eU45]; exact Xi_ne (by omega)))))))))
          have w1101 : 0 ≤ Xi T1 904 74 ∧ Xi T1 904 74 ≤ 2600 := hHT1.c _ _
          have w1102 : -2 ≤ Xi U52 904 78 ∧ Xi U52 904 78 ≤ 5010 := hHU52.c _ _
          have w1103 : Xi U52 904 8 = Xi T51 904 8 := (show Xi U52 904 8 = Xi T51 904 8 from by rw [eU52]; exact Xi_ne (by omega))
          have w1104 : 0 ≤ Xi T51 904 8 ∧ Xi T51 904 8 ≤ 5010 := hHT51.c _ _
          have w1105 : Xi U52 904 93 = Xi T1 904 93 := (show Xi U52 904 93 = Xi T51 904 93 from by rw [eU52]; exact Xi_ne (by omega)).trans ( (show Xi T51 904 93 = Xi T50 904 93 from w1080.x _ _ rfl).trans ( (show Xi T50 904 93 = Xi T49 904 93 from w1047.x _ _ rfl).trans ( (show Xi T49 904 93 = Xi U48 904 93 from w1015.x _ _ rfl).trans ( (show Xi U48 904 93 = Xi U47 904 93 from by rw [eU48]; exact Xi_ne (by omega)).trans ( (show Xi U47 904 93 = Xi U46 904 93 from by rw [eU47]; exact Xi_ne (by omega)).trans ( (show Xi U46 904 93 = Xi U45 904 93 from by rw [eU46]; exact Xi_ne (by omega)).trans ((show Xi U45 904 93 = Xi T1 904 93 from by rw [eU45]; exact Xi_ne (by omega)))))))))
          have w1106 : 0 ≤ Xi T1 904 93 ∧ Xi T1 904 93 ≤ 1700 := hHT1.c _ _
          exact ⟨hHU52, hFU52, rfl, (by first | assumption | exact (AT_FR (FR_e eU52) rfl (by assumption : AT T51 _ _))), (by omega), (by first | assumption | exact (RNV_FR (FR_e eU52) rfl (by assumption : RNV T51 _))), (by omega), (by omega), (by omega), (fun q => by unfold SNQ; refine ⟨fun q1 => absurd q1 (by omega), by omega, by omega, by omega, fun q9 => absurd q9 (by omega), by omega, by omega, by omega, by omega, by omega⟩), (by omega), (by first | assumption | exact (BDA_FR (FR_e eU52) rfl (by assumption : BDA T51)))⟩
  refine l_aload_n rfl rfl ?_
  have w1107 : 0 ≤ Xi S 904 65 ∧ Xi S 904 65 ≤ 1 := hH.c _ _
  have w1108 : 0 ≤ Xi S 904 69 ∧ Xi S 904 69 ≤ 2600 := hH.c _ _
  have w1109 : 0 ≤ Xi S 904 70 ∧ Xi S 904 70 ≤ 20 := hH.c _ _
  have w1110 : 0 ≤ Xi S 904 71 ∧ Xi S 904 71 ≤ 2600 := hH.c _ _
  have w1111 : 0 ≤ Xi S 904 72 ∧ Xi S 904 72 ≤ 2600 := hH.c _ _
  have w1112 : 0 ≤ Xi S 904 73 ∧ Xi S 904 73 ≤ 5 := hH.c _ _
  have w1113 : 0 ≤ Xi S 904 74 ∧ Xi S 904 74 ≤ 2600 := hH.c _ _
  have w1114 : -2 ≤ Xi S 904 78 ∧ Xi S 904 78 ≤ 5010 := hH.c _ _
  have w1115 : 0 ≤ Xi S 904 8 ∧ Xi S 904 8 ≤ 5010 := hH.c _ _
  have w1116 : 0 ≤ Xi S 904 93 ∧ Xi S 904 93 ≤ 1700 := hH.c _ _
  refine l_callV rfl rfl rfl (t_mo_look hH n c (by first | assumption | exact (TK_FR hF rfl (by assumption : TK S _))) (by first | assumption | exact (by assumption : AT S _ _)) _) ?_
  rintro _ _ ⟨rfl, z1118, rfl, w1118, w1117⟩
  show Rl _ _ _ _ _ [iv z1118] _ _
  refine l_istore_n rfl rfl rfl ?_
  refine l_aload_n rfl rfl ?_
  refine l_iconst rfl ?_
  refine l_pfi rfl rfl rfl rfl ?_
  obtain ⟨U53, eU53⟩ : ∃ T : sS, T = uI S 904 73 (Int32.ofInt 0) := ⟨_, rfl⟩
  rw [← eU53]
  have hHU53 : HI U53 := by rw [eU53]; exact HI_w hH (show 0 ≤ 0 by omega) (show 0 ≤ 5 by omega)
  have hFU53 : FR md_mo_rest__2 S U53 := by rw [eU53]; exact FR.wI hF (mdf_i (r := (904, 905, 73, 74)) (List.mem_of_getElem? (i := 5) rfl) (inR_i (by omega) (by omega) (by omega) (by omega)))
  have w1119 : Xi U53 904 73 = 0 := by rw [eU53]; exact Xi_same (by unfold rg; omega)
  have s7_8 : Xi U53 904 8 = Xi S 904 8 := by rw [eU53, Xi_ne (by omega)]
  have s7_65 : Xi U53 904 65 = Xi S 904 65 := by rw [eU53, Xi_ne (by omega)]
  have s7_69 : Xi U53 904 69 = Xi S 904 69 := by rw [eU53, Xi_ne (by omega)]
  have s7_93 : Xi U53 904 93 = Xi S 904 93 := by rw [eU53, Xi_ne (by omega)]
  have x7 : ∀ j, Xi U53 907 j = Xi S 907 j := fun j => by rw [eU53, Xi_ne (by omega)]
  have l7 : z1118 ≠ 1 → Xi U53 904 65 = 0 ∧ Xi U53 907 (Xi U53 904 8).toNat = z1118 := fun q => by rw [x7, s7_8, s7_65]; exact (by assumption : z1118 ≠ 1 → Xi S 904 65 = 0 ∧ Xi S 907 (Xi S 904 8).toNat = z1118) q
  refine l_iload_n rfl rfl ?_
  refine l_bipush rfl rfl ?_
  refine l_icmp_ne rfl rfl (by unfold rg; omega) (by unfold rg; omega) (fun w1120 => ?_) (fun w1121 => ?_)
  · have w1122 : Xi U53 904 65 = Xi S 904 65 := (show Xi U53 904 65 = Xi S 904 65 from by rw [eU53]; exact Xi_ne (by omega))
    have w1123 : 0 ≤ Xi S 904 65 ∧ Xi S 904 65 ≤ 1 := hH.c _ _
    have w1124 : Xi U53 904 69 = Xi S 904 69 := (show Xi U53 904 69 = Xi S 904 69 from by rw [eU53]; exact Xi_ne (by omega))
    have w1125 : 0 ≤ Xi S 904 69 ∧ Xi S 904 69 ≤ 2600 := hH.c _ _
    have w1126 : Xi U53 904 70 = Xi S 904 70 := (show Xi U53 904 70 = Xi S 904 70 from by rw [eU53]; exact Xi_ne (by omega))
    have w1127 : 0 ≤ Xi S 904 70 ∧ Xi S 904 70 ≤ 20 := hH.c _ _
    have w1128 : Xi U53 904 71 = Xi S 904 71 := (show Xi U53 904 71 = Xi S 904 71 from by rw [eU53]; exact Xi_ne (by omega))
    have w1129 : 0 ≤ Xi S 904 71 ∧ Xi S 904 71 ≤ 2600 := hH.c _ _
    have w1130 : Xi U53 904 72 = Xi S 904 72 := (show Xi U53 904 72 = Xi S 904 72 from by rw [eU53]; exact Xi_ne (by omega))
    have w1131 : 0 ≤ Xi S 904 72 ∧ Xi S 904 72 ≤ 2600 := hH.c _ _
    have w1132 : 0 ≤ Xi U53 904 73 ∧ Xi U53 904 73 ≤ 5 := hHU53.c _ _
    have w1133 : Xi U53 904 74 = Xi S 904 74 := (show Xi U53 904 74 = Xi S 904 74 from by rw [eU53]; exact Xi_ne (by omega))
    have w1134 : 0 ≤ Xi S 904 74 ∧ Xi S 904 74 ≤ 2600 := hH.c _ _
    have w1135 : Xi U53 904 78 = Xi S 904 78 := (show Xi U53 904 78 = Xi S 904 78 from by rw [eU53]; exact Xi_ne (by omega))
    have w1136 : -2 ≤ Xi S 904 78 ∧ Xi S 904 78 ≤ 5010 := hH.c _ _
    have w1137 : Xi U53 904 8 = Xi S 904 8 := (show Xi U53 904 8 = Xi S 904 8 from by rw [eU53]; exact Xi_ne (by omega))
    have w1138 : 0 ≤ Xi S 904 8 ∧ Xi S 904 8 ≤ 5010 := hH.c _ _
    have w1139 : Xi U53 904 93 = Xi S 904 93 := (show Xi U53 904 93 = Xi S 904 93 from by rw [eU53]; exact Xi_ne (by omega))
    have w1140 : 0 ≤ Xi S 904 93 ∧ Xi S 904 93 ≤ 1700 := hH.c _ _
    exact Rl_weak (C111 U53 hHU53 hFU53 (z1118) (by omega) (by first | assumption | exact (AT_FR (FR_e eU53) rfl (by assumption : AT S _ _))) (by first | assumption | exact (RNV_FR (FR_e eU53) rfl (by assumption : RNV S _))) (by omega) (by omega) (by omega) (by omega) (by omega) (by omega) (by first | assumption | exact (BDA_FR (FR_e eU53) rfl (by assumption : BDA S)))) (And.intro rfl (And.intro rfl (True.intro)))
  · refine l_aload_n rfl rfl ?_
    refine l_gfr rfl rfl rfl rfl rfl (hHU53.r 904 4 907 rfl) ?_
    refine l_aload_n rfl rfl ?_
    refine l_gfi rfl rfl rfl rfl rfl ?_
    have w1141 : (Xi U53 904 8) = (Xi S 904 8) := (show Xi U53 904 8 = Xi S 904 8 from by rw [eU53]; exact Xi_ne (by omega))
    rw [w1141]
    refine l_iconst rfl ?_
    refine l_iadd rfl ?_
    refine l_iaload (n := 5002) rfl rfl (by omega) (by omega) (by unfold rg; omega) ?_
    have w1142 : 0 ≤ (Xi U53 907 ((((Xi S 904 8) + 1)).toNat)) ∧ (Xi U53 907 ((((Xi S 904 8) + 1)).toNat)) ≤ 154 := hHU53.c _ _
    have e26 : (Xi U53 907 ((((Xi S 904 8) + 1)).toNat)) = Xi S 907 (Xi S 904 8 + 1).toNat := by first | rfl | exact (hFU53.cx 907 rfl _).1 | (rw [(hFU53.cx 907 rfl _).1, show Xi U53 904 8 = Xi S 904 8 by omega])
    refine l_bipush rfl rfl ?_
    refine l_icmp_ne rfl rfl (by unfold rg; omega) (by unfold rg; omega) (fun w1143 => ?_) (fun w1144 => ?_)
    · have w1145 : Xi U53 904 65 = Xi S 904 65 := (show Xi U53 904 65 = Xi S 904 65 from by rw [eU53]; exact Xi_ne (by omega))
      have w1146 : 0 ≤ Xi S 904 65 ∧ Xi S 904 65 ≤ 1 := hH.c _ _
      have w1147 : Xi U53 904 69 = Xi S 904 69 := (show Xi U53 904 69 = Xi S 904 69 from by rw [eU53]; exact Xi_ne (by omega))
      have w1148 : 0 ≤ Xi S 904 69 ∧ Xi S 904 69 ≤ 2600 := hH.c _ _
      have w1149 : Xi U53 904 70 = Xi S 904 70 := (show Xi U53 904 70 = Xi S 904 70 from by rw [eU53]; exact Xi_ne (by omega))
      have w1150 : 0 ≤ Xi S 904 70 ∧ Xi S 904 70 ≤ 20 := hH.c _ _
      have w1151 : Xi U53 904 71 = Xi S 904 71 := (show Xi U53 904 71 = Xi S 904 71 from by rw [eU53]; exact Xi_ne (by omega))
      have w1152 : 0 ≤ Xi S 904 71 ∧ Xi S 904 71 ≤ 2600 := hH.c _ _
      have w1153 : Xi U53 904 72 = Xi S 904 72 := (show Xi U53 904 72 = Xi S 904 72 from by rw [eU53]; exact Xi_ne (by omega))
      have w1154 : 0 ≤ Xi S 904 72 ∧ Xi S 904 72 ≤ 2600 := hH.c _ _
      have w1155 : 0 ≤ Xi U53 904 73 ∧ Xi U53 904 73 ≤ 5 := hHU53.c _ _
      have w1156 : Xi U53 904 74 = Xi S 904 74 := (show Xi U53 904 74 = Xi S 904 74 from by rw [eU53]; exact Xi_ne (by omega))
      have w1157 : 0 ≤ Xi S 904 74 ∧ Xi S 904 74 ≤ 2600 := hH.c _ _
      have w1158 : Xi U53 904 78 = Xi S 904 78 := (show Xi U53 904 78 = Xi S 904 78 from by rw [eU53]; exact Xi_ne (by omega))
      have w1159 : -2 ≤ Xi S 904 78 ∧ Xi S 904 78 ≤ 5010 := hH.c _ _
      have w1160 : Xi U53 904 8 = Xi S 904 8 := (show Xi U53 904 8 = Xi S 904 8 from by rw [eU53]; exact Xi_ne (by omega))
      have w1161 : 0 ≤ Xi S 904 8 ∧ Xi S 904 8 ≤ 5010 := hH.c _ _
      have w1162 : Xi U53 904 93 = Xi S 904 93 := (show Xi U53 904 93 = Xi S 904 93 from by rw [eU53]; exact Xi_ne (by omega))
      have w1163 : 0 ≤ Xi S 904 93 ∧ Xi S 904 93 ≤ 1700 := hH.c _ _
      exact Rl_weak (C111 U53 hHU53 hFU53 (z1118) (by omega) (by first | assumption | exact (AT_FR (FR_e eU53) rfl (by assumption : AT S _ _))) (by first | assumption | exact (RNV_FR (FR_e eU53) rfl (by assumption : RNV S _))) (by omega) (by omega) (by omega) (by omega) (by omega) (by omega) (by first | assumption | exact (BDA_FR (FR_e eU53) rfl (by assumption : BDA S)))) (And.intro rfl (And.intro rfl (True.intro)))
    · refine l_aload_n rfl rfl ?_
      refine l_bipush rfl rfl ?_
      refine l_pfi rfl rfl rfl rfl ?_
      obtain ⟨U54, eU54⟩ : ∃ T : sS, T = uI U53 904 70 (Int32.ofInt 10) := ⟨_, rfl⟩
      rw [← eU54]
      have hHU54 : HI U54 := by rw [eU54]; exact HI_w hHU53 (show 0 ≤ 10 by omega) (show 10 ≤ 20 by omega)
      have hFU54 : FR md_mo_rest__2 S U54 := by rw [eU54]; exact FR.wI hFU53 (mdf_i (r := (904, 905, 70, 71)) (List.mem_of_getElem? (i := 4) rfl) (inR_i (by omega) (by omega) (by omega) (by omega)))
      have w1164 : Xi U54 904 70 = 10 := by rw [eU54]; exact Xi_same (by unfold rg; omega)
      refine l_aload_n rfl rfl ?_
      refine l_dup rfl rfl ?_
      refine l_gfi rfl rfl rfl rfl rfl ?_
      have w1165 : (Xi U54 904 8) = (Xi S 904 8) := (show Xi U54 904 8 = Xi U53 904 8 from by rw [eU54]; exact Xi_ne (by omega)).trans ((show Xi U53 904 8 = Xi S 904 8 from by rw [eU53]; exact Xi_ne (by omega)))
      rw [w1165]
      refine l_iconst rfl ?_
      refine l_iadd rfl ?_
      refine l_pfi rfl rfl rfl rfl ?_
      obtain ⟨U55, eU55⟩ : ∃ T : sS, T = uI U54 904 8 (Int32.ofInt ((Xi S 904 8) + 2)) := ⟨_, rfl⟩
      rw [← eU55]
      have hHU55 : HI U55 := by rw [eU55]; exact HI_w hHU54 (show 0 ≤ ((Xi S 904 8) + 2) by omega) (show ((Xi S 904 8) + 2) ≤ 5010 by omega)
      have hFU55 : FR md_mo_rest__2 S U55 := by rw [eU55]; exact FR.wI hFU54 (mdf_i (r := (904, 905, 8, 9)) (List.mem_of_getElem? (i := 0) rfl) (inR_i (by omega) (by omega) (by omega) (by omega)))
      have w1166 : Xi U55 904 8 = ((Xi S 904 8) + 2) := by rw [eU55]; exact Xi_same (by unfold rg; omega)
      have t45 : AT U55 n c ∧ _ := (at_mv2 (S := S) (P := U54) (TK_FR hF rfl (by assumption : TK S _)) (by first | assumption | exact (by assumption : AT S _ _)) (fun j => ((FR_e eU54).cx 907 rfl j).1.trans (((FR_e eU53).cx 907 rfl j).1)) (fun j => ((FR_e eU54).cx 908 rfl j).1.trans (((FR_e eU53).cx 908 rfl j).1)) ((show Xi U54 904 8 = Xi U53 904 8 from by rw [eU54]; exact Xi_ne (by omega)).trans ((show Xi U53 904 8 = Xi S 904 8 from by rw [eU53]; exact Xi_ne (by omega)))) ((show Xi U54 904 65 = Xi U53 904 65 from by rw [eU54]; exact Xi_ne (by omega)).trans ((show Xi U53 904 65 = Xi S 904 65 from by rw [eU53]; exact Xi_ne (by omega)))) ((show Xi U54 904 69 = Xi U53 904 69 from by rw [eU54]; exact Xi_ne (by omega)).trans ((show Xi U53 904 69 = Xi S 904 69 from by rw [eU53]; exact Xi_ne (by omega)))) ((show Xi U54 904 93 = Xi U53 904 93 from by rw [eU54]; exact Xi_ne (by omega)).trans ((show Xi U53 904 93 = Xi S 904 93 from by rw [eU53]; exact Xi_ne (by omega)))) eU55 (by omega) (by omega) (by omega) (by omega) (by omega))
      have a45 : AT U55 n c := t45.1
      have l45 := t45.2
      refine l_aload_n rfl rfl ?_
      refine l_iconst rfl ?_
      refine l_pfi rfl rfl rfl rfl ?_
      obtain ⟨U56, eU56⟩ : ∃ T : sS, T = uI U55 904 78 (Int32.ofInt (-1)) := ⟨_, rfl⟩
      rw [← eU56]
      have hHU56 : HI U56 := by rw [eU56]; exact HI_w hHU55 (show -2 ≤ (-1) by omega) (show (-1) ≤ 5010 by omega)
      have hFU56 : FR md_mo_rest__2 S U56 := by rw [eU56]; exact FR.wI hFU55 (mdf_i (r := (904, 905, 78, 79)) (List.mem_of_getElem? (i := 9) rfl) (inR_i (by omega) (by omega) (by omega) (by omega)))
      have w1167 : Xi U56 904 78 = (-1) := by rw [eU56]; exact Xi_same (by unfold rg; omega)
      refine l_aload_n rfl rfl ?_
      refine l_bipush rfl rfl ?_
      have w1168 : Xi U56 904 65 = Xi S 904 65 := (show Xi U56 904 65 = Xi U55 904 65 from by rw [eU56]; exact Xi_ne (by omega)).trans ( (show Xi U55 904 65 = Xi U54 904 65 from by rw [eU55]; exact Xi_ne (by omega)).trans ( (show Xi U54 904 65 = Xi U53 904 65 from by rw [eU54]; exact Xi_ne (by omega)).trans ((show Xi U53 904 65 = Xi S 904 65 from by rw [eU53]; exact Xi_ne (by omega)))))
      have w1169 : 0 ≤ Xi S 904 65 ∧ Xi S 904 65 ≤ 1 := hH.c _ _
      have w1170 : Xi U56 904 69 = Xi S 904 69 := (show Xi U56 904 69 = Xi U55 904 69 from by rw [eU56]; exact Xi_ne (by omega)).trans ( (show Xi U55 904 69 = Xi U54 904 69 from by rw [eU55]; exact Xi_ne (by omega)).trans ( (show Xi U54 904 69 = Xi U53 904 69 from by rw [eU54]; exact Xi_ne (by omega)).trans ((show Xi U53 904 69 = Xi S 904 69 from by rw [eU53]; exact Xi_ne (by omega)))))
      have w1171 : 0 ≤ Xi S 904 69 ∧ Xi S 904 69 ≤ 2600 := hH.c _ _
      have w1172 : Xi U56 904 70 = Xi U54 904 70 := (show Xi U56 904 70 = Xi U55 904 70 from by rw [eU56]; exact Xi_ne (by omega)).trans ((show Xi U55 904 70 = Xi U54 904 70 from by rw [eU55]; exact Xi_ne (by omega)))
      have w1173 : 0 ≤ Xi U54 904 70 ∧ Xi U54 904 70 ≤ 20 := hHU54.c _ _
      have w1174 : Xi U56 904 71 = Xi S 904 71 := (show Xi U56 904 71 = Xi U55 904 71 from by rw [eU56]; exact Xi_ne (by omega)).trans ( (show Xi U55 904 71 = Xi U54 904 71 from by rw [eU55]; exact Xi_ne (by omega)).trans ( (show Xi U54 904 71 = Xi U53 904 71 from by rw [eU54]; exact Xi_ne (by omega)).trans ((show Xi U53 904 71 = Xi S 904 71 from by rw [eU53]; exact Xi_ne (by omega)))))
      have w1175 : 0 ≤ Xi S 904 71 ∧ Xi S 904 71 ≤ 2600 := hH.c _ _
      have w1176 : Xi U56 904 72 = Xi S 904 72 := (show Xi U56 904 72 = Xi U55 904 72 from by rw [eU56]; exact Xi_ne (by omega)).trans ( (show Xi U55 904 72 = Xi U54 904 72 from by rw [eU55]; exact Xi_ne (by omega)).trans ( (show Xi U54 904 72 = Xi U53 904 72 from by rw [eU54]; exact Xi_ne (by omega)).trans ((show Xi U53 904 72 = Xi S 904 72 from by rw [eU53]; exact Xi_ne (by omega)))))
      have w1177 : 0 ≤ Xi S 904 72 ∧ Xi S 904 72 ≤ 2600 := hH.c _ _
      have w1178 : Xi U56 904 73 = Xi U53 904 73 := (show Xi U56 904 73 = Xi U55 904 73 from by rw [eU56]; exact Xi_ne (by omega)).trans ( (show Xi U55 904 73 = Xi U54 904 73 from by rw [eU55]; exact Xi_ne (by omega)).trans ((show Xi U54 904 73 = Xi U53 904 73 from by rw [eU54]; exact Xi_ne (by omega))))
      have w1179 : 0 ≤ Xi U53 904 73 ∧ Xi U53 904 73 ≤ 5 := hHU53.c _ _
      have w1180 : Xi U56 904 74 = Xi S 904 74 := (show Xi U56 904 74 = Xi U55 904 74 from by rw [eU56]; exact Xi_ne (by omega)).trans ( (show Xi U55 904 74 = Xi U54 904 74 from by rw [eU55]; exact Xi_ne (by omega)).trans ( (show Xi U54 904 74 = Xi U53 904 74 from by rw [eU54]; exact Xi_ne (by omega)).trans ((show Xi U53 904 74 = Xi S 904 74 from by rw [eU53]; exact Xi_ne (by omega)))))
      have w1181 : 0 ≤ Xi S 904 74 ∧ Xi S 904 74 ≤ 2600 := hH.c _ _
      have w1182 : -2 ≤ Xi U56 904 78 ∧ Xi U56 904 78 ≤ 5010 := hHU56.c _ _
      have w1183 : Xi U56 904 8 = Xi U55 904 8 := (show Xi U56 904 8 = Xi U55 904 8 from by rw [eU56]; exact Xi_ne (by omega))
      have w1184 : 0 ≤ Xi U55 904 8 ∧ Xi U55 904 8 ≤ 5010 := hHU55.c _ _
      have w1185 : Xi U56 904 93 = Xi S 904 93 := (show Xi U56 904 93 = Xi U55 904 93 from by rw [eU56]; exact Xi_ne (by omega)).trans ( (show Xi U55 904 93 = Xi U54 904 93 from by rw [eU55]; exact Xi_ne (by omega)).trans ( (show Xi U54 904 93 = Xi U53 904 93 from by rw [eU54]; exact Xi_ne (by omega)).trans ((show Xi U53 904 93 = Xi S 904 93 from by rw [eU53]; exact Xi_ne (by omega)))))
      have w1186 : 0 ≤ Xi S 904 93 ∧ Xi S 904 93 ≤ 1700 := hH.c _ _
      refine l_callV rfl rfl rfl (t_mo_isNext hHU56 n c 107 ⟨by omega, by omega⟩ (by first | assumption | exact (TK_FR hFU56 rfl (by assumption : TK S _))) (by first | assumption | exact (AT_FR (FR_e eU56) rfl (by assumption : AT U55 _ _))) _) ?_
      rintro _ _ ⟨rfl, z1189, rfl, w1189, w1187, w1188⟩
      show Rl _ _ _ _ _ [iv z1189] _ _
      have j56 : z1189 = 1 → Xi U56 904 65 = 0 ∧ Xi U56 907 (Xi U56 904 8).toNat = 107 := by assumption
      refine l_if_eq rfl rfl (by unfold rg; omega) (fun w1190 => ?_) (fun w1191 => ?_)
      · refine l_return rfl rfl ?_
        have w1192 : Xi U56 904 65 = Xi S 904 65 := (show Xi U56 904 65 = Xi U55 904 65 from by rw [eU56]; exact Xi_ne (by omega)).trans ( (show Xi U55 904 65 = Xi U54 904 65 from by rw [eU55]; exact Xi_ne (by omega)).trans ( (show Xi U54 904 65 = Xi U53 904 65 from by rw [eU54]; exact Xi_ne (by omega)).trans ((show Xi U53 904 65 = Xi S 904 65 from by rw [eU53]; exact Xi_ne (by omega)))))
        have w1193 : 0 ≤ Xi S 904 65 ∧ Xi S 904 65 ≤ 1 := hH.c _ _
        have w1194 : Xi U56 904 69 = Xi S 904 69 := (show Xi U56 904 69 = Xi U55 904 69 from by rw [eU56]; exact Xi_ne (by omega)).trans ( (show Xi U55 904 69 = Xi U54 904 69 from by rw [eU55]; exact Xi_ne (by omega)).trans ( (show Xi U54 904 69 = Xi U53 904 69 from by rw [eU54]; exact Xi_ne (by omega)).trans ((show Xi U53 904 69 = Xi S 904 69 from by rw [eU53]; exact Xi_ne (by omega)))))
        have w1195 : 0 ≤ Xi S 904 69 ∧ Xi S 904 69 ≤ 2600 := hH.c _ _
        have w1196 : Xi U56 904 70 = Xi U54 904 70 := (show Xi U56 904 70 = Xi U55 904 70 from by rw [eU56]; exact Xi_ne (by omega)).trans ((show Xi U55 904 70 = Xi U54 904 70 from by rw [eU55]; exact Xi_ne (by omega)))
        have w1197 : 0 ≤ Xi U54 904 70 ∧ Xi U54 904 70 ≤ 20 := hHU54.c _ _
        have w1198 : Xi U56 904 71 = Xi S 904 71 := (show Xi U56 904 71 = Xi U55 904 71 from by rw [eU56]; exact Xi_ne (by omega)).trans ( (show Xi U55 904 71 = Xi U54 904 71 from by rw [eU55]; exact Xi_ne (by omega)).trans ( (show Xi U54 904 71 = Xi U53 904 71 from by rw [eU54]; exact Xi_ne (by omega)).trans ((show Xi U53 904 71 = Xi S 904 71 from by rw [eU53]; exact Xi_ne (by omega)))))
        have w1199 : 0 ≤ Xi S 904 71 ∧ Xi S 904 71 ≤ 2600 := hH.c _ _
        have w1200 : Xi U56 904 72 = Xi S 904 72 := (show Xi U56 904 72 = Xi U55 904 72 from by rw [eU56]; exact Xi_ne (by omega)).trans ( (show Xi U55 904 72 = Xi U54 904 72 from by rw [eU55]; exact Xi_ne (by omega)).trans ( (show Xi U54 904 72 = Xi U53 904 72 from by rw [eU54]; exact Xi_ne (by omega)).trans ((show Xi U53 904 72 = Xi S 904 72 from by rw [eU53]; exact Xi_ne (by omega)))))
        have w1201 : 0 ≤ Xi S 904 72 ∧ Xi S 904 72 ≤ 2600 := hH.c _ _
        have w1202 : Xi U56 904 73 = Xi U53 904 73 := (show Xi U56 904 73 = Xi U55 904 73 from by rw [eU56]; exact Xi_ne (by omega)).trans ( (show Xi U55 904 73 = Xi U54 904 73 from by rw [eU55]; exact Xi_ne (by omega)).trans ((show Xi U54 904 73 = Xi U53 904 73 from by rw [eU54]; exact Xi_ne (by omega))))
        have w1203 : 0 ≤ Xi U53 904 73 ∧ Xi U53 904 73 ≤ 5 := hHU53.c _ _
        have w1204 : Xi U56 904 74 = Xi S 904 74 := (show Xi U56 904 74 = Xi U55 904 74 from by rw [eU56]; exact Xi_ne (by omega)).trans ( (show Xi U55 904 74 = Xi U54 904 74 from by rw [eU55]; exact Xi_ne (by omega)).trans ( (show Xi U54 904 74 = Xi U53 904 74 from by rw [eU54]; exact Xi_ne (by omega)).trans ((show Xi U53 904 74 = Xi S 904 74 from by rw [eU53]; exact Xi_ne (by omega)))))
        have w1205 : 0 ≤ Xi S 904 74 ∧ Xi S 904 74 ≤ 2600 := hH.c _ _
        have w1206 : -2 ≤ Xi U56 904 78 ∧ Xi U56 904 78 ≤ 5010 := hHU56.c _ _
        have w1207 : Xi U56 904 8 = Xi U55 904 8 := (show Xi U56 904 8 = Xi U55 904 8 from by rw [eU56]; exact Xi_ne (by omega))
        have w1208 : 0 ≤ Xi U55 904 8 ∧ Xi U55 904 8 ≤ 5010 := hHU55.c _ _
        have w1209 : Xi U56 904 93 = Xi S 904 93 := (show Xi U56 904 93 = Xi U55 904 93 from by rw [eU56]; exact Xi_ne (by omega)).trans ( (show Xi U55 904 93 = Xi U54 904 93 from by rw [eU55]; exact Xi_ne (by omega)).trans ( (show Xi U54 904 93 = Xi U53 904 93 from by rw [eU54]; exact Xi_ne (by omega)).trans ((show Xi U53 904 93 = Xi S 904 93 from by rw [eU53]; exact Xi_ne (by omega)))))
        have w1210 : 0 ≤ Xi S 904 93 ∧ Xi S 904 93 ≤ 1700 := hH.c _ _
        exact ⟨hHU56, hFU56, rfl, (by first | assumption | exact (AT_FR (FR_e eU56) rfl (by assumption : AT U55 _ _))), (by omega), (by first | assumption | exact (RNV_FR (FR_e eU56) rfl (RNV_FR (FR_e eU55) rfl (RNV_FR (FR_e eU54) rfl (RNV_FR (FR_e eU53) rfl (by assumption : RNV S _)))))), (by omega), (by omega), (by omega), (fun q => by unfold SNQ; refine ⟨fun q1 => absurd q1 (by omega), by omega, by omega, by omega, fun q9 => absurd q9 (by omega), by omega, by omega, by omega, by omega, by omega⟩), (by omega), (by first | assumption | exact (BDA_FR (FR_e eU56) rfl (BDA_FR (FR_e eU55) rfl (BDA_FR (FR_e eU54) rfl (BDA_FR (FR_e eU53) rfl (by assumption : BDA S))))))⟩
      · refine l_aload_n rfl rfl ?_
        refine l_dup rfl rfl ?_
        refine l_gfi rfl rfl rfl rfl rfl ?_
        have w1211 : (Xi U56 904 8) = (Xi U55 904 8) := (show Xi U56 904 8 = Xi U55 904 8 from by rw [eU56]; exact Xi_ne (by omega))
        rw [w1211]
        refine l_iconst rfl ?_
        refine l_iadd rfl ?_
        refine l_pfi rfl rfl rfl rfl ?_
        obtain ⟨U57, eU57⟩ : ∃ T : sS, T = uI U56 904 8 (Int32.ofInt ((Xi U55 904 8) + 1)) := ⟨_, rfl⟩
        rw [← eU57]
        have hHU57 : HI U57 := by rw [eU57]; exact HI_w hHU56 (show 0 ≤ ((Xi U55 904 8) + 1) by omega) (show ((Xi U55 904 8) + 1) ≤ 5010 by omega)
        have hFU57 : FR md_mo_rest__2 S U57 := by rw [eU57]; exact FR.wI hFU56 (mdf_i (r := (904, 905, 8, 9)) (List.mem_of_getElem? (i := 0) rfl) (inR_i (by omega) (by omega) (by omega) (by omega)))
        have w1212 : Xi U57 904 8 = ((Xi U55 904 8) + 1) := by rw [eU57]; exact Xi_same (by unfold rg; omega)
        have t69 : AT U57 n c ∧ _ := (at_mv (S := U56) (P := U56) (TK_FR hFU56 rfl (by assumption : TK S _)) (by first | assumption | exact (AT_FR (FR_e eU56) rfl (by assumption : AT U55 _ _))) (fun j => rfl) (fun j => rfl) (rfl) (rfl) (rfl) (rfl) eU57 (by omega) (by omega) (by omega) (by omega) (Or.inl rfl))
        have a69 : AT U57 n c := t69.1
        have l69 := t69.2
        refine l_aload_n rfl rfl ?_
        refine l_bipush rfl rfl ?_
        have w1213 : Xi U57 904 65 = Xi S 904 65 := (show Xi U57 904 65 = Xi U56 904 65 from by rw [eU57]; exact Xi_ne (by omega)).trans ( (show Xi U56 904 65 = Xi U55 904 65 from by rw [eU56]; exact Xi_ne (by omega)).trans ( (show Xi U55 904 65 = Xi U54 904 65 from by rw [eU55]; exact Xi_ne (by omega)).trans ( (show Xi U54 904 65 = Xi U53 904 65 from by rw [eU54]; exact Xi_ne (by omega)).trans ((show Xi U53 904 65 = Xi S 904 65 from by rw [eU53]; exact Xi_ne (by omega))))))
        have w1214 : 0 ≤ Xi S 904 65 ∧ Xi S 904 65 ≤ 1 := hH.c _ _
        have w1215 : Xi U57 904 69 = Xi S 904 69 := (show Xi U57 904 69 = Xi U56 904 69 from by rw [eU57]; exact Xi_ne (by omega)).trans ( (show Xi U56 904 69 = Xi U55 904 69 from by rw [eU56]; exact Xi_ne (by omega)).trans ( (show Xi U55 904 69 = Xi U54 904 69 from by rw [eU55]; exact Xi_ne (by omega)).trans ( (show Xi U54 904 69 = Xi U53 904 69 from by rw [eU54]; exact Xi_ne (by omega)).trans ((show Xi U53 904 69 = Xi S 904 69 from by rw [eU53]; exact Xi_ne (by omega))))))
        have w1216 : 0 ≤ Xi S 904 69 ∧ Xi S 904 69 ≤ 2600 := hH.c _ _
        have w1217 : Xi U57 904 70 = Xi U54 904 70 := (show Xi U57 904 70 = Xi U56 904 70 from by rw [eU57]; exact Xi_ne (by omega)).trans ( (show Xi U56 904 70 = Xi U55 904 70 from by rw [eU56]; exact Xi_ne (by omega)).trans ((show Xi U55 904 70 = Xi U54 904 70 from by rw [eU55]; exact Xi_ne (by omega))))
        have w1218 : 0 ≤ Xi U54 904 70 ∧ Xi U54 904 70 ≤ 20 := hHU54.c _ _
        have w1219 : Xi U57 904 71 = Xi S 904 71 := (show Xi U57 904 71 = Xi U56 904 71 from by rw [eU57]; exact Xi_ne (by omega)).trans ( (show Xi U56 904 71 = Xi U55 904 71 from by rw [eU56]; exact Xi_ne (by omega)).trans ( (show Xi U55 904 71 = Xi U54 904 71 from by rw [eU55]; exact Xi_ne (by omega)).trans ( (show Xi U54 904 71 = Xi U53 904 71 from by rw [eU54]; exact Xi_ne (by omega)).trans ((show Xi U53 904 71 = Xi S 904 71 from by rw [eU53]; exact Xi_ne (by omega))))))
        have w1220 : 0 ≤ Xi S 904 71 ∧ Xi S 904 71 ≤ 2600 := hH.c _ _
        have w1221 : Xi U57 904 72 = Xi S 904 72 := (show Xi U57 904 72 = Xi U56 904 72 from by rw [eU57]; exact Xi_ne (by omega)).trans ( (show Xi U56 904 72 = Xi U55 904 72 from by rw [eU56]; exact Xi_ne (by omega)).trans ( (show Xi U55 904 72 = Xi U54 904 72 from by rw [eU55]; exact Xi_ne (by omega)).trans ( (show Xi U54 904 72 = Xi U53 904 72 from by rw [eU54]; exact Xi_ne (by omega)).trans ((show Xi U53 904 72 = Xi S 904 72 from by rw [eU53]; exact Xi_ne (by omega))))))
        have w1222 : 0 ≤ Xi S 904 72 ∧ Xi S 904 72 ≤ 2600 := hH.c _ _
        have w1223 : Xi U57 904 73 = Xi U53 904 73 := (show Xi U57 904 73 = Xi U56 904 73 from by rw [eU57]; exact Xi_ne (by omega)).trans ( (show Xi U56 904 73 = Xi U55 904 73 from by rw [eU56]; exact Xi_ne (by omega)).trans ( (show Xi U55 904 73 = Xi U54 904 73 from by rw [eU55]; exact Xi_ne (by omega)).trans ((show Xi U54 904 73 = Xi U53 904 73 from by rw [eU54]; exact Xi_ne (by omega)))))
        have w1224 : 0 ≤ Xi U53 904 73 ∧ Xi U53 904 73 ≤ 5 := hHU53.c _ _
        have w1225 : Xi U57 904 74 = Xi S 904 74 := (show Xi U57 904 74 = Xi U56 904 74 from by rw [eU57]; exact Xi_ne (by omega)).trans ( (show Xi U56 904 74 = Xi U55 904 74 from by rw [eU56]; exact Xi_ne (by omega)).trans ( (show Xi U55 904 74 = Xi U54 904 74 from by rw [eU55]; exact Xi_ne (by omega)).trans ( (show Xi U54 904 74 = Xi U53 904 74 from by rw [eU54]; exact Xi_ne (by omega)).trans ((show Xi U53 904 74 = Xi S 904 74 from by rw [eU53]; exact Xi_ne (by omega))))))
        have w1226 : 0 ≤ Xi S 904 74 ∧ Xi S 904 74 ≤ 2600 := hH.c _ _
        have w1227 : Xi U57 904 78 = Xi U56 904 78 := (show Xi U57 904 78 = Xi U56 904 78 from by rw [eU57]; exact Xi_ne (by omega))
        have w1228 : -2 ≤ Xi U56 904 78 ∧ Xi U56 904 78 ≤ 5010 := hHU56.c _ _
        have w1229 : 0 ≤ Xi U57 904 8 ∧ Xi U57 904 8 ≤ 5010 := hHU57.c _ _
        have w1230 : Xi U57 904 93 = Xi S 904 93 := (show Xi U57 904 93 = Xi U56 904 93 from by rw [eU57]; exact Xi_ne (by omega)).trans ( (show Xi U56 904 93 = Xi U55 904 93 from by rw [eU56]; exact Xi_ne (by omega)).trans ( (show Xi U55 904 93 = Xi U54 904 93 from by rw [eU55]; exact Xi_ne (by omega)).trans ( (show Xi U54 904 93 = Xi U53 904 93 from by rw [eU54]; exact Xi_ne (by omega)).trans ((show Xi U53 904 93 = Xi S 904 93 from by rw [eU53]; exact Xi_ne (by omega))))))
        have w1231 : 0 ≤ Xi S 904 93 ∧ Xi S 904 93 ≤ 1700 := hH.c _ _
        refine l_callV rfl rfl rfl (t_mo_isNext hHU57 n c 120 ⟨by omega, by omega⟩ (by first | assumption | exact (TK_FR hFU57 rfl (by assumption : TK S _))) (by first | assumption | exact (by assumption : AT U57 _ _)) _) ?_
        rintro _ _ ⟨rfl, z1234, rfl, w1234, w1232, w1233⟩
        show Rl _ _ _ _ _ [iv z1234] _ _
        have j75 : z1234 = 1 → Xi U57 904 65 = 0 ∧ Xi U57 907 (Xi U57 904 8).toNat = 120 := by assumption
        refine l_if_eq rfl rfl (by unfold rg; omega) (fun w1235 => ?_) (fun w1236 => ?_)
        · refine l_aload_n rfl rfl ?_
          refine l_aload_n rfl rfl ?_
          have w1237 : Xi U57 904 65 = Xi S 904 65 := (show Xi U57 904 65 = Xi U56 904 65 from by rw [eU57]; exact Xi_ne (by omega)).trans ( (show Xi U56 904 65 = Xi U55 904 65 from by rw [eU56]; exact Xi_ne (by omega)).trans ( (show Xi U55 904 65 = Xi U54 904 65 from by rw [eU55]; exact Xi_ne (by omega)).trans ( (show Xi U54 904 65 = Xi U53 904 65 from by rw [eU54]; exact Xi_ne (by omega)).trans ((show Xi U53 904 65 = Xi S 904 65 from by rw [eU53]; exact Xi_ne (by omega))))))
          have w1238 : 0 ≤ Xi S 904 65 ∧ Xi S 904 65 ≤ 1 := hH.c _ _
          have w1239 : Xi U57 904 69 = Xi S 904 69 := (show Xi U57 904 69 = Xi U56 904 69 from by rw [eU57]; exact Xi_ne (by omega)).trans ( (show Xi U56 904 69 = Xi U55 904 69 from by rw [eU56]; exact Xi_ne (by omega)).trans ( (show Xi U55 904 69 = Xi U54 904 69 from by rw [eU55]; exact Xi_ne (by omega)).trans ( (show Xi U54 904 69 = Xi U53 904 69 from by rw [eU54]; exact Xi_ne (by omega)).trans ((show Xi U53 904 69 = Xi S 904 69 from by rw [eU53]; exact Xi_ne (by omega))))))
          have w1240 : 0 ≤ Xi S 904 69 ∧ Xi S 904 69 ≤ 2600 := hH.c _ _
          have w1241 : Xi U57 904 70 = Xi U54 904 70 := (show Xi U57 904 70 = Xi U56 904 70 from by rw [eU57]; exact Xi_ne (by omega)).trans ( (show Xi U56 904 70 = Xi U55 904 70 from by rw [eU56]; exact Xi_ne (by omega)).trans ((show Xi U55 904 70 = Xi U54 904 70 from by rw [eU55]; exact Xi_ne (by omega))))
          have w1242 : 0 ≤ Xi U54 904 70 ∧ Xi U54 904 70 ≤ 20 := hHU54.c _ _
          have w1243 : Xi U57 904 71 = Xi S 904 71 := (show Xi U57 904 71 = Xi U56 904 71 from by rw [eU57]; exact Xi_ne (by omega)).trans ( (show Xi U56 904 71 = Xi U55 904 71 from by rw [eU56]; exact Xi_ne (by omega)).trans ( (show Xi U55 904 71 = Xi U54 904 71 from by rw [eU55]; exact Xi_ne (by omega)).trans ( (show Xi U54 904 71 = Xi U53 904 71 from by rw [eU54]; exact Xi_ne (by omega)).trans ((show Xi U53 904 71 = Xi S 904 71 from by rw [eU53]; exact Xi_ne (by omega))))))
          have w1244 : 0 ≤ Xi S 904 71 ∧ Xi S 904 71 ≤ 2600 := hH.c _ _
          have w1245 : Xi U57 904 72 = Xi S 904 72 := (show Xi U57 904 72 = Xi U56 904 72 from by rw [eU57]; exact Xi_ne (by omega)).trans ( (show Xi U56 904 72 = Xi U55 904 72 from by rw [eU56]; exact Xi_ne (by omega)).trans ( (show Xi U55 904 72 = Xi U54 904 72 from by rw [eU55]; exact Xi_ne (by omega)).trans ( (show Xi U54 904 72 = Xi U53 904 72 from by rw [eU54]; exact Xi_ne (by omega)).trans ((show Xi U53 904 72 = Xi S 904 72 from by rw [eU53]; exact Xi_ne (by omega))))))
          have w1246 : 0 ≤ Xi S 904 72 ∧ Xi S 904 72 ≤ 2600 := hH.c _ _
          have w1247 : Xi U57 904 73 = Xi U53 904 73 := (show Xi U57 904 73 = Xi U56 904 73 from by rw [eU57]; exact Xi_ne (by omega)).trans ( (show Xi U56 904 73 = Xi U55 904 73 from by rw [eU56]; exact Xi_ne (by omega)).trans ( (show Xi U55 904 73 = Xi U54 904 73 from by rw [eU55]; exact Xi_ne (by omega)).trans ((show Xi U54 904 73 = Xi U53 904 73 from by rw [eU54]; exact Xi_ne (by omega)))))
          have w1248 : 0 ≤ Xi U53 904 73 ∧ Xi U53 904 73 ≤ 5 := hHU53.c _ _
          have w1249 : Xi U57 904 74 = Xi S 904 74 := (show Xi U57 904 74 = Xi U56 904 74 from by rw [eU57]; exact Xi_ne (by omega)).trans ( (show Xi U56 904 74 = Xi U55 904 74 from by rw [eU56]; exact Xi_ne (by omega)).trans ( (show Xi U55 904 74 = Xi U54 904 74 from by rw [eU55]; exact Xi_ne (by omega)).trans ( (show Xi U54 904 74 = Xi U53 904 74 from by rw [eU54]; exact Xi_ne (by omega)).trans ((show Xi U53 904 74 = Xi S 904 74 from by rw [eU53]; exact Xi_ne (by omega))))))
          have w1250 : 0 ≤ Xi S 904 74 ∧ Xi S 904 74 ≤ 2600 := hH.c _ _
          have w1251 : Xi U57 904 78 = Xi U56 904 78 := (show Xi U57 904 78 = Xi U56 904 78 from by rw [eU57]; exact Xi_ne (by omega))
          have w1252 : -2 ≤ Xi U56 904 78 ∧ Xi U56 904 78 ≤ 5010 := hHU56.c _ _
          have w1253 : 0 ≤ Xi U57 904 8 ∧ Xi U57 904 8 ≤ 5010 := hHU57.c _ _
          have w1254 : Xi U57 904 93 = Xi S 904 93 := (show Xi U57 904 93 = Xi U56 904 93 from by rw [eU57]; exact Xi_ne (by omega)).trans ( (show Xi U56 904 93 = Xi U55 904 93 from by rw [eU56]; exact Xi_ne (by omega)).trans ( (show Xi U55 904 93 = Xi U54 904 93 from by rw [eU55]; exact Xi_ne (by omega)).trans ( (show Xi U54 904 93 = Xi U53 904 93 from by rw [eU54]; exact Xi_ne (by omega)).trans ((show Xi U53 904 93 = Xi S 904 93 from by rw [eU53]; exact Xi_ne (by omega))))))
          have w1255 : 0 ≤ Xi S 904 93 ∧ Xi S 904 93 ≤ 1700 := hH.c _ _
          refine l_callV rfl rfl rfl (t_mo_name__2 hHU57 n c (by first | assumption | exact (TK_FR hFU57 rfl (by assumption : TK S _))) (by first | assumption | exact (by assumption : AT U57 _ _)) (by first | assumption | exact (RNV_FR (FR_e eU57) rfl (RNV_FR (FR_e eU56) rfl (RNV_FR (FR_e eU55) rfl (RNV_FR (FR_e eU54) rfl (RNV_FR (FR_e eU53) rfl (by assumption : RNV S _))))))) (by first | assumption | exact (BDA_FR (FR_e eU57) rfl (BDA_FR (FR_e eU56) rfl (BDA_FR (FR_e eU55) rfl (BDA_FR (FR_e eU54) rfl (BDA_FR (FR_e eU53) rfl (by assumption : BDA S))))))) _) ?_
          rintro _ T58 ⟨hHT58, w1263, z1262, rfl, w1262, w1256, w1257, w1258, w1259, w1260, w1261⟩
          have hFT58 : FR md_mo_rest__2 S T58 := FR.tr hFU57 w1263 rfl
          show Rl _ _ _ _ _ [iv z1262, .ref 904] _ _
          have w1265 : 0 ≤ Xi T58 904 8 ∧ Xi T58 904 8 ≤ 5010 := hHT58.c _ _
          have w1266 : 0 ≤ Xi T58 904 65 ∧ Xi T58 904 65 ≤ 1 := hHT58.c _ _
          have w1267 : 0 ≤ Xi T58 904 69 ∧ Xi T58 904 69 ≤ 2600 := hHT58.c _ _
          have w1268 : Xi T58 904 93 = Xi S 904 93 := (show Xi T58 904 93 = Xi U57 904 93 from w1263.x _ _ rfl).trans ( (show Xi U57 904 93 = Xi U56 904 93 from by rw [eU57]; exact Xi_ne (by omega)).trans ( (show Xi U56 904 93 = Xi U55 904 93 from by rw [eU56]; exact Xi_ne (by omega)).trans ( (show Xi U55 904 93 = Xi U54 904 93 from by rw [eU55]; exact Xi_ne (by omega)).trans ( (show Xi U54 904 93 = Xi U53 904 93 from by rw [eU54]; exact Xi_ne (by omega)).trans ((show Xi U53 904 93 = Xi S 904 93 from by rw [eU53]; exact Xi_ne (by omega)))))))
          have w1269 : 0 ≤ Xi S 904 93 ∧ Xi S 904 93 ≤ 1700 := hH.c _ _
          have w1264 : Xi S 904 8 ≤ Xi T58 904 8 ∧ Xi T58 904 8 ≤ n ∧ Xi S 904 69 ≤ Xi T58 904 69 ∧ (Xi T58 904 65 = 0 → Xi S 904 65 = 0) := by omega
          clear w1257
          refine l_pfi rfl rfl rfl rfl ?_
          obtain ⟨U59, eU59⟩ : ∃ T : sS, T = uI T58 904 78 (Int32.ofInt z1262) := ⟨_, rfl⟩
          rw [← eU59]
          have hHU59 : HI U59 := by rw [eU59]; exact HI_w hHT58 (show -2 ≤ z1262 by omega) (show z1262 ≤ 5010 by omega)
          have hFU59 : FR md_mo_rest__2 S U59 := by rw [eU59]; exact FR.wI hFT58 (mdf_i (r := (904, 905, 78, 79)) (List.mem_of_getElem? (i := 9) rfl) (inR_i (by omega) (by omega) (by omega) (by omega)))
          have w1270 : Xi U59 904 78 = z1262 := by rw [eU59]; exact Xi_same (by unfold rg; omega)
          refine l_goto rfl rfl ?_
          refine l_return rfl rfl ?_
          have w1271 : Xi U59 904 65 = Xi T58 904 65 := (show Xi U59 904 65 = Xi T58 904 65 from by rw [eU59]; exact Xi_ne (by omega))
          have w1272 : 0 ≤ Xi T58 904 65 ∧ Xi T58 904 65 ≤ 1 := hHT58.c _ _
          have w1273 : Xi U59 904 69 = Xi T58 904 69 := (show Xi U59 904 69 = Xi T58 904 69 from by rw [eU59]; exact Xi_ne (by omega))
          have w1274 : 0 ≤ Xi T58 904 69 ∧ Xi T58 904 69 ≤ 2600 := hHT58.c _ _
          have w1275 : Xi U59 904 70 = Xi U54 904 70 := (show Xi U59 904 70 = Xi T58 904 70 from by rw [eU59]; exact Xi_ne (by omega)).trans ( (show Xi T58 904 70 = Xi U57 904 70 from w1263.x _ _ rfl).trans ( (show Xi U57 904 70 = Xi U56 904 70 from by rw [eU57]; exact Xi_ne (by omega)).trans ( (show Xi U56 904 70 = Xi U55 904 70 from by rw [eU56]; exact Xi_ne (by omega)).trans ((show Xi U55 904 70 = Xi U54 904 70 from by rw [eU55]; exact Xi_ne (by omega))))))
          have w1276 : 0 ≤ Xi U54 904 70 ∧ Xi U54 904 70 ≤ 20 := hHU54.c _ _
          have w1277 : Xi U59 904 71 = Xi S 904 71 := (show Xi U59 904 71 = Xi T58 904 71 from by rw [eU59]; exact Xi_ne (by omega)).trans ( (show Xi T58 904 71 = Xi U57 904 71 from w1263.x _ _ rfl).trans ( (show Xi U57 904 71 = Xi U56 904 71 from by rw [eU57]; exact Xi_ne (by omega)).trans ( (show Xi U56 904 71 = Xi U55 904 71 from by rw [eU56]; exact Xi_ne (by omega)).trans ( (show Xi U55 904 71 = Xi U54 904 71 from by rw [eU55]; exact Xi_ne (by omega)).trans ( (show Xi U54 904 71 = Xi U53 904 71 from by rw [eU54]; exact Xi_ne (by omega)).trans ((show Xi U53 904 71 = Xi S 904 71 from by rw [eU53]; exact Xi_ne (by omega))))))))
          have w1278 : 0 ≤ Xi S 904 71 ∧ Xi S 904 71 ≤ 2600 := hH.c _ _
          have w1279 : Xi U59 904 72 = Xi S 904 72 := (show Xi U59 904 72 = Xi T58 904 72 from by rw [eU59]; exact Xi_ne (by omega)).trans ( (show Xi T58 904 72 = Xi U57 904 72 from w1263.x _ _ rfl).trans ( (show Xi U57 904 72 = Xi U56 904 72 from by rw [eU57]; exact Xi_ne (by omega)).trans ( (show Xi U56 904 72 = Xi U55 904 72 from by rw [eU56]; exact Xi_ne (by omega)).trans ( (show Xi U55 904 72 = Xi U54 904 72 from by rw [eU55]; exact Xi_ne (by omega)).trans ( (show Xi U54 904 72 = Xi U53 904 72 from by rw [eU54]; exact Xi_ne (by omega)).trans ((show Xi U53 904 72 = Xi S 904 72 from by rw [eU53]; exact Xi_ne (by omega))))))))
          have w1280 : 0 ≤ Xi S 904 72 ∧ Xi S 904 72 ≤ 2600 := hH.c _ _
          have w1281 : Xi U59 904 73 = Xi U53 904 73 := (show Xi U59 904 73 = Xi T58 904 73 from by rw [eU59]; exact Xi_ne (by omega)).trans ( (show Xi T58 904 73 = Xi U57 904 73 from w1263.x _ _ rfl).trans ( (show Xi U57 904 73 = Xi U56 904 73 from by rw [eU57]; exact Xi_ne (by omega)).trans ( (show Xi U56 904 73 = Xi U55 904 73 from by rw [eU56]; exact Xi_ne (by omega)).trans ( (show Xi U55 904 73 = Xi U54 904 73 from by rw [eU55]; exact Xi_ne (by omega)).trans ((show Xi U54 904 73 = Xi U53 904 73 from by rw [eU54]; exact Xi_ne (by omega)))))))
          have w1282 : 0 ≤ Xi U53 904 73 ∧ Xi U53 904 73 ≤ 5 := hHU53.c _ _
          have w1283 : Xi U59 904 74 = Xi S 904 74 := (show Xi U59 904 74 = Xi T58 904 74 from by rw [eU59]; exact Xi_ne (by omega)).trans ( (show Xi T58 904 74 = Xi U57 904 74 from w1263.x _ _ rfl).trans ( (show Xi U57 904 74 = Xi U56 904 74 from by rw [eU57]; exact Xi_ne (by omega)).trans ( (show Xi U56 904 74 = Xi U55 904 74 from by rw [eU56]; exact Xi_ne (by omega)).trans ( (show Xi U55 904 74 = Xi U54 904 74 from by rw [eU55]; exact Xi_ne (by omega)).trans ( (show Xi U54 904 74 = Xi U53 904 74 from by rw [eU54]; exact Xi_ne (by omega)).trans ((show Xi U53 904 74 = Xi S 904 74 from by rw [eU53]; exact Xi_ne (by omega))))))))
          have w1284 : 0 ≤ Xi S 904 74 ∧ Xi S 904 74 ≤ 2600 := hH.c _ _
          have w1285 : -2 ≤ Xi U59 904 78 ∧ Xi U59 904 78 ≤ 5010 := hHU59.c _ _
          have w1286 : Xi U59 904 8 = Xi T58 904 8 := (show Xi U59 904 8 = Xi T58 904 8 from by rw [eU59]; exact Xi_ne (by omega))
          have w1287 : 0 ≤ Xi T58 904 8 ∧ Xi T58 904 8 ≤ 5010 := hHT58.c _ _
          have w1288 : Xi U59 904 93 = Xi S 904 93 := (show Xi U59 904 93 = Xi T58 904 93 from by rw [eU59]; exact Xi_ne (by omega)).trans ( (show Xi T58 904 93 = Xi U57 904 93 from w1263.x _ _ rfl).trans ( (show Xi U57 904 93 = Xi U56 904 93 from by rw [eU57]; exact Xi_ne (by omega)).trans ( (show Xi U56 904 93 = Xi U55 904 93 from by rw [eU56]; exact Xi_ne (by omega)).trans ( (show Xi U55 904 93 = Xi U54 904 93 from by rw [eU55]; exact Xi_ne (by omega)).trans ( (show Xi U54 904 93 = Xi U53 904 93 from by rw [eU54]; exact Xi_ne (by omega)).trans ((show Xi U53 904 93 = Xi S 904 93 from by rw [eU53]; exact Xi_ne (by omega))))))))
          have w1289 : 0 ≤ Xi S 904 93 ∧ Xi S 904 93 ≤ 1700 := hH.c _ _
          exact ⟨hHU59, hFU59, rfl, (by first | assumption | exact (AT_FR (FR_e eU59) rfl (by assumption : AT T58 _ _))), (by omega), (by first | assumption | exact (RNV_FR (FR_e eU59) rfl (by assumption : RNV T58 _))), (by omega), (by omega), (by omega), (fun q => by unfold SNQ; refine ⟨fun q1 => absurd q1 (by omega), by omega, by omega, by omega, fun q9 => absurd q9 (by omega), by omega, by omega, by omega, by omega, by omega⟩), (by omega), (by first | assumption | exact (BDA_FR (FR_e eU59) rfl (by assumption : BDA T58)))⟩
        · refine l_aload_n rfl rfl ?_
          refine l_bipush rfl rfl ?_
          refine l_pfi rfl rfl rfl rfl ?_
          obtain ⟨U60, eU60⟩ : ∃ T : sS, T = uI U57 904 78 (Int32.ofInt (-2)) := ⟨_, rfl⟩
          rw [← eU60]
          have hHU60 : HI U60 := by rw [eU60]; exact HI_w hHU57 (show -2 ≤ (-2) by omega) (show (-2) ≤ 5010 by omega)
          have hFU60 : FR md_mo_rest__2 S U60 := by rw [eU60]; exact FR.wI hFU57 (mdf_i (r := (904, 905, 78, 79)) (List.mem_of_getElem? (i := 9) rfl) (inR_i (by omega) (by omega) (by omega) (by omega)))
          have w1290 : Xi U60 904 78 = (-2) := by rw [eU60]; exact Xi_same (by unfold rg; omega)
          refine l_aload_n rfl rfl ?_
          refine l_dup rfl rfl ?_
          refine l_gfi rfl rfl rfl rfl rfl ?_
          have w1291 : (Xi U60 904 8) = (Xi U57 904 8) := (show Xi U60 904 8 = Xi U57 904 8 from by rw [eU60]; exact Xi_ne (by omega))
          rw [w1291]
          refine l_iconst rfl ?_
          refine l_iadd rfl ?_
          refine l_pfi rfl rfl rfl rfl ?_
          obtain ⟨U61, eU61⟩ : ∃ T : sS, T = uI U60 904 8 (Int32.ofInt ((Xi U57 904 8) + 1)) := ⟨_, rfl⟩
          rw [← eU61]
          have hHU61 : HI U61 := by rw [eU61]; exact HI_w hHU60 (show 0 ≤ ((Xi U57 904 8) + 1) by omega) (show ((Xi U57 904 8) + 1) ≤ 5010 by omega)
          have hFU61 : FR md_mo_rest__2 S U61 := by rw [eU61]; exact FR.wI hFU60 (mdf_i (r := (904, 905, 8, 9)) (List.mem_of_getElem? (i := 0) rfl) (inR_i (by omega) (by omega) (by omega) (by omega)))
          have w1292 : Xi U61 904 8 = ((Xi U57 904 8) + 1) := by rw [eU61]; exact Xi_same (by unfold rg; omega)
          have t94 : AT U61 n c ∧ _ := (at_mv (S := U57) (P := U60) (TK_FR hFU57 rfl (by assumption : TK S _)) (by first | assumption | exact (by assumption : AT U57 _ _)) (fun j => ((FR_e eU60).cx 907 rfl j).1) (fun j => ((FR_e eU60).cx 908 rfl j).1) ((show Xi U60 904 8 = Xi U57 904 8 from by rw [eU60]; exact Xi_ne (by omega))) ((show Xi U60 904 65 = Xi U57 904 65 from by rw [eU60]; exact Xi_ne (by omega))) ((show Xi U60 904 69 = Xi U57 904 69 from by rw [eU60]; exact Xi_ne (by omega))) ((show Xi U60 904 93 = Xi U57 904 93 from by rw [eU60]; exact Xi_ne (by omega))) eU61 (by omega) (by omega) (by omega) (by omega) (Or.inl rfl))
          have a94 : AT U61 n c := t94.1
          have l94 := t94.2
          refine l_goto rfl rfl ?_
          refine l_return rfl rfl ?_
          have w1293 : Xi U61 904 65 = Xi S 904 65 := (show Xi U61 904 65 = Xi U60 904 65 from by rw [eU61]; exact Xi_ne (by omega)).trans ( (show Xi U60 904 65 = Xi U57 904 65 from by rw [eU60]; exact Xi_ne (by omega)).trans ( (show Xi U57 904 65 = Xi U56 904 65 from by rw [eU57]; exact Xi_ne (by omega)).trans ( (show Xi U56 904 65 = Xi U55 904 65 from by rw [eU56]; exact Xi_ne (by omega)).trans ( (show Xi U55 904 65 = Xi U54 904 65 from by rw [eU55]; exact Xi_ne (by omega)).trans ( (show Xi U54 904 65 = Xi U53 904 65 from by rw [eU54]; exact Xi_ne (by omega)).trans ((show Xi U53 904 65 = Xi S 904 65 from by rw [eU53]; exact Xi_ne (by omega))))))))
          have w1294 : 0 ≤ Xi S 904 65 ∧ Xi S 904 65 ≤ 1 := hH.c _ _
          have w1295 : Xi U61 904 69 = Xi S 904 69 := (show Xi U61 904 69 = Xi U60 904 69 from by rw [eU61]; exact Xi_ne (by omega)).trans ( (show Xi U60 904 69 = Xi U57 904 69 from by rw [eU60]; exact Xi_ne (by omega)).trans ( (show Xi U57 904 69 = Xi U56 904 69 from by rw [eU57]; exact Xi_ne (by omega)).trans ( (show Xi U56 904 69 = Xi U55 904 69 from by rw [eU56]; exact Xi_ne (by omega)).trans ( (show Xi U55 904 69 = Xi U54 904 69 from by rw [eU55]; exact Xi_ne (by omega)).trans ( (show Xi U54 904 69 = Xi U53 904 69 from by rw [eU54]; exact Xi_ne (by omega)).trans ((show Xi U53 904 69 = Xi S 904 69 from by rw [eU53]; exact Xi_ne (by omega))))))))
          have w1296 : 0 ≤ Xi S 904 69 ∧ Xi S 904 69 ≤ 2600 := hH.c _ _
          have w1297 : Xi U61 904 70 = Xi U54 904 70 := (show Xi U61 904 70 = Xi U60 904 70 from by rw [eU61]; exact Xi_ne (by omega)).trans ( (show Xi U60 904 70 = Xi U57 904 70 from by rw [eU60]; exact Xi_ne (by omega)).trans ( (show Xi U57 904 70 = Xi U56 904 70 from by rw [eU57]; exact Xi_ne (by omega)).trans ( (show Xi U56 904 70 = Xi U55 904 70 from by rw [eU56]; exact Xi_ne (by omega)).trans ((show Xi U55 904 70 = Xi U54 904 70 from by rw [eU55]; exact Xi_ne (by omega))))))
          have w1298 : 0 ≤ Xi U54 904 70 ∧ Xi U54 904 70 ≤ 20 := hHU54.c _ _
          have w1299 : Xi U61 904 71 = Xi S 904 71 := (show Xi U61 904 71 = Xi U60 904 71 from by rw [eU61]; exact Xi_ne (by omega)).trans ( (show Xi U60 904 71 = Xi U57 904 71 from by rw [eU60]; exact Xi_ne (by omega)).trans ( (show Xi U57 904 71 = Xi U56 904 71 from by rw [eU57]; exact Xi_ne (by omega)).trans ( (show Xi U56 904 71 = Xi U55 904 71 from by rw [eU56]; exact Xi_ne (by omega)).trans ( (show Xi U55 904 71 = Xi U54 904 71 from by rw [eU55]; exact Xi_ne (by omega)).trans ( (show Xi U54 904 71 = Xi U53 904 71 from by rw [eU54]; exact Xi_ne (by omega)).trans ((show Xi U53 904 71 = Xi S 904 71 from by rw [eU53]; exact Xi_ne (by omega))))))))
          have w1300 : 0 ≤ Xi S 904 71 ∧ Xi S 904 71 ≤ 2600 := hH.c _ _
          have w1301 : Xi U61 904 72 = Xi S 904 72 := (show Xi U61 904 72 = Xi U60 904 72 from by rw [eU61]; exact Xi_ne (by omega)).trans ( (show Xi U60 904 72 = Xi U57 904 72 from by rw [eU60]; exact Xi_ne (by omega)).trans ( (show Xi U57 904 72 = Xi U56 904 72 from by rw [eU57]; exact Xi_ne (by omega)).trans ( (show Xi U56 904 72 = Xi U55 904 72 from by rw [eU56]; exact Xi_ne (by omega)).trans ( (show Xi U55 904 72 = Xi U54 904 72 from by rw [eU55]; exact Xi_ne (by omega)).trans ( (show Xi U54 904 72 = Xi U53 904 72 from by rw [eU54]; exact Xi_ne (by omega)).trans ((show Xi U53 904 72 = Xi S 904 72 from by rw [eU53]; exact Xi_ne (by omega))))))))
          have w1302 : 0 ≤ Xi S 904 72 ∧ Xi S 904 72 ≤ 2600 := hH.c _ _
          have w1303 : Xi U61 904 73 = Xi U53 904 73 := (show Xi U61 904 73 = Xi U60 904 73 from by rw [eU61]; exact Xi_ne (by omega)).trans ( (show Xi U60 904 73 = Xi U57 904 73 from by rw [eU60]; exact Xi_ne (by omega)).trans ( (show Xi U57 904 73 = Xi U56 904 73 from by rw [eU57]; exact Xi_ne (by omega)).trans ( (show Xi U56 904 73 = Xi U55 904 73 from by rw [eU56]; exact Xi_ne (by omega)).trans ( (show Xi U55 904 73 = Xi U54 904 73 from by rw [eU55]; exact Xi_ne (by omega)).trans ((show Xi U54 904 73 = Xi U53 904 73 from by rw [eU54]; exact Xi_ne (by omega)))))))
          have w1304 : 0 ≤ Xi U53 904 73 ∧ Xi U53 904 73 ≤ 5 := hHU53.c _ _
          have w1305 : Xi U61 904 74 = Xi S 904 74 := (show Xi U61 904 74 = Xi U60 904 74 from by rw [eU61]; exact Xi_ne (by omega)).trans ( (show Xi U60 904 74 = Xi U57 904 74 from by rw [eU60]; exact Xi_ne (by omega)).trans ( (show Xi U57 904 74 = Xi U56 904 74 from by rw [eU57]; exact Xi_ne (by omega)).trans ( (show Xi U56 904 74 = Xi U55 904 74 from by rw [eU56]; exact Xi_ne (by omega)).trans ( (show Xi U55 904 74 = Xi U54 904 74 from by rw [eU55]; exact Xi_ne (by omega)).trans ( (show Xi U54 904 74 = Xi U53 904 74 from by rw [eU54]; exact Xi_ne (by omega)).trans ((show Xi U53 904 74 = Xi S 904 74 from by rw [eU53]; exact Xi_ne (by omega))))))))
          have w1306 : 0 ≤ Xi S 904 74 ∧ Xi S 904 74 ≤ 2600 := hH.c _ _
          have w1307 : Xi U61 904 78 = Xi U60 904 78 := (show Xi U61 904 78 = Xi U60 904 78 from by rw [eU61]; exact Xi_ne (by omega))
          have w1308 : -2 ≤ Xi U60 904 78 ∧ Xi U60 904 78 ≤ 5010 := hHU60.c _ _
          have w1309 : 0 ≤ Xi U61 904 8 ∧ Xi U61 904 8 ≤ 5010 := hHU61.c _ _
          have w1310 : Xi U61 904 93 = Xi S 904 93 := (show Xi U61 904 93 = Xi U60 904 93 from by rw [eU61]; exact Xi_ne (by omega)).trans ( (show Xi U60 904 93 = Xi U57 904 93 from by rw [eU60]; exact Xi_ne (by omega)).trans ( (show Xi U57 904 93 = Xi U56 904 93 from by rw [eU57]; exact Xi_ne (by omega)).trans ( (show Xi U56 904 93 = Xi U55 904 93 from by rw [eU56]; exact Xi_ne (by omega)).trans ( (show Xi U55 904 93 = Xi U54 904 93 from by rw [eU55]; exact Xi_ne (by omega)).trans ( (show Xi U54 904 93 = Xi U53 904 93 from by rw [eU54]; exact Xi_ne (by omega)).trans ((show Xi U53 904 93 = Xi S 904 93 from by rw [eU53]; exact Xi_ne (by omega))))))))
          have w1311 : 0 ≤ Xi S 904 93 ∧ Xi S 904 93 ≤ 1700 := hH.c _ _
          exact ⟨hHU61, hFU61, rfl, (by first | assumption | exact (by assumption : AT U61 _ _)), (by omega), (by first | assumption | exact (RNV_FR (FR_e eU61) rfl (RNV_FR (FR_e eU60) rfl (RNV_FR (FR_e eU57) rfl (RNV_FR (FR_e eU56) rfl (RNV_FR (FR_e eU55) rfl (RNV_FR (FR_e eU54) rfl (RNV_FR (FR_e eU53) rfl (by assumption : RNV S _))))))))), (by omega), (by omega), (by omega), (fun q => by unfold SNQ; refine ⟨fun q1 => absurd q1 (by omega), by omega, by omega, by omega, fun q9 => absurd q9 (by omega), by omega, by omega, by omega, by omega, by omega⟩), (by omega), (by first | assumption | exact (BDA_FR (FR_e eU61) rfl (BDA_FR (FR_e eU60) rfl (BDA_FR (FR_e eU57) rfl (BDA_FR (FR_e eU56) rfl (BDA_FR (FR_e eU55) rfl (BDA_FR (FR_e eU54) rfl (BDA_FR (FR_e eU53) rfl (by assumption : BDA S)))))))))⟩

