/-! SAFETY of methods: printed by wip/safe (vc.py, decl.py) -/
def md_mo_rest : List rec := [(904, 905, 8, 9), (904, 905, 65, 66), (904, 905, 66, 67), (904, 905, 69, 70), (904, 905, 70, 71), (904, 905, 73, 74), (904, 905, 74, 75), (904, 905, 75, 76), (904, 905, 76, 77), (904, 905, 78, 79), (950, 951, 0, 100000), (951, 952, 0, 100000)]
abbrev Q_mo_rest (S : sS) (n : Nat) (c : Nat) : pst := fun r S1 => HI S1 ∧ FR md_mo_rest S S1 ∧ (r = none ∧ (AT S1 n c) ∧ (Xi S 904 8 ≤ Xi S1 904 8 ∧ Xi S1 904 8 ≤ n) ∧ (RNV S1 n) ∧ (Xi S1 904 65 = 0 → Xi S 904 65 = 0) ∧ (Xi S 904 69 ≤ Xi S1 904 69) ∧ (10 ≤ Xi S1 904 70 ∧ Xi S1 904 70 ≤ 16) ∧ (Xi S1 904 65 = 0 → SNQ S1 n))
set_option maxRecDepth 100000 in
set_option maxHeartbeats 8000000 in
theorem t_mo_rest {S : sS} (hH : HI S) (n : Nat) (c : Nat) (hT : TK S n) (hA : AT S n c) (hv : RNV S n) (hb : Xi S 904 65 = 0) (hl : Xi S 904 71 + Xi S 904 72 ≤ Xi S 904 69 ∧ 1 ≤ Xi S 904 72) (d : Nat) : Mt lay0 (d + 4) m_mo_rest [.ref 904] S (Q_mo_rest S n c) := by
  refine Mt_R rfl rfl ?_
  have hF : FR md_mo_rest S S := FR.rf
  have w1 : 0 ≤ Xi S 904 65 ∧ Xi S 904 65 ≤ 1 := hH.c _ _
  have w2 : 0 ≤ Xi S 904 69 ∧ Xi S 904 69 ≤ 2600 := hH.c _ _
  have w3 : 0 ≤ Xi S 904 70 ∧ Xi S 904 70 ≤ 20 := hH.c _ _
  have w4 : 0 ≤ Xi S 904 71 ∧ Xi S 904 71 ≤ 2600 := hH.c _ _
  have w5 : 0 ≤ Xi S 904 72 ∧ Xi S 904 72 ≤ 2600 := hH.c _ _
  have w6 : 0 ≤ Xi S 904 73 ∧ Xi S 904 73 ≤ 5 := hH.c _ _
  have w7 : -2 ≤ Xi S 904 78 ∧ Xi S 904 78 ≤ 5010 := hH.c _ _
  have w8 : 0 ≤ Xi S 904 8 ∧ Xi S 904 8 ≤ 5010 := hH.c _ _
  have hn5 := hT.1
  have hat := hA
  have h8 : 0 ≤ Xi S 904 8 ∧ Xi S 904 8 ≤ 5010 := hH.c _ _
  have h69 : 0 ≤ Xi S 904 69 ∧ Xi S 904 69 ≤ 2600 := hH.c _ _
  have ha0 : Xi S 904 65 = 0 → Xi S 904 8 ≤ n := fun q => (hA q).1
  have ha3 : Xi S 904 65 = 0 → 2 * Xi S 904 69 ≤ Xi S 904 8 + 1 := fun q => (hA q).2.1
  clear hat
  have hx := ha0 hb
  have C111 : ∀  (T1 : sS) (_ : HI T1) (_ : FR md_mo_rest S T1) (v1 : Int), (0 ≤ v1 ∧ v1 ≤ 154) → (AT T1 n c) → (RNV T1 n) → (v1 ≠ 1 → Xi T1 904 65 = 0 ∧ Xi T1 907 (Xi T1 904 8).toNat = v1) → (Xi T1 904 8 = Xi S 904 8) → (Xi T1 904 65 = 0) → (Xi T1 904 69 = Xi S 904 69) → (Xi T1 904 71 = Xi S 904 71 ∧ Xi T1 904 72 = Xi S 904 72) → (Xi T1 904 73 = 0) → Rl lay0 (d + 3) m_mo_rest 111 [(0, .ref 904), (1, iv v1)] [] T1 (Q_mo_rest S n c) := by
    intro T1 hHT1 hFT1 v1 w9 A111 V111 w10 w11 w12 w13 w14 w15
    have w16 : Xi T1 904 71 = Xi S 904 71 := hFT1.x _ _ rfl
    have w17 : Xi T1 904 72 = Xi S 904 72 := hFT1.x _ _ rfl
    have w18 : 0 ≤ Xi T1 904 65 ∧ Xi T1 904 65 ≤ 1 := hHT1.c _ _
    have w19 : 0 ≤ Xi T1 904 69 ∧ Xi T1 904 69 ≤ 2600 := hHT1.c _ _
    have w20 : 0 ≤ Xi T1 904 71 ∧ Xi T1 904 71 ≤ 2600 := hHT1.c _ _
    have w21 : 0 ≤ Xi T1 904 72 ∧ Xi T1 904 72 ≤ 2600 := hHT1.c _ _
    have w22 : 0 ≤ Xi T1 904 73 ∧ Xi T1 904 73 ≤ 5 := hHT1.c _ _
    have w23 : 0 ≤ Xi T1 904 8 ∧ Xi T1 904 8 ≤ 5010 := hHT1.c _ _
    have C197 : ∀  (v1 : Int), (0 ≤ v1 ∧ v1 ≤ 154) → (AT T1 n c) → (RNV T1 n) → (v1 ≠ 1 → Xi T1 904 65 = 0 ∧ Xi T1 907 (Xi T1 904 8).toNat = v1) → (Xi T1 904 8 = Xi S 904 8) → (Xi T1 904 65 = 0) → (Xi T1 904 69 = Xi S 904 69) → (Xi T1 904 71 = Xi S 904 71 ∧ Xi T1 904 72 = Xi S 904 72) → (Xi T1 904 73 = 0) → Rl lay0 (d + 3) m_mo_rest 197 [(0, .ref 904), (1, iv v1)] [] T1 (Q_mo_rest S n c) := by
      intro v1 w24 A197 V197 w25 w26 w27 w28 w29 w30
      have C313 : ∀  (T2 : sS) (_ : HI T2) (_ : FR md_mo_rest S T2), (AT T2 n c) → (RNV T2 n) → (v1 ≠ 1 → Xi T2 904 65 = 0 ∧ Xi T2 907 (Xi T2 904 8).toNat = v1) → (Xi T2 904 8 = Xi S 904 8) → (Xi T2 904 65 = 0) → (Xi T2 904 69 = Xi S 904 69) → (Xi T2 904 71 = Xi S 904 71 ∧ Xi T2 904 72 = Xi S 904 72) → (Xi T2 904 73 = 0) → (Xi T2 904 70 = 15) → (v1 ≠ 1) → Rl lay0 (d + 3) m_mo_rest 313 [(0, .ref 904)] [] T2 (Q_mo_rest S n c) := by
        intro T2 hHT2 hFT2 A313 V313 L313 w31 w32 w33 w34 w35 w36 w37
        have w38 : Xi T2 904 71 = Xi S 904 71 := hFT2.x _ _ rfl
        have w39 : Xi T2 904 72 = Xi S 904 72 := hFT2.x _ _ rfl
        have w40 : 0 ≤ Xi T2 904 65 ∧ Xi T2 904 65 ≤ 1 := hHT2.c _ _
        have w41 : 0 ≤ Xi T2 904 69 ∧ Xi T2 904 69 ≤ 2600 := hHT2.c _ _
        have w42 : 0 ≤ Xi T2 904 70 ∧ Xi T2 904 70 ≤ 20 := hHT2.c _ _
        have w43 : 0 ≤ Xi T2 904 71 ∧ Xi T2 904 71 ≤ 2600 := hHT2.c _ _
        have w44 : 0 ≤ Xi T2 904 72 ∧ Xi T2 904 72 ≤ 2600 := hHT2.c _ _
        have w45 : 0 ≤ Xi T2 904 73 ∧ Xi T2 904 73 ≤ 5 := hHT2.c _ _
        have w46 : 0 ≤ Xi T2 904 8 ∧ Xi T2 904 8 ≤ 5010 := hHT2.c _ _
        refine l_aload_n rfl rfl ?_
        refine l_dup rfl rfl ?_
        refine l_gfi rfl rfl rfl rfl rfl ?_
        refine l_iconst rfl ?_
        refine l_iadd rfl ?_
        refine l_pfi rfl rfl rfl rfl ?_
        obtain ⟨U3, eU3⟩ : ∃ T : sS, T = uI T2 904 8 (Int32.ofInt ((Xi T2 904 8) + 1)) := ⟨_, rfl⟩
        rw [← eU3]
        have hHU3 : HI U3 := by rw [eU3]; exact HI_w hHT2 (show 0 ≤ ((Xi T2 904 8) + 1) by omega) (show ((Xi T2 904 8) + 1) ≤ 5010 by omega)
        have hFU3 : FR md_mo_rest S U3 := by rw [eU3]; exact FR.wI hFT2 (mdf_i (r := (904, 905, 8, 9)) (List.mem_of_getElem? (i := 0) rfl) (inR_i (by omega) (by omega) (by omega) (by omega)))
        have w47 : Xi U3 904 8 = ((Xi T2 904 8) + 1) := by rw [eU3]; exact Xi_same (by unfold rg; omega)
        have t320 : AT U3 n c ∧ _ := (at_mv (S := T2) (P := T2) (TK_FR hFT2 rfl (by assumption : TK S _)) (by first | assumption | exact (by assumption : AT T2 _ _)) (fun j => rfl) (fun j => rfl) (rfl) (rfl) (rfl) (rfl) eU3 (by omega) (by omega) (by omega) (by omega) (Or.inl rfl))
        have a320 : AT U3 n c := t320.1
        have l320 := t320.2
        refine l_aload_n rfl rfl ?_
        refine l_aload_n rfl rfl ?_
        have w48 : Xi U3 904 65 = Xi T2 904 65 := (show Xi U3 904 65 = Xi T2 904 65 from by rw [eU3]; exact Xi_ne (by omega))
        have w49 : 0 ≤ Xi T2 904 65 ∧ Xi T2 904 65 ≤ 1 := hHT2.c _ _
        have w50 : Xi U3 904 69 = Xi T2 904 69 := (show Xi U3 904 69 = Xi T2 904 69 from by rw [eU3]; exact Xi_ne (by omega))
        have w51 : 0 ≤ Xi T2 904 69 ∧ Xi T2 904 69 ≤ 2600 := hHT2.c _ _
        have w52 : Xi U3 904 70 = Xi T2 904 70 := (show Xi U3 904 70 = Xi T2 904 70 from by rw [eU3]; exact Xi_ne (by omega))
        have w53 : 0 ≤ Xi T2 904 70 ∧ Xi T2 904 70 ≤ 20 := hHT2.c _ _
        have w54 : Xi U3 904 71 = Xi T2 904 71 := (show Xi U3 904 71 = Xi T2 904 71 from by rw [eU3]; exact Xi_ne (by omega))
        have w55 : 0 ≤ Xi T2 904 71 ∧ Xi T2 904 71 ≤ 2600 := hHT2.c _ _
        have w56 : Xi U3 904 72 = Xi T2 904 72 := (show Xi U3 904 72 = Xi T2 904 72 from by rw [eU3]; exact Xi_ne (by omega))
        have w57 : 0 ≤ Xi T2 904 72 ∧ Xi T2 904 72 ≤ 2600 := hHT2.c _ _
        have w58 : Xi U3 904 73 = Xi T2 904 73 := (show Xi U3 904 73 = Xi T2 904 73 from by rw [eU3]; exact Xi_ne (by omega))
        have w59 : 0 ≤ Xi T2 904 73 ∧ Xi T2 904 73 ≤ 5 := hHT2.c _ _
        have w60 : Xi U3 904 74 = Xi T2 904 74 := (show Xi U3 904 74 = Xi T2 904 74 from by rw [eU3]; exact Xi_ne (by omega))
        have w61 : 0 ≤ Xi T2 904 74 ∧ Xi T2 904 74 ≤ 2600 := hHT2.c _ _
        have w62 : Xi U3 904 78 = Xi T2 904 78 := (show Xi U3 904 78 = Xi T2 904 78 from by rw [eU3]; exact Xi_ne (by omega))
        have w63 : -2 ≤ Xi T2 904 78 ∧ Xi T2 904 78 ≤ 5010 := hHT2.c _ _
        have w64 : 0 ≤ Xi U3 904 8 ∧ Xi U3 904 8 ≤ 5010 := hHU3.c _ _
        have w65 : Xi U3 904 93 = Xi T2 904 93 := (show Xi U3 904 93 = Xi T2 904 93 from by rw [eU3]; exact Xi_ne (by omega))
        have w66 : 0 ≤ Xi T2 904 93 ∧ Xi T2 904 93 ≤ 1700 := hHT2.c _ _
        refine l_callV rfl rfl rfl (t_mo_run hHU3 n c (by first | assumption | exact (TK_FR hFU3 rfl (by assumption : TK S _))) (by first | assumption | exact (by assumption : AT U3 _ _)) (by first | assumption | exact (RNV_FR (FR_e eU3) rfl (by assumption : RNV T2 _))) _) ?_
        rintro _ T4 ⟨hHT4, w73, z72, rfl, w72, w67, w68, w69, w70, w71⟩
        have hFT4 : FR md_mo_rest S T4 := FR.tr hFU3 w73 rfl
        show Rl _ _ _ _ _ [iv z72, .ref 904] _ _
        have w75 : 0 ≤ Xi T4 904 8 ∧ Xi T4 904 8 ≤ 5010 := hHT4.c _ _
        have w76 : 0 ≤ Xi T4 904 65 ∧ Xi T4 904 65 ≤ 1 := hHT4.c _ _
        have w77 : 0 ≤ Xi T4 904 69 ∧ Xi T4 904 69 ≤ 2600 := hHT4.c _ _
        have w78 : Xi T4 904 93 = Xi T2 904 93 := (show Xi T4 904 93 = Xi U3 904 93 from w73.x _ _ rfl).trans ((show Xi U3 904 93 = Xi T2 904 93 from by rw [eU3]; exact Xi_ne (by omega)))
        have w79 : 0 ≤ Xi T2 904 93 ∧ Xi T2 904 93 ≤ 1700 := hHT2.c _ _
        have w74 : Xi S 904 8 ≤ Xi T4 904 8 ∧ Xi T4 904 8 ≤ n ∧ Xi S 904 69 ≤ Xi T4 904 69 ∧ (Xi T4 904 65 = 0 → Xi S 904 65 = 0) := by omega
        clear w68
        refine l_pfi rfl rfl rfl rfl ?_
        obtain ⟨U5, eU5⟩ : ∃ T : sS, T = uI T4 904 78 (Int32.ofInt z72) := ⟨_, rfl⟩
        rw [← eU5]
        have hHU5 : HI U5 := by rw [eU5]; exact HI_w hHT4 (show -2 ≤ z72 by omega) (show z72 ≤ 5010 by omega)
        have hFU5 : FR md_mo_rest S U5 := by rw [eU5]; exact FR.wI hFT4 (mdf_i (r := (904, 905, 78, 79)) (List.mem_of_getElem? (i := 9) rfl) (inR_i (by omega) (by omega) (by omega) (by omega)))
        have w80 : Xi U5 904 78 = z72 := by rw [eU5]; exact Xi_same (by unfold rg; omega)
        refine l_goto rfl rfl ?_
        refine l_return rfl rfl ?_
        have w81 : Xi U5 904 65 = Xi T4 904 65 := (show Xi U5 904 65 = Xi T4 904 65 from by rw [eU5]; exact Xi_ne (by omega))
        have w82 : 0 ≤ Xi T4 904 65 ∧ Xi T4 904 65 ≤ 1 := hHT4.c _ _
        have w83 : Xi U5 904 69 = Xi T4 904 69 := (show Xi U5 904 69 = Xi T4 904 69 from by rw [eU5]; exact Xi_ne (by omega))
        have w84 : 0 ≤ Xi T4 904 69 ∧ Xi T4 904 69 ≤ 2600 := hHT4.c _ _
        have w85 : Xi U5 904 70 = Xi T2 904 70 := (show Xi U5 904 70 = Xi T4 904 70 from by rw [eU5]; exact Xi_ne (by omega)).trans ( (show Xi T4 904 70 = Xi U3 904 70 from w73.x _ _ rfl).trans ((show Xi U3 904 70 = Xi T2 904 70 from by rw [eU3]; exact Xi_ne (by omega))))
        have w86 : 0 ≤ Xi T2 904 70 ∧ Xi T2 904 70 ≤ 20 := hHT2.c _ _
        have w87 : Xi U5 904 71 = Xi T2 904 71 := (show Xi U5 904 71 = Xi T4 904 71 from by rw [eU5]; exact Xi_ne (by omega)).trans ( (show Xi T4 904 71 = Xi U3 904 71 from w73.x _ _ rfl).trans ((show Xi U3 904 71 = Xi T2 904 71 from by rw [eU3]; exact Xi_ne (by omega))))
        have w88 : 0 ≤ Xi T2 904 71 ∧ Xi T2 904 71 ≤ 2600 := hHT2.c _ _
        have w89 : Xi U5 904 72 = Xi T2 904 72 := (show Xi U5 904 72 = Xi T4 904 72 from by rw [eU5]; exact Xi_ne (by omega)).trans ( (show Xi T4 904 72 = Xi U3 904 72 from w73.x _ _ rfl).trans ((show Xi U3 904 72 = Xi T2 904 72 from by rw [eU3]; exact Xi_ne (by omega))))
        have w90 : 0 ≤ Xi T2 904 72 ∧ Xi T2 904 72 ≤ 2600 := hHT2.c _ _
        have w91 : Xi U5 904 73 = Xi T2 904 73 := (show Xi U5 904 73 = Xi T4 904 73 from by rw [eU5]; exact Xi_ne (by omega)).trans ( (show Xi T4 904 73 = Xi U3 904 73 from w73.x _ _ rfl).trans ((show Xi U3 904 73 = Xi T2 904 73 from by rw [eU3]; exact Xi_ne (by omega))))
        have w92 : 0 ≤ Xi T2 904 73 ∧ Xi T2 904 73 ≤ 5 := hHT2.c _ _
        have w93 : Xi U5 904 74 = Xi T2 904 74 := (show Xi U5 904 74 = Xi T4 904 74 from by rw [eU5]; exact Xi_ne (by omega)).trans ( (show Xi T4 904 74 = Xi U3 904 74 from w73.x _ _ rfl).trans ((show Xi U3 904 74 = Xi T2 904 74 from by rw [eU3]; exact Xi_ne (by omega))))
        have w94 : 0 ≤ Xi T2 904 74 ∧ Xi T2 904 74 ≤ 2600 := hHT2.c _ _
        have w95 : -2 ≤ Xi U5 904 78 ∧ Xi U5 904 78 ≤ 5010 := hHU5.c _ _
        have w96 : Xi U5 904 8 = Xi T4 904 8 := (show Xi U5 904 8 = Xi T4 904 8 from by rw [eU5]; exact Xi_ne (by omega))
        have w97 : 0 ≤ Xi T4 904 8 ∧ Xi T4 904 8 ≤ 5010 := hHT4.c _ _
        have w98 : Xi U5 904 93 = Xi T2 904 93 := (show Xi U5 904 93 = Xi T4 904 93 from by rw [eU5]; exact Xi_ne (by omega)).trans ( (show Xi T4 904 93 = Xi U3 904 93 from w73.x _ _ rfl).trans ((show Xi U3 904 93 = Xi T2 904 93 from by rw [eU3]; exact Xi_ne (by omega))))
        have w99 : 0 ≤ Xi T2 904 93 ∧ Xi T2 904 93 ≤ 1700 := hHT2.c _ _
        exact ⟨hHU5, hFU5, rfl, (by first | assumption | exact (AT_FR (FR_e eU5) rfl (by assumption : AT T4 _ _))), (by omega), (by first | assumption | exact (RNV_FR (FR_e eU5) rfl (by assumption : RNV T4 _))), (by omega), (by omega), (by omega), (fun q => by unfold SNQ; refine ⟨fun q1 => absurd q1 (by omega), by omega, by omega, by omega, fun q9 => absurd q9 (by omega), by omega, by omega, by omega, by omega, by omega⟩)⟩
      have C413 : ∀ (n413 : Nat) (T6 : sS) (_ : HI T6) (_ : FR md_mo_rest S T6), (AT T6 n c) → (RNV T6 n) → (Xi S 904 8 ≤ Xi T6 904 8 ∧ Xi T6 904 8 ≤ n) → (Xi S 904 69 ≤ Xi T6 904 69) → (Xi T6 904 70 = 16) → (Xi T6 904 65 = 0 → 0 ≤ Xi T6 904 78 ∧ Xi T6 904 78 < Xi T6 904 69) → (Xi T6 904 71 = Xi S 904 71 ∧ Xi T6 904 72 = Xi S 904 72) → n413 = (5002 - Xi T6 904 8).toNat → Rl lay0 (d + 3) m_mo_rest 413 [(0, .ref 904)] [] T6 (Q_mo_rest S n c) := by
        intro n413
        induction n413 using Nat.strongRecOn with
        | ind n413 ih413 =>
          intro T6 hHT6 hFT6 A413 V413 w100 w101 w102 w103 w104 hm413
          have w105 : Xi T6 904 71 = Xi S 904 71 := hFT6.x _ _ rfl
          have w106 : Xi T6 904 72 = Xi S 904 72 := hFT6.x _ _ rfl
          have w107 : 0 ≤ Xi T6 904 65 ∧ Xi T6 904 65 ≤ 1 := hHT6.c _ _
          have w108 : 0 ≤ Xi T6 904 69 ∧ Xi T6 904 69 ≤ 2600 := hHT6.c _ _
          have w109 : 0 ≤ Xi T6 904 70 ∧ Xi T6 904 70 ≤ 20 := hHT6.c _ _
          have w110 : 0 ≤ Xi T6 904 71 ∧ Xi T6 904 71 ≤ 2600 := hHT6.c _ _
          have w111 : 0 ≤ Xi T6 904 72 ∧ Xi T6 904 72 ≤ 2600 := hHT6.c _ _
          have w112 : -2 ≤ Xi T6 904 78 ∧ Xi T6 904 78 ≤ 5010 := hHT6.c _ _
          have w113 : 0 ≤ Xi T6 904 8 ∧ Xi T6 904 8 ≤ 5010 := hHT6.c _ _
          refine l_aload_n rfl rfl ?_
          refine l_gfi rfl rfl rfl rfl rfl ?_
          refine l_if_ne rfl rfl (by unfold rg; omega) (fun w114 => ?_) (fun w115 => ?_)
          · refine l_return rfl rfl ?_
            have w116 : 0 ≤ Xi T6 904 65 ∧ Xi T6 904 65 ≤ 1 := hHT6.c _ _
            have w117 : 0 ≤ Xi T6 904 69 ∧ Xi T6 904 69 ≤ 2600 := hHT6.c _ _
            have w118 : 0 ≤ Xi T6 904 70 ∧ Xi T6 904 70 ≤ 20 := hHT6.c _ _
            have w119 : 0 ≤ Xi T6 904 71 ∧ Xi T6 904 71 ≤ 2600 := hHT6.c _ _
            have w120 : 0 ≤ Xi T6 904 72 ∧ Xi T6 904 72 ≤ 2600 := hHT6.c _ _
            have w121 : 0 ≤ Xi T6 904 73 ∧ Xi T6 904 73 ≤ 5 := hHT6.c _ _
            have w122 : 0 ≤ Xi T6 904 74 ∧ Xi T6 904 74 ≤ 2600 := hHT6.c _ _
            have w123 : -2 ≤ Xi T6 904 78 ∧ Xi T6 904 78 ≤ 5010 := hHT6.c _ _
            have w124 : 0 ≤ Xi T6 904 8 ∧ Xi T6 904 8 ≤ 5010 := hHT6.c _ _
            have w125 : 0 ≤ Xi T6 904 93 ∧ Xi T6 904 93 ≤ 1700 := hHT6.c _ _
            exact ⟨hHT6, hFT6, rfl, (by first | assumption | exact (by assumption : AT T6 _ _)), (by omega), (by first | assumption | exact (by assumption : RNV T6 _)), (by omega), (by omega), (by omega), (fun q => by unfold SNQ; refine ⟨fun q1 => absurd q1 (by omega), by omega, by omega, by omega, fun q9 => absurd q9 (by omega), by omega, by omega, by omega, by omega, by omega⟩)⟩
          · refine l_aload_n rfl rfl ?_
            have w126 : 0 ≤ Xi T6 904 65 ∧ Xi T6 904 65 ≤ 1 := hHT6.c _ _
            have w127 : 0 ≤ Xi T6 904 69 ∧ Xi T6 904 69 ≤ 2600 := hHT6.c _ _
            have w128 : 0 ≤ Xi T6 904 70 ∧ Xi T6 904 70 ≤ 20 := hHT6.c _ _
            have w129 : 0 ≤ Xi T6 904 71 ∧ Xi T6 904 71 ≤ 2600 := hHT6.c _ _
            have w130 : 0 ≤ Xi T6 904 72 ∧ Xi T6 904 72 ≤ 2600 := hHT6.c _ _
            have w131 : 0 ≤ Xi T6 904 73 ∧ Xi T6 904 73 ≤ 5 := hHT6.c _ _
            have w132 : 0 ≤ Xi T6 904 74 ∧ Xi T6 904 74 ≤ 2600 := hHT6.c _ _
            have w133 : -2 ≤ Xi T6 904 78 ∧ Xi T6 904 78 ≤ 5010 := hHT6.c _ _
            have w134 : 0 ≤ Xi T6 904 8 ∧ Xi T6 904 8 ≤ 5010 := hHT6.c _ _
            have w135 : 0 ≤ Xi T6 904 93 ∧ Xi T6 904 93 ≤ 1700 := hHT6.c _ _
            refine l_callV rfl rfl rfl (t_mo_isMore hHT6 n c (by first | assumption | exact (TK_FR hFT6 rfl (by assumption : TK S _))) (by first | assumption | exact (by assumption : AT T6 _ _)) _) ?_
            rintro _ T7 ⟨hHT7, w141, z140, rfl, w140, w136, w137, w138, w139⟩
            have hFT7 : FR md_mo_rest S T7 := FR.tr hFT6 w141 rfl
            show Rl _ _ _ _ _ [iv z140] _ _
            have w143 : 0 ≤ Xi T7 904 8 ∧ Xi T7 904 8 ≤ 5010 := hHT7.c _ _
            have w144 : Xi T7 904 65 = Xi T6 904 65 := (show Xi T7 904 65 = Xi T6 904 65 from w141.x _ _ rfl)
            have w145 : 0 ≤ Xi T6 904 65 ∧ Xi T6 904 65 ≤ 1 := hHT6.c _ _
            have w146 : Xi T7 904 69 = Xi T6 904 69 := (show Xi T7 904 69 = Xi T6 904 69 from w141.x _ _ rfl)
            have w147 : 0 ≤ Xi T6 904 69 ∧ Xi T6 904 69 ≤ 2600 := hHT6.c _ _
            have w148 : Xi T7 904 93 = Xi T6 904 93 := (show Xi T7 904 93 = Xi T6 904 93 from w141.x _ _ rfl)
            have w149 : 0 ≤ Xi T6 904 93 ∧ Xi T6 904 93 ≤ 1700 := hHT6.c _ _
            have w142 : Xi S 904 8 ≤ Xi T7 904 8 ∧ Xi T7 904 8 ≤ n ∧ Xi S 904 69 ≤ Xi T7 904 69 ∧ (Xi T7 904 65 = 0 → Xi S 904 65 = 0) := by omega
            clear w137
            refine l_if_eq rfl rfl (by unfold rg; omega) (fun w150 => ?_) (fun w151 => ?_)
            · refine l_return rfl rfl ?_
              have w152 : Xi T7 904 65 = Xi T6 904 65 := (show Xi T7 904 65 = Xi T6 904 65 from w141.x _ _ rfl)
              have w153 : 0 ≤ Xi T6 904 65 ∧ Xi T6 904 65 ≤ 1 := hHT6.c _ _
              have w154 : Xi T7 904 69 = Xi T6 904 69 := (show Xi T7 904 69 = Xi T6 904 69 from w141.x _ _ rfl)
              have w155 : 0 ≤ Xi T6 904 69 ∧ Xi T6 904 69 ≤ 2600 := hHT6.c _ _
              have w156 : Xi T7 904 70 = Xi T6 904 70 := (show Xi T7 904 70 = Xi T6 904 70 from w141.x _ _ rfl)
              have w157 : 0 ≤ Xi T6 904 70 ∧ Xi T6 904 70 ≤ 20 := hHT6.c _ _
              have w158 : Xi T7 904 71 = Xi T6 904 71 := (show Xi T7 904 71 = Xi T6 904 71 from w141.x _ _ rfl)
              have w159 : 0 ≤ Xi T6 904 71 ∧ Xi T6 904 71 ≤ 2600 := hHT6.c _ _
              have w160 : Xi T7 904 72 = Xi T6 904 72 := (show Xi T7 904 72 = Xi T6 904 72 from w141.x _ _ rfl)
              have w161 : 0 ≤ Xi T6 904 72 ∧ Xi T6 904 72 ≤ 2600 := hHT6.c _ _
              have w162 : Xi T7 904 73 = Xi T6 904 73 := (show Xi T7 904 73 = Xi T6 904 73 from w141.x _ _ rfl)
              have w163 : 0 ≤ Xi T6 904 73 ∧ Xi T6 904 73 ≤ 5 := hHT6.c _ _
              have w164 : Xi T7 904 74 = Xi T6 904 74 := (show Xi T7 904 74 = Xi T6 904 74 from w141.x _ _ rfl)
              have w165 : 0 ≤ Xi T6 904 74 ∧ Xi T6 904 74 ≤ 2600 := hHT6.c _ _
              have w166 : Xi T7 904 78 = Xi T6 904 78 := (show Xi T7 904 78 = Xi T6 904 78 from w141.x _ _ rfl)
              have w167 : -2 ≤ Xi T6 904 78 ∧ Xi T6 904 78 ≤ 5010 := hHT6.c _ _
              have w168 : 0 ≤ Xi T7 904 8 ∧ Xi T7 904 8 ≤ 5010 := hHT7.c _ _
              have w169 : Xi T7 904 93 = Xi T6 904 93 := (show Xi T7 904 93 = Xi T6 904 93 from w141.x _ _ rfl)
              have w170 : 0 ≤ Xi T6 904 93 ∧ Xi T6 904 93 ≤ 1700 := hHT6.c _ _
              exact ⟨hHT7, hFT7, rfl, (by first | assumption | exact (by assumption : AT T7 _ _)), (by omega), (by first | assumption | exact (RNV_FR w141 rfl (by assumption : RNV T6 _))), (by omega), (by omega), (by omega), (fun q => by unfold SNQ; refine ⟨fun q1 => absurd q1 (by omega), by omega, by omega, by omega, fun q9 => absurd q9 (by omega), by omega, by omega, by omega, by omega, by omega⟩)⟩
            · refine l_aload_n rfl rfl ?_
              have w171 : Xi T7 904 65 = Xi T6 904 65 := (show Xi T7 904 65 = Xi T6 904 65 from w141.x _ _ rfl)
              have w172 : 0 ≤ Xi T6 904 65 ∧ Xi T6 904 65 ≤ 1 := hHT6.c _ _
              have w173 : Xi T7 904 69 = Xi T6 904 69 := (show Xi T7 904 69 = Xi T6 904 69 from w141.x _ _ rfl)
              have w174 : 0 ≤ Xi T6 904 69 ∧ Xi T6 904 69 ≤ 2600 := hHT6.c _ _
              have w175 : Xi T7 904 70 = Xi T6 904 70 := (show Xi T7 904 70 = Xi T6 904 70 from w141.x _ _ rfl)
              have w176 : 0 ≤ Xi T6 904 70 ∧ Xi T6 904 70 ≤ 20 := hHT6.c _ _
              have w177 : Xi T7 904 71 = Xi T6 904 71 := (show Xi T7 904 71 = Xi T6 904 71 from w141.x _ _ rfl)
              have w178 : 0 ≤ Xi T6 904 71 ∧ Xi T6 904 71 ≤ 2600 := hHT6.c _ _
              have w179 : Xi T7 904 72 = Xi T6 904 72 := (show Xi T7 904 72 = Xi T6 904 72 from w141.x _ _ rfl)
              have w180 : 0 ≤ Xi T6 904 72 ∧ Xi T6 904 72 ≤ 2600 := hHT6.c _ _
              have w181 : Xi T7 904 73 = Xi T6 904 73 := (show Xi T7 904 73 = Xi T6 904 73 from w141.x _ _ rfl)
              have w182 : 0 ≤ Xi T6 904 73 ∧ Xi T6 904 73 ≤ 5 := hHT6.c _ _
              have w183 : Xi T7 904 74 = Xi T6 904 74 := (show Xi T7 904 74 = Xi T6 904 74 from w141.x _ _ rfl)
              have w184 : 0 ≤ Xi T6 904 74 ∧ Xi T6 904 74 ≤ 2600 := hHT6.c _ _
              have w185 : Xi T7 904 78 = Xi T6 904 78 := (show Xi T7 904 78 = Xi T6 904 78 from w141.x _ _ rfl)
              have w186 : -2 ≤ Xi T6 904 78 ∧ Xi T6 904 78 ≤ 5010 := hHT6.c _ _
              have w187 : 0 ≤ Xi T7 904 8 ∧ Xi T7 904 8 ≤ 5010 := hHT7.c _ _
              have w188 : Xi T7 904 93 = Xi T6 904 93 := (show Xi T7 904 93 = Xi T6 904 93 from w141.x _ _ rfl)
              have w189 : 0 ≤ Xi T6 904 93 ∧ Xi T6 904 93 ≤ 1700 := hHT6.c _ _
              refine l_callV rfl rfl rfl (t_mo_run hHT7 n c (by first | assumption | exact (TK_FR hFT7 rfl (by assumption : TK S _))) (by first | assumption | exact (by assumption : AT T7 _ _)) (by first | assumption | exact (RNV_FR w141 rfl (by assumption : RNV T6 _))) _) ?_
              rintro _ T8 ⟨hHT8, w196, z195, rfl, w195, w190, w191, w192, w193, w194⟩
              have hFT8 : FR md_mo_rest S T8 := FR.tr hFT7 w196 rfl
              show Rl _ _ _ _ _ [iv z195] _ _
              have w198 : 0 ≤ Xi T8 904 8 ∧ Xi T8 904 8 ≤ 5010 := hHT8.c _ _
              have w199 : 0 ≤ Xi T8 904 65 ∧ Xi T8 904 65 ≤ 1 := hHT8.c _ _
              have w200 : 0 ≤ Xi T8 904 69 ∧ Xi T8 904 69 ≤ 2600 := hHT8.c _ _
              have w201 : Xi T8 904 93 = Xi T6 904 93 := (show Xi T8 904 93 = Xi T7 904 93 from w196.x _ _ rfl).trans ((show Xi T7 904 93 = Xi T6 904 93 from w141.x _ _ rfl))
              have w202 : 0 ≤ Xi T6 904 93 ∧ Xi T6 904 93 ≤ 1700 := hHT6.c _ _
              have n428 : Xi T7 904 8 ≤ Xi T8 904 8 := by omega
              have w197 : Xi S 904 8 ≤ Xi T8 904 8 ∧ Xi T8 904 8 ≤ n ∧ Xi S 904 69 ≤ Xi T8 904 69 ∧ (Xi T8 904 65 = 0 → Xi S 904 65 = 0) := by omega
              clear w191 w142
              refine l_pop rfl rfl ?_
              refine l_goto rfl rfl ?_
              have w203 : 0 ≤ Xi T8 904 65 ∧ Xi T8 904 65 ≤ 1 := hHT8.c _ _
              have w204 : 0 ≤ Xi T8 904 69 ∧ Xi T8 904 69 ≤ 2600 := hHT8.c _ _
              have w205 : Xi T8 904 70 = Xi T6 904 70 := (show Xi T8 904 70 = Xi T7 904 70 from w196.x _ _ rfl).trans ((show Xi T7 904 70 = Xi T6 904 70 from w141.x _ _ rfl))
              have w206 : 0 ≤ Xi T6 904 70 ∧ Xi T6 904 70 ≤ 20 := hHT6.c _ _
              have w207 : Xi T8 904 71 = Xi T6 904 71 := (show Xi T8 904 71 = Xi T7 904 71 from w196.x _ _ rfl).trans ((show Xi T7 904 71 = Xi T6 904 71 from w141.x _ _ rfl))
              have w208 : 0 ≤ Xi T6 904 71 ∧ Xi T6 904 71 ≤ 2600 := hHT6.c _ _
              have w209 : Xi T8 904 72 = Xi T6 904 72 := (show Xi T8 904 72 = Xi T7 904 72 from w196.x _ _ rfl).trans ((show Xi T7 904 72 = Xi T6 904 72 from w141.x _ _ rfl))
              have w210 : 0 ≤ Xi T6 904 72 ∧ Xi T6 904 72 ≤ 2600 := hHT6.c _ _
              have w211 : Xi T8 904 73 = Xi T6 904 73 := (show Xi T8 904 73 = Xi T7 904 73 from w196.x _ _ rfl).trans ((show Xi T7 904 73 = Xi T6 904 73 from w141.x _ _ rfl))
              have w212 : 0 ≤ Xi T6 904 73 ∧ Xi T6 904 73 ≤ 5 := hHT6.c _ _
              have w213 : Xi T8 904 74 = Xi T6 904 74 := (show Xi T8 904 74 = Xi T7 904 74 from w196.x _ _ rfl).trans ((show Xi T7 904 74 = Xi T6 904 74 from w141.x _ _ rfl))
              have w214 : 0 ≤ Xi T6 904 74 ∧ Xi T6 904 74 ≤ 2600 := hHT6.c _ _
              have w215 : Xi T8 904 78 = Xi T6 904 78 := (show Xi T8 904 78 = Xi T7 904 78 from w196.x _ _ rfl).trans ((show Xi T7 904 78 = Xi T6 904 78 from w141.x _ _ rfl))
              have w216 : -2 ≤ Xi T6 904 78 ∧ Xi T6 904 78 ≤ 5010 := hHT6.c _ _
              have w217 : 0 ≤ Xi T8 904 8 ∧ Xi T8 904 8 ≤ 5010 := hHT8.c _ _
              have w218 : Xi T8 904 93 = Xi T6 904 93 := (show Xi T8 904 93 = Xi T7 904 93 from w196.x _ _ rfl).trans ((show Xi T7 904 93 = Xi T6 904 93 from w141.x _ _ rfl))
              have w219 : 0 ≤ Xi T6 904 93 ∧ Xi T6 904 93 ≤ 1700 := hHT6.c _ _
              exact Rl_weak (ih413 _ (by omega) T8 hHT8 hFT8  (by first | assumption | exact (by assumption : AT T8 _ _)) (by first | assumption | exact (by assumption : RNV T8 _)) (by omega) (by omega) (by omega) (by omega) (by omega) rfl) (And.intro rfl (True.intro))
      refine l_iload_n rfl rfl ?_
      have w220 : 0 ≤ Xi T1 904 65 ∧ Xi T1 904 65 ≤ 1 := hHT1.c _ _
      have w221 : 0 ≤ Xi T1 904 69 ∧ Xi T1 904 69 ≤ 2600 := hHT1.c _ _
      have w222 : 0 ≤ Xi T1 904 70 ∧ Xi T1 904 70 ≤ 20 := hHT1.c _ _
      have w223 : 0 ≤ Xi T1 904 71 ∧ Xi T1 904 71 ≤ 2600 := hHT1.c _ _
      have w224 : 0 ≤ Xi T1 904 72 ∧ Xi T1 904 72 ≤ 2600 := hHT1.c _ _
      have w225 : 0 ≤ Xi T1 904 73 ∧ Xi T1 904 73 ≤ 5 := hHT1.c _ _
      have w226 : 0 ≤ Xi T1 904 74 ∧ Xi T1 904 74 ≤ 2600 := hHT1.c _ _
      have w227 : -2 ≤ Xi T1 904 78 ∧ Xi T1 904 78 ≤ 5010 := hHT1.c _ _
      have w228 : 0 ≤ Xi T1 904 8 ∧ Xi T1 904 8 ≤ 5010 := hHT1.c _ _
      have w229 : 0 ≤ Xi T1 904 93 ∧ Xi T1 904 93 ≤ 1700 := hHT1.c _ _
      refine l_callS rfl rfl (by decide) rfl (t_mo_isArt hHT1 v1 ⟨by omega, by omega⟩ _) ?_
      rintro _ _ ⟨rfl, z231, rfl, w231, w230⟩
      show Rl _ _ _ _ _ [iv z231] _ _
      refine l_if_eq rfl rfl (by unfold rg; omega) (fun w232 => ?_) (fun w233 => ?_)
      · refine l_iload_n rfl rfl ?_
        refine l_bipush rfl rfl ?_
        refine l_icmp_eq rfl rfl (by unfold rg; omega) (by unfold rg; omega) (fun w234 => ?_) (fun w235 => ?_)
        · refine l_aload_n rfl rfl ?_
          refine l_bipush rfl rfl ?_
          refine l_pfi rfl rfl rfl rfl ?_
          obtain ⟨U9, eU9⟩ : ∃ T : sS, T = uI T1 904 70 (Int32.ofInt 15) := ⟨_, rfl⟩
          rw [← eU9]
          have hHU9 : HI U9 := by rw [eU9]; exact HI_w hHT1 (show 0 ≤ 15 by omega) (show 15 ≤ 20 by omega)
          have hFU9 : FR md_mo_rest S U9 := by rw [eU9]; exact FR.wI hFT1 (mdf_i (r := (904, 905, 70, 71)) (List.mem_of_getElem? (i := 4) rfl) (inR_i (by omega) (by omega) (by omega) (by omega)))
          have w236 : Xi U9 904 70 = 15 := by rw [eU9]; exact Xi_same (by unfold rg; omega)
          refine l_aload_n rfl rfl ?_
          refine l_iload_n rfl rfl ?_
          refine l_bipush rfl rfl ?_
          refine l_icmp_ne rfl rfl (by unfold rg; omega) (by unfold rg; omega) (fun w237 => ?_) (fun w238 => ?_)
          · refine l_iconst rfl ?_
            refine l_pfz rfl rfl rfl rfl (by omega) ?_
            obtain ⟨U10, eU10⟩ : ∃ T : sS, T = uI U9 904 75 (Int32.ofInt 0) := ⟨_, rfl⟩
            rw [← eU10]
            have hHU10 : HI U10 := by rw [eU10]; exact HI_w hHU9 (show 0 ≤ 0 by omega) (show 0 ≤ 1 by omega)
            have hFU10 : FR md_mo_rest S U10 := by rw [eU10]; exact FR.wI hFU9 (mdf_i (r := (904, 905, 75, 76)) (List.mem_of_getElem? (i := 7) rfl) (inR_i (by omega) (by omega) (by omega) (by omega)))
            have w239 : Xi U10 904 75 = 0 := by rw [eU10]; exact Xi_same (by unfold rg; omega)
            refine l_aload_n rfl rfl ?_
            refine l_iload_n rfl rfl ?_
            refine l_sipush rfl rfl ?_
            refine l_icmp_ne rfl rfl (by unfold rg; omega) (by unfold rg; omega) (fun w240 => ?_) (fun w241 => ?_)
            · refine l_iconst rfl ?_
              refine l_pfz rfl rfl rfl rfl (by omega) ?_
              obtain ⟨U11, eU11⟩ : ∃ T : sS, T = uI U10 904 76 (Int32.ofInt 0) := ⟨_, rfl⟩
              rw [← eU11]
              have hHU11 : HI U11 := by rw [eU11]; exact HI_w hHU10 (show 0 ≤ 0 by omega) (show 0 ≤ 1 by omega)
              have hFU11 : FR md_mo_rest S U11 := by rw [eU11]; exact FR.wI hFU10 (mdf_i (r := (904, 905, 76, 77)) (List.mem_of_getElem? (i := 8) rfl) (inR_i (by omega) (by omega) (by omega) (by omega)))
              have w242 : Xi U11 904 76 = 0 := by rw [eU11]; exact Xi_same (by unfold rg; omega)
              have w243 : Xi U11 904 65 = Xi T1 904 65 := (show Xi U11 904 65 = Xi U10 904 65 from by rw [eU11]; exact Xi_ne (by omega)).trans ( (show Xi U10 904 65 = Xi U9 904 65 from by rw [eU10]; exact Xi_ne (by omega)).trans ((show Xi U9 904 65 = Xi T1 904 65 from by rw [eU9]; exact Xi_ne (by omega))))
              have w244 : 0 ≤ Xi T1 904 65 ∧ Xi T1 904 65 ≤ 1 := hHT1.c _ _
              have w245 : Xi U11 904 69 = Xi T1 904 69 := (show Xi U11 904 69 = Xi U10 904 69 from by rw [eU11]; exact Xi_ne (by omega)).trans ( (show Xi U10 904 69 = Xi U9 904 69 from by rw [eU10]; exact Xi_ne (by omega)).trans ((show Xi U9 904 69 = Xi T1 904 69 from by rw [eU9]; exact Xi_ne (by omega))))
              have w246 : 0 ≤ Xi T1 904 69 ∧ Xi T1 904 69 ≤ 2600 := hHT1.c _ _
              have w247 : Xi U11 904 70 = Xi U9 904 70 := (show Xi U11 904 70 = Xi U10 904 70 from by rw [eU11]; exact Xi_ne (by omega)).trans ((show Xi U10 904 70 = Xi U9 904 70 from by rw [eU10]; exact Xi_ne (by omega)))
              have w248 : 0 ≤ Xi U9 904 70 ∧ Xi U9 904 70 ≤ 20 := hHU9.c _ _
              have w249 : Xi U11 904 71 = Xi T1 904 71 := (show Xi U11 904 71 = Xi U10 904 71 from by rw [eU11]; exact Xi_ne (by omega)).trans ( (show Xi U10 904 71 = Xi U9 904 71 from by rw [eU10]; exact Xi_ne (by omega)).trans ((show Xi U9 904 71 = Xi T1 904 71 from by rw [eU9]; exact Xi_ne (by omega))))
              have w250 : 0 ≤ Xi T1 904 71 ∧ Xi T1 904 71 ≤ 2600 := hHT1.c _ _
              have w251 : Xi U11 904 72 = Xi T1 904 72 := (show Xi U11 904 72 = Xi U10 904 72 from by rw [eU11]; exact Xi_ne (by omega)).trans ( (show Xi U10 904 72 = Xi U9 904 72 from by rw [eU10]; exact Xi_ne (by omega)).trans ((show Xi U9 904 72 = Xi T1 904 72 from by rw [eU9]; exact Xi_ne (by omega))))
              have w252 : 0 ≤ Xi T1 904 72 ∧ Xi T1 904 72 ≤ 2600 := hHT1.c _ _
              have w253 : Xi U11 904 73 = Xi T1 904 73 := (show Xi U11 904 73 = Xi U10 904 73 from by rw [eU11]; exact Xi_ne (by omega)).trans ( (show Xi U10 904 73 = Xi U9 904 73 from by rw [eU10]; exact Xi_ne (by omega)).trans ((show Xi U9 904 73 = Xi T1 904 73 from by rw [eU9]; exact Xi_ne (by omega))))
              have w254 : 0 ≤ Xi T1 904 73 ∧ Xi T1 904 73 ≤ 5 := hHT1.c _ _
              have w255 : Xi U11 904 74 = Xi T1 904 74 := (show Xi U11 904 74 = Xi U10 904 74 from by rw [eU11]; exact Xi_ne (by omega)).trans ( (show Xi U10 904 74 = Xi U9 904 74 from by rw [eU10]; exact Xi_ne (by omega)).trans ((show Xi U9 904 74 = Xi T1 904 74 from by rw [eU9]; exact Xi_ne (by omega))))
              have w256 : 0 ≤ Xi T1 904 74 ∧ Xi T1 904 74 ≤ 2600 := hHT1.c _ _
              have w257 : Xi U11 904 78 = Xi T1 904 78 := (show Xi U11 904 78 = Xi U10 904 78 from by rw [eU11]; exact Xi_ne (by omega)).trans ( (show Xi U10 904 78 = Xi U9 904 78 from by rw [eU10]; exact Xi_ne (by omega)).trans ((show Xi U9 904 78 = Xi T1 904 78 from by rw [eU9]; exact Xi_ne (by omega))))
              have w258 : -2 ≤ Xi T1 904 78 ∧ Xi T1 904 78 ≤ 5010 := hHT1.c _ _
              have w259 : Xi U11 904 8 = Xi T1 904 8 := (show Xi U11 904 8 = Xi U10 904 8 from by rw [eU11]; exact Xi_ne (by omega)).trans ( (show Xi U10 904 8 = Xi U9 904 8 from by rw [eU10]; exact Xi_ne (by omega)).trans ((show Xi U9 904 8 = Xi T1 904 8 from by rw [eU9]; exact Xi_ne (by omega))))
              have w260 : 0 ≤ Xi T1 904 8 ∧ Xi T1 904 8 ≤ 5010 := hHT1.c _ _
              have w261 : Xi U11 904 93 = Xi T1 904 93 := (show Xi U11 904 93 = Xi U10 904 93 from by rw [eU11]; exact Xi_ne (by omega)).trans ( (show Xi U10 904 93 = Xi U9 904 93 from by rw [eU10]; exact Xi_ne (by omega)).trans ((show Xi U9 904 93 = Xi T1 904 93 from by rw [eU9]; exact Xi_ne (by omega))))
              have w262 : 0 ≤ Xi T1 904 93 ∧ Xi T1 904 93 ≤ 1700 := hHT1.c _ _
              exact Rl_weak (C313 U11 hHU11 hFU11  (by first | assumption | exact (AT_FR (FR_e eU11) rfl (AT_FR (FR_e eU10) rfl (AT_FR (FR_e eU9) rfl (by assumption : AT T1 _ _))))) (by first | assumption | exact (RNV_FR (FR_e eU11) rfl (RNV_FR (FR_e eU10) rfl (RNV_FR (FR_e eU9) rfl (by assumption : RNV T1 _))))) (fun q => (by rw [(fun j => ((FR_e eU11).cx 907 rfl j).1.trans (((FR_e eU10).cx 907 rfl j).1.trans (((FR_e eU9).cx 907 rfl j).1))) (Xi U11 904 8).toNat, show Xi U11 904 8 = Xi T1 904 8 by omega]; omega)) (by omega) (by omega) (by omega) (by omega) (by omega) (by omega) (by omega)) (And.intro rfl (True.intro))
            · refine l_iconst rfl ?_
              refine l_goto rfl rfl ?_
              refine l_pfz rfl rfl rfl rfl (by omega) ?_
              obtain ⟨U12, eU12⟩ : ∃ T : sS, T = uI U10 904 76 (Int32.ofInt 1) := ⟨_, rfl⟩
              rw [← eU12]
              have hHU12 : HI U12 := by rw [eU12]; exact HI_w hHU10 (show 0 ≤ 1 by omega) (show 1 ≤ 1 by omega)
              have hFU12 : FR md_mo_rest S U12 := by rw [eU12]; exact FR.wI hFU10 (mdf_i (r := (904, 905, 76, 77)) (List.mem_of_getElem? (i := 8) rfl) (inR_i (by omega) (by omega) (by omega) (by omega)))
              have w263 : Xi U12 904 76 = 1 := by rw [eU12]; exact Xi_same (by unfold rg; omega)
              have w264 : Xi U12 904 65 = Xi T1 904 65 := (show Xi U12 904 65 = Xi U10 904 65 from by rw [eU12]; exact Xi_ne (by omega)).trans ( (show Xi U10 904 65 = Xi U9 904 65 from by rw [eU10]; exact Xi_ne (by omega)).trans ((show Xi U9 904 65 = Xi T1 904 65 from by rw [eU9]; exact Xi_ne (by omega))))
              have w265 : 0 ≤ Xi T1 904 65 ∧ Xi T1 904 65 ≤ 1 := hHT1.c _ _
              have w266 : Xi U12 904 69 = Xi T1 904 69 := (show Xi U12 904 69 = Xi U10 904 69 from by rw [eU12]; exact Xi_ne (by omega)).trans ( (show Xi U10 904 69 = Xi U9 904 69 from by rw [eU10]; exact Xi_ne (by omega)).trans ((show Xi U9 904 69 = Xi T1 904 69 from by rw [eU9]; exact Xi_ne (by omega))))
              have w267 : 0 ≤ Xi T1 904 69 ∧ Xi T1 904 69 ≤ 2600 := hHT1.c _ _
              have w268 : Xi U12 904 70 = Xi U9 904 70 := (show Xi U12 904 70 = Xi U10 904 70 from by rw [eU12]; exact Xi_ne (by omega)).trans ((show Xi U10 904 70 = Xi U9 904 70 from by rw [eU10]; exact Xi_ne (by omega)))
              have w269 : 0 ≤ Xi U9 904 70 ∧ Xi U9 904 70 ≤ 20 := hHU9.c _ _
              have w270 : Xi U12 904 71 = Xi T1 904 71 := (show Xi U12 904 71 = Xi U10 904 71 from by rw [eU12]; exact Xi_ne (by omega)).trans ( (show Xi U10 904 71 = Xi U9 904 71 from by rw [eU10]; exact Xi_ne (by omega)).trans ((show Xi U9 904 71 = Xi T1 904 71 from by rw [eU9]; exact Xi_ne (by omega))))
              have w271 : 0 ≤ Xi T1 904 71 ∧ Xi T1 904 71 ≤ 2600 := hHT1.c _ _
              have w272 : Xi U12 904 72 = Xi T1 904 72 := (show Xi U12 904 72 = Xi U10 904 72 from by rw [eU12]; exact Xi_ne (by omega)).trans ( (show Xi U10 904 72 = Xi U9 904 72 from by rw [eU10]; exact Xi_ne (by omega)).trans ((show Xi U9 904 72 = Xi T1 904 72 from by rw [eU9]; exact Xi_ne (by omega))))
              have w273 : 0 ≤ Xi T1 904 72 ∧ Xi T1 904 72 ≤ 2600 := hHT1.c _ _
              have w274 : Xi U12 904 73 = Xi T1 904 73 := (show Xi U12 904 73 = Xi U10 904 73 from by rw [eU12]; exact Xi_ne (by omega)).trans ( (show Xi U10 904 73 = Xi U9 904 73 from by rw [eU10]; exact Xi_ne (by omega)).trans ((show Xi U9 904 73 = Xi T1 904 73 from by rw [eU9]; exact Xi_ne (by omega))))
              have w275 : 0 ≤ Xi T1 904 73 ∧ Xi T1 904 73 ≤ 5 := hHT1.c _ _
              have w276 : Xi U12 904 74 = Xi T1 904 74 := (show Xi U12 904 74 = Xi U10 904 74 from by rw [eU12]; exact Xi_ne (by omega)).trans ( (show Xi U10 904 74 = Xi U9 904 74 from by rw [eU10]; exact Xi_ne (by omega)).trans ((show Xi U9 904 74 = Xi T1 904 74 from by rw [eU9]; exact Xi_ne (by omega))))
              have w277 : 0 ≤ Xi T1 904 74 ∧ Xi T1 904 74 ≤ 2600 := hHT1.c _ _
              have w278 : Xi U12 904 78 = Xi T1 904 78 := (show Xi U12 904 78 = Xi U10 904 78 from by rw [eU12]; exact Xi_ne (by omega)).trans ( (show Xi U10 904 78 = Xi U9 904 78 from by rw [eU10]; exact Xi_ne (by omega)).trans ((show Xi U9 904 78 = Xi T1 904 78 from by rw [eU9]; exact Xi_ne (by omega))))
              have w279 : -2 ≤ Xi T1 904 78 ∧ Xi T1 904 78 ≤ 5010 := hHT1.c _ _
              have w280 : Xi U12 904 8 = Xi T1 904 8 := (show Xi U12 904 8 = Xi U10 904 8 from by rw [eU12]; exact Xi_ne (by omega)).trans ( (show Xi U10 904 8 = Xi U9 904 8 from by rw [eU10]; exact Xi_ne (by omega)).trans ((show Xi U9 904 8 = Xi T1 904 8 from by rw [eU9]; exact Xi_ne (by omega))))
              have w281 : 0 ≤ Xi T1 904 8 ∧ Xi T1 904 8 ≤ 5010 := hHT1.c _ _
              have w282 : Xi U12 904 93 = Xi T1 904 93 := (show Xi U12 904 93 = Xi U10 904 93 from by rw [eU12]; exact Xi_ne (by omega)).trans ( (show Xi U10 904 93 = Xi U9 904 93 from by rw [eU10]; exact Xi_ne (by omega)).trans ((show Xi U9 904 93 = Xi T1 904 93 from by rw [eU9]; exact Xi_ne (by omega))))
              have w283 : 0 ≤ Xi T1 904 93 ∧ Xi T1 904 93 ≤ 1700 := hHT1.c _ _
              exact Rl_weak (C313 U12 hHU12 hFU12  (by first | assumption | exact (AT_FR (FR_e eU12) rfl (AT_FR (FR_e eU10) rfl (AT_FR (FR_e eU9) rfl (by assumption : AT T1 _ _))))) (by first | assumption | exact (RNV_FR (FR_e eU12) rfl (RNV_FR (FR_e eU10) rfl (RNV_FR (FR_e eU9) rfl (by assumption : RNV T1 _))))) (fun q => (by rw [(fun j => ((FR_e eU12).cx 907 rfl j).1.trans (((FR_e eU10).cx 907 rfl j).1.trans (((FR_e eU9).cx 907 rfl j).1))) (Xi U12 904 8).toNat, show Xi U12 904 8 = Xi T1 904 8 by omega]; omega)) (by omega) (by omega) (by omega) (by omega) (by omega) (by omega) (by omega)) (And.intro rfl (True.intro))
          · refine l_iconst rfl ?_
            refine l_goto rfl rfl ?_
            refine l_pfz rfl rfl rfl rfl (by omega) ?_
            obtain ⟨U13, eU13⟩ : ∃ T : sS, T = uI U9 904 75 (Int32.ofInt 1) := ⟨_, rfl⟩
            rw [← eU13]
            have hHU13 : HI U13 := by rw [eU13]; exact HI_w hHU9 (show 0 ≤ 1 by omega) (show 1 ≤ 1 by omega)
            have hFU13 : FR md_mo_rest S U13 := by rw [eU13]; exact FR.wI hFU9 (mdf_i (r := (904, 905, 75, 76)) (List.mem_of_getElem? (i := 7) rfl) (inR_i (by omega) (by omega) (by omega) (by omega)))
            have w284 : Xi U13 904 75 = 1 := by rw [eU13]; exact Xi_same (by unfold rg; omega)
            refine l_aload_n rfl rfl ?_
            refine l_iload_n rfl rfl ?_
            refine l_sipush rfl rfl ?_
            refine l_icmp_ne rfl rfl (by unfold rg; omega) (by unfold rg; omega) (fun w285 => ?_) (fun w286 => ?_)
            · refine l_iconst rfl ?_
              refine l_pfz rfl rfl rfl rfl (by omega) ?_
              obtain ⟨U14, eU14⟩ : ∃ T : sS, T = uI U13 904 76 (Int32.ofInt 0) := ⟨_, rfl⟩
              rw [← eU14]
              have hHU14 : HI U14 := by rw [eU14]; exact HI_w hHU13 (show 0 ≤ 0 by omega) (show 0 ≤ 1 by omega)
              have hFU14 : FR md_mo_rest S U14 := by rw [eU14]; exact FR.wI hFU13 (mdf_i (r := (904, 905, 76, 77)) (List.mem_of_getElem? (i := 8) rfl) (inR_i (by omega) (by omega) (by omega) (by omega)))
              have w287 : Xi U14 904 76 = 0 := by rw [eU14]; exact Xi_same (by unfold rg; omega)
              have w288 : Xi U14 904 65 = Xi T1 904 65 := (show Xi U14 904 65 = Xi U13 904 65 from by rw [eU14]; exact Xi_ne (by omega)).trans ( (show Xi U13 904 65 = Xi U9 904 65 from by rw [eU13]; exact Xi_ne (by omega)).trans ((show Xi U9 904 65 = Xi T1 904 65 from by rw [eU9]; exact Xi_ne (by omega))))
              have w289 : 0 ≤ Xi T1 904 65 ∧ Xi T1 904 65 ≤ 1 := hHT1.c _ _
              have w290 : Xi U14 904 69 = Xi T1 904 69 := (show Xi U14 904 69 = Xi U13 904 69 from by rw [eU14]; exact Xi_ne (by omega)).trans ( (show Xi U13 904 69 = Xi U9 904 69 from by rw [eU13]; exact Xi_ne (by omega)).trans ((show Xi U9 904 69 = Xi T1 904 69 from by rw [eU9]; exact Xi_ne (by omega))))
              have w291 : 0 ≤ Xi T1 904 69 ∧ Xi T1 904 69 ≤ 2600 := hHT1.c _ _
              have w292 : Xi U14 904 70 = Xi U9 904 70 := (show Xi U14 904 70 = Xi U13 904 70 from by rw [eU14]; exact Xi_ne (by omega)).trans ((show Xi U13 904 70 = Xi U9 904 70 from by rw [eU13]; exact Xi_ne (by omega)))
              have w293 : 0 ≤ Xi U9 904 70 ∧ Xi U9 904 70 ≤ 20 := hHU9.c _ _
              have w294 : Xi U14 904 71 = Xi T1 904 71 := (show Xi U14 904 71 = Xi U13 904 71 from by rw [eU14]; exact Xi_ne (by omega)).trans ( (show Xi U13 904 71 = Xi U9 904 71 from by rw [eU13]; exact Xi_ne (by omega)).trans ((show Xi U9 904 71 = Xi T1 904 71 from by rw [eU9]; exact Xi_ne (by omega))))
              have w295 : 0 ≤ Xi T1 904 71 ∧ Xi T1 904 71 ≤ 2600 := hHT1.c _ _
              have w296 : Xi U14 904 72 = Xi T1 904 72 := (show Xi U14 904 72 = Xi U13 904 72 from by rw [eU14]; exact Xi_ne (by omega)).trans ( (show Xi U13 904 72 = Xi U9 904 72 from by rw [eU13]; exact Xi_ne (by omega)).trans ((show Xi U9 904 72 = Xi T1 904 72 from by rw [eU9]; exact Xi_ne (by omega))))
              have w297 : 0 ≤ Xi T1 904 72 ∧ Xi T1 904 72 ≤ 2600 := hHT1.c _ _
              have w298 : Xi U14 904 73 = Xi T1 904 73 := (show Xi U14 904 73 = Xi U13 904 73 from by rw [eU14]; exact Xi_ne (by omega)).trans ( (show Xi U13 904 73 = Xi U9 904 73 from by rw [eU13]; exact Xi_ne (by omega)).trans ((show Xi U9 904 73 = Xi T1 904 73 from by rw [eU9]; exact Xi_ne (by omega))))
              have w299 : 0 ≤ Xi T1 904 73 ∧ Xi T1 904 73 ≤ 5 := hHT1.c _ _
              have w300 : Xi U14 904 74 = Xi T1 904 74 := (show Xi U14 904 74 = Xi U13 904 74 from by rw [eU14]; exact Xi_ne (by omega)).trans ( (show Xi U13 904 74 = Xi U9 904 74 from by rw [eU13]; exact Xi_ne (by omega)).trans ((show Xi U9 904 74 = Xi T1 904 74 from by rw [eU9]; exact Xi_ne (by omega))))
              have w301 : 0 ≤ Xi T1 904 74 ∧ Xi T1 904 74 ≤ 2600 := hHT1.c _ _
              have w302 : Xi U14 904 78 = Xi T1 904 78 := (show Xi U14 904 78 = Xi U13 904 78 from by rw [eU14]; exact Xi_ne (by omega)).trans ( (show Xi U13 904 78 = Xi U9 904 78 from by rw [eU13]; exact Xi_ne (by omega)).trans ((show Xi U9 904 78 = Xi T1 904 78 from by rw [eU9]; exact Xi_ne (by omega))))
              have w303 : -2 ≤ Xi T1 904 78 ∧ Xi T1 904 78 ≤ 5010 := hHT1.c _ _
              have w304 : Xi U14 904 8 = Xi T1 904 8 := (show Xi U14 904 8 = Xi U13 904 8 from by rw [eU14]; exact Xi_ne (by omega)).trans ( (show Xi U13 904 8 = Xi U9 904 8 from by rw [eU13]; exact Xi_ne (by omega)).trans ((show Xi U9 904 8 = Xi T1 904 8 from by rw [eU9]; exact Xi_ne (by omega))))
              have w305 : 0 ≤ Xi T1 904 8 ∧ Xi T1 904 8 ≤ 5010 := hHT1.c _ _
              have w306 : Xi U14 904 93 = Xi T1 904 93 := (show Xi U14 904 93 = Xi U13 904 93 from by rw [eU14]; exact Xi_ne (by omega)).trans ( (show Xi U13 904 93 = Xi U9 904 93 from by rw [eU13]; exact Xi_ne (by omega)).trans ((show Xi U9 904 93 = Xi T1 904 93 from by rw [eU9]; exact Xi_ne (by omega))))
              have w307 : 0 ≤ Xi T1 904 93 ∧ Xi T1 904 93 ≤ 1700 := hHT1.c _ _
              exact Rl_weak (C313 U14 hHU14 hFU14  (by first | assumption | exact (AT_FR (FR_e eU14) rfl (AT_FR (FR_e eU13) rfl (AT_FR (FR_e eU9) rfl (by assumption : AT T1 _ _))))) (by first | assumption | exact (RNV_FR (FR_e eU14) rfl (RNV_FR (FR_e eU13) rfl (RNV_FR (FR_e eU9) rfl (by assumption : RNV T1 _))))) (fun q => (by rw [(fun j => ((FR_e eU14).cx 907 rfl j).1.trans (((FR_e eU13).cx 907 rfl j).1.trans (((FR_e eU9).cx 907 rfl j).1))) (Xi U14 904 8).toNat, show Xi U14 904 8 = Xi T1 904 8 by omega]; omega)) (by omega) (by omega) (by omega) (by omega) (by omega) (by omega) (by omega)) (And.intro rfl (True.intro))
            · refine l_iconst rfl ?_
              refine l_goto rfl rfl ?_
              refine l_pfz rfl rfl rfl rfl (by omega) ?_
              obtain ⟨U15, eU15⟩ : ∃ T : sS, T = uI U13 904 76 (Int32.ofInt 1) := ⟨_, rfl⟩
              rw [← eU15]
              have hHU15 : HI U15 := by rw [eU15]; exact HI_w hHU13 (show 0 ≤ 1 by omega) (show 1 ≤ 1 by omega)
              have hFU15 : FR md_mo_rest S U15 := by rw [eU15]; exact FR.wI hFU13 (mdf_i (r := (904, 905, 76, 77)) (List.mem_of_getElem? (i := 8) rfl) (inR_i (by omega) (by omega) (by omega) (by omega)))
              have w308 : Xi U15 904 76 = 1 := by rw [eU15]; exact Xi_same (by unfold rg; omega)
              have w309 : Xi U15 904 65 = Xi T1 904 65 := (show Xi U15 904 65 = Xi U13 904 65 from by rw [eU15]; exact Xi_ne (by omega)).trans ( (show Xi U13 904 65 = Xi U9 904 65 from by rw [eU13]; exact Xi_ne (by omega)).trans ((show Xi U9 904 65 = Xi T1 904 65 from by rw [eU9]; exact Xi_ne (by omega))))
              have w310 : 0 ≤ Xi T1 904 65 ∧ Xi T1 904 65 ≤ 1 := hHT1.c _ _
              have w311 : Xi U15 904 69 = Xi T1 904 69 := (show Xi U15 904 69 = Xi U13 904 69 from by rw [eU15]; exact Xi_ne (by omega)).trans ( (show Xi U13 904 69 = Xi U9 904 69 from by rw [eU13]; exact Xi_ne (by omega)).trans ((show Xi U9 904 69 = Xi T1 904 69 from by rw [eU9]; exact Xi_ne (by omega))))
              have w312 : 0 ≤ Xi T1 904 69 ∧ Xi T1 904 69 ≤ 2600 := hHT1.c _ _
              have w313 : Xi U15 904 70 = Xi U9 904 70 := (show Xi U15 904 70 = Xi U13 904 70 from by rw [eU15]; exact Xi_ne (by omega)).trans ((show Xi U13 904 70 = Xi U9 904 70 from by rw [eU13]; exact Xi_ne (by omega)))
              have w314 : 0 ≤ Xi U9 904 70 ∧ Xi U9 904 70 ≤ 20 := hHU9.c _ _
              have w315 : Xi U15 904 71 = Xi T1 904 71 := (show Xi U15 904 71 = Xi U13 904 71 from by rw [eU15]; exact Xi_ne (by omega)).trans ( (show Xi U13 904 71 = Xi U9 904 71 from by rw [eU13]; exact Xi_ne (by omega)).trans ((show Xi U9 904 71 = Xi T1 904 71 from by rw [eU9]; exact Xi_ne (by omega))))
              have w316 : 0 ≤ Xi T1 904 71 ∧ Xi T1 904 71 ≤ 2600 := hHT1.c _ _
              have w317 : Xi U15 904 72 = Xi T1 904 72 := (show Xi U15 904 72 = Xi U13 904 72 from by rw [eU15]; exact Xi_ne (by omega)).trans ( (show Xi U13 904 72 = Xi U9 904 72 from by rw [eU13]; exact Xi_ne (by omega)).trans ((show Xi U9 904 72 = Xi T1 904 72 from by rw [eU9]; exact Xi_ne (by omega))))
              have w318 : 0 ≤ Xi T1 904 72 ∧ Xi T1 904 72 ≤ 2600 := hHT1.c _ _
              have w319 : Xi U15 904 73 = Xi T1 904 73 := (show Xi U15 904 73 = Xi U13 904 73 from by rw [eU15]; exact Xi_ne (by omega)).trans ( (show Xi U13 904 73 = Xi U9 904 73 from by rw [eU13]; exact Xi_ne (by omega)).trans ((show Xi U9 904 73 = Xi T1 904 73 from by rw [eU9]; exact Xi_ne (by omega))))
              have w320 : 0 ≤ Xi T1 904 73 ∧ Xi T1 904 73 ≤ 5 := hHT1.c _ _
              have w321 : Xi U15 904 74 = Xi T1 904 74 := (show Xi U15 904 74 = Xi U13 904 74 from by rw [eU15]; exact Xi_ne (by omega)).trans ( (show Xi U13 904 74 = Xi U9 904 74 from by rw [eU13]; exact Xi_ne (by omega)).trans ((show Xi U9 904 74 = Xi T1 904 74 from by rw [eU9]; exact Xi_ne (by omega))))
              have w322 : 0 ≤ Xi T1 904 74 ∧ Xi T1 904 74 ≤ 2600 := hHT1.c _ _
              have w323 : Xi U15 904 78 = Xi T1 904 78 := (show Xi U15 904 78 = Xi U13 904 78 from by rw [eU15]; exact Xi_ne (by omega)).trans ( (show Xi U13 904 78 = Xi U9 904 78 from by rw [eU13]; exact Xi_ne (by omega)).trans ((show Xi U9 904 78 = Xi T1 904 78 from by rw [eU9]; exact Xi_ne (by omega))))
              have w324 : -2 ≤ Xi T1 904 78 ∧ Xi T1 904 78 ≤ 5010 := hHT1.c _ _
              have w325 : Xi U15 904 8 = Xi T1 904 8 := (show Xi U15 904 8 = Xi U13 904 8 from by rw [eU15]; exact Xi_ne (by omega)).trans ( (show Xi U13 904 8 = Xi U9 904 8 from by rw [eU13]; exact Xi_ne (by omega)).trans ((show Xi U9 904 8 = Xi T1 904 8 from by rw [eU9]; exact Xi_ne (by omega))))
              have w326 : 0 ≤ Xi T1 904 8 ∧ Xi T1 904 8 ≤ 5010 := hHT1.c _ _
              have w327 : Xi U15 904 93 = Xi T1 904 93 := (show Xi U15 904 93 = Xi U13 904 93 from by rw [eU15]; exact Xi_ne (by omega)).trans ( (show Xi U13 904 93 = Xi U9 904 93 from by rw [eU13]; exact Xi_ne (by omega)).trans ((show Xi U9 904 93 = Xi T1 904 93 from by rw [eU9]; exact Xi_ne (by omega))))
              have w328 : 0 ≤ Xi T1 904 93 ∧ Xi T1 904 93 ≤ 1700 := hHT1.c _ _
              exact Rl_weak (C313 U15 hHU15 hFU15  (by first | assumption | exact (AT_FR (FR_e eU15) rfl (AT_FR (FR_e eU13) rfl (AT_FR (FR_e eU9) rfl (by assumption : AT T1 _ _))))) (by first | assumption | exact (RNV_FR (FR_e eU15) rfl (RNV_FR (FR_e eU13) rfl (RNV_FR (FR_e eU9) rfl (by assumption : RNV T1 _))))) (fun q => (by rw [(fun j => ((FR_e eU15).cx 907 rfl j).1.trans (((FR_e eU13).cx 907 rfl j).1.trans (((FR_e eU9).cx 907 rfl j).1))) (Xi U15 904 8).toNat, show Xi U15 904 8 = Xi T1 904 8 by omega]; omega)) (by omega) (by omega) (by omega) (by omega) (by omega) (by omega) (by omega)) (And.intro rfl (True.intro))
        · refine l_iload_n rfl rfl ?_
          refine l_sipush rfl rfl ?_
          refine l_icmp_ne rfl rfl (by unfold rg; omega) (by unfold rg; omega) (fun w329 => ?_) (fun w330 => ?_)
          · refine l_iload_n rfl rfl ?_
            refine l_iconst rfl ?_
            refine l_icmp_ne rfl rfl (by unfold rg; omega) (by unfold rg; omega) (fun w331 => ?_) (fun w332 => ?_)
            · refine l_aload_n rfl rfl ?_
              refine l_bipush rfl rfl ?_
              refine l_pfi rfl rfl rfl rfl ?_
              obtain ⟨U16, eU16⟩ : ∃ T : sS, T = uI T1 904 70 (Int32.ofInt 13) := ⟨_, rfl⟩
              rw [← eU16]
              have hHU16 : HI U16 := by rw [eU16]; exact HI_w hHT1 (show 0 ≤ 13 by omega) (show 13 ≤ 20 by omega)
              have hFU16 : FR md_mo_rest S U16 := by rw [eU16]; exact FR.wI hFT1 (mdf_i (r := (904, 905, 70, 71)) (List.mem_of_getElem? (i := 4) rfl) (inR_i (by omega) (by omega) (by omega) (by omega)))
              have w333 : Xi U16 904 70 = 13 := by rw [eU16]; exact Xi_same (by unfold rg; omega)
              refine l_aload_n rfl rfl ?_
              refine l_aload_n rfl rfl ?_
              have w334 : Xi U16 904 65 = Xi T1 904 65 := (show Xi U16 904 65 = Xi T1 904 65 from by rw [eU16]; exact Xi_ne (by omega))
              have w335 : 0 ≤ Xi T1 904 65 ∧ Xi T1 904 65 ≤ 1 := hHT1.c _ _
              have w336 : Xi U16 904 69 = Xi T1 904 69 := (show Xi U16 904 69 = Xi T1 904 69 from by rw [eU16]; exact Xi_ne (by omega))
              have w337 : 0 ≤ Xi T1 904 69 ∧ Xi T1 904 69 ≤ 2600 := hHT1.c _ _
              have w338 : 0 ≤ Xi U16 904 70 ∧ Xi U16 904 70 ≤ 20 := hHU16.c _ _
              have w339 : Xi U16 904 71 = Xi T1 904 71 := (show Xi U16 904 71 = Xi T1 904 71 from by rw [eU16]; exact Xi_ne (by omega))
              have w340 : 0 ≤ Xi T1 904 71 ∧ Xi T1 904 71 ≤ 2600 := hHT1.c _ _
              have w341 : Xi U16 904 72 = Xi T1 904 72 := (show Xi U16 904 72 = Xi T1 904 72 from by rw [eU16]; exact Xi_ne (by omega))
              have w342 : 0 ≤ Xi T1 904 72 ∧ Xi T1 904 72 ≤ 2600 := hHT1.c _ _
              have w343 : Xi U16 904 73 = Xi T1 904 73 := (show Xi U16 904 73 = Xi T1 904 73 from by rw [eU16]; exact Xi_ne (by omega))
              have w344 : 0 ≤ Xi T1 904 73 ∧ Xi T1 904 73 ≤ 5 := hHT1.c _ _
              have w345 : Xi U16 904 74 = Xi T1 904 74 := (show Xi U16 904 74 = Xi T1 904 74 from by rw [eU16]; exact Xi_ne (by omega))
              have w346 : 0 ≤ Xi T1 904 74 ∧ Xi T1 904 74 ≤ 2600 := hHT1.c _ _
              have w347 : Xi U16 904 78 = Xi T1 904 78 := (show Xi U16 904 78 = Xi T1 904 78 from by rw [eU16]; exact Xi_ne (by omega))
              have w348 : -2 ≤ Xi T1 904 78 ∧ Xi T1 904 78 ≤ 5010 := hHT1.c _ _
              have w349 : Xi U16 904 8 = Xi T1 904 8 := (show Xi U16 904 8 = Xi T1 904 8 from by rw [eU16]; exact Xi_ne (by omega))
              have w350 : 0 ≤ Xi T1 904 8 ∧ Xi T1 904 8 ≤ 5010 := hHT1.c _ _
              have w351 : Xi U16 904 93 = Xi T1 904 93 := (show Xi U16 904 93 = Xi T1 904 93 from by rw [eU16]; exact Xi_ne (by omega))
              have w352 : 0 ≤ Xi T1 904 93 ∧ Xi T1 904 93 ≤ 1700 := hHT1.c _ _
              refine l_callV rfl rfl rfl (t_mo_placing__2 hHU16 n c (by first | assumption | exact (TK_FR hFU16 rfl (by assumption : TK S _))) (by first | assumption | exact (AT_FR (FR_e eU16) rfl (by assumption : AT T1 _ _))) _) ?_
              rintro _ T17 ⟨hHT17, w357, z356, rfl, w356, w353, w354, w355⟩
              have hFT17 : FR md_mo_rest S T17 := FR.tr hFU16 w357 rfl
              show Rl _ _ _ _ _ [iv z356, .ref 904] _ _
              have w359 : 0 ≤ Xi T17 904 8 ∧ Xi T17 904 8 ≤ 5010 := hHT17.c _ _
              have w360 : 0 ≤ Xi T17 904 65 ∧ Xi T17 904 65 ≤ 1 := hHT17.c _ _
              have w361 : Xi T17 904 69 = Xi T1 904 69 := (show Xi T17 904 69 = Xi U16 904 69 from w357.x _ _ rfl).trans ((show Xi U16 904 69 = Xi T1 904 69 from by rw [eU16]; exact Xi_ne (by omega)))
              have w362 : 0 ≤ Xi T1 904 69 ∧ Xi T1 904 69 ≤ 2600 := hHT1.c _ _
              have w363 : Xi T17 904 93 = Xi T1 904 93 := (show Xi T17 904 93 = Xi U16 904 93 from w357.x _ _ rfl).trans ((show Xi U16 904 93 = Xi T1 904 93 from by rw [eU16]; exact Xi_ne (by omega)))
              have w364 : 0 ≤ Xi T1 904 93 ∧ Xi T1 904 93 ≤ 1700 := hHT1.c _ _
              have w358 : Xi S 904 8 ≤ Xi T17 904 8 ∧ Xi T17 904 8 ≤ n ∧ Xi S 904 69 ≤ Xi T17 904 69 ∧ (Xi T17 904 65 = 0 → Xi S 904 65 = 0) := by omega
              clear w354
              refine l_pfi rfl rfl rfl rfl ?_
              obtain ⟨U18, eU18⟩ : ∃ T : sS, T = uI T17 904 73 (Int32.ofInt z356) := ⟨_, rfl⟩
              rw [← eU18]
              have hHU18 : HI U18 := by rw [eU18]; exact HI_w hHT17 (show 0 ≤ z356 by omega) (show z356 ≤ 5 by omega)
              have hFU18 : FR md_mo_rest S U18 := by rw [eU18]; exact FR.wI hFT17 (mdf_i (r := (904, 905, 73, 74)) (List.mem_of_getElem? (i := 5) rfl) (inR_i (by omega) (by omega) (by omega) (by omega)))
              have w365 : Xi U18 904 73 = z356 := by rw [eU18]; exact Xi_same (by unfold rg; omega)
              refine l_aload_n rfl rfl ?_
              refine l_aload_n rfl rfl ?_
              have w366 : Xi U18 904 65 = Xi T17 904 65 := (show Xi U18 904 65 = Xi T17 904 65 from by rw [eU18]; exact Xi_ne (by omega))
              have w367 : 0 ≤ Xi T17 904 65 ∧ Xi T17 904 65 ≤ 1 := hHT17.c _ _
              have w368 : Xi U18 904 69 = Xi T1 904 69 := (show Xi U18 904 69 = Xi T17 904 69 from by rw [eU18]; exact Xi_ne (by omega)).trans ( (show Xi T17 904 69 = Xi U16 904 69 from w357.x _ _ rfl).trans ((show Xi U16 904 69 = Xi T1 904 69 from by rw [eU16]; exact Xi_ne (by omega))))
              have w369 : 0 ≤ Xi T1 904 69 ∧ Xi T1 904 69 ≤ 2600 := hHT1.c _ _
              have w370 : Xi U18 904 70 = Xi U16 904 70 := (show Xi U18 904 70 = Xi T17 904 70 from by rw [eU18]; exact Xi_ne (by omega)).trans ((show Xi T17 904 70 = Xi U16 904 70 from w357.x _ _ rfl))
              have w371 : 0 ≤ Xi U16 904 70 ∧ Xi U16 904 70 ≤ 20 := hHU16.c _ _
              have w372 : Xi U18 904 71 = Xi T1 904 71 := (show Xi U18 904 71 = Xi T17 904 71 from by rw [eU18]; exact Xi_ne (by omega)).trans ( (show Xi T17 904 71 = Xi U16 904 71 from w357.x _ _ rfl).trans ((show Xi U16 904 71 = Xi T1 904 71 from by rw [eU16]; exact Xi_ne (by omega))))
              have w373 : 0 ≤ Xi T1 904 71 ∧ Xi T1 904 71 ≤ 2600 := hHT1.c _ _
              have w374 : Xi U18 904 72 = Xi T1 904 72 := (show Xi U18 904 72 = Xi T17 904 72 from by rw [eU18]; exact Xi_ne (by omega)).trans ( (show Xi T17 904 72 = Xi U16 904 72 from w357.x _ _ rfl).trans ((show Xi U16 904 72 = Xi T1 904 72 from by rw [eU16]; exact Xi_ne (by omega))))
              have w375 : 0 ≤ Xi T1 904 72 ∧ Xi T1 904 72 ≤ 2600 := hHT1.c _ _
              have w376 : 0 ≤ Xi U18 904 73 ∧ Xi U18 904 73 ≤ 5 := hHU18.c _ _
              have w377 : Xi U18 904 74 = Xi T1 904 74 := (show Xi U18 904 74 = Xi T17 904 74 from by rw [eU18]; exact Xi_ne (by omega)).trans ( (show Xi T17 904 74 = Xi U16 904 74 from w357.x _ _ rfl).trans ((show Xi U16 904 74 = Xi T1 904 74 from by rw [eU16]; exact Xi_ne (by omega))))
              have w378 : 0 ≤ Xi T1 904 74 ∧ Xi T1 904 74 ≤ 2600 := hHT1.c _ _
              have w379 : Xi U18 904 78 = Xi T1 904 78 := (show Xi U18 904 78 = Xi T17 904 78 from by rw [eU18]; exact Xi_ne (by omega)).trans ( (show Xi T17 904 78 = Xi U16 904 78 from w357.x _ _ rfl).trans ((show Xi U16 904 78 = Xi T1 904 78 from by rw [eU16]; exact Xi_ne (by omega))))
              have w380 : -2 ≤ Xi T1 904 78 ∧ Xi T1 904 78 ≤ 5010 := hHT1.c _ _
              have w381 : Xi U18 904 8 = Xi T17 904 8 := (show Xi U18 904 8 = Xi T17 904 8 from by rw [eU18]; exact Xi_ne (by omega))
              have w382 : 0 ≤ Xi T17 904 8 ∧ Xi T17 904 8 ≤ 5010 := hHT17.c _ _
              have w383 : Xi U18 904 93 = Xi T1 904 93 := (show Xi U18 904 93 = Xi T17 904 93 from by rw [eU18]; exact Xi_ne (by omega)).trans ( (show Xi T17 904 93 = Xi U16 904 93 from w357.x _ _ rfl).trans ((show Xi U16 904 93 = Xi T1 904 93 from by rw [eU16]; exact Xi_ne (by omega))))
              have w384 : 0 ≤ Xi T1 904 93 ∧ Xi T1 904 93 ≤ 1700 := hHT1.c _ _
              refine l_callV rfl rfl rfl (t_mo_name hHU18 n c (by first | assumption | exact (TK_FR hFU18 rfl (by assumption : TK S _))) (by first | assumption | exact (AT_FR (FR_e eU18) rfl (by assumption : AT T17 _ _))) (by first | assumption | exact (RNV_FR (FR_e eU18) rfl (RNV_FR w357 rfl (RNV_FR (FR_e eU16) rfl (by assumption : RNV T1 _))))) _) ?_
              rintro _ T19 ⟨hHT19, w391, z390, rfl, w390, w385, w386, w387, w388, w389⟩
              have hFT19 : FR md_mo_rest S T19 := FR.tr hFU18 w391 rfl
              show Rl _ _ _ _ _ [iv z390, .ref 904] _ _
              have w393 : 0 ≤ Xi T19 904 8 ∧ Xi T19 904 8 ≤ 5010 := hHT19.c _ _
              have w394 : 0 ≤ Xi T19 904 65 ∧ Xi T19 904 65 ≤ 1 := hHT19.c _ _
              have w395 : 0 ≤ Xi T19 904 69 ∧ Xi T19 904 69 ≤ 2600 := hHT19.c _ _
              have w396 : Xi T19 904 93 = Xi T1 904 93 := (show Xi T19 904 93 = Xi U18 904 93 from w391.x _ _ rfl).trans ( (show Xi U18 904 93 = Xi T17 904 93 from by rw [eU18]; exact Xi_ne (by omega)).trans ( (show Xi T17 904 93 = Xi U16 904 93 from w357.x _ _ rfl).trans ((show Xi U16 904 93 = Xi T1 904 93 from by rw [eU16]; exact Xi_ne (by omega)))))
              have w397 : 0 ≤ Xi T1 904 93 ∧ Xi T1 904 93 ≤ 1700 := hHT1.c _ _
              have w392 : Xi S 904 8 ≤ Xi T19 904 8 ∧ Xi T19 904 8 ≤ n ∧ Xi S 904 69 ≤ Xi T19 904 69 ∧ (Xi T19 904 65 = 0 → Xi S 904 65 = 0) := by omega
              clear w386 w358
              refine l_pfi rfl rfl rfl rfl ?_
              obtain ⟨U20, eU20⟩ : ∃ T : sS, T = uI T19 904 74 (Int32.ofInt z390) := ⟨_, rfl⟩
              rw [← eU20]
              have hHU20 : HI U20 := by rw [eU20]; exact HI_w hHT19 (show 0 ≤ z390 by omega) (show z390 ≤ 2600 by omega)
              have hFU20 : FR md_mo_rest S U20 := by rw [eU20]; exact FR.wI hFT19 (mdf_i (r := (904, 905, 74, 75)) (List.mem_of_getElem? (i := 6) rfl) (inR_i (by omega) (by omega) (by omega) (by omega)))
              have w398 : Xi U20 904 74 = z390 := by rw [eU20]; exact Xi_same (by unfold rg; omega)
              refine l_return rfl rfl ?_
              have w399 : Xi U20 904 65 = Xi T19 904 65 := (show Xi U20 904 65 = Xi T19 904 65 from by rw [eU20]; exact Xi_ne (by omega))
              have w400 : 0 ≤ Xi T19 904 65 ∧ Xi T19 904 65 ≤ 1 := hHT19.c _ _
              have w401 : Xi U20 904 69 = Xi T19 904 69 := (show Xi U20 904 69 = Xi T19 904 69 from by rw [eU20]; exact Xi_ne (by omega))
              have w402 : 0 ≤ Xi T19 904 69 ∧ Xi T19 904 69 ≤ 2600 := hHT19.c _ _
              have w403 : Xi U20 904 70 = Xi U16 904 70 := (show Xi U20 904 70 = Xi T19 904 70 from by rw [eU20]; exact Xi_ne (by omega)).trans ( (show Xi T19 904 70 = Xi U18 904 70 from w391.x _ _ rfl).trans ( (show Xi U18 904 70 = Xi T17 904 70 from by rw [eU18]; exact Xi_ne (by omega)).trans ((show Xi T17 904 70 = Xi U16 904 70 from w357.x _ _ rfl))))
              have w404 : 0 ≤ Xi U16 904 70 ∧ Xi U16 904 70 ≤ 20 := hHU16.c _ _
              have w405 : Xi U20 904 71 = Xi T1 904 71 := (show Xi U20 904 71 = Xi T19 904 71 from by rw [eU20]; exact Xi_ne (by omega)).trans ( (show Xi T19 904 71 = Xi U18 904 71 from w391.x _ _ rfl).trans ( (show Xi U18 904 71 = Xi T17 904 71 from by rw [eU18]; exact Xi_ne (by omega)).trans ( (show Xi T17 904 71 = Xi U16 904 71 from w357.x _ _ rfl).trans ((show Xi U16 904 71 = Xi T1 904 71 from by rw [eU16]; exact Xi_ne (by omega))))))
              have w406 : 0 ≤ Xi T1 904 71 ∧ Xi T1 904 71 ≤ 2600 := hHT1.c _ _
              have w407 : Xi U20 904 72 = Xi T1 904 72 := (show Xi U20 904 72 = Xi T19 904 72 from by rw [eU20]; exact Xi_ne (by omega)).trans ( (show Xi T19 904 72 = Xi U18 904 72 from w391.x _ _ rfl).trans ( (show Xi U18 904 72 = Xi T17 904 72 from by rw [eU18]; exact Xi_ne (by omega)).trans ( (show Xi T17 904 72 = Xi U16 904 72 from w357.x _ _ rfl).trans ((show Xi U16 904 72 = Xi T1 904 72 from by rw [eU16]; exact Xi_ne (by omega))))))
              have w408 : 0 ≤ Xi T1 904 72 ∧ Xi T1 904 72 ≤ 2600 := hHT1.c _ _
              have w409 : Xi U20 904 73 = Xi U18 904 73 := (show Xi U20 904 73 = Xi T19 904 73 from by rw [eU20]; exact Xi_ne (by omega)).trans ((show Xi T19 904 73 = Xi U18 904 73 from w391.x _ _ rfl))
              have w410 : 0 ≤ Xi U18 904 73 ∧ Xi U18 904 73 ≤ 5 := hHU18.c _ _
              have w411 : 0 ≤ Xi U20 904 74 ∧ Xi U20 904 74 ≤ 2600 := hHU20.c _ _
              have w412 : Xi U20 904 78 = Xi T1 904 78 := (show Xi U20 904 78 = Xi T19 904 78 from by rw [eU20]; exact Xi_ne (by omega)).trans ( (show Xi T19 904 78 = Xi U18 904 78 from w391.x _ _ rfl).trans ( (show Xi U18 904 78 = Xi T17 904 78 from by rw [eU18]; exact Xi_ne (by omega)).trans ( (show Xi T17 904 78 = Xi U16 904 78 from w357.x _ _ rfl).trans ((show Xi U16 904 78 = Xi T1 904 78 from by rw [eU16]; exact Xi_ne (by omega))))))
              have w413 : -2 ≤ Xi T1 904 78 ∧ Xi T1 904 78 ≤ 5010 := hHT1.c _ _
              have w414 : Xi U20 904 8 = Xi T19 904 8 := (show Xi U20 904 8 = Xi T19 904 8 from by rw [eU20]; exact Xi_ne (by omega))
              have w415 : 0 ≤ Xi T19 904 8 ∧ Xi T19 904 8 ≤ 5010 := hHT19.c _ _
              have w416 : Xi U20 904 93 = Xi T1 904 93 := (show Xi U20 904 93 = Xi T19 904 93 from by rw [eU20]; exact Xi_ne (by omega)).trans ( (show Xi T19 904 93 = Xi U18 904 93 from w391.x _ _ rfl).trans ( (show Xi U18 904 93 = Xi T17 904 93 from by rw [eU18]; exact Xi_ne (by omega)).trans ( (show Xi T17 904 93 = Xi U16 904 93 from w357.x _ _ rfl).trans ((show Xi U16 904 93 = Xi T1 904 93 from by rw [eU16]; exact Xi_ne (by omega))))))
              have w417 : 0 ≤ Xi T1 904 93 ∧ Xi T1 904 93 ≤ 1700 := hHT1.c _ _
              exact ⟨hHU20, hFU20, rfl, (by first | assumption | exact (AT_FR (FR_e eU20) rfl (by assumption : AT T19 _ _))), (by omega), (by first | assumption | exact (RNV_FR (FR_e eU20) rfl (by assumption : RNV T19 _))), (by omega), (by omega), (by omega), (fun q => by unfold SNQ; refine ⟨fun q1 => absurd q1 (by omega), by omega, by omega, by omega, fun q9 => absurd q9 (by omega), by omega, by omega, by omega, by omega, by omega⟩)⟩
            · refine l_aload_n rfl rfl ?_
              refine l_aload_n rfl rfl ?_
              have w418 : 0 ≤ Xi T1 904 65 ∧ Xi T1 904 65 ≤ 1 := hHT1.c _ _
              have w419 : 0 ≤ Xi T1 904 69 ∧ Xi T1 904 69 ≤ 2600 := hHT1.c _ _
              have w420 : 0 ≤ Xi T1 904 70 ∧ Xi T1 904 70 ≤ 20 := hHT1.c _ _
              have w421 : 0 ≤ Xi T1 904 71 ∧ Xi T1 904 71 ≤ 2600 := hHT1.c _ _
              have w422 : 0 ≤ Xi T1 904 72 ∧ Xi T1 904 72 ≤ 2600 := hHT1.c _ _
              have w423 : 0 ≤ Xi T1 904 73 ∧ Xi T1 904 73 ≤ 5 := hHT1.c _ _
              have w424 : 0 ≤ Xi T1 904 74 ∧ Xi T1 904 74 ≤ 2600 := hHT1.c _ _
              have w425 : -2 ≤ Xi T1 904 78 ∧ Xi T1 904 78 ≤ 5010 := hHT1.c _ _
              have w426 : 0 ≤ Xi T1 904 8 ∧ Xi T1 904 8 ≤ 5010 := hHT1.c _ _
              have w427 : 0 ≤ Xi T1 904 93 ∧ Xi T1 904 93 ≤ 1700 := hHT1.c _ _
              refine l_callV rfl rfl rfl (t_mo_run hHT1 n c (by first | assumption | exact (TK_FR hFT1 rfl (by assumption : TK S _))) (by first | assumption | exact (by assumption : AT T1 _ _)) (by first | assumption | exact (by assumption : RNV T1 _)) _) ?_
              rintro _ T21 ⟨hHT21, w434, z433, rfl, w433, w428, w429, w430, w431, w432⟩
              have hFT21 : FR md_mo_rest S T21 := FR.tr hFT1 w434 rfl
              show Rl _ _ _ _ _ [iv z433, .ref 904] _ _
              have w436 : 0 ≤ Xi T21 904 8 ∧ Xi T21 904 8 ≤ 5010 := hHT21.c _ _
              have w437 : 0 ≤ Xi T21 904 65 ∧ Xi T21 904 65 ≤ 1 := hHT21.c _ _
              have w438 : 0 ≤ Xi T21 904 69 ∧ Xi T21 904 69 ≤ 2600 := hHT21.c _ _
              have w439 : Xi T21 904 93 = Xi T1 904 93 := (show Xi T21 904 93 = Xi T1 904 93 from w434.x _ _ rfl)
              have w440 : 0 ≤ Xi T1 904 93 ∧ Xi T1 904 93 ≤ 1700 := hHT1.c _ _
              have w435 : Xi S 904 8 ≤ Xi T21 904 8 ∧ Xi T21 904 8 ≤ n ∧ Xi S 904 69 ≤ Xi T21 904 69 ∧ (Xi T21 904 65 = 0 → Xi S 904 65 = 0) := by omega
              clear w429
              refine l_pfi rfl rfl rfl rfl ?_
              obtain ⟨U22, eU22⟩ : ∃ T : sS, T = uI T21 904 78 (Int32.ofInt z433) := ⟨_, rfl⟩
              rw [← eU22]
              have hHU22 : HI U22 := by rw [eU22]; exact HI_w hHT21 (show -2 ≤ z433 by omega) (show z433 ≤ 5010 by omega)
              have hFU22 : FR md_mo_rest S U22 := by rw [eU22]; exact FR.wI hFT21 (mdf_i (r := (904, 905, 78, 79)) (List.mem_of_getElem? (i := 9) rfl) (inR_i (by omega) (by omega) (by omega) (by omega)))
              have w441 : Xi U22 904 78 = z433 := by rw [eU22]; exact Xi_same (by unfold rg; omega)
              refine l_aload_n rfl rfl ?_
              refine l_bipush rfl rfl ?_
              refine l_pfi rfl rfl rfl rfl ?_
              obtain ⟨U23, eU23⟩ : ∃ T : sS, T = uI U22 904 70 (Int32.ofInt 15) := ⟨_, rfl⟩
              rw [← eU23]
              have hHU23 : HI U23 := by rw [eU23]; exact HI_w hHU22 (show 0 ≤ 15 by omega) (show 15 ≤ 20 by omega)
              have hFU23 : FR md_mo_rest S U23 := by rw [eU23]; exact FR.wI hFU22 (mdf_i (r := (904, 905, 70, 71)) (List.mem_of_getElem? (i := 4) rfl) (inR_i (by omega) (by omega) (by omega) (by omega)))
              have w442 : Xi U23 904 70 = 15 := by rw [eU23]; exact Xi_same (by unfold rg; omega)
              refine l_aload_n rfl rfl ?_
              refine l_bipush rfl rfl ?_
              have w443 : Xi U23 904 65 = Xi T21 904 65 := (show Xi U23 904 65 = Xi U22 904 65 from by rw [eU23]; exact Xi_ne (by omega)).trans ((show Xi U22 904 65 = Xi T21 904 65 from by rw [eU22]; exact Xi_ne (by omega)))
              have w444 : 0 ≤ Xi T21 904 65 ∧ Xi T21 904 65 ≤ 1 := hHT21.c _ _
              have w445 : Xi U23 904 69 = Xi T21 904 69 := (show Xi U23 904 69 = Xi U22 904 69 from by rw [eU23]; exact Xi_ne (by omega)).trans ((show Xi U22 904 69 = Xi T21 904 69 from by rw [eU22]; exact Xi_ne (by omega)))
              have w446 : 0 ≤ Xi T21 904 69 ∧ Xi T21 904 69 ≤ 2600 := hHT21.c _ _
              have w447 : 0 ≤ Xi U23 904 70 ∧ Xi U23 904 70 ≤ 20 := hHU23.c _ _
              have w448 : Xi U23 904 71 = Xi T1 904 71 := (show Xi U23 904 71 = Xi U22 904 71 from by rw [eU23]; exact Xi_ne (by omega)).trans ( (show Xi U22 904 71 = Xi T21 904 71 from by rw [eU22]; exact Xi_ne (by omega)).trans ((show Xi T21 904 71 = Xi T1 904 71 from w434.x _ _ rfl)))
              have w449 : 0 ≤ Xi T1 904 71 ∧ Xi T1 904 71 ≤ 2600 := hHT1.c _ _
              have w450 : Xi U23 904 72 = Xi T1 904 72 := (show Xi U23 904 72 = Xi U22 904 72 from by rw [eU23]; exact Xi_ne (by omega)).trans ( (show Xi U22 904 72 = Xi T21 904 72 from by rw [eU22]; exact Xi_ne (by omega)).trans ((show Xi T21 904 72 = Xi T1 904 72 from w434.x _ _ rfl)))
              have w451 : 0 ≤ Xi T1 904 72 ∧ Xi T1 904 72 ≤ 2600 := hHT1.c _ _
              have w452 : Xi U23 904 73 = Xi T1 904 73 := (show Xi U23 904 73 = Xi U22 904 73 from by rw [eU23]; exact Xi_ne (by omega)).trans ( (show Xi U22 904 73 = Xi T21 904 73 from by rw [eU22]; exact Xi_ne (by omega)).trans ((show Xi T21 904 73 = Xi T1 904 73 from w434.x _ _ rfl)))
              have w453 : 0 ≤ Xi T1 904 73 ∧ Xi T1 904 73 ≤ 5 := hHT1.c _ _
              have w454 : Xi U23 904 74 = Xi T1 904 74 := (show Xi U23 904 74 = Xi U22 904 74 from by rw [eU23]; exact Xi_ne (by omega)).trans ( (show Xi U22 904 74 = Xi T21 904 74 from by rw [eU22]; exact Xi_ne (by omega)).trans ((show Xi T21 904 74 = Xi T1 904 74 from w434.x _ _ rfl)))
              have w455 : 0 ≤ Xi T1 904 74 ∧ Xi T1 904 74 ≤ 2600 := hHT1.c _ _
              have w456 : Xi U23 904 78 = Xi U22 904 78 := (show Xi U23 904 78 = Xi U22 904 78 from by rw [eU23]; exact Xi_ne (by omega))
              have w457 : -2 ≤ Xi U22 904 78 ∧ Xi U22 904 78 ≤ 5010 := hHU22.c _ _
              have w458 : Xi U23 904 8 = Xi T21 904 8 := (show Xi U23 904 8 = Xi U22 904 8 from by rw [eU23]; exact Xi_ne (by omega)).trans ((show Xi U22 904 8 = Xi T21 904 8 from by rw [eU22]; exact Xi_ne (by omega)))
              have w459 : 0 ≤ Xi T21 904 8 ∧ Xi T21 904 8 ≤ 5010 := hHT21.c _ _
              have w460 : Xi U23 904 93 = Xi T1 904 93 := (show Xi U23 904 93 = Xi U22 904 93 from by rw [eU23]; exact Xi_ne (by omega)).trans ( (show Xi U22 904 93 = Xi T21 904 93 from by rw [eU22]; exact Xi_ne (by omega)).trans ((show Xi T21 904 93 = Xi T1 904 93 from w434.x _ _ rfl)))
              have w461 : 0 ≤ Xi T1 904 93 ∧ Xi T1 904 93 ≤ 1700 := hHT1.c _ _
              refine l_callV rfl rfl rfl (t_mo_isNext hHU23 n c 107 ⟨by omega, by omega⟩ (by first | assumption | exact (TK_FR hFU23 rfl (by assumption : TK S _))) (by first | assumption | exact (AT_FR (FR_e eU23) rfl (AT_FR (FR_e eU22) rfl (by assumption : AT T21 _ _)))) _) ?_
              rintro _ _ ⟨rfl, z464, rfl, w464, w462, w463⟩
              show Rl _ _ _ _ _ [iv z464] _ _
              have j356 : z464 = 1 → Xi U23 904 65 = 0 ∧ Xi U23 907 (Xi U23 904 8).toNat = 107 := by assumption
              refine l_if_eq rfl rfl (by unfold rg; omega) (fun w465 => ?_) (fun w466 => ?_)
              · refine l_aload_n rfl rfl ?_
                refine l_bipush rfl rfl ?_
                have w467 : Xi U23 904 65 = Xi T21 904 65 := (show Xi U23 904 65 = Xi U22 904 65 from by rw [eU23]; exact Xi_ne (by omega)).trans ((show Xi U22 904 65 = Xi T21 904 65 from by rw [eU22]; exact Xi_ne (by omega)))
                have w468 : 0 ≤ Xi T21 904 65 ∧ Xi T21 904 65 ≤ 1 := hHT21.c _ _
                have w469 : Xi U23 904 69 = Xi T21 904 69 := (show Xi U23 904 69 = Xi U22 904 69 from by rw [eU23]; exact Xi_ne (by omega)).trans ((show Xi U22 904 69 = Xi T21 904 69 from by rw [eU22]; exact Xi_ne (by omega)))
                have w470 : 0 ≤ Xi T21 904 69 ∧ Xi T21 904 69 ≤ 2600 := hHT21.c _ _
                have w471 : 0 ≤ Xi U23 904 70 ∧ Xi U23 904 70 ≤ 20 := hHU23.c _ _
                have w472 : Xi U23 904 71 = Xi T1 904 71 := (show Xi U23 904 71 = Xi U22 904 71 from by rw [eU23]; exact Xi_ne (by omega)).trans ( (show Xi U22 904 71 = Xi T21 904 71 from by rw [eU22]; exact Xi_ne (by omega)).trans ((show Xi T21 904 71 = Xi T1 904 71 from w434.x _ _ rfl)))
                have w473 : 0 ≤ Xi T1 904 71 ∧ Xi T1 904 71 ≤ 2600 := hHT1.c _ _
                have w474 : Xi U23 904 72 = Xi T1 904 72 := (show Xi U23 904 72 = Xi U22 904 72 from by rw [eU23]; exact Xi_ne (by omega)).trans ( (show Xi U22 904 72 = Xi T21 904 72 from by rw [eU22]; exact Xi_ne (by omega)).trans ((show Xi T21 904 72 = Xi T1 904 72 from w434.x _ _ rfl)))
                have w475 : 0 ≤ Xi T1 904 72 ∧ Xi T1 904 72 ≤ 2600 := hHT1.c _ _
                have w476 : Xi U23 904 73 = Xi T1 904 73 := (show Xi U23 904 73 = Xi U22 904 73 from by rw [eU23]; exact Xi_ne (by omega)).trans ( (show Xi U22 904 73 = Xi T21 904 73 from by rw [eU22]; exact Xi_ne (by omega)).trans ((show Xi T21 904 73 = Xi T1 904 73 from w434.x _ _ rfl)))
                have w477 : 0 ≤ Xi T1 904 73 ∧ Xi T1 904 73 ≤ 5 := hHT1.c _ _
                have w478 : Xi U23 904 74 = Xi T1 904 74 := (show Xi U23 904 74 = Xi U22 904 74 from by rw [eU23]; exact Xi_ne (by omega)).trans ( (show Xi U22 904 74 = Xi T21 904 74 from by rw [eU22]; exact Xi_ne (by omega)).trans ((show Xi T21 904 74 = Xi T1 904 74 from w434.x _ _ rfl)))
                have w479 : 0 ≤ Xi T1 904 74 ∧ Xi T1 904 74 ≤ 2600 := hHT1.c _ _
                have w480 : Xi U23 904 78 = Xi U22 904 78 := (show Xi U23 904 78 = Xi U22 904 78 from by rw [eU23]; exact Xi_ne (by omega))
                have w481 : -2 ≤ Xi U22 904 78 ∧ Xi U22 904 78 ≤ 5010 := hHU22.c _ _
                have w482 : Xi U23 904 8 = Xi T21 904 8 := (show Xi U23 904 8 = Xi U22 904 8 from by rw [eU23]; exact Xi_ne (by omega)).trans ((show Xi U22 904 8 = Xi T21 904 8 from by rw [eU22]; exact Xi_ne (by omega)))
                have w483 : 0 ≤ Xi T21 904 8 ∧ Xi T21 904 8 ≤ 5010 := hHT21.c _ _
                have w484 : Xi U23 904 93 = Xi T1 904 93 := (show Xi U23 904 93 = Xi U22 904 93 from by rw [eU23]; exact Xi_ne (by omega)).trans ( (show Xi U22 904 93 = Xi T21 904 93 from by rw [eU22]; exact Xi_ne (by omega)).trans ((show Xi T21 904 93 = Xi T1 904 93 from w434.x _ _ rfl)))
                have w485 : 0 ≤ Xi T1 904 93 ∧ Xi T1 904 93 ≤ 1700 := hHT1.c _ _
                refine l_callV rfl rfl rfl (t_mo_isNext hHU23 n c 116 ⟨by omega, by omega⟩ (by first | assumption | exact (TK_FR hFU23 rfl (by assumption : TK S _))) (by first | assumption | exact (AT_FR (FR_e eU23) rfl (AT_FR (FR_e eU22) rfl (by assumption : AT T21 _ _)))) _) ?_
                rintro _ _ ⟨rfl, z488, rfl, w488, w486, w487⟩
                show Rl _ _ _ _ _ [iv z488] _ _
                refine l_if_ne rfl rfl (by unfold rg; omega) (fun w489 => ?_) (fun w490 => ?_)
                · refine l_aload_n rfl rfl ?_
                  refine l_bipush rfl rfl ?_
                  refine l_pfi rfl rfl rfl rfl ?_
                  obtain ⟨U24, eU24⟩ : ∃ T : sS, T = uI U23 904 70 (Int32.ofInt 16) := ⟨_, rfl⟩
                  rw [← eU24]
                  have hHU24 : HI U24 := by rw [eU24]; exact HI_w hHU23 (show 0 ≤ 16 by omega) (show 16 ≤ 20 by omega)
                  have hFU24 : FR md_mo_rest S U24 := by rw [eU24]; exact FR.wI hFU23 (mdf_i (r := (904, 905, 70, 71)) (List.mem_of_getElem? (i := 4) rfl) (inR_i (by omega) (by omega) (by omega) (by omega)))
                  have w491 : Xi U24 904 70 = 16 := by rw [eU24]; exact Xi_same (by unfold rg; omega)
                  have w492 : Xi U24 904 65 = Xi T21 904 65 := (show Xi U24 904 65 = Xi U23 904 65 from by rw [eU24]; exact Xi_ne (by omega)).trans ( (show Xi U23 904 65 = Xi U22 904 65 from by rw [eU23]; exact Xi_ne (by omega)).trans ((show Xi U22 904 65 = Xi T21 904 65 from by rw [eU22]; exact Xi_ne (by omega))))
                  have w493 : 0 ≤ Xi T21 904 65 ∧ Xi T21 904 65 ≤ 1 := hHT21.c _ _
                  have w494 : Xi U24 904 69 = Xi T21 904 69 := (show Xi U24 904 69 = Xi U23 904 69 from by rw [eU24]; exact Xi_ne (by omega)).trans ( (show Xi U23 904 69 = Xi U22 904 69 from by rw [eU23]; exact Xi_ne (by omega)).trans ((show Xi U22 904 69 = Xi T21 904 69 from by rw [eU22]; exact Xi_ne (by omega))))
                  have w495 : 0 ≤ Xi T21 904 69 ∧ Xi T21 904 69 ≤ 2600 := hHT21.c _ _
                  have w496 : 0 ≤ Xi U24 904 70 ∧ Xi U24 904 70 ≤ 20 := hHU24.c _ _
                  have w497 : Xi U24 904 71 = Xi T1 904 71 := (show Xi U24 904 71 = Xi U23 904 71 from by rw [eU24]; exact Xi_ne (by omega)).trans ( (show Xi U23 904 71 = Xi U22 904 71 from by rw [eU23]; exact Xi_ne (by omega)).trans ( (show Xi U22 904 71 = Xi T21 904 71 from by rw [eU22]; exact Xi_ne (by omega)).trans ((show Xi T21 904 71 = Xi T1 904 71 from w434.x _ _ rfl))))
                  have w498 : 0 ≤ Xi T1 904 71 ∧ Xi T1 904 71 ≤ 2600 := hHT1.c _ _
                  have w499 : Xi U24 904 72 = Xi T1 904 72 := (show Xi U24 904 72 = Xi U23 904 72 from by rw [eU24]; exact Xi_ne (by omega)).trans ( (show Xi U23 904 72 = Xi U22 904 72 from by rw [eU23]; exact Xi_ne (by omega)).trans ( (show Xi U22 904 72 = Xi T21 904 72 from by rw [eU22]; exact Xi_ne (by omega)).trans ((show Xi T21 904 72 = Xi T1 904 72 from w434.x _ _ rfl))))
                  have w500 : 0 ≤ Xi T1 904 72 ∧ Xi T1 904 72 ≤ 2600 := hHT1.c _ _
                  have w501 : Xi U24 904 73 = Xi T1 904 73 := (show Xi U24 904 73 = Xi U23 904 73 from by rw [eU24]; exact Xi_ne (by omega)).trans ( (show Xi U23 904 73 = Xi U22 904 73 from by rw [eU23]; exact Xi_ne (by omega)).trans ( (show Xi U22 904 73 = Xi T21 904 73 from by rw [eU22]; exact Xi_ne (by omega)).trans ((show Xi T21 904 73 = Xi T1 904 73 from w434.x _ _ rfl))))
                  have w502 : 0 ≤ Xi T1 904 73 ∧ Xi T1 904 73 ≤ 5 := hHT1.c _ _
                  have w503 : Xi U24 904 74 = Xi T1 904 74 := (show Xi U24 904 74 = Xi U23 904 74 from by rw [eU24]; exact Xi_ne (by omega)).trans ( (show Xi U23 904 74 = Xi U22 904 74 from by rw [eU23]; exact Xi_ne (by omega)).trans ( (show Xi U22 904 74 = Xi T21 904 74 from by rw [eU22]; exact Xi_ne (by omega)).trans ((show Xi T21 904 74 = Xi T1 904 74 from w434.x _ _ rfl))))
                  have w504 : 0 ≤ Xi T1 904 74 ∧ Xi T1 904 74 ≤ 2600 := hHT1.c _ _
                  have w505 : Xi U24 904 78 = Xi U22 904 78 := (show Xi U24 904 78 = Xi U23 904 78 from by rw [eU24]; exact Xi_ne (by omega)).trans ((show Xi U23 904 78 = Xi U22 904 78 from by rw [eU23]; exact Xi_ne (by omega)))
                  have w506 : -2 ≤ Xi U22 904 78 ∧ Xi U22 904 78 ≤ 5010 := hHU22.c _ _
                  have w507 : Xi U24 904 8 = Xi T21 904 8 := (show Xi U24 904 8 = Xi U23 904 8 from by rw [eU24]; exact Xi_ne (by omega)).trans ( (show Xi U23 904 8 = Xi U22 904 8 from by rw [eU23]; exact Xi_ne (by omega)).trans ((show Xi U22 904 8 = Xi T21 904 8 from by rw [eU22]; exact Xi_ne (by omega))))
                  have w508 : 0 ≤ Xi T21 904 8 ∧ Xi T21 904 8 ≤ 5010 := hHT21.c _ _
                  have w509 : Xi U24 904 93 = Xi T1 904 93 := (show Xi U24 904 93 = Xi U23 904 93 from by rw [eU24]; exact Xi_ne (by omega)).trans ( (show Xi U23 904 93 = Xi U22 904 93 from by rw [eU23]; exact Xi_ne (by omega)).trans ( (show Xi U22 904 93 = Xi T21 904 93 from by rw [eU22]; exact Xi_ne (by omega)).trans ((show Xi T21 904 93 = Xi T1 904 93 from w434.x _ _ rfl))))
                  have w510 : 0 ≤ Xi T1 904 93 ∧ Xi T1 904 93 ≤ 1700 := hHT1.c _ _
                  exact Rl_weak (C413 _ U24 hHU24 hFU24  (by first | assumption | exact (AT_FR (FR_e eU24) rfl (AT_FR (FR_e eU23) rfl (AT_FR (FR_e eU22) rfl (by assumption : AT T21 _ _))))) (by first | assumption | exact (RNV_FR (FR_e eU24) rfl (RNV_FR (FR_e eU23) rfl (RNV_FR (FR_e eU22) rfl (by assumption : RNV T21 _))))) (by omega) (by omega) (by omega) (by omega) (by omega) rfl) (And.intro rfl (True.intro))
                · refine l_aload_n rfl rfl ?_
                  refine l_bipush rfl rfl ?_
                  have w511 : Xi U23 904 65 = Xi T21 904 65 := (show Xi U23 904 65 = Xi U22 904 65 from by rw [eU23]; exact Xi_ne (by omega)).trans ((show Xi U22 904 65 = Xi T21 904 65 from by rw [eU22]; exact Xi_ne (by omega)))
                  have w512 : 0 ≤ Xi T21 904 65 ∧ Xi T21 904 65 ≤ 1 := hHT21.c _ _
                  have w513 : Xi U23 904 69 = Xi T21 904 69 := (show Xi U23 904 69 = Xi U22 904 69 from by rw [eU23]; exact Xi_ne (by omega)).trans ((show Xi U22 904 69 = Xi T21 904 69 from by rw [eU22]; exact Xi_ne (by omega)))
                  have w514 : 0 ≤ Xi T21 904 69 ∧ Xi T21 904 69 ≤ 2600 := hHT21.c _ _
                  have w515 : 0 ≤ Xi U23 904 70 ∧ Xi U23 904 70 ≤ 20 := hHU23.c _ _
                  have w516 : Xi U23 904 71 = Xi T1 904 71 := (show Xi U23 904 71 = Xi U22 904 71 from by rw [eU23]; exact Xi_ne (by omega)).trans ( (show Xi U22 904 71 = Xi T21 904 71 from by rw [eU22]; exact Xi_ne (by omega)).trans ((show Xi T21 904 71 = Xi T1 904 71 from w434.x _ _ rfl)))
                  have w517 : 0 ≤ Xi T1 904 71 ∧ Xi T1 904 71 ≤ 2600 := hHT1.c _ _
                  have w518 : Xi U23 904 72 = Xi T1 904 72 := (show Xi U23 904 72 = Xi U22 904 72 from by rw [eU23]; exact Xi_ne (by omega)).trans ( (show Xi U22 904 72 = Xi T21 904 72 from by rw [eU22]; exact Xi_ne (by omega)).trans ((show Xi T21 904 72 = Xi T1 904 72 from w434.x _ _ rfl)))
                  have w519 : 0 ≤ Xi T1 904 72 ∧ Xi T1 904 72 ≤ 2600 := hHT1.c _ _
                  have w520 : Xi U23 904 73 = Xi T1 904 73 := (show Xi U23 904 73 = Xi U22 904 73 from by rw [eU23]; exact Xi_ne (by omega)).trans ( (show Xi U22 904 73 = Xi T21 904 73 from by rw [eU22]; exact Xi_ne (by omega)).trans ((show Xi T21 904 73 = Xi T1 904 73 from w434.x _ _ rfl)))
                  have w521 : 0 ≤ Xi T1 904 73 ∧ Xi T1 904 73 ≤ 5 := hHT1.c _ _
                  have w522 : Xi U23 904 74 = Xi T1 904 74 := (show Xi U23 904 74 = Xi U22 904 74 from by rw [eU23]; exact Xi_ne (by omega)).trans ( (show Xi U22 904 74 = Xi T21 904 74 from by rw [eU22]; exact Xi_ne (by omega)).trans ((show Xi T21 904 74 = Xi T1 904 74 from w434.x _ _ rfl)))
                  have w523 : 0 ≤ Xi T1 904 74 ∧ Xi T1 904 74 ≤ 2600 := hHT1.c _ _
                  have w524 : Xi U23 904 78 = Xi U22 904 78 := (show Xi U23 904 78 = Xi U22 904 78 from by rw [eU23]; exact Xi_ne (by omega))
                  have w525 : -2 ≤ Xi U22 904 78 ∧ Xi U22 904 78 ≤ 5010 := hHU22.c _ _
                  have w526 : Xi U23 904 8 = Xi T21 904 8 := (show Xi U23 904 8 = Xi U22 904 8 from by rw [eU23]; exact Xi_ne (by omega)).trans ((show Xi U22 904 8 = Xi T21 904 8 from by rw [eU22]; exact Xi_ne (by omega)))
                  have w527 : 0 ≤ Xi T21 904 8 ∧ Xi T21 904 8 ≤ 5010 := hHT21.c _ _
                  have w528 : Xi U23 904 93 = Xi T1 904 93 := (show Xi U23 904 93 = Xi U22 904 93 from by rw [eU23]; exact Xi_ne (by omega)).trans ( (show Xi U22 904 93 = Xi T21 904 93 from by rw [eU22]; exact Xi_ne (by omega)).trans ((show Xi T21 904 93 = Xi T1 904 93 from w434.x _ _ rfl)))
                  have w529 : 0 ≤ Xi T1 904 93 ∧ Xi T1 904 93 ≤ 1700 := hHT1.c _ _
                  refine l_callV rfl rfl rfl (t_mo_isNext hHU23 n c 44 ⟨by omega, by omega⟩ (by first | assumption | exact (TK_FR hFU23 rfl (by assumption : TK S _))) (by first | assumption | exact (AT_FR (FR_e eU23) rfl (AT_FR (FR_e eU22) rfl (by assumption : AT T21 _ _)))) _) ?_
                  rintro _ _ ⟨rfl, z532, rfl, w532, w530, w531⟩
                  show Rl _ _ _ _ _ [iv z532] _ _
                  refine l_if_eq rfl rfl (by unfold rg; omega) (fun w533 => ?_) (fun w534 => ?_)
                  · refine l_return rfl rfl ?_
                    have w535 : Xi U23 904 65 = Xi T21 904 65 := (show Xi U23 904 65 = Xi U22 904 65 from by rw [eU23]; exact Xi_ne (by omega)).trans ((show Xi U22 904 65 = Xi T21 904 65 from by rw [eU22]; exact Xi_ne (by omega)))
                    have w536 : 0 ≤ Xi T21 904 65 ∧ Xi T21 904 65 ≤ 1 := hHT21.c _ _
                    have w537 : Xi U23 904 69 = Xi T21 904 69 := (show Xi U23 904 69 = Xi U22 904 69 from by rw [eU23]; exact Xi_ne (by omega)).trans ((show Xi U22 904 69 = Xi T21 904 69 from by rw [eU22]; exact Xi_ne (by omega)))
                    have w538 : 0 ≤ Xi T21 904 69 ∧ Xi T21 904 69 ≤ 2600 := hHT21.c _ _
                    have w539 : 0 ≤ Xi U23 904 70 ∧ Xi U23 904 70 ≤ 20 := hHU23.c _ _
                    have w540 : Xi U23 904 71 = Xi T1 904 71 := (show Xi U23 904 71 = Xi U22 904 71 from by rw [eU23]; exact Xi_ne (by omega)).trans ( (show Xi U22 904 71 = Xi T21 904 71 from by rw [eU22]; exact Xi_ne (by omega)).trans ((show Xi T21 904 71 = Xi T1 904 71 from w434.x _ _ rfl)))
                    have w541 : 0 ≤ Xi T1 904 71 ∧ Xi T1 904 71 ≤ 2600 := hHT1.c _ _
                    have w542 : Xi U23 904 72 = Xi T1 904 72 := (show Xi U23 904 72 = Xi U22 904 72 from by rw [eU23]; exact Xi_ne (by omega)).trans ( (show Xi U22 904 72 = Xi T21 904 72 from by rw [eU22]; exact Xi_ne (by omega)).trans ((show Xi T21 904 72 = Xi T1 904 72 from w434.x _ _ rfl)))
                    have w543 : 0 ≤ Xi T1 904 72 ∧ Xi T1 904 72 ≤ 2600 := hHT1.c _ _
                    have w544 : Xi U23 904 73 = Xi T1 904 73 := (show Xi U23 904 73 = Xi U22 904 73 from by rw [eU23]; exact Xi_ne (by omega)).trans ( (show Xi U22 904 73 = Xi T21 904 73 from by rw [eU22]; exact Xi_ne (by omega)).trans ((show Xi T21 904 73 = Xi T1 904 73 from w434.x _ _ rfl)))
                    have w545 : 0 ≤ Xi T1 904 73 ∧ Xi T1 904 73 ≤ 5 := hHT1.c _ _
                    have w546 : Xi U23 904 74 = Xi T1 904 74 := (show Xi U23 904 74 = Xi U22 904 74 from by rw [eU23]; exact Xi_ne (by omega)).trans ( (show Xi U22 904 74 = Xi T21 904 74 from by rw [eU22]; exact Xi_ne (by omega)).trans ((show Xi T21 904 74 = Xi T1 904 74 from w434.x _ _ rfl)))
                    have w547 : 0 ≤ Xi T1 904 74 ∧ Xi T1 904 74 ≤ 2600 := hHT1.c _ _
                    have w548 : Xi U23 904 78 = Xi U22 904 78 := (show Xi U23 904 78 = Xi U22 904 78 from by rw [eU23]; exact Xi_ne (by omega))
                    have w549 : -2 ≤ Xi U22 904 78 ∧ Xi U22 904 78 ≤ 5010 := hHU22.c _ _
                    have w550 : Xi U23 904 8 = Xi T21 904 8 := (show Xi U23 904 8 = Xi U22 904 8 from by rw [eU23]; exact Xi_ne (by omega)).trans ((show Xi U22 904 8 = Xi T21 904 8 from by rw [eU22]; exact Xi_ne (by omega)))
                    have w551 : 0 ≤ Xi T21 904 8 ∧ Xi T21 904 8 ≤ 5010 := hHT21.c _ _
                    have w552 : Xi U23 904 93 = Xi T1 904 93 := (show Xi U23 904 93 = Xi U22 904 93 from by rw [eU23]; exact Xi_ne (by omega)).trans ( (show Xi U22 904 93 = Xi T21 904 93 from by rw [eU22]; exact Xi_ne (by omega)).trans ((show Xi T21 904 93 = Xi T1 904 93 from w434.x _ _ rfl)))
                    have w553 : 0 ≤ Xi T1 904 93 ∧ Xi T1 904 93 ≤ 1700 := hHT1.c _ _
                    exact ⟨hHU23, hFU23, rfl, (by first | assumption | exact (AT_FR (FR_e eU23) rfl (AT_FR (FR_e eU22) rfl (by assumption : AT T21 _ _)))), (by omega), (by first | assumption | exact (RNV_FR (FR_e eU23) rfl (RNV_FR (FR_e eU22) rfl (by assumption : RNV T21 _)))), (by omega), (by omega), (by omega), (fun q => by unfold SNQ; refine ⟨fun q1 => absurd q1 (by omega), by omega, by omega, by omega, fun q9 => absurd q9 (by omega), by omega, by omega, by omega, by omega, by omega⟩)⟩
                  · refine l_aload_n rfl rfl ?_
                    refine l_bipush rfl rfl ?_
                    refine l_pfi rfl rfl rfl rfl ?_
                    obtain ⟨U25, eU25⟩ : ∃ T : sS, T = uI U23 904 70 (Int32.ofInt 16) := ⟨_, rfl⟩
                    rw [← eU25]
                    have hHU25 : HI U25 := by rw [eU25]; exact HI_w hHU23 (show 0 ≤ 16 by omega) (show 16 ≤ 20 by omega)
                    have hFU25 : FR md_mo_rest S U25 := by rw [eU25]; exact FR.wI hFU23 (mdf_i (r := (904, 905, 70, 71)) (List.mem_of_getElem? (i := 4) rfl) (inR_i (by omega) (by omega) (by omega) (by omega)))
                    have w554 : Xi U25 904 70 = 16 := by rw [eU25]; exact Xi_same (by unfold rg; omega)
                    have w555 : Xi U25 904 65 = Xi T21 904 65 := (show Xi U25 904 65 = Xi U23 904 65 from by rw [eU25]; exact Xi_ne (by omega)).trans ( (show Xi U23 904 65 = Xi U22 904 65 from by rw [eU23]; exact Xi_ne (by omega)).trans ((show Xi U22 904 65 = Xi T21 904 65 from by rw [eU22]; exact Xi_ne (by omega))))
                    have w556 : 0 ≤ Xi T21 904 65 ∧ Xi T21 904 65 ≤ 1 := hHT21.c _ _
                    have w557 : Xi U25 904 69 = Xi T21 904 69 := (show Xi U25 904 69 = Xi U23 904 69 from by rw [eU25]; exact Xi_ne (by omega)).trans ( (show Xi U23 904 69 = Xi U22 904 69 from by rw [eU23]; exact Xi_ne (by omega)).trans ((show Xi U22 904 69 = Xi T21 904 69 from by rw [eU22]; exact Xi_ne (by omega))))
                    have w558 : 0 ≤ Xi T21 904 69 ∧ Xi T21 904 69 ≤ 2600 := hHT21.c _ _
                    have w559 : 0 ≤ Xi U25 904 70 ∧ Xi U25 904 70 ≤ 20 := hHU25.c _ _
                    have w560 : Xi U25 904 71 = Xi T1 904 71 := (show Xi U25 904 71 = Xi U23 904 71 from by rw [eU25]; exact Xi_ne (by omega)).trans ( (show Xi U23 904 71 = Xi U22 904 71 from by rw [eU23]; exact Xi_ne (by omega)).trans ( (show Xi U22 904 71 = Xi T21 904 71 from by rw [eU22]; exact Xi_ne (by omega)).trans ((show Xi T21 904 71 = Xi T1 904 71 from w434.x _ _ rfl))))
                    have w561 : 0 ≤ Xi T1 904 71 ∧ Xi T1 904 71 ≤ 2600 := hHT1.c _ _
                    have w562 : Xi U25 904 72 = Xi T1 904 72 := (show Xi U25 904 72 = Xi U23 904 72 from by rw [eU25]; exact Xi_ne (by omega)).trans ( (show Xi U23 904 72 = Xi U22 904 72 from by rw [eU23]; exact Xi_ne (by omega)).trans ( (show Xi U22 904 72 = Xi T21 904 72 from by rw [eU22]; exact Xi_ne (by omega)).trans ((show Xi T21 904 72 = Xi T1 904 72 from w434.x _ _ rfl))))
                    have w563 : 0 ≤ Xi T1 904 72 ∧ Xi T1 904 72 ≤ 2600 := hHT1.c _ _
                    have w564 : Xi U25 904 73 = Xi T1 904 73 := (show Xi U25 904 73 = Xi U23 904 73 from by rw [eU25]; exact Xi_ne (by omega)).trans ( (show Xi U23 904 73 = Xi U22 904 73 from by rw [eU23]; exact Xi_ne (by omega)).trans ( (show Xi U22 904 73 = Xi T21 904 73 from by rw [eU22]; exact Xi_ne (by omega)).trans ((show Xi T21 904 73 = Xi T1 904 73 from w434.x _ _ rfl))))
                    have w565 : 0 ≤ Xi T1 904 73 ∧ Xi T1 904 73 ≤ 5 := hHT1.c _ _
                    have w566 : Xi U25 904 74 = Xi T1 904 74 := (show Xi U25 904 74 = Xi U23 904 74 from by rw [eU25]; exact Xi_ne (by omega)).trans ( (show Xi U23 904 74 = Xi U22 904 74 from by rw [eU23]; exact Xi_ne (by omega)).trans ( (show Xi U22 904 74 = Xi T21 904 74 from by rw [eU22]; exact Xi_ne (by omega)).trans ((show Xi T21 904 74 = Xi T1 904 74 from w434.x _ _ rfl))))
                    have w567 : 0 ≤ Xi T1 904 74 ∧ Xi T1 904 74 ≤ 2600 := hHT1.c _ _
                    have w568 : Xi U25 904 78 = Xi U22 904 78 := (show Xi U25 904 78 = Xi U23 904 78 from by rw [eU25]; exact Xi_ne (by omega)).trans ((show Xi U23 904 78 = Xi U22 904 78 from by rw [eU23]; exact Xi_ne (by omega)))
                    have w569 : -2 ≤ Xi U22 904 78 ∧ Xi U22 904 78 ≤ 5010 := hHU22.c _ _
                    have w570 : Xi U25 904 8 = Xi T21 904 8 := (show Xi U25 904 8 = Xi U23 904 8 from by rw [eU25]; exact Xi_ne (by omega)).trans ( (show Xi U23 904 8 = Xi U22 904 8 from by rw [eU23]; exact Xi_ne (by omega)).trans ((show Xi U22 904 8 = Xi T21 904 8 from by rw [eU22]; exact Xi_ne (by omega))))
                    have w571 : 0 ≤ Xi T21 904 8 ∧ Xi T21 904 8 ≤ 5010 := hHT21.c _ _
                    have w572 : Xi U25 904 93 = Xi T1 904 93 := (show Xi U25 904 93 = Xi U23 904 93 from by rw [eU25]; exact Xi_ne (by omega)).trans ( (show Xi U23 904 93 = Xi U22 904 93 from by rw [eU23]; exact Xi_ne (by omega)).trans ( (show Xi U22 904 93 = Xi T21 904 93 from by rw [eU22]; exact Xi_ne (by omega)).trans ((show Xi T21 904 93 = Xi T1 904 93 from w434.x _ _ rfl))))
                    have w573 : 0 ≤ Xi T1 904 93 ∧ Xi T1 904 93 ≤ 1700 := hHT1.c _ _
                    exact Rl_weak (C413 _ U25 hHU25 hFU25  (by first | assumption | exact (AT_FR (FR_e eU25) rfl (AT_FR (FR_e eU23) rfl (AT_FR (FR_e eU22) rfl (by assumption : AT T21 _ _))))) (by first | assumption | exact (RNV_FR (FR_e eU25) rfl (RNV_FR (FR_e eU23) rfl (RNV_FR (FR_e eU22) rfl (by assumption : RNV T21 _))))) (by omega) (by omega) (by omega) (by omega) (by omega) rfl) (And.intro rfl (True.intro))
              · refine l_aload_n rfl rfl ?_
                refine l_bipush rfl rfl ?_
                refine l_pfi rfl rfl rfl rfl ?_
                obtain ⟨U26, eU26⟩ : ∃ T : sS, T = uI U23 904 70 (Int32.ofInt 14) := ⟨_, rfl⟩
                rw [← eU26]
                have hHU26 : HI U26 := by rw [eU26]; exact HI_w hHU23 (show 0 ≤ 14 by omega) (show 14 ≤ 20 by omega)
                have hFU26 : FR md_mo_rest S U26 := by rw [eU26]; exact FR.wI hFU23 (mdf_i (r := (904, 905, 70, 71)) (List.mem_of_getElem? (i := 4) rfl) (inR_i (by omega) (by omega) (by omega) (by omega)))
                have w574 : Xi U26 904 70 = 14 := by rw [eU26]; exact Xi_same (by unfold rg; omega)
                refine l_aload_n rfl rfl ?_
                refine l_dup rfl rfl ?_
                refine l_gfi rfl rfl rfl rfl rfl ?_
                have w575 : 0 ≤ (Xi U26 904 8) ∧ (Xi U26 904 8) ≤ 5010 := hHU26.c _ _
                have b370 : (Xi U26 904 8) = Xi U23 904 8 := by rw [eU26, Xi_ne (by omega)]
                refine l_iconst rfl ?_
                refine l_iadd rfl ?_
                refine l_pfi rfl rfl rfl rfl ?_
                obtain ⟨U27, eU27⟩ : ∃ T : sS, T = uI U26 904 8 (Int32.ofInt ((Xi U26 904 8) + 1)) := ⟨_, rfl⟩
                rw [← eU27]
                have hHU27 : HI U27 := by rw [eU27]; exact HI_w hHU26 (show 0 ≤ ((Xi U26 904 8) + 1) by omega) (show ((Xi U26 904 8) + 1) ≤ 5010 by omega)
                have hFU27 : FR md_mo_rest S U27 := by rw [eU27]; exact FR.wI hFU26 (mdf_i (r := (904, 905, 8, 9)) (List.mem_of_getElem? (i := 0) rfl) (inR_i (by omega) (by omega) (by omega) (by omega)))
                have w576 : Xi U27 904 8 = ((Xi U26 904 8) + 1) := by rw [eU27]; exact Xi_same (by unfold rg; omega)
                have t375 : AT U27 n c ∧ _ := (at_mv (S := U23) (P := U26) (TK_FR hFU23 rfl (by assumption : TK S _)) (by first | assumption | exact (AT_FR (FR_e eU23) rfl (AT_FR (FR_e eU22) rfl (by assumption : AT T21 _ _)))) (fun j => ((FR_e eU26).cx 907 rfl j).1) (fun j => ((FR_e eU26).cx 908 rfl j).1) ((show Xi U26 904 8 = Xi U23 904 8 from by rw [eU26]; exact Xi_ne (by omega))) ((show Xi U26 904 65 = Xi U23 904 65 from by rw [eU26]; exact Xi_ne (by omega))) ((show Xi U26 904 69 = Xi U23 904 69 from by rw [eU26]; exact Xi_ne (by omega))) ((show Xi U26 904 93 = Xi U23 904 93 from by rw [eU26]; exact Xi_ne (by omega))) eU27 (by omega) (by omega) (by omega) (by omega) (Or.inl rfl))
                have a375 : AT U27 n c := t375.1
                have l375 := t375.2
                refine l_aload_n rfl rfl ?_
                refine l_aload_n rfl rfl ?_
                have w577 : Xi U27 904 65 = Xi T21 904 65 := (show Xi U27 904 65 = Xi U26 904 65 from by rw [eU27]; exact Xi_ne (by omega)).trans ( (show Xi U26 904 65 = Xi U23 904 65 from by rw [eU26]; exact Xi_ne (by omega)).trans ( (show Xi U23 904 65 = Xi U22 904 65 from by rw [eU23]; exact Xi_ne (by omega)).trans ((show Xi U22 904 65 = Xi T21 904 65 from by rw [eU22]; exact Xi_ne (by omega)))))
                have w578 : 0 ≤ Xi T21 904 65 ∧ Xi T21 904 65 ≤ 1 := hHT21.c _ _
                have w579 : Xi U27 904 69 = Xi T21 904 69 := (show Xi U27 904 69 = Xi U26 904 69 from by rw [eU27]; exact Xi_ne (by omega)).trans ( (show Xi U26 904 69 = Xi U23 904 69 from by rw [eU26]; exact Xi_ne (by omega)).trans ( (show Xi U23 904 69 = Xi U22 904 69 from by rw [eU23]; exact Xi_ne (by omega)).trans ((show Xi U22 904 69 = Xi T21 904 69 from by rw [eU22]; exact Xi_ne (by omega)))))
                have w580 : 0 ≤ Xi T21 904 69 ∧ Xi T21 904 69 ≤ 2600 := hHT21.c _ _
                have w581 : Xi U27 904 70 = Xi U26 904 70 := (show Xi U27 904 70 = Xi U26 904 70 from by rw [eU27]; exact Xi_ne (by omega))
                have w582 : 0 ≤ Xi U26 904 70 ∧ Xi U26 904 70 ≤ 20 := hHU26.c _ _
                have w583 : Xi U27 904 71 = Xi T1 904 71 := (show Xi U27 904 71 = Xi U26 904 71 from by rw [eU27]; exact Xi_ne (by omega)).trans ( (show Xi U26 904 71 = Xi U23 904 71 from by rw [eU26]; exact Xi_ne (by omega)).trans ( (show Xi U23 904 71 = Xi U22 904 71 from by rw [eU23]; exact Xi_ne (by omega)).trans ( (show Xi U22 904 71 = Xi T21 904 71 from by rw [eU22]; exact Xi_ne (by omega)).trans ((show Xi T21 904 71 = Xi T1 904 71 from w434.x _ _ rfl)))))
                have w584 : 0 ≤ Xi T1 904 71 ∧ Xi T1 904 71 ≤ 2600 := hHT1.c _ _
                have w585 : Xi U27 904 72 = Xi T1 904 72 := (show Xi U27 904 72 = Xi U26 904 72 from by rw [eU27]; exact Xi_ne (by omega)).trans ( (show Xi U26 904 72 = Xi U23 904 72 from by rw [eU26]; exact Xi_ne (by omega)).trans ( (show Xi U23 904 72 = Xi U22 904 72 from by rw [eU23]; exact Xi_ne (by omega)).trans ( (show Xi U22 904 72 = Xi T21 904 72 from by rw [eU22]; exact Xi_ne (by omega)).trans ((show Xi T21 904 72 = Xi T1 904 72 from w434.x _ _ rfl)))))
                have w586 : 0 ≤ Xi T1 904 72 ∧ Xi T1 904 72 ≤ 2600 := hHT1.c _ _
                have w587 : Xi U27 904 73 = Xi T1 904 73 := (show Xi U27 904 73 = Xi U26 904 73 from by rw [eU27]; exact Xi_ne (by omega)).trans ( (show Xi U26 904 73 = Xi U23 904 73 from by rw [eU26]; exact Xi_ne (by omega)).trans ( (show Xi U23 904 73 = Xi U22 904 73 from by rw [eU23]; exact Xi_ne (by omega)).trans ( (show Xi U22 904 73 = Xi T21 904 73 from by rw [eU22]; exact Xi_ne (by omega)).trans ((show Xi T21 904 73 = Xi T1 904 73 from w434.x _ _ rfl)))))
                have w588 : 0 ≤ Xi T1 904 73 ∧ Xi T1 904 73 ≤ 5 := hHT1.c _ _
                have w589 : Xi U27 904 74 = Xi T1 904 74 := (show Xi U27 904 74 = Xi U26 904 74 from by rw [eU27]; exact Xi_ne (by omega)).trans ( (show Xi U26 904 74 = Xi U23 904 74 from by rw [eU26]; exact Xi_ne (by omega)).trans ( (show Xi U23 904 74 = Xi U22 904 74 from by rw [eU23]; exact Xi_ne (by omega)).trans ( (show Xi U22 904 74 = Xi T21 904 74 from by rw [eU22]; exact Xi_ne (by omega)).trans ((show Xi T21 904 74 = Xi T1 904 74 from w434.x _ _ rfl)))))
                have w590 : 0 ≤ Xi T1 904 74 ∧ Xi T1 904 74 ≤ 2600 := hHT1.c _ _
                have w591 : Xi U27 904 78 = Xi U22 904 78 := (show Xi U27 904 78 = Xi U26 904 78 from by rw [eU27]; exact Xi_ne (by omega)).trans ( (show Xi U26 904 78 = Xi U23 904 78 from by rw [eU26]; exact Xi_ne (by omega)).trans ((show Xi U23 904 78 = Xi U22 904 78 from by rw [eU23]; exact Xi_ne (by omega))))
                have w592 : -2 ≤ Xi U22 904 78 ∧ Xi U22 904 78 ≤ 5010 := hHU22.c _ _
                have w593 : 0 ≤ Xi U27 904 8 ∧ Xi U27 904 8 ≤ 5010 := hHU27.c _ _
                have w594 : Xi U27 904 93 = Xi T1 904 93 := (show Xi U27 904 93 = Xi U26 904 93 from by rw [eU27]; exact Xi_ne (by omega)).trans ( (show Xi U26 904 93 = Xi U23 904 93 from by rw [eU26]; exact Xi_ne (by omega)).trans ( (show Xi U23 904 93 = Xi U22 904 93 from by rw [eU23]; exact Xi_ne (by omega)).trans ( (show Xi U22 904 93 = Xi T21 904 93 from by rw [eU22]; exact Xi_ne (by omega)).trans ((show Xi T21 904 93 = Xi T1 904 93 from w434.x _ _ rfl)))))
                have w595 : 0 ≤ Xi T1 904 93 ∧ Xi T1 904 93 ≤ 1700 := hHT1.c _ _
                refine l_callV rfl rfl rfl (t_mo_name hHU27 n c (by first | assumption | exact (TK_FR hFU27 rfl (by assumption : TK S _))) (by first | assumption | exact (by assumption : AT U27 _ _)) (by first | assumption | exact (RNV_FR (FR_e eU27) rfl (RNV_FR (FR_e eU26) rfl (RNV_FR (FR_e eU23) rfl (RNV_FR (FR_e eU22) rfl (by assumption : RNV T21 _)))))) _) ?_
                rintro _ T28 ⟨hHT28, w602, z601, rfl, w601, w596, w597, w598, w599, w600⟩
                have hFT28 : FR md_mo_rest S T28 := FR.tr hFU27 w602 rfl
                show Rl _ _ _ _ _ [iv z601, .ref 904] _ _
                have w604 : 0 ≤ Xi T28 904 8 ∧ Xi T28 904 8 ≤ 5010 := hHT28.c _ _
                have w605 : 0 ≤ Xi T28 904 65 ∧ Xi T28 904 65 ≤ 1 := hHT28.c _ _
                have w606 : 0 ≤ Xi T28 904 69 ∧ Xi T28 904 69 ≤ 2600 := hHT28.c _ _
                have w607 : Xi T28 904 93 = Xi T1 904 93 := (show Xi T28 904 93 = Xi U27 904 93 from w602.x _ _ rfl).trans ( (show Xi U27 904 93 = Xi U26 904 93 from by rw [eU27]; exact Xi_ne (by omega)).trans ( (show Xi U26 904 93 = Xi U23 904 93 from by rw [eU26]; exact Xi_ne (by omega)).trans ( (show Xi U23 904 93 = Xi U22 904 93 from by rw [eU23]; exact Xi_ne (by omega)).trans ( (show Xi U22 904 93 = Xi T21 904 93 from by rw [eU22]; exact Xi_ne (by omega)).trans ((show Xi T21 904 93 = Xi T1 904 93 from w434.x _ _ rfl))))))
                have w608 : 0 ≤ Xi T1 904 93 ∧ Xi T1 904 93 ≤ 1700 := hHT1.c _ _
                have w603 : Xi S 904 8 ≤ Xi T28 904 8 ∧ Xi T28 904 8 ≤ n ∧ Xi S 904 69 ≤ Xi T28 904 69 ∧ (Xi T28 904 65 = 0 → Xi S 904 65 = 0) := by omega
                clear w597 w435
                refine l_pfi rfl rfl rfl rfl ?_
                obtain ⟨U29, eU29⟩ : ∃ T : sS, T = uI T28 904 74 (Int32.ofInt z601) := ⟨_, rfl⟩
                rw [← eU29]
                have hHU29 : HI U29 := by rw [eU29]; exact HI_w hHT28 (show 0 ≤ z601 by omega) (show z601 ≤ 2600 by omega)
                have hFU29 : FR md_mo_rest S U29 := by rw [eU29]; exact FR.wI hFT28 (mdf_i (r := (904, 905, 74, 75)) (List.mem_of_getElem? (i := 6) rfl) (inR_i (by omega) (by omega) (by omega) (by omega)))
                have w609 : Xi U29 904 74 = z601 := by rw [eU29]; exact Xi_same (by unfold rg; omega)
                refine l_goto rfl rfl ?_
                refine l_return rfl rfl ?_
                have w610 : Xi U29 904 65 = Xi T28 904 65 := (show Xi U29 904 65 = Xi T28 904 65 from by rw [eU29]; exact Xi_ne (by omega))
                have w611 : 0 ≤ Xi T28 904 65 ∧ Xi T28 904 65 ≤ 1 := hHT28.c _ _
                have w612 : Xi U29 904 69 = Xi T28 904 69 := (show Xi U29 904 69 = Xi T28 904 69 from by rw [eU29]; exact Xi_ne (by omega))
                have w613 : 0 ≤ Xi T28 904 69 ∧ Xi T28 904 69 ≤ 2600 := hHT28.c _ _
                have w614 : Xi U29 904 70 = Xi U26 904 70 := (show Xi U29 904 70 = Xi T28 904 70 from by rw [eU29]; exact Xi_ne (by omega)).trans ( (show Xi T28 904 70 = Xi U27 904 70 from w602.x _ _ rfl).trans ((show Xi U27 904 70 = Xi U26 904 70 from by rw [eU27]; exact Xi_ne (by omega))))
                have w615 : 0 ≤ Xi U26 904 70 ∧ Xi U26 904 70 ≤ 20 := hHU26.c _ _
                have w616 : Xi U29 904 71 = Xi T1 904 71 := (show Xi U29 904 71 = Xi T28 904 71 from by rw [eU29]; exact Xi_ne (by omega)).trans ( (show Xi T28 904 71 = Xi U27 904 71 from w602.x _ _ rfl).trans ( (show Xi U27 904 71 = Xi U26 904 71 from by rw [eU27]; exact Xi_ne (by omega)).trans ( (show Xi U26 904 71 = Xi U23 904 71 from by rw [eU26]; exact Xi_ne (by omega)).trans ( (show Xi U23 904 71 = Xi U22 904 71 from by rw [eU23]; exact Xi_ne (by omega)).trans ( (show Xi U22 904 71 = Xi T21 904 71 from by rw [eU22]; exact Xi_ne (by omega)).trans ((show Xi T21 904 71 = Xi T1 904 71 from w434.x _ _ rfl)))))))
                have w617 : 0 ≤ Xi T1 904 71 ∧ Xi T1 904 71 ≤ 2600 := hHT1.c _ _
                have w618 : Xi U29 904 72 = Xi T1 904 72 := (show Xi U29 904 72 = Xi T28 904 72 from by rw [eU29]; exact Xi_ne (by omega)).trans ( (show Xi T28 904 72 = Xi U27 904 72 from w602.x _ _ rfl).trans ( (show Xi U27 904 72 = Xi U26 904 72 from by rw [eU27]; exact Xi_ne (by omega)).trans ( (show Xi U26 904 72 = Xi U23 904 72 from by rw [eU26]; exact Xi_ne (by omega)).trans ( (show Xi U23 904 72 = Xi U22 904 72 from by rw [eU23]; exact Xi_ne (by omega)).trans ( (show Xi U22 904 72 = Xi T21 904 72 from by rw [eU22]; exact Xi_ne (by omega)).trans ((show Xi T21 904 72 = Xi T1 904 72 from w434.x _ _ rfl)))))))
                have w619 : 0 ≤ Xi T1 904 72 ∧ Xi T1 904 72 ≤ 2600 := hHT1.c _ _
                have w620 : Xi U29 904 73 = Xi T1 904 73 := (show Xi U29 904 73 = Xi T28 904 73 from by rw [eU29]; exact Xi_ne (by omega)).trans ( (show Xi T28 904 73 = Xi U27 904 73 from w602.x _ _ rfl).trans ( (show Xi U27 904 73 = Xi U26 904 73 from by rw [eU27]; exact Xi_ne (by omega)).trans ( (show Xi U26 904 73 = Xi U23 904 73 from by rw [eU26]; exact Xi_ne (by omega)).trans ( (show Xi U23 904 73 = Xi U22 904 73 from by rw [eU23]; exact Xi_ne (by omega)).trans ( (show Xi U22 904 73 = Xi T21 904 73 from by rw [eU22]; exact Xi_ne (by omega)).trans ((show Xi T21 904 73 = Xi T1 904 73 from w434.x _ _ rfl)))))))
                have w621 : 0 ≤ Xi T1 904 73 ∧ Xi T1 904 73 ≤ 5 := hHT1.c _ _
                have w622 : 0 ≤ Xi U29 904 74 ∧ Xi U29 904 74 ≤ 2600 := hHU29.c _ _
                have w623 : Xi U29 904 78 = Xi U22 904 78 := (show Xi U29 904 78 = Xi T28 904 78 from by rw [eU29]; exact Xi_ne (by omega)).trans ( (show Xi T28 904 78 = Xi U27 904 78 from w602.x _ _ rfl).trans ( (show Xi U27 904 78 = Xi U26 904 78 from by rw [eU27]; exact Xi_ne (by omega)).trans ( (show Xi U26 904 78 = Xi U23 904 78 from by rw [eU26]; exact Xi_ne (by omega)).trans ((show Xi U23 904 78 = Xi U22 904 78 from by rw [eU23]; exact Xi_ne (by omega))))))
                have w624 : -2 ≤ Xi U22 904 78 ∧ Xi U22 904 78 ≤ 5010 := hHU22.c _ _
                have w625 : Xi U29 904 8 = Xi T28 904 8 := (show Xi U29 904 8 = Xi T28 904 8 from by rw [eU29]; exact Xi_ne (by omega))
                have w626 : 0 ≤ Xi T28 904 8 ∧ Xi T28 904 8 ≤ 5010 := hHT28.c _ _
                have w627 : Xi U29 904 93 = Xi T1 904 93 := (show Xi U29 904 93 = Xi T28 904 93 from by rw [eU29]; exact Xi_ne (by omega)).trans ( (show Xi T28 904 93 = Xi U27 904 93 from w602.x _ _ rfl).trans ( (show Xi U27 904 93 = Xi U26 904 93 from by rw [eU27]; exact Xi_ne (by omega)).trans ( (show Xi U26 904 93 = Xi U23 904 93 from by rw [eU26]; exact Xi_ne (by omega)).trans ( (show Xi U23 904 93 = Xi U22 904 93 from by rw [eU23]; exact Xi_ne (by omega)).trans ( (show Xi U22 904 93 = Xi T21 904 93 from by rw [eU22]; exact Xi_ne (by omega)).trans ((show Xi T21 904 93 = Xi T1 904 93 from w434.x _ _ rfl)))))))
                have w628 : 0 ≤ Xi T1 904 93 ∧ Xi T1 904 93 ≤ 1700 := hHT1.c _ _
                exact ⟨hHU29, hFU29, rfl, (by first | assumption | exact (AT_FR (FR_e eU29) rfl (by assumption : AT T28 _ _))), (by omega), (by first | assumption | exact (RNV_FR (FR_e eU29) rfl (by assumption : RNV T28 _))), (by omega), (by omega), (by omega), (fun q => by unfold SNQ; refine ⟨fun q1 => absurd q1 (by omega), by omega, by omega, by omega, fun q9 => absurd q9 (by omega), by omega, by omega, by omega, by omega, by omega⟩)⟩
          · refine l_aload_n rfl rfl ?_
            refine l_bipush rfl rfl ?_
            refine l_pfi rfl rfl rfl rfl ?_
            obtain ⟨U30, eU30⟩ : ∃ T : sS, T = uI T1 904 70 (Int32.ofInt 15) := ⟨_, rfl⟩
            rw [← eU30]
            have hHU30 : HI U30 := by rw [eU30]; exact HI_w hHT1 (show 0 ≤ 15 by omega) (show 15 ≤ 20 by omega)
            have hFU30 : FR md_mo_rest S U30 := by rw [eU30]; exact FR.wI hFT1 (mdf_i (r := (904, 905, 70, 71)) (List.mem_of_getElem? (i := 4) rfl) (inR_i (by omega) (by omega) (by omega) (by omega)))
            have w629 : Xi U30 904 70 = 15 := by rw [eU30]; exact Xi_same (by unfold rg; omega)
            refine l_aload_n rfl rfl ?_
            refine l_iload_n rfl rfl ?_
            refine l_bipush rfl rfl ?_
            refine l_icmp_ne rfl rfl (by unfold rg; omega) (by unfold rg; omega) (fun w630 => ?_) (fun w631 => ?_)
            · refine l_iconst rfl ?_
              refine l_pfz rfl rfl rfl rfl (by omega) ?_
              obtain ⟨U31, eU31⟩ : ∃ T : sS, T = uI U30 904 75 (Int32.ofInt 0) := ⟨_, rfl⟩
              rw [← eU31]
              have hHU31 : HI U31 := by rw [eU31]; exact HI_w hHU30 (show 0 ≤ 0 by omega) (show 0 ≤ 1 by omega)
              have hFU31 : FR md_mo_rest S U31 := by rw [eU31]; exact FR.wI hFU30 (mdf_i (r := (904, 905, 75, 76)) (List.mem_of_getElem? (i := 7) rfl) (inR_i (by omega) (by omega) (by omega) (by omega)))
              have w632 : Xi U31 904 75 = 0 := by rw [eU31]; exact Xi_same (by unfold rg; omega)
              refine l_aload_n rfl rfl ?_
              refine l_iload_n rfl rfl ?_
              refine l_sipush rfl rfl ?_
              refine l_icmp_ne rfl rfl (by unfold rg; omega) (by unfold rg; omega) (fun w633 => ?_) (fun w634 => ?_)
              · refine l_iconst rfl ?_
                refine l_pfz rfl rfl rfl rfl (by omega) ?_
                obtain ⟨U32, eU32⟩ : ∃ T : sS, T = uI U31 904 76 (Int32.ofInt 0) := ⟨_, rfl⟩
                rw [← eU32]
                have hHU32 : HI U32 := by rw [eU32]; exact HI_w hHU31 (show 0 ≤ 0 by omega) (show 0 ≤ 1 by omega)
                have hFU32 : FR md_mo_rest S U32 := by rw [eU32]; exact FR.wI hFU31 (mdf_i (r := (904, 905, 76, 77)) (List.mem_of_getElem? (i := 8) rfl) (inR_i (by omega) (by omega) (by omega) (by omega)))
                have w635 : Xi U32 904 76 = 0 := by rw [eU32]; exact Xi_same (by unfold rg; omega)
                have w636 : Xi U32 904 65 = Xi T1 904 65 := (show Xi U32 904 65 = Xi U31 904 65 from by rw [eU32]; exact Xi_ne (by omega)).trans ( (show Xi U31 904 65 = Xi U30 904 65 from by rw [eU31]; exact Xi_ne (by omega)).trans ((show Xi U30 904 65 = Xi T1 904 65 from by rw [eU30]; exact Xi_ne (by omega))))
                have w637 : 0 ≤ Xi T1 904 65 ∧ Xi T1 904 65 ≤ 1 := hHT1.c _ _
                have w638 : Xi U32 904 69 = Xi T1 904 69 := (show Xi U32 904 69 = Xi U31 904 69 from by rw [eU32]; exact Xi_ne (by omega)).trans ( (show Xi U31 904 69 = Xi U30 904 69 from by rw [eU31]; exact Xi_ne (by omega)).trans ((show Xi U30 904 69 = Xi T1 904 69 from by rw [eU30]; exact Xi_ne (by omega))))
                have w639 : 0 ≤ Xi T1 904 69 ∧ Xi T1 904 69 ≤ 2600 := hHT1.c _ _
                have w640 : Xi U32 904 70 = Xi U30 904 70 := (show Xi U32 904 70 = Xi U31 904 70 from by rw [eU32]; exact Xi_ne (by omega)).trans ((show Xi U31 904 70 = Xi U30 904 70 from by rw [eU31]; exact Xi_ne (by omega)))
                have w641 : 0 ≤ Xi U30 904 70 ∧ Xi U30 904 70 ≤ 20 := hHU30.c _ _
                have w642 : Xi U32 904 71 = Xi T1 904 71 := (show Xi U32 904 71 = Xi U31 904 71 from by rw [eU32]; exact Xi_ne (by omega)).trans ( (show Xi U31 904 71 = Xi U30 904 71 from by rw [eU31]; exact Xi_ne (by omega)).trans ((show Xi U30 904 71 = Xi T1 904 71 from by rw [eU30]; exact Xi_ne (by omega))))
                have w643 : 0 ≤ Xi T1 904 71 ∧ Xi T1 904 71 ≤ 2600 := hHT1.c _ _
                have w644 : Xi U32 904 72 = Xi T1 904 72 := (show Xi U32 904 72 = Xi U31 904 72 from by rw [eU32]; exact Xi_ne (by omega)).trans ( (show Xi U31 904 72 = Xi U30 904 72 from by rw [eU31]; exact Xi_ne (by omega)).trans ((show Xi U30 904 72 = Xi T1 904 72 from by rw [eU30]; exact Xi_ne (by omega))))
                have w645 : 0 ≤ Xi T1 904 72 ∧ Xi T1 904 72 ≤ 2600 := hHT1.c _ _
                have w646 : Xi U32 904 73 = Xi T1 904 73 := (show Xi U32 904 73 = Xi U31 904 73 from by rw [eU32]; exact Xi_ne (by omega)).trans ( (show Xi U31 904 73 = Xi U30 904 73 from by rw [eU31]; exact Xi_ne (by omega)).trans ((show Xi U30 904 73 = Xi T1 904 73 from by rw [eU30]; exact Xi_ne (by omega))))
                have w647 : 0 ≤ Xi T1 904 73 ∧ Xi T1 904 73 ≤ 5 := hHT1.c _ _
                have w648 : Xi U32 904 74 = Xi T1 904 74 := (show Xi U32 904 74 = Xi U31 904 74 from by rw [eU32]; exact Xi_ne (by omega)).trans ( (show Xi U31 904 74 = Xi U30 904 74 from by rw [eU31]; exact Xi_ne (by omega)).trans ((show Xi U30 904 74 = Xi T1 904 74 from by rw [eU30]; exact Xi_ne (by omega))))
                have w649 : 0 ≤ Xi T1 904 74 ∧ Xi T1 904 74 ≤ 2600 := hHT1.c _ _
                have w650 : Xi U32 904 78 = Xi T1 904 78 := (show Xi U32 904 78 = Xi U31 904 78 from by rw [eU32]; exact Xi_ne (by omega)).trans ( (show Xi U31 904 78 = Xi U30 904 78 from by rw [eU31]; exact Xi_ne (by omega)).trans ((show Xi U30 904 78 = Xi T1 904 78 from by rw [eU30]; exact Xi_ne (by omega))))
                have w651 : -2 ≤ Xi T1 904 78 ∧ Xi T1 904 78 ≤ 5010 := hHT1.c _ _
                have w652 : Xi U32 904 8 = Xi T1 904 8 := (show Xi U32 904 8 = Xi U31 904 8 from by rw [eU32]; exact Xi_ne (by omega)).trans ( (show Xi U31 904 8 = Xi U30 904 8 from by rw [eU31]; exact Xi_ne (by omega)).trans ((show Xi U30 904 8 = Xi T1 904 8 from by rw [eU30]; exact Xi_ne (by omega))))
                have w653 : 0 ≤ Xi T1 904 8 ∧ Xi T1 904 8 ≤ 5010 := hHT1.c _ _
                have w654 : Xi U32 904 93 = Xi T1 904 93 := (show Xi U32 904 93 = Xi U31 904 93 from by rw [eU32]; exact Xi_ne (by omega)).trans ( (show Xi U31 904 93 = Xi U30 904 93 from by rw [eU31]; exact Xi_ne (by omega)).trans ((show Xi U30 904 93 = Xi T1 904 93 from by rw [eU30]; exact Xi_ne (by omega))))
                have w655 : 0 ≤ Xi T1 904 93 ∧ Xi T1 904 93 ≤ 1700 := hHT1.c _ _
                exact Rl_weak (C313 U32 hHU32 hFU32  (by first | assumption | exact (AT_FR (FR_e eU32) rfl (AT_FR (FR_e eU31) rfl (AT_FR (FR_e eU30) rfl (by assumption : AT T1 _ _))))) (by first | assumption | exact (RNV_FR (FR_e eU32) rfl (RNV_FR (FR_e eU31) rfl (RNV_FR (FR_e eU30) rfl (by assumption : RNV T1 _))))) (fun q => (by rw [(fun j => ((FR_e eU32).cx 907 rfl j).1.trans (((FR_e eU31).cx 907 rfl j).1.trans (((FR_e eU30).cx 907 rfl j).1))) (Xi U32 904 8).toNat, show Xi U32 904 8 = Xi T1 904 8 by omega]; omega)) (by omega) (by omega) (by omega) (by omega) (by omega) (by omega) (by omega)) (And.intro rfl (True.intro))
              · refine l_iconst rfl ?_
                refine l_goto rfl rfl ?_
                refine l_pfz rfl rfl rfl rfl (by omega) ?_
                obtain ⟨U33, eU33⟩ : ∃ T : sS, T = uI U31 904 76 (Int32.ofInt 1) := ⟨_, rfl⟩
                rw [← eU33]
                have hHU33 : HI U33 := by rw [eU33]; exact HI_w hHU31 (show 0 ≤ 1 by omega) (show 1 ≤ 1 by omega)
                have hFU33 : FR md_mo_rest S U33 := by rw [eU33]; exact FR.wI hFU31 (mdf_i (r := (904, 905, 76, 77)) (List.mem_of_getElem? (i := 8) rfl) (inR_i (by omega) (by omega) (by omega) (by omega)))
                have w656 : Xi U33 904 76 = 1 := by rw [eU33]; exact Xi_same (by unfold rg; omega)
                have w657 : Xi U33 904 65 = Xi T1 904 65 := (show Xi U33 904 65 = Xi U31 904 65 from by rw [eU33]; exact Xi_ne (by omega)).trans ( (show Xi U31 904 65 = Xi U30 904 65 from by rw [eU31]; exact Xi_ne (by omega)).trans ((show Xi U30 904 65 = Xi T1 904 65 from by rw [eU30]; exact Xi_ne (by omega))))
                have w658 : 0 ≤ Xi T1 904 65 ∧ Xi T1 904 65 ≤ 1 := hHT1.c _ _
                have w659 : Xi U33 904 69 = Xi T1 904 69 := (show Xi U33 904 69 = Xi U31 904 69 from by rw [eU33]; exact Xi_ne (by omega)).trans ( (show Xi U31 904 69 = Xi U30 904 69 from by rw [eU31]; exact Xi_ne (by omega)).trans ((show Xi U30 904 69 = Xi T1 904 69 from by rw [eU30]; exact Xi_ne (by omega))))
                have w660 : 0 ≤ Xi T1 904 69 ∧ Xi T1 904 69 ≤ 2600 := hHT1.c _ _
                have w661 : Xi U33 904 70 = Xi U30 904 70 := (show Xi U33 904 70 = Xi U31 904 70 from by rw [eU33]; exact Xi_ne (by omega)).trans ((show Xi U31 904 70 = Xi U30 904 70 from by rw [eU31]; exact Xi_ne (by omega)))
                have w662 : 0 ≤ Xi U30 904 70 ∧ Xi U30 904 70 ≤ 20 := hHU30.c _ _
                have w663 : Xi U33 904 71 = Xi T1 904 71 := (show Xi U33 904 71 = Xi U31 904 71 from by rw [eU33]; exact Xi_ne (by omega)).trans ( (show Xi U31 904 71 = Xi U30 904 71 from by rw [eU31]; exact Xi_ne (by omega)).trans ((show Xi U30 904 71 = Xi T1 904 71 from by rw [eU30]; exact Xi_ne (by omega))))
                have w664 : 0 ≤ Xi T1 904 71 ∧ Xi T1 904 71 ≤ 2600 := hHT1.c _ _
                have w665 : Xi U33 904 72 = Xi T1 904 72 := (show Xi U33 904 72 = Xi U31 904 72 from by rw [eU33]; exact Xi_ne (by omega)).trans ( (show Xi U31 904 72 = Xi U30 904 72 from by rw [eU31]; exact Xi_ne (by omega)).trans ((show Xi U30 904 72 = Xi T1 904 72 from by rw [eU30]; exact Xi_ne (by omega))))
                have w666 : 0 ≤ Xi T1 904 72 ∧ Xi T1 904 72 ≤ 2600 := hHT1.c _ _
                have w667 : Xi U33 904 73 = Xi T1 904 73 := (show Xi U33 904 73 = Xi U31 904 73 from by rw [eU33]; exact Xi_ne (by omega)).trans ( (show Xi U31 904 73 = Xi U30 904 73 from by rw [eU31]; exact Xi_ne (by omega)).trans ((show Xi U30 904 73 = Xi T1 904 73 from by rw [eU30]; exact Xi_ne (by omega))))
                have w668 : 0 ≤ Xi T1 904 73 ∧ Xi T1 904 73 ≤ 5 := hHT1.c _ _
                have w669 : Xi U33 904 74 = Xi T1 904 74 := (show Xi U33 904 74 = Xi U31 904 74 from by rw [eU33]; exact Xi_ne (by omega)).trans ( (show Xi U31 904 74 = Xi U30 904 74 from by rw [eU31]; exact Xi_ne (by omega)).trans ((show Xi U30 904 74 = Xi T1 904 74 from by rw [eU30]; exact Xi_ne (by omega))))
                have w670 : 0 ≤ Xi T1 904 74 ∧ Xi T1 904 74 ≤ 2600 := hHT1.c _ _
                have w671 : Xi U33 904 78 = Xi T1 904 78 := (show Xi U33 904 78 = Xi U31 904 78 from by rw [eU33]; exact Xi_ne (by omega)).trans ( (show Xi U31 904 78 = Xi U30 904 78 from by rw [eU31]; exact Xi_ne (by omega)).trans ((show Xi U30 904 78 = Xi T1 904 78 from by rw [eU30]; exact Xi_ne (by omega))))
                have w672 : -2 ≤ Xi T1 904 78 ∧ Xi T1 904 78 ≤ 5010 := hHT1.c _ _
                have w673 : Xi U33 904 8 = Xi T1 904 8 := (show Xi U33 904 8 = Xi U31 904 8 from by rw [eU33]; exact Xi_ne (by omega)).trans ( (show Xi U31 904 8 = Xi U30 904 8 from by rw [eU31]; exact Xi_ne (by omega)).trans ((show Xi U30 904 8 = Xi T1 904 8 from by rw [eU30]; exact Xi_ne (by omega))))
                have w674 : 0 ≤ Xi T1 904 8 ∧ Xi T1 904 8 ≤ 5010 := hHT1.c _ _
                have w675 : Xi U33 904 93 = Xi T1 904 93 := (show Xi U33 904 93 = Xi U31 904 93 from by rw [eU33]; exact Xi_ne (by omega)).trans ( (show Xi U31 904 93 = Xi U30 904 93 from by rw [eU31]; exact Xi_ne (by omega)).trans ((show Xi U30 904 93 = Xi T1 904 93 from by rw [eU30]; exact Xi_ne (by omega))))
                have w676 : 0 ≤ Xi T1 904 93 ∧ Xi T1 904 93 ≤ 1700 := hHT1.c _ _
                exact Rl_weak (C313 U33 hHU33 hFU33  (by first | assumption | exact (AT_FR (FR_e eU33) rfl (AT_FR (FR_e eU31) rfl (AT_FR (FR_e eU30) rfl (by assumption : AT T1 _ _))))) (by first | assumption | exact (RNV_FR (FR_e eU33) rfl (RNV_FR (FR_e eU31) rfl (RNV_FR (FR_e eU30) rfl (by assumption : RNV T1 _))))) (fun q => (by rw [(fun j => ((FR_e eU33).cx 907 rfl j).1.trans (((FR_e eU31).cx 907 rfl j).1.trans (((FR_e eU30).cx 907 rfl j).1))) (Xi U33 904 8).toNat, show Xi U33 904 8 = Xi T1 904 8 by omega]; omega)) (by omega) (by omega) (by omega) (by omega) (by omega) (by omega) (by omega)) (And.intro rfl (True.intro))
            · refine l_iconst rfl ?_
              refine l_goto rfl rfl ?_
              refine l_pfz rfl rfl rfl rfl (by omega) ?_
              obtain ⟨U34, eU34⟩ : ∃ T : sS, T = uI U30 904 75 (Int32.ofInt 1) := ⟨_, rfl⟩
              rw [← eU34]
              have hHU34 : HI U34 := by rw [eU34]; exact HI_w hHU30 (show 0 ≤ 1 by omega) (show 1 ≤ 1 by omega)
              have hFU34 : FR md_mo_rest S U34 := by rw [eU34]; exact FR.wI hFU30 (mdf_i (r := (904, 905, 75, 76)) (List.mem_of_getElem? (i := 7) rfl) (inR_i (by omega) (by omega) (by omega) (by omega)))
              have w677 : Xi U34 904 75 = 1 := by rw [eU34]; exact Xi_same (by unfold rg; omega)
              refine l_aload_n rfl rfl ?_
              refine l_iload_n rfl rfl ?_
              refine l_sipush rfl rfl ?_
              refine l_icmp_ne rfl rfl (by unfold rg; omega) (by unfold rg; omega) (fun w678 => ?_) (fun w679 => ?_)
              · refine l_iconst rfl ?_
                refine l_pfz rfl rfl rfl rfl (by omega) ?_
                obtain ⟨U35, eU35⟩ : ∃ T : sS, T = uI U34 904 76 (Int32.ofInt 0) := ⟨_, rfl⟩
                rw [← eU35]
                have hHU35 : HI U35 := by rw [eU35]; exact HI_w hHU34 (show 0 ≤ 0 by omega) (show 0 ≤ 1 by omega)
                have hFU35 : FR md_mo_rest S U35 := by rw [eU35]; exact FR.wI hFU34 (mdf_i (r := (904, 905, 76, 77)) (List.mem_of_getElem? (i := 8) rfl) (inR_i (by omega) (by omega) (by omega) (by omega)))
                have w680 : Xi U35 904 76 = 0 := by rw [eU35]; exact Xi_same (by unfold rg; omega)
                have w681 : Xi U35 904 65 = Xi T1 904 65 := (show Xi U35 904 65 = Xi U34 904 65 from by rw [eU35]; exact Xi_ne (by omega)).trans ( (show Xi U34 904 65 = Xi U30 904 65 from by rw [eU34]; exact Xi_ne (by omega)).trans ((show Xi U30 904 65 = Xi T1 904 65 from by rw [eU30]; exact Xi_ne (by omega))))
                have w682 : 0 ≤ Xi T1 904 65 ∧ Xi T1 904 65 ≤ 1 := hHT1.c _ _
                have w683 : Xi U35 904 69 = Xi T1 904 69 := (show Xi U35 904 69 = Xi U34 904 69 from by rw [eU35]; exact Xi_ne (by omega)).trans ( (show Xi U34 904 69 = Xi U30 904 69 from by rw [eU34]; exact Xi_ne (by omega)).trans ((show Xi U30 904 69 = Xi T1 904 69 from by rw [eU30]; exact Xi_ne (by omega))))
                have w684 : 0 ≤ Xi T1 904 69 ∧ Xi T1 904 69 ≤ 2600 := hHT1.c _ _
                have w685 : Xi U35 904 70 = Xi U30 904 70 := (show Xi U35 904 70 = Xi U34 904 70 from by rw [eU35]; exact Xi_ne (by omega)).trans ((show Xi U34 904 70 = Xi U30 904 70 from by rw [eU34]; exact Xi_ne (by omega)))
                have w686 : 0 ≤ Xi U30 904 70 ∧ Xi U30 904 70 ≤ 20 := hHU30.c _ _
                have w687 : Xi U35 904 71 = Xi T1 904 71 := (show Xi U35 904 71 = Xi U34 904 71 from by rw [eU35]; exact Xi_ne (by omega)).trans ( (show Xi U34 904 71 = Xi U30 904 71 from by rw [eU34]; exact Xi_ne (by omega)).trans ((show Xi U30 904 71 = Xi T1 904 71 from by rw [eU30]; exact Xi_ne (by omega))))
                have w688 : 0 ≤ Xi T1 904 71 ∧ Xi T1 904 71 ≤ 2600 := hHT1.c _ _
                have w689 : Xi U35 904 72 = Xi T1 904 72 := (show Xi U35 904 72 = Xi U34 904 72 from by rw [eU35]; exact Xi_ne (by omega)).trans ( (show Xi U34 904 72 = Xi U30 904 72 from by rw [eU34]; exact Xi_ne (by omega)).trans ((show Xi U30 904 72 = Xi T1 904 72 from by rw [eU30]; exact Xi_ne (by omega))))
                have w690 : 0 ≤ Xi T1 904 72 ∧ Xi T1 904 72 ≤ 2600 := hHT1.c _ _
                have w691 : Xi U35 904 73 = Xi T1 904 73 := (show Xi U35 904 73 = Xi U34 904 73 from by rw [eU35]; exact Xi_ne (by omega)).trans ( (show Xi U34 904 73 = Xi U30 904 73 from by rw [eU34]; exact Xi_ne (by omega)).trans ((show Xi U30 904 73 = Xi T1 904 73 from by rw [eU30]; exact Xi_ne (by omega))))
                have w692 : 0 ≤ Xi T1 904 73 ∧ Xi T1 904 73 ≤ 5 := hHT1.c _ _
                have w693 : Xi U35 904 74 = Xi T1 904 74 := (show Xi U35 904 74 = Xi U34 904 74 from by rw [eU35]; exact Xi_ne (by omega)).trans ( (show Xi U34 904 74 = Xi U30 904 74 from by rw [eU34]; exact Xi_ne (by omega)).trans ((show Xi U30 904 74 = Xi T1 904 74 from by rw [eU30]; exact Xi_ne (by omega))))
                have w694 : 0 ≤ Xi T1 904 74 ∧ Xi T1 904 74 ≤ 2600 := hHT1.c _ _
                have w695 : Xi U35 904 78 = Xi T1 904 78 := (show Xi U35 904 78 = Xi U34 904 78 from by rw [eU35]; exact Xi_ne (by omega)).trans ( (show Xi U34 904 78 = Xi U30 904 78 from by rw [eU34]; exact Xi_ne (by omega)).trans ((show Xi U30 904 78 = Xi T1 904 78 from by rw [eU30]; exact Xi_ne (by omega))))
                have w696 : -2 ≤ Xi T1 904 78 ∧ Xi T1 904 78 ≤ 5010 := hHT1.c _ _
                have w697 : Xi U35 904 8 = Xi T1 904 8 := (show Xi U35 904 8 = Xi U34 904 8 from by rw [eU35]; exact Xi_ne (by omega)).trans ( (show Xi U34 904 8 = Xi U30 904 8 from by rw [eU34]; exact Xi_ne (by omega)).trans ((show Xi U30 904 8 = Xi T1 904 8 from by rw [eU30]; exact Xi_ne (by omega))))
                have w698 : 0 ≤ Xi T1 904 8 ∧ Xi T1 904 8 ≤ 5010 := hHT1.c _ _
                have w699 : Xi U35 904 93 = Xi T1 904 93 := (show Xi U35 904 93 = Xi U34 904 93 from by rw [eU35]; exact Xi_ne (by omega)).trans ( (show Xi U34 904 93 = Xi U30 904 93 from by rw [eU34]; exact Xi_ne (by omega)).trans ((show Xi U30 904 93 = Xi T1 904 93 from by rw [eU30]; exact Xi_ne (by omega))))
                have w700 : 0 ≤ Xi T1 904 93 ∧ Xi T1 904 93 ≤ 1700 := hHT1.c _ _
                exact Rl_weak (C313 U35 hHU35 hFU35  (by first | assumption | exact (AT_FR (FR_e eU35) rfl (AT_FR (FR_e eU34) rfl (AT_FR (FR_e eU30) rfl (by assumption : AT T1 _ _))))) (by first | assumption | exact (RNV_FR (FR_e eU35) rfl (RNV_FR (FR_e eU34) rfl (RNV_FR (FR_e eU30) rfl (by assumption : RNV T1 _))))) (fun q => (by rw [(fun j => ((FR_e eU35).cx 907 rfl j).1.trans (((FR_e eU34).cx 907 rfl j).1.trans (((FR_e eU30).cx 907 rfl j).1))) (Xi U35 904 8).toNat, show Xi U35 904 8 = Xi T1 904 8 by omega]; omega)) (by omega) (by omega) (by omega) (by omega) (by omega) (by omega) (by omega)) (And.intro rfl (True.intro))
              · refine l_iconst rfl ?_
                refine l_goto rfl rfl ?_
                refine l_pfz rfl rfl rfl rfl (by omega) ?_
                obtain ⟨U36, eU36⟩ : ∃ T : sS, T = uI U34 904 76 (Int32.ofInt 1) := ⟨_, rfl⟩
                rw [← eU36]
                have hHU36 : HI U36 := by rw [eU36]; exact HI_w hHU34 (show 0 ≤ 1 by omega) (show 1 ≤ 1 by omega)
                have hFU36 : FR md_mo_rest S U36 := by rw [eU36]; exact FR.wI hFU34 (mdf_i (r := (904, 905, 76, 77)) (List.mem_of_getElem? (i := 8) rfl) (inR_i (by omega) (by omega) (by omega) (by omega)))
                have w701 : Xi U36 904 76 = 1 := by rw [eU36]; exact Xi_same (by unfold rg; omega)
                have w702 : Xi U36 904 65 = Xi T1 904 65 := (show Xi U36 904 65 = Xi U34 904 65 from by rw [eU36]; exact Xi_ne (by omega)).trans ( (show Xi U34 904 65 = Xi U30 904 65 from by rw [eU34]; exact Xi_ne (by omega)).trans ((show Xi U30 904 65 = Xi T1 904 65 from by rw [eU30]; exact Xi_ne (by omega))))
                have w703 : 0 ≤ Xi T1 904 65 ∧ Xi T1 904 65 ≤ 1 := hHT1.c _ _
                have w704 : Xi U36 904 69 = Xi T1 904 69 := (show Xi U36 904 69 = Xi U34 904 69 from by rw [eU36]; exact Xi_ne (by omega)).trans ( (show Xi U34 904 69 = Xi U30 904 69 from by rw [eU34]; exact Xi_ne (by omega)).trans ((show Xi U30 904 69 = Xi T1 904 69 from by rw [eU30]; exact Xi_ne (by omega))))
                have w705 : 0 ≤ Xi T1 904 69 ∧ Xi T1 904 69 ≤ 2600 := hHT1.c _ _
                have w706 : Xi U36 904 70 = Xi U30 904 70 := (show Xi U36 904 70 = Xi U34 904 70 from by rw [eU36]; exact Xi_ne (by omega)).trans ((show Xi U34 904 70 = Xi U30 904 70 from by rw [eU34]; exact Xi_ne (by omega)))
                have w707 : 0 ≤ Xi U30 904 70 ∧ Xi U30 904 70 ≤ 20 := hHU30.c _ _
                have w708 : Xi U36 904 71 = Xi T1 904 71 := (show Xi U36 904 71 = Xi U34 904 71 from by rw [eU36]; exact Xi_ne (by omega)).trans ( (show Xi U34 904 71 = Xi U30 904 71 from by rw [eU34]; exact Xi_ne (by omega)).trans ((show Xi U30 904 71 = Xi T1 904 71 from by rw [eU30]; exact Xi_ne (by omega))))
                have w709 : 0 ≤ Xi T1 904 71 ∧ Xi T1 904 71 ≤ 2600 := hHT1.c _ _
                have w710 : Xi U36 904 72 = Xi T1 904 72 := (show Xi U36 904 72 = Xi U34 904 72 from by rw [eU36]; exact Xi_ne (by omega)).trans ( (show Xi U34 904 72 = Xi U30 904 72 from by rw [eU34]; exact Xi_ne (by omega)).trans ((show Xi U30 904 72 = Xi T1 904 72 from by rw [eU30]; exact Xi_ne (by omega))))
                have w711 : 0 ≤ Xi T1 904 72 ∧ Xi T1 904 72 ≤ 2600 := hHT1.c _ _
                have w712 : Xi U36 904 73 = Xi T1 904 73 := (show Xi U36 904 73 = Xi U34 904 73 from by rw [eU36]; exact Xi_ne (by omega)).trans ( (show Xi U34 904 73 = Xi U30 904 73 from by rw [eU34]; exact Xi_ne (by omega)).trans ((show Xi U30 904 73 = Xi T1 904 73 from by rw [eU30]; exact Xi_ne (by omega))))
                have w713 : 0 ≤ Xi T1 904 73 ∧ Xi T1 904 73 ≤ 5 := hHT1.c _ _
                have w714 : Xi U36 904 74 = Xi T1 904 74 := (show Xi U36 904 74 = Xi U34 904 74 from by rw [eU36]; exact Xi_ne (by omega)).trans ( (show Xi U34 904 74 = Xi U30 904 74 from by rw [eU34]; exact Xi_ne (by omega)).trans ((show Xi U30 904 74 = Xi T1 904 74 from by rw [eU30]; exact Xi_ne (by omega))))
                have w715 : 0 ≤ Xi T1 904 74 ∧ Xi T1 904 74 ≤ 2600 := hHT1.c _ _
                have w716 : Xi U36 904 78 = Xi T1 904 78 := (show Xi U36 904 78 = Xi U34 904 78 from by rw [eU36]; exact Xi_ne (by omega)).trans ( (show Xi U34 904 78 = Xi U30 904 78 from by rw [eU34]; exact Xi_ne (by omega)).trans ((show Xi U30 904 78 = Xi T1 904 78 from by rw [eU30]; exact Xi_ne (by omega))))
                have w717 : -2 ≤ Xi T1 904 78 ∧ Xi T1 904 78 ≤ 5010 := hHT1.c _ _
                have w718 : Xi U36 904 8 = Xi T1 904 8 := (show Xi U36 904 8 = Xi U34 904 8 from by rw [eU36]; exact Xi_ne (by omega)).trans ( (show Xi U34 904 8 = Xi U30 904 8 from by rw [eU34]; exact Xi_ne (by omega)).trans ((show Xi U30 904 8 = Xi T1 904 8 from by rw [eU30]; exact Xi_ne (by omega))))
                have w719 : 0 ≤ Xi T1 904 8 ∧ Xi T1 904 8 ≤ 5010 := hHT1.c _ _
                have w720 : Xi U36 904 93 = Xi T1 904 93 := (show Xi U36 904 93 = Xi U34 904 93 from by rw [eU36]; exact Xi_ne (by omega)).trans ( (show Xi U34 904 93 = Xi U30 904 93 from by rw [eU34]; exact Xi_ne (by omega)).trans ((show Xi U30 904 93 = Xi T1 904 93 from by rw [eU30]; exact Xi_ne (by omega))))
                have w721 : 0 ≤ Xi T1 904 93 ∧ Xi T1 904 93 ≤ 1700 := hHT1.c _ _
                exact Rl_weak (C313 U36 hHU36 hFU36  (by first | assumption | exact (AT_FR (FR_e eU36) rfl (AT_FR (FR_e eU34) rfl (AT_FR (FR_e eU30) rfl (by assumption : AT T1 _ _))))) (by first | assumption | exact (RNV_FR (FR_e eU36) rfl (RNV_FR (FR_e eU34) rfl (RNV_FR (FR_e eU30) rfl (by assumption : RNV T1 _))))) (fun q => (by rw [(fun j => ((FR_e eU36).cx 907 rfl j).1.trans (((FR_e eU34).cx 907 rfl j).1.trans (((FR_e eU30).cx 907 rfl j).1))) (Xi U36 904 8).toNat, show Xi U36 904 8 = Xi T1 904 8 by omega]; omega)) (by omega) (by omega) (by omega) (by omega) (by omega) (by omega) (by omega)) (And.intro rfl (True.intro))
      · refine l_aload_n rfl rfl ?_
        refine l_bipush rfl rfl ?_
        refine l_pfi rfl rfl rfl rfl ?_
        obtain ⟨U37, eU37⟩ : ∃ T : sS, T = uI T1 904 70 (Int32.ofInt 12) := ⟨_, rfl⟩
        rw [← eU37]
        have hHU37 : HI U37 := by rw [eU37]; exact HI_w hHT1 (show 0 ≤ 12 by omega) (show 12 ≤ 20 by omega)
        have hFU37 : FR md_mo_rest S U37 := by rw [eU37]; exact FR.wI hFT1 (mdf_i (r := (904, 905, 70, 71)) (List.mem_of_getElem? (i := 4) rfl) (inR_i (by omega) (by omega) (by omega) (by omega)))
        have w722 : Xi U37 904 70 = 12 := by rw [eU37]; exact Xi_same (by unfold rg; omega)
        refine l_aload_n rfl rfl ?_
        refine l_dup rfl rfl ?_
        refine l_gfi rfl rfl rfl rfl rfl ?_
        have w723 : (Xi U37 904 8) = (Xi T1 904 8) := (show Xi U37 904 8 = Xi T1 904 8 from by rw [eU37]; exact Xi_ne (by omega))
        rw [w723]
        refine l_iconst rfl ?_
        refine l_iadd rfl ?_
        refine l_pfi rfl rfl rfl rfl ?_
        obtain ⟨U38, eU38⟩ : ∃ T : sS, T = uI U37 904 8 (Int32.ofInt ((Xi T1 904 8) + 1)) := ⟨_, rfl⟩
        rw [← eU38]
        have hHU38 : HI U38 := by rw [eU38]; exact HI_w hHU37 (show 0 ≤ ((Xi T1 904 8) + 1) by omega) (show ((Xi T1 904 8) + 1) ≤ 5010 by omega)
        have hFU38 : FR md_mo_rest S U38 := by rw [eU38]; exact FR.wI hFU37 (mdf_i (r := (904, 905, 8, 9)) (List.mem_of_getElem? (i := 0) rfl) (inR_i (by omega) (by omega) (by omega) (by omega)))
        have w724 : Xi U38 904 8 = ((Xi T1 904 8) + 1) := by rw [eU38]; exact Xi_same (by unfold rg; omega)
        have t217 : AT U38 n c ∧ _ := (at_mv (S := T1) (P := U37) (TK_FR hFT1 rfl (by assumption : TK S _)) (by first | assumption | exact (by assumption : AT T1 _ _)) (fun j => ((FR_e eU37).cx 907 rfl j).1) (fun j => ((FR_e eU37).cx 908 rfl j).1) ((show Xi U37 904 8 = Xi T1 904 8 from by rw [eU37]; exact Xi_ne (by omega))) ((show Xi U37 904 65 = Xi T1 904 65 from by rw [eU37]; exact Xi_ne (by omega))) ((show Xi U37 904 69 = Xi T1 904 69 from by rw [eU37]; exact Xi_ne (by omega))) ((show Xi U37 904 93 = Xi T1 904 93 from by rw [eU37]; exact Xi_ne (by omega))) eU38 (by omega) (by omega) (by omega) (by omega) (Or.inl rfl))
        have a217 : AT U38 n c := t217.1
        have l217 := t217.2
        refine l_aload_n rfl rfl ?_
        refine l_aload_n rfl rfl ?_
        have w725 : Xi U38 904 65 = Xi T1 904 65 := (show Xi U38 904 65 = Xi U37 904 65 from by rw [eU38]; exact Xi_ne (by omega)).trans ((show Xi U37 904 65 = Xi T1 904 65 from by rw [eU37]; exact Xi_ne (by omega)))
        have w726 : 0 ≤ Xi T1 904 65 ∧ Xi T1 904 65 ≤ 1 := hHT1.c _ _
        have w727 : Xi U38 904 69 = Xi T1 904 69 := (show Xi U38 904 69 = Xi U37 904 69 from by rw [eU38]; exact Xi_ne (by omega)).trans ((show Xi U37 904 69 = Xi T1 904 69 from by rw [eU37]; exact Xi_ne (by omega)))
        have w728 : 0 ≤ Xi T1 904 69 ∧ Xi T1 904 69 ≤ 2600 := hHT1.c _ _
        have w729 : Xi U38 904 70 = Xi U37 904 70 := (show Xi U38 904 70 = Xi U37 904 70 from by rw [eU38]; exact Xi_ne (by omega))
        have w730 : 0 ≤ Xi U37 904 70 ∧ Xi U37 904 70 ≤ 20 := hHU37.c _ _
        have w731 : Xi U38 904 71 = Xi T1 904 71 := (show Xi U38 904 71 = Xi U37 904 71 from by rw [eU38]; exact Xi_ne (by omega)).trans ((show Xi U37 904 71 = Xi T1 904 71 from by rw [eU37]; exact Xi_ne (by omega)))
        have w732 : 0 ≤ Xi T1 904 71 ∧ Xi T1 904 71 ≤ 2600 := hHT1.c _ _
        have w733 : Xi U38 904 72 = Xi T1 904 72 := (show Xi U38 904 72 = Xi U37 904 72 from by rw [eU38]; exact Xi_ne (by omega)).trans ((show Xi U37 904 72 = Xi T1 904 72 from by rw [eU37]; exact Xi_ne (by omega)))
        have w734 : 0 ≤ Xi T1 904 72 ∧ Xi T1 904 72 ≤ 2600 := hHT1.c _ _
        have w735 : Xi U38 904 73 = Xi T1 904 73 := (show Xi U38 904 73 = Xi U37 904 73 from by rw [eU38]; exact Xi_ne (by omega)).trans ((show Xi U37 904 73 = Xi T1 904 73 from by rw [eU37]; exact Xi_ne (by omega)))
        have w736 : 0 ≤ Xi T1 904 73 ∧ Xi T1 904 73 ≤ 5 := hHT1.c _ _
        have w737 : Xi U38 904 74 = Xi T1 904 74 := (show Xi U38 904 74 = Xi U37 904 74 from by rw [eU38]; exact Xi_ne (by omega)).trans ((show Xi U37 904 74 = Xi T1 904 74 from by rw [eU37]; exact Xi_ne (by omega)))
        have w738 : 0 ≤ Xi T1 904 74 ∧ Xi T1 904 74 ≤ 2600 := hHT1.c _ _
        have w739 : Xi U38 904 78 = Xi T1 904 78 := (show Xi U38 904 78 = Xi U37 904 78 from by rw [eU38]; exact Xi_ne (by omega)).trans ((show Xi U37 904 78 = Xi T1 904 78 from by rw [eU37]; exact Xi_ne (by omega)))
        have w740 : -2 ≤ Xi T1 904 78 ∧ Xi T1 904 78 ≤ 5010 := hHT1.c _ _
        have w741 : 0 ≤ Xi U38 904 8 ∧ Xi U38 904 8 ≤ 5010 := hHU38.c _ _
        have w742 : Xi U38 904 93 = Xi T1 904 93 := (show Xi U38 904 93 = Xi U37 904 93 from by rw [eU38]; exact Xi_ne (by omega)).trans ((show Xi U37 904 93 = Xi T1 904 93 from by rw [eU37]; exact Xi_ne (by omega)))
        have w743 : 0 ≤ Xi T1 904 93 ∧ Xi T1 904 93 ≤ 1700 := hHT1.c _ _
        refine l_callV rfl rfl rfl (t_mo_run hHU38 n c (by first | assumption | exact (TK_FR hFU38 rfl (by assumption : TK S _))) (by first | assumption | exact (by assumption : AT U38 _ _)) (by first | assumption | exact (RNV_FR (FR_e eU38) rfl (RNV_FR (FR_e eU37) rfl (by assumption : RNV T1 _)))) _) ?_
        rintro _ T39 ⟨hHT39, w750, z749, rfl, w749, w744, w745, w746, w747, w748⟩
        have hFT39 : FR md_mo_rest S T39 := FR.tr hFU38 w750 rfl
        show Rl _ _ _ _ _ [iv z749, .ref 904] _ _
        have w752 : 0 ≤ Xi T39 904 8 ∧ Xi T39 904 8 ≤ 5010 := hHT39.c _ _
        have w753 : 0 ≤ Xi T39 904 65 ∧ Xi T39 904 65 ≤ 1 := hHT39.c _ _
        have w754 : 0 ≤ Xi T39 904 69 ∧ Xi T39 904 69 ≤ 2600 := hHT39.c _ _
        have w755 : Xi T39 904 93 = Xi T1 904 93 := (show Xi T39 904 93 = Xi U38 904 93 from w750.x _ _ rfl).trans ( (show Xi U38 904 93 = Xi U37 904 93 from by rw [eU38]; exact Xi_ne (by omega)).trans ((show Xi U37 904 93 = Xi T1 904 93 from by rw [eU37]; exact Xi_ne (by omega))))
        have w756 : 0 ≤ Xi T1 904 93 ∧ Xi T1 904 93 ≤ 1700 := hHT1.c _ _
        have w751 : Xi S 904 8 ≤ Xi T39 904 8 ∧ Xi T39 904 8 ≤ n ∧ Xi S 904 69 ≤ Xi T39 904 69 ∧ (Xi T39 904 65 = 0 → Xi S 904 65 = 0) := by omega
        clear w745
        refine l_pfi rfl rfl rfl rfl ?_
        obtain ⟨U40, eU40⟩ : ∃ T : sS, T = uI T39 904 78 (Int32.ofInt z749) := ⟨_, rfl⟩
        rw [← eU40]
        have hHU40 : HI U40 := by rw [eU40]; exact HI_w hHT39 (show -2 ≤ z749 by omega) (show z749 ≤ 5010 by omega)
        have hFU40 : FR md_mo_rest S U40 := by rw [eU40]; exact FR.wI hFT39 (mdf_i (r := (904, 905, 78, 79)) (List.mem_of_getElem? (i := 9) rfl) (inR_i (by omega) (by omega) (by omega) (by omega)))
        have w757 : Xi U40 904 78 = z749 := by rw [eU40]; exact Xi_same (by unfold rg; omega)
        refine l_aload_n rfl rfl ?_
        refine l_bipush rfl rfl ?_
        have w758 : Xi U40 904 65 = Xi T39 904 65 := (show Xi U40 904 65 = Xi T39 904 65 from by rw [eU40]; exact Xi_ne (by omega))
        have w759 : 0 ≤ Xi T39 904 65 ∧ Xi T39 904 65 ≤ 1 := hHT39.c _ _
        have w760 : Xi U40 904 69 = Xi T39 904 69 := (show Xi U40 904 69 = Xi T39 904 69 from by rw [eU40]; exact Xi_ne (by omega))
        have w761 : 0 ≤ Xi T39 904 69 ∧ Xi T39 904 69 ≤ 2600 := hHT39.c _ _
        have w762 : Xi U40 904 70 = Xi U37 904 70 := (show Xi U40 904 70 = Xi T39 904 70 from by rw [eU40]; exact Xi_ne (by omega)).trans ( (show Xi T39 904 70 = Xi U38 904 70 from w750.x _ _ rfl).trans ((show Xi U38 904 70 = Xi U37 904 70 from by rw [eU38]; exact Xi_ne (by omega))))
        have w763 : 0 ≤ Xi U37 904 70 ∧ Xi U37 904 70 ≤ 20 := hHU37.c _ _
        have w764 : Xi U40 904 71 = Xi T1 904 71 := (show Xi U40 904 71 = Xi T39 904 71 from by rw [eU40]; exact Xi_ne (by omega)).trans ( (show Xi T39 904 71 = Xi U38 904 71 from w750.x _ _ rfl).trans ( (show Xi U38 904 71 = Xi U37 904 71 from by rw [eU38]; exact Xi_ne (by omega)).trans ((show Xi U37 904 71 = Xi T1 904 71 from by rw [eU37]; exact Xi_ne (by omega)))))
        have w765 : 0 ≤ Xi T1 904 71 ∧ Xi T1 904 71 ≤ 2600 := hHT1.c _ _
        have w766 : Xi U40 904 72 = Xi T1 904 72 := (show Xi U40 904 72 = Xi T39 904 72 from by rw [eU40]; exact Xi_ne (by omega)).trans ( (show Xi T39 904 72 = Xi U38 904 72 from w750.x _ _ rfl).trans ( (show Xi U38 904 72 = Xi U37 904 72 from by rw [eU38]; exact Xi_ne (by omega)).trans ((show Xi U37 904 72 = Xi T1 904 72 from by rw [eU37]; exact Xi_ne (by omega)))))
        have w767 : 0 ≤ Xi T1 904 72 ∧ Xi T1 904 72 ≤ 2600 := hHT1.c _ _
        have w768 : Xi U40 904 73 = Xi T1 904 73 := (show Xi U40 904 73 = Xi T39 904 73 from by rw [eU40]; exact Xi_ne (by omega)).trans ( (show Xi T39 904 73 = Xi U38 904 73 from w750.x _ _ rfl).trans ( (show Xi U38 904 73 = Xi U37 904 73 from by rw [eU38]; exact Xi_ne (by omega)).trans ((show Xi U37 904 73 = Xi T1 904 73 from by rw [eU37]; exact Xi_ne (by omega)))))
        have w769 : 0 ≤ Xi T1 904 73 ∧ Xi T1 904 73 ≤ 5 := hHT1.c _ _
        have w770 : Xi U40 904 74 = Xi T1 904 74 := (show Xi U40 904 74 = Xi T39 904 74 from by rw [eU40]; exact Xi_ne (by omega)).trans ( (show Xi T39 904 74 = Xi U38 904 74 from w750.x _ _ rfl).trans ( (show Xi U38 904 74 = Xi U37 904 74 from by rw [eU38]; exact Xi_ne (by omega)).trans ((show Xi U37 904 74 = Xi T1 904 74 from by rw [eU37]; exact Xi_ne (by omega)))))
        have w771 : 0 ≤ Xi T1 904 74 ∧ Xi T1 904 74 ≤ 2600 := hHT1.c _ _
        have w772 : -2 ≤ Xi U40 904 78 ∧ Xi U40 904 78 ≤ 5010 := hHU40.c _ _
        have w773 : Xi U40 904 8 = Xi T39 904 8 := (show Xi U40 904 8 = Xi T39 904 8 from by rw [eU40]; exact Xi_ne (by omega))
        have w774 : 0 ≤ Xi T39 904 8 ∧ Xi T39 904 8 ≤ 5010 := hHT39.c _ _
        have w775 : Xi U40 904 93 = Xi T1 904 93 := (show Xi U40 904 93 = Xi T39 904 93 from by rw [eU40]; exact Xi_ne (by omega)).trans ( (show Xi T39 904 93 = Xi U38 904 93 from w750.x _ _ rfl).trans ( (show Xi U38 904 93 = Xi U37 904 93 from by rw [eU38]; exact Xi_ne (by omega)).trans ((show Xi U37 904 93 = Xi T1 904 93 from by rw [eU37]; exact Xi_ne (by omega)))))
        have w776 : 0 ≤ Xi T1 904 93 ∧ Xi T1 904 93 ≤ 1700 := hHT1.c _ _
        refine l_callV rfl rfl rfl (t_mo_isNext hHU40 n c 46 ⟨by omega, by omega⟩ (by first | assumption | exact (TK_FR hFU40 rfl (by assumption : TK S _))) (by first | assumption | exact (AT_FR (FR_e eU40) rfl (by assumption : AT T39 _ _))) _) ?_
        rintro _ _ ⟨rfl, z779, rfl, w779, w777, w778⟩
        show Rl _ _ _ _ _ [iv z779] _ _
        refine l_if_ne rfl rfl (by unfold rg; omega) (fun w780 => ?_) (fun w781 => ?_)
        · refine l_return rfl rfl ?_
          have w782 : Xi U40 904 65 = Xi T39 904 65 := (show Xi U40 904 65 = Xi T39 904 65 from by rw [eU40]; exact Xi_ne (by omega))
          have w783 : 0 ≤ Xi T39 904 65 ∧ Xi T39 904 65 ≤ 1 := hHT39.c _ _
          have w784 : Xi U40 904 69 = Xi T39 904 69 := (show Xi U40 904 69 = Xi T39 904 69 from by rw [eU40]; exact Xi_ne (by omega))
          have w785 : 0 ≤ Xi T39 904 69 ∧ Xi T39 904 69 ≤ 2600 := hHT39.c _ _
          have w786 : Xi U40 904 70 = Xi U37 904 70 := (show Xi U40 904 70 = Xi T39 904 70 from by rw [eU40]; exact Xi_ne (by omega)).trans ( (show Xi T39 904 70 = Xi U38 904 70 from w750.x _ _ rfl).trans ((show Xi U38 904 70 = Xi U37 904 70 from by rw [eU38]; exact Xi_ne (by omega))))
          have w787 : 0 ≤ Xi U37 904 70 ∧ Xi U37 904 70 ≤ 20 := hHU37.c _ _
          have w788 : Xi U40 904 71 = Xi T1 904 71 := (show Xi U40 904 71 = Xi T39 904 71 from by rw [eU40]; exact Xi_ne (by omega)).trans ( (show Xi T39 904 71 = Xi U38 904 71 from w750.x _ _ rfl).trans ( (show Xi U38 904 71 = Xi U37 904 71 from by rw [eU38]; exact Xi_ne (by omega)).trans ((show Xi U37 904 71 = Xi T1 904 71 from by rw [eU37]; exact Xi_ne (by omega)))))
          have w789 : 0 ≤ Xi T1 904 71 ∧ Xi T1 904 71 ≤ 2600 := hHT1.c _ _
          have w790 : Xi U40 904 72 = Xi T1 904 72 := (show Xi U40 904 72 = Xi T39 904 72 from by rw [eU40]; exact Xi_ne (by omega)).trans ( (show Xi T39 904 72 = Xi U38 904 72 from w750.x _ _ rfl).trans ( (show Xi U38 904 72 = Xi U37 904 72 from by rw [eU38]; exact Xi_ne (by omega)).trans ((show Xi U37 904 72 = Xi T1 904 72 from by rw [eU37]; exact Xi_ne (by omega)))))
          have w791 : 0 ≤ Xi T1 904 72 ∧ Xi T1 904 72 ≤ 2600 := hHT1.c _ _
          have w792 : Xi U40 904 73 = Xi T1 904 73 := (show Xi U40 904 73 = Xi T39 904 73 from by rw [eU40]; exact Xi_ne (by omega)).trans ( (show Xi T39 904 73 = Xi U38 904 73 from w750.x _ _ rfl).trans ( (show Xi U38 904 73 = Xi U37 904 73 from by rw [eU38]; exact Xi_ne (by omega)).trans ((show Xi U37 904 73 = Xi T1 904 73 from by rw [eU37]; exact Xi_ne (by omega)))))
          have w793 : 0 ≤ Xi T1 904 73 ∧ Xi T1 904 73 ≤ 5 := hHT1.c _ _
          have w794 : Xi U40 904 74 = Xi T1 904 74 := (show Xi U40 904 74 = Xi T39 904 74 from by rw [eU40]; exact Xi_ne (by omega)).trans ( (show Xi T39 904 74 = Xi U38 904 74 from w750.x _ _ rfl).trans ( (show Xi U38 904 74 = Xi U37 904 74 from by rw [eU38]; exact Xi_ne (by omega)).trans ((show Xi U37 904 74 = Xi T1 904 74 from by rw [eU37]; exact Xi_ne (by omega)))))
          have w795 : 0 ≤ Xi T1 904 74 ∧ Xi T1 904 74 ≤ 2600 := hHT1.c _ _
          have w796 : -2 ≤ Xi U40 904 78 ∧ Xi U40 904 78 ≤ 5010 := hHU40.c _ _
          have w797 : Xi U40 904 8 = Xi T39 904 8 := (show Xi U40 904 8 = Xi T39 904 8 from by rw [eU40]; exact Xi_ne (by omega))
          have w798 : 0 ≤ Xi T39 904 8 ∧ Xi T39 904 8 ≤ 5010 := hHT39.c _ _
          have w799 : Xi U40 904 93 = Xi T1 904 93 := (show Xi U40 904 93 = Xi T39 904 93 from by rw [eU40]; exact Xi_ne (by omega)).trans ( (show Xi T39 904 93 = Xi U38 904 93 from w750.x _ _ rfl).trans ( (show Xi U38 904 93 = Xi U37 904 93 from by rw [eU38]; exact Xi_ne (by omega)).trans ((show Xi U37 904 93 = Xi T1 904 93 from by rw [eU37]; exact Xi_ne (by omega)))))
          have w800 : 0 ≤ Xi T1 904 93 ∧ Xi T1 904 93 ≤ 1700 := hHT1.c _ _
          exact ⟨hHU40, hFU40, rfl, (by first | assumption | exact (AT_FR (FR_e eU40) rfl (by assumption : AT T39 _ _))), (by omega), (by first | assumption | exact (RNV_FR (FR_e eU40) rfl (by assumption : RNV T39 _))), (by omega), (by omega), (by omega), (fun q => by unfold SNQ; refine ⟨fun q1 => absurd q1 (by omega), by omega, by omega, by omega, fun q9 => absurd q9 (by omega), by omega, by omega, by omega, by omega, by omega⟩)⟩
        · refine l_aload_n rfl rfl ?_
          refine l_gfi rfl rfl rfl rfl rfl ?_
          have w801 : 0 ≤ (Xi U40 904 65) ∧ (Xi U40 904 65) ≤ 1 := hHU40.c _ _
          refine l_if_ne rfl rfl (by unfold rg; omega) (fun w802 => ?_) (fun w803 => ?_)
          · refine l_return rfl rfl ?_
            have w804 : Xi U40 904 65 = Xi T39 904 65 := (show Xi U40 904 65 = Xi T39 904 65 from by rw [eU40]; exact Xi_ne (by omega))
            have w805 : 0 ≤ Xi T39 904 65 ∧ Xi T39 904 65 ≤ 1 := hHT39.c _ _
            have w806 : Xi U40 904 69 = Xi T39 904 69 := (show Xi U40 904 69 = Xi T39 904 69 from by rw [eU40]; exact Xi_ne (by omega))
            have w807 : 0 ≤ Xi T39 904 69 ∧ Xi T39 904 69 ≤ 2600 := hHT39.c _ _
            have w808 : Xi U40 904 70 = Xi U37 904 70 := (show Xi U40 904 70 = Xi T39 904 70 from by rw [eU40]; exact Xi_ne (by omega)).trans ( (show Xi T39 904 70 = Xi U38 904 70 from w750.x _ _ rfl).trans ((show Xi U38 904 70 = Xi U37 904 70 from by rw [eU38]; exact Xi_ne (by omega))))
            have w809 : 0 ≤ Xi U37 904 70 ∧ Xi U37 904 70 ≤ 20 := hHU37.c _ _
            have w810 : Xi U40 904 71 = Xi T1 904 71 := (show Xi U40 904 71 = Xi T39 904 71 from by rw [eU40]; exact Xi_ne (by omega)).trans ( (show Xi T39 904 71 = Xi U38 904 71 from w750.x _ _ rfl).trans ( (show Xi U38 904 71 = Xi U37 904 71 from by rw [eU38]; exact Xi_ne (by omega)).trans ((show Xi U37 904 71 = Xi T1 904 71 from by rw [eU37]; exact Xi_ne (by omega)))))
            have w811 : 0 ≤ Xi T1 904 71 ∧ Xi T1 904 71 ≤ 2600 := hHT1.c _ _
            have w812 : Xi U40 904 72 = Xi T1 904 72 := (show Xi U40 904 72 = Xi T39 904 72 from by rw [eU40]; exact Xi_ne (by omega)).trans ( (show Xi T39 904 72 = Xi U38 904 72 from w750.x _ _ rfl).trans ( (show Xi U38 904 72 = Xi U37 904 72 from by rw [eU38]; exact Xi_ne (by omega)).trans ((show Xi U37 904 72 = Xi T1 904 72 from by rw [eU37]; exact Xi_ne (by omega)))))
            have w813 : 0 ≤ Xi T1 904 72 ∧ Xi T1 904 72 ≤ 2600 := hHT1.c _ _
            have w814 : Xi U40 904 73 = Xi T1 904 73 := (show Xi U40 904 73 = Xi T39 904 73 from by rw [eU40]; exact Xi_ne (by omega)).trans ( (show Xi T39 904 73 = Xi U38 904 73 from w750.x _ _ rfl).trans ( (show Xi U38 904 73 = Xi U37 904 73 from by rw [eU38]; exact Xi_ne (by omega)).trans ((show Xi U37 904 73 = Xi T1 904 73 from by rw [eU37]; exact Xi_ne (by omega)))))
            have w815 : 0 ≤ Xi T1 904 73 ∧ Xi T1 904 73 ≤ 5 := hHT1.c _ _
            have w816 : Xi U40 904 74 = Xi T1 904 74 := (show Xi U40 904 74 = Xi T39 904 74 from by rw [eU40]; exact Xi_ne (by omega)).trans ( (show Xi T39 904 74 = Xi U38 904 74 from w750.x _ _ rfl).trans ( (show Xi U38 904 74 = Xi U37 904 74 from by rw [eU38]; exact Xi_ne (by omega)).trans ((show Xi U37 904 74 = Xi T1 904 74 from by rw [eU37]; exact Xi_ne (by omega)))))
            have w817 : 0 ≤ Xi T1 904 74 ∧ Xi T1 904 74 ≤ 2600 := hHT1.c _ _
            have w818 : -2 ≤ Xi U40 904 78 ∧ Xi U40 904 78 ≤ 5010 := hHU40.c _ _
            have w819 : Xi U40 904 8 = Xi T39 904 8 := (show Xi U40 904 8 = Xi T39 904 8 from by rw [eU40]; exact Xi_ne (by omega))
            have w820 : 0 ≤ Xi T39 904 8 ∧ Xi T39 904 8 ≤ 5010 := hHT39.c _ _
            have w821 : Xi U40 904 93 = Xi T1 904 93 := (show Xi U40 904 93 = Xi T39 904 93 from by rw [eU40]; exact Xi_ne (by omega)).trans ( (show Xi T39 904 93 = Xi U38 904 93 from w750.x _ _ rfl).trans ( (show Xi U38 904 93 = Xi U37 904 93 from by rw [eU38]; exact Xi_ne (by omega)).trans ((show Xi U37 904 93 = Xi T1 904 93 from by rw [eU37]; exact Xi_ne (by omega)))))
            have w822 : 0 ≤ Xi T1 904 93 ∧ Xi T1 904 93 ≤ 1700 := hHT1.c _ _
            exact ⟨hHU40, hFU40, rfl, (by first | assumption | exact (AT_FR (FR_e eU40) rfl (by assumption : AT T39 _ _))), (by omega), (by first | assumption | exact (RNV_FR (FR_e eU40) rfl (by assumption : RNV T39 _))), (by omega), (by omega), (by omega), (fun q => by unfold SNQ; refine ⟨fun q1 => absurd q1 (by omega), by omega, by omega, by omega, fun q9 => absurd q9 (by omega), by omega, by omega, by omega, by omega, by omega⟩)⟩
          · refine l_aload_n rfl rfl ?_
            refine l_aload_n rfl rfl ?_
            have w823 : Xi U40 904 65 = Xi T39 904 65 := (show Xi U40 904 65 = Xi T39 904 65 from by rw [eU40]; exact Xi_ne (by omega))
            have w824 : 0 ≤ Xi T39 904 65 ∧ Xi T39 904 65 ≤ 1 := hHT39.c _ _
            have w825 : Xi U40 904 69 = Xi T39 904 69 := (show Xi U40 904 69 = Xi T39 904 69 from by rw [eU40]; exact Xi_ne (by omega))
            have w826 : 0 ≤ Xi T39 904 69 ∧ Xi T39 904 69 ≤ 2600 := hHT39.c _ _
            have w827 : Xi U40 904 70 = Xi U37 904 70 := (show Xi U40 904 70 = Xi T39 904 70 from by rw [eU40]; exact Xi_ne (by omega)).trans ( (show Xi T39 904 70 = Xi U38 904 70 from w750.x _ _ rfl).trans ((show Xi U38 904 70 = Xi U37 904 70 from by rw [eU38]; exact Xi_ne (by omega))))
            have w828 : 0 ≤ Xi U37 904 70 ∧ Xi U37 904 70 ≤ 20 := hHU37.c _ _
            have w829 : Xi U40 904 71 = Xi T1 904 71 := (show Xi U40 904 71 = Xi T39 904 71 from by rw [eU40]; exact Xi_ne (by omega)).trans ( (show Xi T39 904 71 = Xi U38 904 71 from w750.x _ _ rfl).trans ( (show Xi U38 904 71 = Xi U37 904 71 from by rw [eU38]; exact Xi_ne (by omega)).trans ((show Xi U37 904 71 = Xi T1 904 71 from by rw [eU37]; exact Xi_ne (by omega)))))
            have w830 : 0 ≤ Xi T1 904 71 ∧ Xi T1 904 71 ≤ 2600 := hHT1.c _ _
            have w831 : Xi U40 904 72 = Xi T1 904 72 := (show Xi U40 904 72 = Xi T39 904 72 from by rw [eU40]; exact Xi_ne (by omega)).trans ( (show Xi T39 904 72 = Xi U38 904 72 from w750.x _ _ rfl).trans ( (show Xi U38 904 72 = Xi U37 904 72 from by rw [eU38]; exact Xi_ne (by omega)).trans ((show Xi U37 904 72 = Xi T1 904 72 from by rw [eU37]; exact Xi_ne (by omega)))))
            have w832 : 0 ≤ Xi T1 904 72 ∧ Xi T1 904 72 ≤ 2600 := hHT1.c _ _
            have w833 : Xi U40 904 73 = Xi T1 904 73 := (show Xi U40 904 73 = Xi T39 904 73 from by rw [eU40]; exact Xi_ne (by omega)).trans ( (show Xi T39 904 73 = Xi U38 904 73 from w750.x _ _ rfl).trans ( (show Xi U38 904 73 = Xi U37 904 73 from by rw [eU38]; exact Xi_ne (by omega)).trans ((show Xi U37 904 73 = Xi T1 904 73 from by rw [eU37]; exact Xi_ne (by omega)))))
            have w834 : 0 ≤ Xi T1 904 73 ∧ Xi T1 904 73 ≤ 5 := hHT1.c _ _
            have w835 : Xi U40 904 74 = Xi T1 904 74 := (show Xi U40 904 74 = Xi T39 904 74 from by rw [eU40]; exact Xi_ne (by omega)).trans ( (show Xi T39 904 74 = Xi U38 904 74 from w750.x _ _ rfl).trans ( (show Xi U38 904 74 = Xi U37 904 74 from by rw [eU38]; exact Xi_ne (by omega)).trans ((show Xi U37 904 74 = Xi T1 904 74 from by rw [eU37]; exact Xi_ne (by omega)))))
            have w836 : 0 ≤ Xi T1 904 74 ∧ Xi T1 904 74 ≤ 2600 := hHT1.c _ _
            have w837 : -2 ≤ Xi U40 904 78 ∧ Xi U40 904 78 ≤ 5010 := hHU40.c _ _
            have w838 : Xi U40 904 8 = Xi T39 904 8 := (show Xi U40 904 8 = Xi T39 904 8 from by rw [eU40]; exact Xi_ne (by omega))
            have w839 : 0 ≤ Xi T39 904 8 ∧ Xi T39 904 8 ≤ 5010 := hHT39.c _ _
            have w840 : Xi U40 904 93 = Xi T1 904 93 := (show Xi U40 904 93 = Xi T39 904 93 from by rw [eU40]; exact Xi_ne (by omega)).trans ( (show Xi T39 904 93 = Xi U38 904 93 from w750.x _ _ rfl).trans ( (show Xi U38 904 93 = Xi U37 904 93 from by rw [eU38]; exact Xi_ne (by omega)).trans ((show Xi U37 904 93 = Xi T1 904 93 from by rw [eU37]; exact Xi_ne (by omega)))))
            have w841 : 0 ≤ Xi T1 904 93 ∧ Xi T1 904 93 ≤ 1700 := hHT1.c _ _
            refine l_callV rfl rfl rfl (t_mo_placing__2 hHU40 n c (by first | assumption | exact (TK_FR hFU40 rfl (by assumption : TK S _))) (by first | assumption | exact (AT_FR (FR_e eU40) rfl (by assumption : AT T39 _ _))) _) ?_
            rintro _ T41 ⟨hHT41, w846, z845, rfl, w845, w842, w843, w844⟩
            have hFT41 : FR md_mo_rest S T41 := FR.tr hFU40 w846 rfl
            show Rl _ _ _ _ _ [iv z845, .ref 904] _ _
            have w848 : 0 ≤ Xi T41 904 8 ∧ Xi T41 904 8 ≤ 5010 := hHT41.c _ _
            have w849 : 0 ≤ Xi T41 904 65 ∧ Xi T41 904 65 ≤ 1 := hHT41.c _ _
            have w850 : Xi T41 904 69 = Xi T39 904 69 := (show Xi T41 904 69 = Xi U40 904 69 from w846.x _ _ rfl).trans ((show Xi U40 904 69 = Xi T39 904 69 from by rw [eU40]; exact Xi_ne (by omega)))
            have w851 : 0 ≤ Xi T39 904 69 ∧ Xi T39 904 69 ≤ 2600 := hHT39.c _ _
            have w852 : Xi T41 904 93 = Xi T1 904 93 := (show Xi T41 904 93 = Xi U40 904 93 from w846.x _ _ rfl).trans ( (show Xi U40 904 93 = Xi T39 904 93 from by rw [eU40]; exact Xi_ne (by omega)).trans ( (show Xi T39 904 93 = Xi U38 904 93 from w750.x _ _ rfl).trans ( (show Xi U38 904 93 = Xi U37 904 93 from by rw [eU38]; exact Xi_ne (by omega)).trans ((show Xi U37 904 93 = Xi T1 904 93 from by rw [eU37]; exact Xi_ne (by omega))))))
            have w853 : 0 ≤ Xi T1 904 93 ∧ Xi T1 904 93 ≤ 1700 := hHT1.c _ _
            have w847 : Xi S 904 8 ≤ Xi T41 904 8 ∧ Xi T41 904 8 ≤ n ∧ Xi S 904 69 ≤ Xi T41 904 69 ∧ (Xi T41 904 65 = 0 → Xi S 904 65 = 0) := by omega
            clear w843 w751
            refine l_pfi rfl rfl rfl rfl ?_
            obtain ⟨U42, eU42⟩ : ∃ T : sS, T = uI T41 904 73 (Int32.ofInt z845) := ⟨_, rfl⟩
            rw [← eU42]
            have hHU42 : HI U42 := by rw [eU42]; exact HI_w hHT41 (show 0 ≤ z845 by omega) (show z845 ≤ 5 by omega)
            have hFU42 : FR md_mo_rest S U42 := by rw [eU42]; exact FR.wI hFT41 (mdf_i (r := (904, 905, 73, 74)) (List.mem_of_getElem? (i := 5) rfl) (inR_i (by omega) (by omega) (by omega) (by omega)))
            have w854 : Xi U42 904 73 = z845 := by rw [eU42]; exact Xi_same (by unfold rg; omega)
            refine l_aload_n rfl rfl ?_
            refine l_aload_n rfl rfl ?_
            have w855 : Xi U42 904 65 = Xi T41 904 65 := (show Xi U42 904 65 = Xi T41 904 65 from by rw [eU42]; exact Xi_ne (by omega))
            have w856 : 0 ≤ Xi T41 904 65 ∧ Xi T41 904 65 ≤ 1 := hHT41.c _ _
            have w857 : Xi U42 904 69 = Xi T39 904 69 := (show Xi U42 904 69 = Xi T41 904 69 from by rw [eU42]; exact Xi_ne (by omega)).trans ( (show Xi T41 904 69 = Xi U40 904 69 from w846.x _ _ rfl).trans ((show Xi U40 904 69 = Xi T39 904 69 from by rw [eU40]; exact Xi_ne (by omega))))
            have w858 : 0 ≤ Xi T39 904 69 ∧ Xi T39 904 69 ≤ 2600 := hHT39.c _ _
            have w859 : Xi U42 904 70 = Xi U37 904 70 := (show Xi U42 904 70 = Xi T41 904 70 from by rw [eU42]; exact Xi_ne (by omega)).trans ( (show Xi T41 904 70 = Xi U40 904 70 from w846.x _ _ rfl).trans ( (show Xi U40 904 70 = Xi T39 904 70 from by rw [eU40]; exact Xi_ne (by omega)).trans ( (show Xi T39 904 70 = Xi U38 904 70 from w750.x _ _ rfl).trans ((show Xi U38 904 70 = Xi U37 904 70 from by rw [eU38]; exact Xi_ne (by omega))))))
            have w860 : 0 ≤ Xi U37 904 70 ∧ Xi U37 904 70 ≤ 20 := hHU37.c _ _
            have w861 : Xi U42 904 71 = Xi T1 904 71 := (show Xi U42 904 71 = Xi T41 904 71 from by rw [eU42]; exact Xi_ne (by omega)).trans ( (show Xi T41 904 71 = Xi U40 904 71 from w846.x _ _ rfl).trans ( (show Xi U40 904 71 = Xi T39 904 71 from by rw [eU40]; exact Xi_ne (by omega)).trans ( (show Xi T39 904 71 = Xi U38 904 71 from w750.x _ _ rfl).trans ( (show Xi U38 904 71 = Xi U37 904 71 from by rw [eU38]; exact Xi_ne (by omega)).trans ((show Xi U37 904 71 = Xi T1 904 71 from by rw [eU37]; exact Xi_ne (by omega)))))))
            have w862 : 0 ≤ Xi T1 904 71 ∧ Xi T1 904 71 ≤ 2600 := hHT1.c _ _
            have w863 : Xi U42 904 72 = Xi T1 904 72 := (show Xi U42 904 72 = Xi T41 904 72 from by rw [eU42]; exact Xi_ne (by omega)).trans ( (show Xi T41 904 72 = Xi U40 904 72 from w846.x _ _ rfl).trans ( (show Xi U40 904 72 = Xi T39 904 72 from by rw [eU40]; exact Xi_ne (by omega)).trans ( (show Xi T39 904 72 = Xi U38 904 72 from w750.x _ _ rfl).trans ( (show Xi U38 904 72 = Xi U37 904 72 from by rw [eU38]; exact Xi_ne (by omega)).trans ((show Xi U37 904 72 = Xi T1 904 72 from by rw [eU37]; exact Xi_ne (by omega)))))))
            have w864 : 0 ≤ Xi T1 904 72 ∧ Xi T1 904 72 ≤ 2600 := hHT1.c _ _
            have w865 : 0 ≤ Xi U42 904 73 ∧ Xi U42 904 73 ≤ 5 := hHU42.c _ _
            have w866 : Xi U42 904 74 = Xi T1 904 74 := (show Xi U42 904 74 = Xi T41 904 74 from by rw [eU42]; exact Xi_ne (by omega)).trans ( (show Xi T41 904 74 = Xi U40 904 74 from w846.x _ _ rfl).trans ( (show Xi U40 904 74 = Xi T39 904 74 from by rw [eU40]; exact Xi_ne (by omega)).trans ( (show Xi T39 904 74 = Xi U38 904 74 from w750.x _ _ rfl).trans ( (show Xi U38 904 74 = Xi U37 904 74 from by rw [eU38]; exact Xi_ne (by omega)).trans ((show Xi U37 904 74 = Xi T1 904 74 from by rw [eU37]; exact Xi_ne (by omega)))))))
            have w867 : 0 ≤ Xi T1 904 74 ∧ Xi T1 904 74 ≤ 2600 := hHT1.c _ _
            have w868 : Xi U42 904 78 = Xi U40 904 78 := (show Xi U42 904 78 = Xi T41 904 78 from by rw [eU42]; exact Xi_ne (by omega)).trans ((show Xi T41 904 78 = Xi U40 904 78 from w846.x _ _ rfl))
            have w869 : -2 ≤ Xi U40 904 78 ∧ Xi U40 904 78 ≤ 5010 := hHU40.c _ _
            have w870 : Xi U42 904 8 = Xi T41 904 8 := (show Xi U42 904 8 = Xi T41 904 8 from by rw [eU42]; exact Xi_ne (by omega))
            have w871 : 0 ≤ Xi T41 904 8 ∧ Xi T41 904 8 ≤ 5010 := hHT41.c _ _
            have w872 : Xi U42 904 93 = Xi T1 904 93 := (show Xi U42 904 93 = Xi T41 904 93 from by rw [eU42]; exact Xi_ne (by omega)).trans ( (show Xi T41 904 93 = Xi U40 904 93 from w846.x _ _ rfl).trans ( (show Xi U40 904 93 = Xi T39 904 93 from by rw [eU40]; exact Xi_ne (by omega)).trans ( (show Xi T39 904 93 = Xi U38 904 93 from w750.x _ _ rfl).trans ( (show Xi U38 904 93 = Xi U37 904 93 from by rw [eU38]; exact Xi_ne (by omega)).trans ((show Xi U37 904 93 = Xi T1 904 93 from by rw [eU37]; exact Xi_ne (by omega)))))))
            have w873 : 0 ≤ Xi T1 904 93 ∧ Xi T1 904 93 ≤ 1700 := hHT1.c _ _
            refine l_callV rfl rfl rfl (t_mo_name hHU42 n c (by first | assumption | exact (TK_FR hFU42 rfl (by assumption : TK S _))) (by first | assumption | exact (AT_FR (FR_e eU42) rfl (by assumption : AT T41 _ _))) (by first | assumption | exact (RNV_FR (FR_e eU42) rfl (RNV_FR w846 rfl (RNV_FR (FR_e eU40) rfl (by assumption : RNV T39 _))))) _) ?_
            rintro _ T43 ⟨hHT43, w880, z879, rfl, w879, w874, w875, w876, w877, w878⟩
            have hFT43 : FR md_mo_rest S T43 := FR.tr hFU42 w880 rfl
            show Rl _ _ _ _ _ [iv z879, .ref 904] _ _
            have w882 : 0 ≤ Xi T43 904 8 ∧ Xi T43 904 8 ≤ 5010 := hHT43.c _ _
            have w883 : 0 ≤ Xi T43 904 65 ∧ Xi T43 904 65 ≤ 1 := hHT43.c _ _
            have w884 : 0 ≤ Xi T43 904 69 ∧ Xi T43 904 69 ≤ 2600 := hHT43.c _ _
            have w885 : Xi T43 904 93 = Xi T1 904 93 := (show Xi T43 904 93 = Xi U42 904 93 from w880.x _ _ rfl).trans ( (show Xi U42 904 93 = Xi T41 904 93 from by rw [eU42]; exact Xi_ne (by omega)).trans ( (show Xi T41 904 93 = Xi U40 904 93 from w846.x _ _ rfl).trans ( (show Xi U40 904 93 = Xi T39 904 93 from by rw [eU40]; exact Xi_ne (by omega)).trans ( (show Xi T39 904 93 = Xi U38 904 93 from w750.x _ _ rfl).trans ( (show Xi U38 904 93 = Xi U37 904 93 from by rw [eU38]; exact Xi_ne (by omega)).trans ((show Xi U37 904 93 = Xi T1 904 93 from by rw [eU37]; exact Xi_ne (by omega))))))))
            have w886 : 0 ≤ Xi T1 904 93 ∧ Xi T1 904 93 ≤ 1700 := hHT1.c _ _
            have w881 : Xi S 904 8 ≤ Xi T43 904 8 ∧ Xi T43 904 8 ≤ n ∧ Xi S 904 69 ≤ Xi T43 904 69 ∧ (Xi T43 904 65 = 0 → Xi S 904 65 = 0) := by omega
            clear w875 w847
            refine l_pfi rfl rfl rfl rfl ?_
            obtain ⟨U44, eU44⟩ : ∃ T : sS, T = uI T43 904 74 (Int32.ofInt z879) := ⟨_, rfl⟩
            rw [← eU44]
            have hHU44 : HI U44 := by rw [eU44]; exact HI_w hHT43 (show 0 ≤ z879 by omega) (show z879 ≤ 2600 by omega)
            have hFU44 : FR md_mo_rest S U44 := by rw [eU44]; exact FR.wI hFT43 (mdf_i (r := (904, 905, 74, 75)) (List.mem_of_getElem? (i := 6) rfl) (inR_i (by omega) (by omega) (by omega) (by omega)))
            have w887 : Xi U44 904 74 = z879 := by rw [eU44]; exact Xi_same (by unfold rg; omega)
            refine l_goto rfl rfl ?_
            refine l_return rfl rfl ?_
            have w888 : Xi U44 904 65 = Xi T43 904 65 := (show Xi U44 904 65 = Xi T43 904 65 from by rw [eU44]; exact Xi_ne (by omega))
            have w889 : 0 ≤ Xi T43 904 65 ∧ Xi T43 904 65 ≤ 1 := hHT43.c _ _
            have w890 : Xi U44 904 69 = Xi T43 904 69 := (show Xi U44 904 69 = Xi T43 904 69 from by rw [eU44]; exact Xi_ne (by omega))
            have w891 : 0 ≤ Xi T43 904 69 ∧ Xi T43 904 69 ≤ 2600 := hHT43.c _ _
            have w892 : Xi U44 904 70 = Xi U37 904 70 := (show Xi U44 904 70 = Xi T43 904 70 from by rw [eU44]; exact Xi_ne (by omega)).trans ( (show Xi T43 904 70 = Xi U42 904 70 from w880.x _ _ rfl).trans ( (show Xi U42 904 70 = Xi T41 904 70 from by rw [eU42]; exact Xi_ne (by omega)).trans ( (show Xi T41 904 70 = Xi U40 904 70 from w846.x _ _ rfl).trans ( (show Xi U40 904 70 = Xi T39 904 70 from by rw [eU40]; exact Xi_ne (by omega)).trans ( (show Xi T39 904 70 = Xi U38 904 70 from w750.x _ _ rfl).trans ((show Xi U38 904 70 = Xi U37 904 70 from by rw [eU38]; exact Xi_ne (by omega))))))))
            have w893 : 0 ≤ Xi U37 904 70 ∧ Xi U37 904 70 ≤ 20 := hHU37.c _ _
            have w894 : Xi U44 904 71 = Xi T1 904 71 := (show Xi U44 904 71 = Xi T43 904 71 from by rw [eU44]; exact Xi_ne (by omega)).trans ( (show Xi T43 904 71 = Xi U42 904 71 from w880.x _ _ rfl).trans ( (show Xi U42 904 71 = Xi T41 904 71 from by rw [eU42]; exact Xi_ne (by omega)).trans ( (show Xi T41 904 71 = Xi U40 904 71 from w846.x _ _ rfl).trans ( (show Xi U40 904 71 = Xi T39 904 71 from by rw [eU40]; exact Xi_ne (by omega)).trans ( (show Xi T39 904 71 = Xi U38 904 71 from w750.x _ _ rfl).trans ( (show Xi U38 904 71 = Xi U37 904 71 from by rw [eU38]; exact Xi_ne (by omega)).trans ((show Xi U37 904 71 = Xi T1 904 71 from by rw [eU37]; exact Xi_ne (by omega)))))))))
            have w895 : 0 ≤ Xi T1 904 71 ∧ Xi T1 904 71 ≤ 2600 := hHT1.c _ _
            have w896 : Xi U44 904 72 = Xi T1 904 72 := (show Xi U44 904 72 = Xi T43 904 72 from by rw [eU44]; exact Xi_ne (by omega)).trans ( (show Xi T43 904 72 = Xi U42 904 72 from w880.x _ _ rfl).trans ( (show Xi U42 904 72 = Xi T41 904 72 from by rw [eU42]; exact Xi_ne (by omega)).trans ( (show Xi T41 904 72 = Xi U40 904 72 from w846.x _ _ rfl).trans ( (show Xi U40 904 72 = Xi T39 904 72 from by rw [eU40]; exact Xi_ne (by omega)).trans ( (show Xi T39 904 72 = Xi U38 904 72 from w750.x _ _ rfl).trans ( (show Xi U38 904 72 = Xi U37 904 72 from by rw [eU38]; exact Xi_ne (by omega)).trans ((show Xi U37 904 72 = Xi T1 904 72 from by rw [eU37]; exact Xi_ne (by omega)))))))))
            have w897 : 0 ≤ Xi T1 904 72 ∧ Xi T1 904 72 ≤ 2600 := hHT1.c _ _
            have w898 : Xi U44 904 73 = Xi U42 904 73 := (show Xi U44 904 73 = Xi T43 904 73 from by rw [eU44]; exact Xi_ne (by omega)).trans ((show Xi T43 904 73 = Xi U42 904 73 from w880.x _ _ rfl))
            have w899 : 0 ≤ Xi U42 904 73 ∧ Xi U42 904 73 ≤ 5 := hHU42.c _ _
            have w900 : 0 ≤ Xi U44 904 74 ∧ Xi U44 904 74 ≤ 2600 := hHU44.c _ _
            have w901 : Xi U44 904 78 = Xi U40 904 78 := (show Xi U44 904 78 = Xi T43 904 78 from by rw [eU44]; exact Xi_ne (by omega)).trans ( (show Xi T43 904 78 = Xi U42 904 78 from w880.x _ _ rfl).trans ( (show Xi U42 904 78 = Xi T41 904 78 from by rw [eU42]; exact Xi_ne (by omega)).trans ((show Xi T41 904 78 = Xi U40 904 78 from w846.x _ _ rfl))))
            have w902 : -2 ≤ Xi U40 904 78 ∧ Xi U40 904 78 ≤ 5010 := hHU40.c _ _
            have w903 : Xi U44 904 8 = Xi T43 904 8 := (show Xi U44 904 8 = Xi T43 904 8 from by rw [eU44]; exact Xi_ne (by omega))
            have w904 : 0 ≤ Xi T43 904 8 ∧ Xi T43 904 8 ≤ 5010 := hHT43.c _ _
            have w905 : Xi U44 904 93 = Xi T1 904 93 := (show Xi U44 904 93 = Xi T43 904 93 from by rw [eU44]; exact Xi_ne (by omega)).trans ( (show Xi T43 904 93 = Xi U42 904 93 from w880.x _ _ rfl).trans ( (show Xi U42 904 93 = Xi T41 904 93 from by rw [eU42]; exact Xi_ne (by omega)).trans ( (show Xi T41 904 93 = Xi U40 904 93 from w846.x _ _ rfl).trans ( (show Xi U40 904 93 = Xi T39 904 93 from by rw [eU40]; exact Xi_ne (by omega)).trans ( (show Xi T39 904 93 = Xi U38 904 93 from w750.x _ _ rfl).trans ( (show Xi U38 904 93 = Xi U37 904 93 from by rw [eU38]; exact Xi_ne (by omega)).trans ((show Xi U37 904 93 = Xi T1 904 93 from by rw [eU37]; exact Xi_ne (by omega)))))))))
            have w906 : 0 ≤ Xi T1 904 93 ∧ Xi T1 904 93 ≤ 1700 := hHT1.c _ _
            exact ⟨hHU44, hFU44, rfl, (by first | assumption | exact (AT_FR (FR_e eU44) rfl (by assumption : AT T43 _ _))), (by omega), (by first | assumption | exact (RNV_FR (FR_e eU44) rfl (by assumption : RNV T43 _))), (by omega), (by omega), (by omega), (fun q => by unfold SNQ; refine ⟨fun q1 => absurd q1 (by omega), by omega, by omega, by omega, fun q9 => absurd q9 (by omega), by omega, by omega, by omega, by omega, by omega⟩)⟩
    refine l_iload_n rfl rfl ?_
    refine l_bipush rfl rfl ?_
    refine l_icmp_ne rfl rfl (by unfold rg; omega) (by unfold rg; omega) (fun w907 => ?_) (fun w908 => ?_)
    · have w909 : 0 ≤ Xi T1 904 65 ∧ Xi T1 904 65 ≤ 1 := hHT1.c _ _
      have w910 : 0 ≤ Xi T1 904 69 ∧ Xi T1 904 69 ≤ 2600 := hHT1.c _ _
      have w911 : 0 ≤ Xi T1 904 70 ∧ Xi T1 904 70 ≤ 20 := hHT1.c _ _
      have w912 : 0 ≤ Xi T1 904 71 ∧ Xi T1 904 71 ≤ 2600 := hHT1.c _ _
      have w913 : 0 ≤ Xi T1 904 72 ∧ Xi T1 904 72 ≤ 2600 := hHT1.c _ _
      have w914 : 0 ≤ Xi T1 904 73 ∧ Xi T1 904 73 ≤ 5 := hHT1.c _ _
      have w915 : 0 ≤ Xi T1 904 74 ∧ Xi T1 904 74 ≤ 2600 := hHT1.c _ _
      have w916 : -2 ≤ Xi T1 904 78 ∧ Xi T1 904 78 ≤ 5010 := hHT1.c _ _
      have w917 : 0 ≤ Xi T1 904 8 ∧ Xi T1 904 8 ≤ 5010 := hHT1.c _ _
      have w918 : 0 ≤ Xi T1 904 93 ∧ Xi T1 904 93 ≤ 1700 := hHT1.c _ _
      exact Rl_weak (C197 (v1) (by omega) (by first | assumption | exact (by assumption : AT T1 _ _)) (by first | assumption | exact (by assumption : RNV T1 _)) (by omega) (by omega) (by omega) (by omega) (by omega) (by omega)) (And.intro rfl (And.intro rfl (True.intro)))
    · refine l_aload_n rfl rfl ?_
      refine l_gfr rfl rfl rfl rfl rfl (hHT1.r 904 4 907 rfl) ?_
      refine l_aload_n rfl rfl ?_
      refine l_gfi rfl rfl rfl rfl rfl ?_
      refine l_iconst rfl ?_
      refine l_iadd rfl ?_
      refine l_iaload (n := 5002) rfl rfl (by omega) (by omega) (by unfold rg; omega) ?_
      have w919 : 0 ≤ (Xi T1 907 ((((Xi T1 904 8) + 1)).toNat)) ∧ (Xi T1 907 ((((Xi T1 904 8) + 1)).toNat)) ≤ 154 := hHT1.c _ _
      refine l_bipush rfl rfl ?_
      refine l_icmp_ne rfl rfl (by unfold rg; omega) (by unfold rg; omega) (fun w920 => ?_) (fun w921 => ?_)
      · have w922 : 0 ≤ Xi T1 904 65 ∧ Xi T1 904 65 ≤ 1 := hHT1.c _ _
        have w923 : 0 ≤ Xi T1 904 69 ∧ Xi T1 904 69 ≤ 2600 := hHT1.c _ _
        have w924 : 0 ≤ Xi T1 904 70 ∧ Xi T1 904 70 ≤ 20 := hHT1.c _ _
        have w925 : 0 ≤ Xi T1 904 71 ∧ Xi T1 904 71 ≤ 2600 := hHT1.c _ _
        have w926 : 0 ≤ Xi T1 904 72 ∧ Xi T1 904 72 ≤ 2600 := hHT1.c _ _
        have w927 : 0 ≤ Xi T1 904 73 ∧ Xi T1 904 73 ≤ 5 := hHT1.c _ _
        have w928 : 0 ≤ Xi T1 904 74 ∧ Xi T1 904 74 ≤ 2600 := hHT1.c _ _
        have w929 : -2 ≤ Xi T1 904 78 ∧ Xi T1 904 78 ≤ 5010 := hHT1.c _ _
        have w930 : 0 ≤ Xi T1 904 8 ∧ Xi T1 904 8 ≤ 5010 := hHT1.c _ _
        have w931 : 0 ≤ Xi T1 904 93 ∧ Xi T1 904 93 ≤ 1700 := hHT1.c _ _
        exact Rl_weak (C197 (v1) (by omega) (by first | assumption | exact (by assumption : AT T1 _ _)) (by first | assumption | exact (by assumption : RNV T1 _)) (by omega) (by omega) (by omega) (by omega) (by omega) (by omega)) (And.intro rfl (And.intro rfl (True.intro)))
      · refine l_aload_n rfl rfl ?_
        refine l_bipush rfl rfl ?_
        refine l_pfi rfl rfl rfl rfl ?_
        obtain ⟨U45, eU45⟩ : ∃ T : sS, T = uI T1 904 70 (Int32.ofInt 11) := ⟨_, rfl⟩
        rw [← eU45]
        have hHU45 : HI U45 := by rw [eU45]; exact HI_w hHT1 (show 0 ≤ 11 by omega) (show 11 ≤ 20 by omega)
        have hFU45 : FR md_mo_rest S U45 := by rw [eU45]; exact FR.wI hFT1 (mdf_i (r := (904, 905, 70, 71)) (List.mem_of_getElem? (i := 4) rfl) (inR_i (by omega) (by omega) (by omega) (by omega)))
        have w932 : Xi U45 904 70 = 11 := by rw [eU45]; exact Xi_same (by unfold rg; omega)
        refine l_aload_n rfl rfl ?_
        refine l_dup rfl rfl ?_
        refine l_gfi rfl rfl rfl rfl rfl ?_
        have w933 : (Xi U45 904 8) = (Xi T1 904 8) := (show Xi U45 904 8 = Xi T1 904 8 from by rw [eU45]; exact Xi_ne (by omega))
        rw [w933]
        refine l_iconst rfl ?_
        refine l_iadd rfl ?_
        refine l_pfi rfl rfl rfl rfl ?_
        obtain ⟨U46, eU46⟩ : ∃ T : sS, T = uI U45 904 8 (Int32.ofInt ((Xi T1 904 8) + 2)) := ⟨_, rfl⟩
        rw [← eU46]
        have hHU46 : HI U46 := by rw [eU46]; exact HI_w hHU45 (show 0 ≤ ((Xi T1 904 8) + 2) by omega) (show ((Xi T1 904 8) + 2) ≤ 5010 by omega)
        have hFU46 : FR md_mo_rest S U46 := by rw [eU46]; exact FR.wI hFU45 (mdf_i (r := (904, 905, 8, 9)) (List.mem_of_getElem? (i := 0) rfl) (inR_i (by omega) (by omega) (by omega) (by omega)))
        have w934 : Xi U46 904 8 = ((Xi T1 904 8) + 2) := by rw [eU46]; exact Xi_same (by unfold rg; omega)
        have t146 : AT U46 n c ∧ _ := (at_mv2 (S := T1) (P := U45) (TK_FR hFT1 rfl (by assumption : TK S _)) (by first | assumption | exact (by assumption : AT T1 _ _)) (fun j => ((FR_e eU45).cx 907 rfl j).1) (fun j => ((FR_e eU45).cx 908 rfl j).1) ((show Xi U45 904 8 = Xi T1 904 8 from by rw [eU45]; exact Xi_ne (by omega))) ((show Xi U45 904 65 = Xi T1 904 65 from by rw [eU45]; exact Xi_ne (by omega))) ((show Xi U45 904 69 = Xi T1 904 69 from by rw [eU45]; exact Xi_ne (by omega))) ((show Xi U45 904 93 = Xi T1 904 93 from by rw [eU45]; exact Xi_ne (by omega))) eU46 (by omega) (by omega) (by omega) (by omega) (by omega))
        have a146 : AT U46 n c := t146.1
        have l146 := t146.2
        refine l_aload_n rfl rfl ?_
        refine l_iconst rfl ?_
        refine l_pfi rfl rfl rfl rfl ?_
        obtain ⟨U47, eU47⟩ : ∃ T : sS, T = uI U46 904 78 (Int32.ofInt (-1)) := ⟨_, rfl⟩
        rw [← eU47]
        have hHU47 : HI U47 := by rw [eU47]; exact HI_w hHU46 (show -2 ≤ (-1) by omega) (show (-1) ≤ 5010 by omega)
        have hFU47 : FR md_mo_rest S U47 := by rw [eU47]; exact FR.wI hFU46 (mdf_i (r := (904, 905, 78, 79)) (List.mem_of_getElem? (i := 9) rfl) (inR_i (by omega) (by omega) (by omega) (by omega)))
        have w935 : Xi U47 904 78 = (-1) := by rw [eU47]; exact Xi_same (by unfold rg; omega)
        refine l_aload_n rfl rfl ?_
        refine l_sipush rfl rfl ?_
        have w936 : Xi U47 904 65 = Xi T1 904 65 := (show Xi U47 904 65 = Xi U46 904 65 from by rw [eU47]; exact Xi_ne (by omega)).trans ( (show Xi U46 904 65 = Xi U45 904 65 from by rw [eU46]; exact Xi_ne (by omega)).trans ((show Xi U45 904 65 = Xi T1 904 65 from by rw [eU45]; exact Xi_ne (by omega))))
        have w937 : 0 ≤ Xi T1 904 65 ∧ Xi T1 904 65 ≤ 1 := hHT1.c _ _
        have w938 : Xi U47 904 69 = Xi T1 904 69 := (show Xi U47 904 69 = Xi U46 904 69 from by rw [eU47]; exact Xi_ne (by omega)).trans ( (show Xi U46 904 69 = Xi U45 904 69 from by rw [eU46]; exact Xi_ne (by omega)).trans ((show Xi U45 904 69 = Xi T1 904 69 from by rw [eU45]; exact Xi_ne (by omega))))
        have w939 : 0 ≤ Xi T1 904 69 ∧ Xi T1 904 69 ≤ 2600 := hHT1.c _ _
        have w940 : Xi U47 904 70 = Xi U45 904 70 := (show Xi U47 904 70 = Xi U46 904 70 from by rw [eU47]; exact Xi_ne (by omega)).trans ((show Xi U46 904 70 = Xi U45 904 70 from by rw [eU46]; exact Xi_ne (by omega)))
        have w941 : 0 ≤ Xi U45 904 70 ∧ Xi U45 904 70 ≤ 20 := hHU45.c _ _
        have w942 : Xi U47 904 71 = Xi T1 904 71 := (show Xi U47 904 71 = Xi U46 904 71 from by rw [eU47]; exact Xi_ne (by omega)).trans ( (show Xi U46 904 71 = Xi U45 904 71 from by rw [eU46]; exact Xi_ne (by omega)).trans ((show Xi U45 904 71 = Xi T1 904 71 from by rw [eU45]; exact Xi_ne (by omega))))
        have w943 : 0 ≤ Xi T1 904 71 ∧ Xi T1 904 71 ≤ 2600 := hHT1.c _ _
        have w944 : Xi U47 904 72 = Xi T1 904 72 := (show Xi U47 904 72 = Xi U46 904 72 from by rw [eU47]; exact Xi_ne (by omega)).trans ( (show Xi U46 904 72 = Xi U45 904 72 from by rw [eU46]; exact Xi_ne (by omega)).trans ((show Xi U45 904 72 = Xi T1 904 72 from by rw [eU45]; exact Xi_ne (by omega))))
        have w945 : 0 ≤ Xi T1 904 72 ∧ Xi T1 904 72 ≤ 2600 := hHT1.c _ _
        have w946 : Xi U47 904 73 = Xi T1 904 73 := (show Xi U47 904 73 = Xi U46 904 73 from by rw [eU47]; exact Xi_ne (by omega)).trans ( (show Xi U46 904 73 = Xi U45 904 73 from by rw [eU46]; exact Xi_ne (by omega)).trans ((show Xi U45 904 73 = Xi T1 904 73 from by rw [eU45]; exact Xi_ne (by omega))))
        have w947 : 0 ≤ Xi T1 904 73 ∧ Xi T1 904 73 ≤ 5 := hHT1.c _ _
        have w948 : Xi U47 904 74 = Xi T1 904 74 := (show Xi U47 904 74 = Xi U46 904 74 from by rw [eU47]; exact Xi_ne (by omega)).trans ( (show Xi U46 904 74 = Xi U45 904 74 from by rw [eU46]; exact Xi_ne (by omega)).trans ((show Xi U45 904 74 = Xi T1 904 74 from by rw [eU45]; exact Xi_ne (by omega))))
        have w949 : 0 ≤ Xi T1 904 74 ∧ Xi T1 904 74 ≤ 2600 := hHT1.c _ _
        have w950 : -2 ≤ Xi U47 904 78 ∧ Xi U47 904 78 ≤ 5010 := hHU47.c _ _
        have w951 : Xi U47 904 8 = Xi U46 904 8 := (show Xi U47 904 8 = Xi U46 904 8 from by rw [eU47]; exact Xi_ne (by omega))
        have w952 : 0 ≤ Xi U46 904 8 ∧ Xi U46 904 8 ≤ 5010 := hHU46.c _ _
        have w953 : Xi U47 904 93 = Xi T1 904 93 := (show Xi U47 904 93 = Xi U46 904 93 from by rw [eU47]; exact Xi_ne (by omega)).trans ( (show Xi U46 904 93 = Xi U45 904 93 from by rw [eU46]; exact Xi_ne (by omega)).trans ((show Xi U45 904 93 = Xi T1 904 93 from by rw [eU45]; exact Xi_ne (by omega))))
        have w954 : 0 ≤ Xi T1 904 93 ∧ Xi T1 904 93 ≤ 1700 := hHT1.c _ _
        refine l_callV rfl rfl rfl (t_mo_isNext hHU47 n c 128 ⟨by omega, by omega⟩ (by first | assumption | exact (TK_FR hFU47 rfl (by assumption : TK S _))) (by first | assumption | exact (AT_FR (FR_e eU47) rfl (by assumption : AT U46 _ _))) _) ?_
        rintro _ _ ⟨rfl, z957, rfl, w957, w955, w956⟩
        show Rl _ _ _ _ _ [iv z957] _ _
        have j158 : z957 = 1 → Xi U47 904 65 = 0 ∧ Xi U47 907 (Xi U47 904 8).toNat = 128 := by assumption
        refine l_if_eq rfl rfl (by unfold rg; omega) (fun w958 => ?_) (fun w959 => ?_)
        · refine l_return rfl rfl ?_
          have w960 : Xi U47 904 65 = Xi T1 904 65 := (show Xi U47 904 65 = Xi U46 904 65 from by rw [eU47]; exact Xi_ne (by omega)).trans ( (show Xi U46 904 65 = Xi U45 904 65 from by rw [eU46]; exact Xi_ne (by omega)).trans ((show Xi U45 904 65 = Xi T1 904 65 from by rw [eU45]; exact Xi_ne (by omega))))
          have w961 : 0 ≤ Xi T1 904 65 ∧ Xi T1 904 65 ≤ 1 := hHT1.c _ _
          have w962 : Xi U47 904 69 = Xi T1 904 69 := (show Xi U47 904 69 = Xi U46 904 69 from by rw [eU47]; exact Xi_ne (by omega)).trans ( (show Xi U46 904 69 = Xi U45 904 69 from by rw [eU46]; exact Xi_ne (by omega)).trans ((show Xi U45 904 69 = Xi T1 904 69 from by rw [eU45]; exact Xi_ne (by omega))))
          have w963 : 0 ≤ Xi T1 904 69 ∧ Xi T1 904 69 ≤ 2600 := hHT1.c _ _
          have w964 : Xi U47 904 70 = Xi U45 904 70 := (show Xi U47 904 70 = Xi U46 904 70 from by rw [eU47]; exact Xi_ne (by omega)).trans ((show Xi U46 904 70 = Xi U45 904 70 from by rw [eU46]; exact Xi_ne (by omega)))
          have w965 : 0 ≤ Xi U45 904 70 ∧ Xi U45 904 70 ≤ 20 := hHU45.c _ _
          have w966 : Xi U47 904 71 = Xi T1 904 71 := (show Xi U47 904 71 = Xi U46 904 71 from by rw [eU47]; exact Xi_ne (by omega)).trans ( (show Xi U46 904 71 = Xi U45 904 71 from by rw [eU46]; exact Xi_ne (by omega)).trans ((show Xi U45 904 71 = Xi T1 904 71 from by rw [eU45]; exact Xi_ne (by omega))))
          have w967 : 0 ≤ Xi T1 904 71 ∧ Xi T1 904 71 ≤ 2600 := hHT1.c _ _
          have w968 : Xi U47 904 72 = Xi T1 904 72 := (show Xi U47 904 72 = Xi U46 904 72 from by rw [eU47]; exact Xi_ne (by omega)).trans ( (show Xi U46 904 72 = Xi U45 904 72 from by rw [eU46]; exact Xi_ne (by omega)).trans ((show Xi U45 904 72 = Xi T1 904 72 from by rw [eU45]; exact Xi_ne (by omega))))
          have w969 : 0 ≤ Xi T1 904 72 ∧ Xi T1 904 72 ≤ 2600 := hHT1.c _ _
          have w970 : Xi U47 904 73 = Xi T1 904 73 := (show Xi U47 904 73 = Xi U46 904 73 from by rw [eU47]; exact Xi_ne (by omega)).trans ( (show Xi U46 904 73 = Xi U45 904 73 from by rw [eU46]; exact Xi_ne (by omega)).trans ((show Xi U45 904 73 = Xi T1 904 73 from by rw [eU45]; exact Xi_ne (by omega))))
          have w971 : 0 ≤ Xi T1 904 73 ∧ Xi T1 904 73 ≤ 5 := hHT1.c _ _
          have w972 : Xi U47 904 74 = Xi T1 904 74 := (show Xi U47 904 74 = Xi U46 904 74 from by rw [eU47]; exact Xi_ne (by omega)).trans ( (show Xi U46 904 74 = Xi U45 904 74 from by rw [eU46]; exact Xi_ne (by omega)).trans ((show Xi U45 904 74 = Xi T1 904 74 from by rw [eU45]; exact Xi_ne (by omega))))
          have w973 : 0 ≤ Xi T1 904 74 ∧ Xi T1 904 74 ≤ 2600 := hHT1.c _ _
          have w974 : -2 ≤ Xi U47 904 78 ∧ Xi U47 904 78 ≤ 5010 := hHU47.c _ _
          have w975 : Xi U47 904 8 = Xi U46 904 8 := (show Xi U47 904 8 = Xi U46 904 8 from by rw [eU47]; exact Xi_ne (by omega))
          have w976 : 0 ≤ Xi U46 904 8 ∧ Xi U46 904 8 ≤ 5010 := hHU46.c _ _
          have w977 : Xi U47 904 93 = Xi T1 904 93 := (show Xi U47 904 93 = Xi U46 904 93 from by rw [eU47]; exact Xi_ne (by omega)).trans ( (show Xi U46 904 93 = Xi U45 904 93 from by rw [eU46]; exact Xi_ne (by omega)).trans ((show Xi U45 904 93 = Xi T1 904 93 from by rw [eU45]; exact Xi_ne (by omega))))
          have w978 : 0 ≤ Xi T1 904 93 ∧ Xi T1 904 93 ≤ 1700 := hHT1.c _ _
          exact ⟨hHU47, hFU47, rfl, (by first | assumption | exact (AT_FR (FR_e eU47) rfl (by assumption : AT U46 _ _))), (by omega), (by first | assumption | exact (RNV_FR (FR_e eU47) rfl (RNV_FR (FR_e eU46) rfl (RNV_FR (FR_e eU45) rfl (by assumption : RNV T1 _))))), (by omega), (by omega), (by omega), (fun q => by unfold SNQ; refine ⟨fun q1 => absurd q1 (by omega), by omega, by omega, by omega, fun q9 => absurd q9 (by omega), by omega, by omega, by omega, by omega, by omega⟩)⟩
        · refine l_aload_n rfl rfl ?_
          refine l_dup rfl rfl ?_
          refine l_gfi rfl rfl rfl rfl rfl ?_
          have w979 : (Xi U47 904 8) = (Xi U46 904 8) := (show Xi U47 904 8 = Xi U46 904 8 from by rw [eU47]; exact Xi_ne (by omega))
          rw [w979]
          refine l_iconst rfl ?_
          refine l_iadd rfl ?_
          refine l_pfi rfl rfl rfl rfl ?_
          obtain ⟨U48, eU48⟩ : ∃ T : sS, T = uI U47 904 8 (Int32.ofInt ((Xi U46 904 8) + 1)) := ⟨_, rfl⟩
          rw [← eU48]
          have hHU48 : HI U48 := by rw [eU48]; exact HI_w hHU47 (show 0 ≤ ((Xi U46 904 8) + 1) by omega) (show ((Xi U46 904 8) + 1) ≤ 5010 by omega)
          have hFU48 : FR md_mo_rest S U48 := by rw [eU48]; exact FR.wI hFU47 (mdf_i (r := (904, 905, 8, 9)) (List.mem_of_getElem? (i := 0) rfl) (inR_i (by omega) (by omega) (by omega) (by omega)))
          have w980 : Xi U48 904 8 = ((Xi U46 904 8) + 1) := by rw [eU48]; exact Xi_same (by unfold rg; omega)
          have t171 : AT U48 n c ∧ _ := (at_mv (S := U47) (P := U47) (TK_FR hFU47 rfl (by assumption : TK S _)) (by first | assumption | exact (AT_FR (FR_e eU47) rfl (by assumption : AT U46 _ _))) (fun j => rfl) (fun j => rfl) (rfl) (rfl) (rfl) (rfl) eU48 (by omega) (by omega) (by omega) (by omega) (Or.inl rfl))
          have a171 : AT U48 n c := t171.1
          have l171 := t171.2
          refine l_aload_n rfl rfl ?_
          refine l_bipush rfl rfl ?_
          have w981 : Xi U48 904 65 = Xi T1 904 65 := (show Xi U48 904 65 = Xi U47 904 65 from by rw [eU48]; exact Xi_ne (by omega)).trans ( (show Xi U47 904 65 = Xi U46 904 65 from by rw [eU47]; exact Xi_ne (by omega)).trans ( (show Xi U46 904 65 = Xi U45 904 65 from by rw [eU46]; exact Xi_ne (by omega)).trans ((show Xi U45 904 65 = Xi T1 904 65 from by rw [eU45]; exact Xi_ne (by omega)))))
          have w982 : 0 ≤ Xi T1 904 65 ∧ Xi T1 904 65 ≤ 1 := hHT1.c _ _
          have w983 : Xi U48 904 69 = Xi T1 904 69 := (show Xi U48 904 69 = Xi U47 904 69 from by rw [eU48]; exact Xi_ne (by omega)).trans ( (show Xi U47 904 69 = Xi U46 904 69 from by rw [eU47]; exact Xi_ne (by omega)).trans ( (show Xi U46 904 69 = Xi U45 904 69 from by rw [eU46]; exact Xi_ne (by omega)).trans ((show Xi U45 904 69 = Xi T1 904 69 from by rw [eU45]; exact Xi_ne (by omega)))))
          have w984 : 0 ≤ Xi T1 904 69 ∧ Xi T1 904 69 ≤ 2600 := hHT1.c _ _
          have w985 : Xi U48 904 70 = Xi U45 904 70 := (show Xi U48 904 70 = Xi U47 904 70 from by rw [eU48]; exact Xi_ne (by omega)).trans ( (show Xi U47 904 70 = Xi U46 904 70 from by rw [eU47]; exact Xi_ne (by omega)).trans ((show Xi U46 904 70 = Xi U45 904 70 from by rw [eU46]; exact Xi_ne (by omega))))
          have w986 : 0 ≤ Xi U45 904 70 ∧ Xi U45 904 70 ≤ 20 := hHU45.c _ _
          have w987 : Xi U48 904 71 = Xi T1 904 71 := (show Xi U48 904 71 = Xi U47 904 71 from by rw [eU48]; exact Xi_ne (by omega)).trans ( (show Xi U47 904 71 = Xi U46 904 71 from by rw [eU47]; exact Xi_ne (by omega)).trans ( (show Xi U46 904 71 = Xi U45 904 71 from by rw [eU46]; exact Xi_ne (by omega)).trans ((show Xi U45 904 71 = Xi T1 904 71 from by rw [eU45]; exact Xi_ne (by omega)))))
          have w988 : 0 ≤ Xi T1 904 71 ∧ Xi T1 904 71 ≤ 2600 := hHT1.c _ _
          have w989 : Xi U48 904 72 = Xi T1 904 72 := (show Xi U48 904 72 = Xi U47 904 72 from by rw [eU48]; exact Xi_ne (by omega)).trans ( (show Xi U47 904 72 = Xi U46 904 72 from by rw [eU47]; exact Xi_ne (by omega)).trans ( (show Xi U46 904 72 = Xi U45 904 72 from by rw [eU46]; exact Xi_ne (by omega)).trans ((show Xi U45 904 72 = Xi T1 904 72 from by rw [eU45]; exact Xi_ne (by omega)))))
          have w990 : 0 ≤ Xi T1 904 72 ∧ Xi T1 904 72 ≤ 2600 := hHT1.c _ _
          have w991 : Xi U48 904 73 = Xi T1 904 73 := (show Xi U48 904 73 = Xi U47 904 73 from by rw [eU48]; exact Xi_ne (by omega)).trans ( (show Xi U47 904 73 = Xi U46 904 73 from by rw [eU47]; exact Xi_ne (by omega)).trans ( (show Xi U46 904 73 = Xi U45 904 73 from by rw [eU46]; exact Xi_ne (by omega)).trans ((show Xi U45 904 73 = Xi T1 904 73 from by rw [eU45]; exact Xi_ne (by omega)))))
          have w992 : 0 ≤ Xi T1 904 73 ∧ Xi T1 904 73 ≤ 5 := hHT1.c _ _
          have w993 : Xi U48 904 74 = Xi T1 904 74 := (show Xi U48 904 74 = Xi U47 904 74 from by rw [eU48]; exact Xi_ne (by omega)).trans ( (show Xi U47 904 74 = Xi U46 904 74 from by rw [eU47]; exact Xi_ne (by omega)).trans ( (show Xi U46 904 74 = Xi U45 904 74 from by rw [eU46]; exact Xi_ne (by omega)).trans ((show Xi U45 904 74 = Xi T1 904 74 from by rw [eU45]; exact Xi_ne (by omega)))))
          have w994 : 0 ≤ Xi T1 904 74 ∧ Xi T1 904 74 ≤ 2600 := hHT1.c _ _
          have w995 : Xi U48 904 78 = Xi U47 904 78 := (show Xi U48 904 78 = Xi U47 904 78 from by rw [eU48]; exact Xi_ne (by omega))
          have w996 : -2 ≤ Xi U47 904 78 ∧ Xi U47 904 78 ≤ 5010 := hHU47.c _ _
          have w997 : 0 ≤ Xi U48 904 8 ∧ Xi U48 904 8 ≤ 5010 := hHU48.c _ _
          have w998 : Xi U48 904 93 = Xi T1 904 93 := (show Xi U48 904 93 = Xi U47 904 93 from by rw [eU48]; exact Xi_ne (by omega)).trans ( (show Xi U47 904 93 = Xi U46 904 93 from by rw [eU47]; exact Xi_ne (by omega)).trans ( (show Xi U46 904 93 = Xi U45 904 93 from by rw [eU46]; exact Xi_ne (by omega)).trans ((show Xi U45 904 93 = Xi T1 904 93 from by rw [eU45]; exact Xi_ne (by omega)))))
          have w999 : 0 ≤ Xi T1 904 93 ∧ Xi T1 904 93 ≤ 1700 := hHT1.c _ _
          refine l_callV rfl rfl rfl (t_mo_take__2 hHU48 n c 111 ⟨by omega, by omega⟩ (by first | assumption | exact (TK_FR hFU48 rfl (by assumption : TK S _))) (by first | assumption | exact (by assumption : AT U48 _ _)) (by first | assumption | omega) _) ?_
          rintro _ T49 ⟨hHT49, w1005, rfl, w1000, w1001, w1002, w1003⟩
          have hFT49 : FR md_mo_rest S T49 := FR.tr hFU48 w1005 rfl
          show Rl _ _ _ _ _ [] _ _
          have w1007 : 0 ≤ Xi T49 904 8 ∧ Xi T49 904 8 ≤ 5010 := hHT49.c _ _
          have w1008 : 0 ≤ Xi T49 904 65 ∧ Xi T49 904 65 ≤ 1 := hHT49.c _ _
          have w1009 : Xi T49 904 69 = Xi T1 904 69 := (show Xi T49 904 69 = Xi U48 904 69 from w1005.x _ _ rfl).trans ( (show Xi U48 904 69 = Xi U47 904 69 from by rw [eU48]; exact Xi_ne (by omega)).trans ( (show Xi U47 904 69 = Xi U46 904 69 from by rw [eU47]; exact Xi_ne (by omega)).trans ( (show Xi U46 904 69 = Xi U45 904 69 from by rw [eU46]; exact Xi_ne (by omega)).trans ((show Xi U45 904 69 = Xi T1 904 69 from by rw [eU45]; exact Xi_ne (by omega))))))
          have w1010 : 0 ≤ Xi T1 904 69 ∧ Xi T1 904 69 ≤ 2600 := hHT1.c _ _
          have w1011 : Xi T49 904 93 = Xi T1 904 93 := (show Xi T49 904 93 = Xi U48 904 93 from w1005.x _ _ rfl).trans ( (show Xi U48 904 93 = Xi U47 904 93 from by rw [eU48]; exact Xi_ne (by omega)).trans ( (show Xi U47 904 93 = Xi U46 904 93 from by rw [eU47]; exact Xi_ne (by omega)).trans ( (show Xi U46 904 93 = Xi U45 904 93 from by rw [eU46]; exact Xi_ne (by omega)).trans ((show Xi U45 904 93 = Xi T1 904 93 from by rw [eU45]; exact Xi_ne (by omega))))))
          have w1012 : 0 ≤ Xi T1 904 93 ∧ Xi T1 904 93 ≤ 1700 := hHT1.c _ _
          have w1006 : Xi S 904 8 ≤ Xi T49 904 8 ∧ Xi T49 904 8 ≤ n ∧ Xi S 904 69 ≤ Xi T49 904 69 ∧ (Xi T49 904 65 = 0 → Xi S 904 65 = 0) := by omega
          clear w1001
          refine l_aload_n rfl rfl ?_
          refine l_bipush rfl rfl ?_
          have w1013 : 0 ≤ Xi T49 904 65 ∧ Xi T49 904 65 ≤ 1 := hHT49.c _ _
          have w1014 : Xi T49 904 69 = Xi T1 904 69 := (show Xi T49 904 69 = Xi U48 904 69 from w1005.x _ _ rfl).trans ( (show Xi U48 904 69 = Xi U47 904 69 from by rw [eU48]; exact Xi_ne (by omega)).trans ( (show Xi U47 904 69 = Xi U46 904 69 from by rw [eU47]; exact Xi_ne (by omega)).trans ( (show Xi U46 904 69 = Xi U45 904 69 from by rw [eU46]; exact Xi_ne (by omega)).trans ((show Xi U45 904 69 = Xi T1 904 69 from by rw [eU45]; exact Xi_ne (by omega))))))
          have w1015 : 0 ≤ Xi T1 904 69 ∧ Xi T1 904 69 ≤ 2600 := hHT1.c _ _
          have w1016 : Xi T49 904 70 = Xi U45 904 70 := (show Xi T49 904 70 = Xi U48 904 70 from w1005.x _ _ rfl).trans ( (show Xi U48 904 70 = Xi U47 904 70 from by rw [eU48]; exact Xi_ne (by omega)).trans ( (show Xi U47 904 70 = Xi U46 904 70 from by rw [eU47]; exact Xi_ne (by omega)).trans ((show Xi U46 904 70 = Xi U45 904 70 from by rw [eU46]; exact Xi_ne (by omega)))))
          have w1017 : 0 ≤ Xi U45 904 70 ∧ Xi U45 904 70 ≤ 20 := hHU45.c _ _
          have w1018 : Xi T49 904 71 = Xi T1 904 71 := (show Xi T49 904 71 = Xi U48 904 71 from w1005.x _ _ rfl).trans ( (show Xi U48 904 71 = Xi U47 904 71 from by rw [eU48]; exact Xi_ne (by omega)).trans ( (show Xi U47 904 71 = Xi U46 904 71 from by rw [eU47]; exact Xi_ne (by omega)).trans ( (show Xi U46 904 71 = Xi U45 904 71 from by rw [eU46]; exact Xi_ne (by omega)).trans ((show Xi U45 904 71 = Xi T1 904 71 from by rw [eU45]; exact Xi_ne (by omega))))))
          have w1019 : 0 ≤ Xi T1 904 71 ∧ Xi T1 904 71 ≤ 2600 := hHT1.c _ _
          have w1020 : Xi T49 904 72 = Xi T1 904 72 := (show Xi T49 904 72 = Xi U48 904 72 from w1005.x _ _ rfl).trans ( (show Xi U48 904 72 = Xi U47 904 72 from by rw [eU48]; exact Xi_ne (by omega)).trans ( (show Xi U47 904 72 = Xi U46 904 72 from by rw [eU47]; exact Xi_ne (by omega)).trans ( (show Xi U46 904 72 = Xi U45 904 72 from by rw [eU46]; exact Xi_ne (by omega)).trans ((show Xi U45 904 72 = Xi T1 904 72 from by rw [eU45]; exact Xi_ne (by omega))))))
          have w1021 : 0 ≤ Xi T1 904 72 ∧ Xi T1 904 72 ≤ 2600 := hHT1.c _ _
          have w1022 : Xi T49 904 73 = Xi T1 904 73 := (show Xi T49 904 73 = Xi U48 904 73 from w1005.x _ _ rfl).trans ( (show Xi U48 904 73 = Xi U47 904 73 from by rw [eU48]; exact Xi_ne (by omega)).trans ( (show Xi U47 904 73 = Xi U46 904 73 from by rw [eU47]; exact Xi_ne (by omega)).trans ( (show Xi U46 904 73 = Xi U45 904 73 from by rw [eU46]; exact Xi_ne (by omega)).trans ((show Xi U45 904 73 = Xi T1 904 73 from by rw [eU45]; exact Xi_ne (by omega))))))
          have w1023 : 0 ≤ Xi T1 904 73 ∧ Xi T1 904 73 ≤ 5 := hHT1.c _ _
          have w1024 : Xi T49 904 74 = Xi T1 904 74 := (show Xi T49 904 74 = Xi U48 904 74 from w1005.x _ _ rfl).trans ( (show Xi U48 904 74 = Xi U47 904 74 from by rw [eU48]; exact Xi_ne (by omega)).trans ( (show Xi U47 904 74 = Xi U46 904 74 from by rw [eU47]; exact Xi_ne (by omega)).trans ( (show Xi U46 904 74 = Xi U45 904 74 from by rw [eU46]; exact Xi_ne (by omega)).trans ((show Xi U45 904 74 = Xi T1 904 74 from by rw [eU45]; exact Xi_ne (by omega))))))
          have w1025 : 0 ≤ Xi T1 904 74 ∧ Xi T1 904 74 ≤ 2600 := hHT1.c _ _
          have w1026 : Xi T49 904 78 = Xi U47 904 78 := (show Xi T49 904 78 = Xi U48 904 78 from w1005.x _ _ rfl).trans ((show Xi U48 904 78 = Xi U47 904 78 from by rw [eU48]; exact Xi_ne (by omega)))
          have w1027 : -2 ≤ Xi U47 904 78 ∧ Xi U47 904 78 ≤ 5010 := hHU47.c _ _
          have w1028 : 0 ≤ Xi T49 904 8 ∧ Xi T49 904 8 ≤ 5010 := hHT49.c _ _
          have w1029 : Xi T49 904 93 = Xi T1 904 93 := (show Xi T49 904 93 = Xi U48 904 93 from w1005.x _ _ rfl).trans ( (show Xi U48 904 93 = Xi U47 904 93 from by rw [eU48]; exact Xi_ne (by omega)).trans ( (show Xi U47 904 93 = Xi U46 904 93 from by rw [eU47]; exact Xi_ne (by omega)).trans ( (show Xi U46 904 93 = Xi U45 904 93 from by rw [eU46]; exact Xi_ne (by omega)).trans ((show Xi U45 904 93 = Xi T1 904 93 from by rw [eU45]; exact Xi_ne (by omega))))))
          have w1030 : 0 ≤ Xi T1 904 93 ∧ Xi T1 904 93 ≤ 1700 := hHT1.c _ _
          refine l_callV rfl rfl rfl (t_mo_take__2 hHT49 n c 122 ⟨by omega, by omega⟩ (by first | assumption | exact (TK_FR hFT49 rfl (by assumption : TK S _))) (by first | assumption | exact (by assumption : AT T49 _ _)) (by first | assumption | omega) _) ?_
          rintro _ T50 ⟨hHT50, w1036, rfl, w1031, w1032, w1033, w1034⟩
          have hFT50 : FR md_mo_rest S T50 := FR.tr hFT49 w1036 rfl
          show Rl _ _ _ _ _ [] _ _
          have w1038 : 0 ≤ Xi T50 904 8 ∧ Xi T50 904 8 ≤ 5010 := hHT50.c _ _
          have w1039 : 0 ≤ Xi T50 904 65 ∧ Xi T50 904 65 ≤ 1 := hHT50.c _ _
          have w1040 : Xi T50 904 69 = Xi T1 904 69 := (show Xi T50 904 69 = Xi T49 904 69 from w1036.x _ _ rfl).trans ( (show Xi T49 904 69 = Xi U48 904 69 from w1005.x _ _ rfl).trans ( (show Xi U48 904 69 = Xi U47 904 69 from by rw [eU48]; exact Xi_ne (by omega)).trans ( (show Xi U47 904 69 = Xi U46 904 69 from by rw [eU47]; exact Xi_ne (by omega)).trans ( (show Xi U46 904 69 = Xi U45 904 69 from by rw [eU46]; exact Xi_ne (by omega)).trans ((show Xi U45 904 69 = Xi T1 904 69 from by rw [eU45]; exact Xi_ne (by omega)))))))
          have w1041 : 0 ≤ Xi T1 904 69 ∧ Xi T1 904 69 ≤ 2600 := hHT1.c _ _
          have w1042 : Xi T50 904 93 = Xi T1 904 93 := (show Xi T50 904 93 = Xi T49 904 93 from w1036.x _ _ rfl).trans ( (show Xi T49 904 93 = Xi U48 904 93 from w1005.x _ _ rfl).trans ( (show Xi U48 904 93 = Xi U47 904 93 from by rw [eU48]; exact Xi_ne (by omega)).trans ( (show Xi U47 904 93 = Xi U46 904 93 from by rw [eU47]; exact Xi_ne (by omega)).trans ( (show Xi U46 904 93 = Xi U45 904 93 from by rw [eU46]; exact Xi_ne (by omega)).trans ((show Xi U45 904 93 = Xi T1 904 93 from by rw [eU45]; exact Xi_ne (by omega)))))))
          have w1043 : 0 ≤ Xi T1 904 93 ∧ Xi T1 904 93 ≤ 1700 := hHT1.c _ _
          have w1037 : Xi S 904 8 ≤ Xi T50 904 8 ∧ Xi T50 904 8 ≤ n ∧ Xi S 904 69 ≤ Xi T50 904 69 ∧ (Xi T50 904 65 = 0 → Xi S 904 65 = 0) := by omega
          clear w1032 w1006
          refine l_aload_n rfl rfl ?_
          refine l_aload_n rfl rfl ?_
          have w1044 : 0 ≤ Xi T50 904 65 ∧ Xi T50 904 65 ≤ 1 := hHT50.c _ _
          have w1045 : Xi T50 904 69 = Xi T1 904 69 := (show Xi T50 904 69 = Xi T49 904 69 from w1036.x _ _ rfl).trans ( (show Xi T49 904 69 = Xi U48 904 69 from w1005.x _ _ rfl).trans ( (show Xi U48 904 69 = Xi U47 904 69 from by rw [eU48]; exact Xi_ne (by omega)).trans ( (show Xi U47 904 69 = Xi U46 904 69 from by rw [eU47]; exact Xi_ne (by omega)).trans ( (show Xi U46 904 69 = Xi U45 904 69 from by rw [eU46]; exact Xi_ne (by omega)).trans ((show Xi U45 904 69 = Xi T1 904 69 from by rw [eU45]; exact Xi_ne (by omega)))))))
          have w1046 : 0 ≤ Xi T1 904 69 ∧ Xi T1 904 69 ≤ 2600 := hHT1.c _ _
          have w1047 : Xi T50 904 70 = Xi U45 904 70 := (show Xi T50 904 70 = Xi T49 904 70 from w1036.x _ _ rfl).trans ( (show Xi T49 904 70 = Xi U48 904 70 from w1005.x _ _ rfl).trans ( (show Xi U48 904 70 = Xi U47 904 70 from by rw [eU48]; exact Xi_ne (by omega)).trans ( (show Xi U47 904 70 = Xi U46 904 70 from by rw [eU47]; exact Xi_ne (by omega)).trans ((show Xi U46 904 70 = Xi U45 904 70 from by rw [eU46]; exact Xi_ne (by omega))))))
          have w1048 : 0 ≤ Xi U45 904 70 ∧ Xi U45 904 70 ≤ 20 := hHU45.c _ _
          have w1049 : Xi T50 904 71 = Xi T1 904 71 := (show Xi T50 904 71 = Xi T49 904 71 from w1036.x _ _ rfl).trans ( (show Xi T49 904 71 = Xi U48 904 71 from w1005.x _ _ rfl).trans ( (show Xi U48 904 71 = Xi U47 904 71 from by rw [eU48]; exact Xi_ne (by omega)).trans ( (show Xi U47 904 71 = Xi U46 904 71 from by rw [eU47]; exact Xi_ne (by omega)).trans ( (show Xi U46 904 71 = Xi U45 904 71 from by rw [eU46]; exact Xi_ne (by omega)).trans ((show Xi U45 904 71 = Xi T1 904 71 from by rw [eU45]; exact Xi_ne (by omega)))))))
          have w1050 : 0 ≤ Xi T1 904 71 ∧ Xi T1 904 71 ≤ 2600 := hHT1.c _ _
          have w1051 : Xi T50 904 72 = Xi T1 904 72 := (show Xi T50 904 72 = Xi T49 904 72 from w1036.x _ _ rfl).trans ( (show Xi T49 904 72 = Xi U48 904 72 from w1005.x _ _ rfl).trans ( (show Xi U48 904 72 = Xi U47 904 72 from by rw [eU48]; exact Xi_ne (by omega)).trans ( (show Xi U47 904 72 = Xi U46 904 72 from by rw [eU47]; exact Xi_ne (by omega)).trans ( (show Xi U46 904 72 = Xi U45 904 72 from by rw [eU46]; exact Xi_ne (by omega)).trans ((show Xi U45 904 72 = Xi T1 904 72 from by rw [eU45]; exact Xi_ne (by omega)))))))
          have w1052 : 0 ≤ Xi T1 904 72 ∧ Xi T1 904 72 ≤ 2600 := hHT1.c _ _
          have w1053 : Xi T50 904 73 = Xi T1 904 73 := (show Xi T50 904 73 = Xi T49 904 73 from w1036.x _ _ rfl).trans ( (show Xi T49 904 73 = Xi U48 904 73 from w1005.x _ _ rfl).trans ( (show Xi U48 904 73 = Xi U47 904 73 from by rw [eU48]; exact Xi_ne (by omega)).trans ( (show Xi U47 904 73 = Xi U46 904 73 from by rw [eU47]; exact Xi_ne (by omega)).trans ( (show Xi U46 904 73 = Xi U45 904 73 from by rw [eU46]; exact Xi_ne (by omega)).trans ((show Xi U45 904 73 = Xi T1 904 73 from by rw [eU45]; exact Xi_ne (by omega)))))))
          have w1054 : 0 ≤ Xi T1 904 73 ∧ Xi T1 904 73 ≤ 5 := hHT1.c _ _
          have w1055 : Xi T50 904 74 = Xi T1 904 74 := (show Xi T50 904 74 = Xi T49 904 74 from w1036.x _ _ rfl).trans ( (show Xi T49 904 74 = Xi U48 904 74 from w1005.x _ _ rfl).trans ( (show Xi U48 904 74 = Xi U47 904 74 from by rw [eU48]; exact Xi_ne (by omega)).trans ( (show Xi U47 904 74 = Xi U46 904 74 from by rw [eU47]; exact Xi_ne (by omega)).trans ( (show Xi U46 904 74 = Xi U45 904 74 from by rw [eU46]; exact Xi_ne (by omega)).trans ((show Xi U45 904 74 = Xi T1 904 74 from by rw [eU45]; exact Xi_ne (by omega)))))))
          have w1056 : 0 ≤ Xi T1 904 74 ∧ Xi T1 904 74 ≤ 2600 := hHT1.c _ _
          have w1057 : Xi T50 904 78 = Xi U47 904 78 := (show Xi T50 904 78 = Xi T49 904 78 from w1036.x _ _ rfl).trans ( (show Xi T49 904 78 = Xi U48 904 78 from w1005.x _ _ rfl).trans ((show Xi U48 904 78 = Xi U47 904 78 from by rw [eU48]; exact Xi_ne (by omega))))
          have w1058 : -2 ≤ Xi U47 904 78 ∧ Xi U47 904 78 ≤ 5010 := hHU47.c _ _
          have w1059 : 0 ≤ Xi T50 904 8 ∧ Xi T50 904 8 ≤ 5010 := hHT50.c _ _
          have w1060 : Xi T50 904 93 = Xi T1 904 93 := (show Xi T50 904 93 = Xi T49 904 93 from w1036.x _ _ rfl).trans ( (show Xi T49 904 93 = Xi U48 904 93 from w1005.x _ _ rfl).trans ( (show Xi U48 904 93 = Xi U47 904 93 from by rw [eU48]; exact Xi_ne (by omega)).trans ( (show Xi U47 904 93 = Xi U46 904 93 from by rw [eU47]; exact Xi_ne (by omega)).trans ( (show Xi U46 904 93 = Xi U45 904 93 from by rw [eU46]; exact Xi_ne (by omega)).trans ((show Xi U45 904 93 = Xi T1 904 93 from by rw [eU45]; exact Xi_ne (by omega)))))))
          have w1061 : 0 ≤ Xi T1 904 93 ∧ Xi T1 904 93 ≤ 1700 := hHT1.c _ _
          refine l_callV rfl rfl rfl (t_mo_run hHT50 n c (by first | assumption | exact (TK_FR hFT50 rfl (by assumption : TK S _))) (by first | assumption | exact (by assumption : AT T50 _ _)) (by first | assumption | exact (RNV_FR w1036 rfl (RNV_FR w1005 rfl (RNV_FR (FR_e eU48) rfl (RNV_FR (FR_e eU47) rfl (RNV_FR (FR_e eU46) rfl (RNV_FR (FR_e eU45) rfl (by assumption : RNV T1 _)))))))) _) ?_
          rintro _ T51 ⟨hHT51, w1068, z1067, rfl, w1067, w1062, w1063, w1064, w1065, w1066⟩
          have hFT51 : FR md_mo_rest S T51 := FR.tr hFT50 w1068 rfl
          show Rl _ _ _ _ _ [iv z1067, .ref 904] _ _
          have w1070 : 0 ≤ Xi T51 904 8 ∧ Xi T51 904 8 ≤ 5010 := hHT51.c _ _
          have w1071 : 0 ≤ Xi T51 904 65 ∧ Xi T51 904 65 ≤ 1 := hHT51.c _ _
          have w1072 : 0 ≤ Xi T51 904 69 ∧ Xi T51 904 69 ≤ 2600 := hHT51.c _ _
          have w1073 : Xi T51 904 93 = Xi T1 904 93 := (show Xi T51 904 93 = Xi T50 904 93 from w1068.x _ _ rfl).trans ( (show Xi T50 904 93 = Xi T49 904 93 from w1036.x _ _ rfl).trans ( (show Xi T49 904 93 = Xi U48 904 93 from w1005.x _ _ rfl).trans ( (show Xi U48 904 93 = Xi U47 904 93 from by rw [eU48]; exact Xi_ne (by omega)).trans ( (show Xi U47 904 93 = Xi U46 904 93 from by rw [eU47]; exact Xi_ne (by omega)).trans ( (show Xi U46 904 93 = Xi U45 904 93 from by rw [eU46]; exact Xi_ne (by omega)).trans ((show Xi U45 904 93 = Xi T1 904 93 from by rw [eU45]; exact Xi_ne (by omega))))))))
          have w1074 : 0 ≤ Xi T1 904 93 ∧ Xi T1 904 93 ≤ 1700 := hHT1.c _ _
          have w1069 : Xi S 904 8 ≤ Xi T51 904 8 ∧ Xi T51 904 8 ≤ n ∧ Xi S 904 69 ≤ Xi T51 904 69 ∧ (Xi T51 904 65 = 0 → Xi S 904 65 = 0) := by omega
          clear w1063 w1037
          refine l_pfi rfl rfl rfl rfl ?_
          obtain ⟨U52, eU52⟩ : ∃ T : sS, T = uI T51 904 78 (Int32.ofInt z1067) := ⟨_, rfl⟩
          rw [← eU52]
          have hHU52 : HI U52 := by rw [eU52]; exact HI_w hHT51 (show -2 ≤ z1067 by omega) (show z1067 ≤ 5010 by omega)
          have hFU52 : FR md_mo_rest S U52 := by rw [eU52]; exact FR.wI hFT51 (mdf_i (r := (904, 905, 78, 79)) (List.mem_of_getElem? (i := 9) rfl) (inR_i (by omega) (by omega) (by omega) (by omega)))
          have w1075 : Xi U52 904 78 = z1067 := by rw [eU52]; exact Xi_same (by unfold rg; omega)
          refine l_goto rfl rfl ?_
          refine l_return rfl rfl ?_
          have w1076 : Xi U52 904 65 = Xi T51 904 65 := (show Xi U52 904 65 = Xi T51 904 65 from by rw [eU52]; exact Xi_ne (by omega))
          have w1077 : 0 ≤ Xi T51 904 65 ∧ Xi T51 904 65 ≤ 1 := hHT51.c _ _
          have w1078 : Xi U52 904 69 = Xi T51 904 69 := (show Xi U52 904 69 = Xi T51 904 69 from by rw [eU52]; exact Xi_ne (by omega))
          have w1079 : 0 ≤ Xi T51 904 69 ∧ Xi T51 904 69 ≤ 2600 := hHT51.c _ _
          have w1080 : Xi U52 904 70 = Xi U45 904 70 := (show Xi U52 904 70 = Xi T51 904 70 from by rw [eU52]; exact Xi_ne (by omega)).trans ( (show Xi T51 904 70 = Xi T50 904 70 from w1068.x _ _ rfl).trans ( (show Xi T50 904 70 = Xi T49 904 70 from w1036.x _ _ rfl).trans ( (show Xi T49 904 70 = Xi U48 904 70 from w1005.x _ _ rfl).trans ( (show Xi U48 904 70 = Xi U47 904 70 from by rw [eU48]; exact Xi_ne (by omega)).trans ( (show Xi U47 904 70 = Xi U46 904 70 from by rw [eU47]; exact Xi_ne (by omega)).trans ((show Xi U46 904 70 = Xi U45 904 70 from by rw [eU46]; exact Xi_ne (by omega))))))))
          have w1081 : 0 ≤ Xi U45 904 70 ∧ Xi U45 904 70 ≤ 20 := hHU45.c _ _
          have w1082 : Xi U52 904 71 = Xi T1 904 71 := (show Xi U52 904 71 = Xi T51 904 71 from by rw [eU52]; exact Xi_ne (by omega)).trans ( (show Xi T51 904 71 = Xi T50 904 71 from w1068.x _ _ rfl).trans ( (show Xi T50 904 71 = Xi T49 904 71 from w1036.x _ _ rfl).trans ( (show Xi T49 904 71 = Xi U48 904 71 from w1005.x _ _ rfl).trans ( (show Xi U48 904 71 = Xi U47 904 71 from by rw [eU48]; exact Xi_ne (by omega)).trans ( (show Xi U47 904 71 = Xi U46 904 71 from by rw [eU47]; exact Xi_ne (by omega)).trans ( (show Xi U46 904 71 = Xi U45 904 71 from by rw [eU46]; exact Xi_ne (by omega)).trans ((show Xi U45 904 71 = Xi T1 904 71 from by rw [eU45]; exact Xi_ne (by omega)))))))))
          have w1083 : 0 ≤ Xi T1 904 71 ∧ Xi T1 904 71 ≤ 2600 := hHT1.c _ _
          have w1084 : Xi U52 904 72 = Xi T1 904 72 := (show Xi U52 904 72 = Xi T51 904 72 from by rw [eU52]; exact Xi_ne (by omega)).trans ( (show Xi T51 904 72 = Xi T50 904 72 from w1068.x _ _ rfl).trans ( (show Xi T50 904 72 = Xi T49 904 72 from w1036.x _ _ rfl).trans ( (show Xi T49 904 72 = Xi U48 904 72 from w1005.x _ _ rfl).trans ( (show Xi U48 904 72 = Xi U47 904 72 from by rw [eU48]; exact Xi_ne (by omega)).trans ( (show Xi U47 904 72 = Xi U46 904 72 from by rw [eU47]; exact Xi_ne (by omega)).trans ( (show Xi U46 904 72 = Xi U45 904 72 from by rw [eU46]; exact Xi_ne (by omega)).trans ((show Xi U45 904 72 = Xi T1 904 72 from by rw [eU45]; exact Xi_ne (by omega)))))))))
          have w1085 : 0 ≤ Xi T1 904 72 ∧ Xi T1 904 72 ≤ 2600 := hHT1.c _ _
          have w1086 : Xi U52 904 73 = Xi T1 904 73 := (show Xi U52 904 73 = Xi T51 904 73 from by rw [eU52]; exact Xi_ne (by omega)).trans ( (show Xi T51 904 73 = Xi T50 904 73 from w1068.x _ _ rfl).trans ( (show Xi T50 904 73 = Xi T49 904 73 from w1036.x _ _ rfl).trans ( (show Xi T49 904 73 = Xi U48 904 73 from w1005.x _ _ rfl).trans ( (show Xi U48 904 73 = Xi U47 904 73 from by rw [eU48]; exact Xi_ne (by omega)).trans ( (show Xi U47 904 73 = Xi U46 904 73 from by rw [eU47]; exact Xi_ne (by omega)).trans ( (show Xi U46 904 73 = Xi U45 904 73 from by rw [eU46]; exact Xi_ne (by omega)).trans ((show Xi U45 904 73 = Xi T1 904 73 from by rw [eU45]; exact Xi_ne (by omega)))))))))
          have w1087 : 0 ≤ Xi T1 904 73 ∧ Xi T1 904 73 ≤ 5 := hHT1.c _ _
          have w1088 : Xi U52 904 74 = Xi T1 904 74 := (show Xi U52 904 74 = Xi T51 904 74 from by rw [eU52]; exact Xi_ne (by omega)).trans ( (show Xi T51 904 74 = Xi T50 904 74 from w1068.x _ _ rfl).trans ( (show Xi T50 904 74 = Xi T49 904 74 from w1036.x _ _ rfl).trans ( (show Xi T49 904 74 = Xi U48 904 74 from w1005.x _ _ rfl).trans ( (show Xi U48 904 74 = Xi U47 904 74 from by rw [eU48]; exact Xi_ne (by omega)).trans ( (show Xi U47 904 74 = Xi U46 904 74 from by rw [eU47]; exact Xi_ne (by omega)).trans ( (show Xi U46 904 74 = Xi U45 904 74 from by rw [eU46]; exact Xi_ne (by omega)).trans ((show Xi U45 904 74 = Xi T1 904 74 from by rw [eU45]; exact Xi_ne (by omega)))))))))
          have w1089 : 0 ≤ Xi T1 904 74 ∧ Xi T1 904 74 ≤ 2600 := hHT1.c _ _
          have w1090 : -2 ≤ Xi U52 904 78 ∧ Xi U52 904 78 ≤ 5010 := hHU52.c _ _
          have w1091 : Xi U52 904 8 = Xi T51 904 8 := (show Xi U52 904 8 = Xi T51 904 8 from by rw [eU52]; exact Xi_ne (by omega))
          have w1092 : 0 ≤ Xi T51 904 8 ∧ Xi T51 904 8 ≤ 5010 := hHT51.c _ _
          have w1093 : Xi U52 904 93 = Xi T1 904 93 := (show Xi U52 904 93 = Xi T51 904 93 from by rw [eU52]; exact Xi_ne (by omega)).trans ( (show Xi T51 904 93 = Xi T50 904 93 from w1068.x _ _ rfl).trans ( (show Xi T50 904 93 = Xi T49 904 93 from w1036.x _ _ rfl).trans ( (show Xi T49 904 93 = Xi U48 904 93 from w1005.x _ _ rfl).trans ( (show Xi U48 904 93 = Xi U47 904 93 from by rw [eU48]; exact Xi_ne (by omega)).trans ( (show Xi U47 904 93 = Xi U46 904 93 from by rw [eU47]; exact Xi_ne (by omega)).trans ( (show Xi U46 904 93 = Xi U45 904 93 from by rw [eU46]; exact Xi_ne (by omega)).trans ((show Xi U45 904 93 = Xi T1 904 93 from by rw [eU45]; exact Xi_ne (by omega)))))))))
          have w1094 : 0 ≤ Xi T1 904 93 ∧ Xi T1 904 93 ≤ 1700 := hHT1.c _ _
          exact ⟨hHU52, hFU52, rfl, (by first | assumption | exact (AT_FR (FR_e eU52) rfl (by assumption : AT T51 _ _))), (by omega), (by first | assumption | exact (RNV_FR (FR_e eU52) rfl (by assumption : RNV T51 _))), (by omega), (by omega), (by omega), (fun q => by unfold SNQ; refine ⟨fun q1 => absurd q1 (by omega), by omega, by omega, by omega, fun q9 => absurd q9 (by omega), by omega, by omega, by omega, by omega, by omega⟩)⟩
  refine l_aload_n rfl rfl ?_
  have w1095 : 0 ≤ Xi S 904 65 ∧ Xi S 904 65 ≤ 1 := hH.c _ _
  have w1096 : 0 ≤ Xi S 904 69 ∧ Xi S 904 69 ≤ 2600 := hH.c _ _
  have w1097 : 0 ≤ Xi S 904 70 ∧ Xi S 904 70 ≤ 20 := hH.c _ _
  have w1098 : 0 ≤ Xi S 904 71 ∧ Xi S 904 71 ≤ 2600 := hH.c _ _
  have w1099 : 0 ≤ Xi S 904 72 ∧ Xi S 904 72 ≤ 2600 := hH.c _ _
  have w1100 : 0 ≤ Xi S 904 73 ∧ Xi S 904 73 ≤ 5 := hH.c _ _
  have w1101 : 0 ≤ Xi S 904 74 ∧ Xi S 904 74 ≤ 2600 := hH.c _ _
  have w1102 : -2 ≤ Xi S 904 78 ∧ Xi S 904 78 ≤ 5010 := hH.c _ _
  have w1103 : 0 ≤ Xi S 904 8 ∧ Xi S 904 8 ≤ 5010 := hH.c _ _
  have w1104 : 0 ≤ Xi S 904 93 ∧ Xi S 904 93 ≤ 1700 := hH.c _ _
  refine l_callV rfl rfl rfl (t_mo_look hH n c (by first | assumption | exact (TK_FR hF rfl (by assumption : TK S _))) (by first | assumption | exact (by assumption : AT S _ _)) _) ?_
  rintro _ _ ⟨rfl, z1106, rfl, w1106, w1105⟩
  show Rl _ _ _ _ _ [iv z1106] _ _
  refine l_istore_n rfl rfl rfl ?_
  refine l_aload_n rfl rfl ?_
  refine l_iconst rfl ?_
  refine l_pfi rfl rfl rfl rfl ?_
  obtain ⟨U53, eU53⟩ : ∃ T : sS, T = uI S 904 73 (Int32.ofInt 0) := ⟨_, rfl⟩
  rw [← eU53]
  have hHU53 : HI U53 := by rw [eU53]; exact HI_w hH (show 0 ≤ 0 by omega) (show 0 ≤ 5 by omega)
  have hFU53 : FR md_mo_rest S U53 := by rw [eU53]; exact FR.wI hF (mdf_i (r := (904, 905, 73, 74)) (List.mem_of_getElem? (i := 5) rfl) (inR_i (by omega) (by omega) (by omega) (by omega)))
  have w1107 : Xi U53 904 73 = 0 := by rw [eU53]; exact Xi_same (by unfold rg; omega)
  have s7_8 : Xi U53 904 8 = Xi S 904 8 := by rw [eU53, Xi_ne (by omega)]
  have s7_65 : Xi U53 904 65 = Xi S 904 65 := by rw [eU53, Xi_ne (by omega)]
  have s7_69 : Xi U53 904 69 = Xi S 904 69 := by rw [eU53, Xi_ne (by omega)]
  have s7_93 : Xi U53 904 93 = Xi S 904 93 := by rw [eU53, Xi_ne (by omega)]
  have x7 : ∀ j, Xi U53 907 j = Xi S 907 j := fun j => by rw [eU53, Xi_ne (by omega)]
  have l7 : z1106 ≠ 1 → Xi U53 904 65 = 0 ∧ Xi U53 907 (Xi U53 904 8).toNat = z1106 := fun q => by rw [x7, s7_8, s7_65]; exact (by assumption : z1106 ≠ 1 → Xi S 904 65 = 0 ∧ Xi S 907 (Xi S 904 8).toNat = z1106) q
  refine l_iload_n rfl rfl ?_
  refine l_bipush rfl rfl ?_
  refine l_icmp_ne rfl rfl (by unfold rg; omega) (by unfold rg; omega) (fun w1108 => ?_) (fun w1109 => ?_)
  · have w1110 : Xi U53 904 65 = Xi S 904 65 := (show Xi U53 904 65 = Xi S 904 65 from by rw [eU53]; exact Xi_ne (by omega))
    have w1111 : 0 ≤ Xi S 904 65 ∧ Xi S 904 65 ≤ 1 := hH.c _ _
    have w1112 : Xi U53 904 69 = Xi S 904 69 := (show Xi U53 904 69 = Xi S 904 69 from by rw [eU53]; exact Xi_ne (by omega))
    have w1113 : 0 ≤ Xi S 904 69 ∧ Xi S 904 69 ≤ 2600 := hH.c _ _
    have w1114 : Xi U53 904 70 = Xi S 904 70 := (show Xi U53 904 70 = Xi S 904 70 from by rw [eU53]; exact Xi_ne (by omega))
    have w1115 : 0 ≤ Xi S 904 70 ∧ Xi S 904 70 ≤ 20 := hH.c _ _
    have w1116 : Xi U53 904 71 = Xi S 904 71 := (show Xi U53 904 71 = Xi S 904 71 from by rw [eU53]; exact Xi_ne (by omega))
    have w1117 : 0 ≤ Xi S 904 71 ∧ Xi S 904 71 ≤ 2600 := hH.c _ _
    have w1118 : Xi U53 904 72 = Xi S 904 72 := (show Xi U53 904 72 = Xi S 904 72 from by rw [eU53]; exact Xi_ne (by omega))
    have w1119 : 0 ≤ Xi S 904 72 ∧ Xi S 904 72 ≤ 2600 := hH.c _ _
    have w1120 : 0 ≤ Xi U53 904 73 ∧ Xi U53 904 73 ≤ 5 := hHU53.c _ _
    have w1121 : Xi U53 904 74 = Xi S 904 74 := (show Xi U53 904 74 = Xi S 904 74 from by rw [eU53]; exact Xi_ne (by omega))
    have w1122 : 0 ≤ Xi S 904 74 ∧ Xi S 904 74 ≤ 2600 := hH.c _ _
    have w1123 : Xi U53 904 78 = Xi S 904 78 := (show Xi U53 904 78 = Xi S 904 78 from by rw [eU53]; exact Xi_ne (by omega))
    have w1124 : -2 ≤ Xi S 904 78 ∧ Xi S 904 78 ≤ 5010 := hH.c _ _
    have w1125 : Xi U53 904 8 = Xi S 904 8 := (show Xi U53 904 8 = Xi S 904 8 from by rw [eU53]; exact Xi_ne (by omega))
    have w1126 : 0 ≤ Xi S 904 8 ∧ Xi S 904 8 ≤ 5010 := hH.c _ _
    have w1127 : Xi U53 904 93 = Xi S 904 93 := (show Xi U53 904 93 = Xi S 904 93 from by rw [eU53]; exact Xi_ne (by omega))
    have w1128 : 0 ≤ Xi S 904 93 ∧ Xi S 904 93 ≤ 1700 := hH.c _ _
    exact Rl_weak (C111 U53 hHU53 hFU53 (z1106) (by omega) (by first | assumption | exact (AT_FR (FR_e eU53) rfl (by assumption : AT S _ _))) (by first | assumption | exact (RNV_FR (FR_e eU53) rfl (by assumption : RNV S _))) (by omega) (by omega) (by omega) (by omega) (by omega) (by omega)) (And.intro rfl (And.intro rfl (True.intro)))
  · refine l_aload_n rfl rfl ?_
    refine l_gfr rfl rfl rfl rfl rfl (hHU53.r 904 4 907 rfl) ?_
    refine l_aload_n rfl rfl ?_
    refine l_gfi rfl rfl rfl rfl rfl ?_
    have w1129 : (Xi U53 904 8) = (Xi S 904 8) := (show Xi U53 904 8 = Xi S 904 8 from by rw [eU53]; exact Xi_ne (by omega))
    rw [w1129]
    refine l_iconst rfl ?_
    refine l_iadd rfl ?_
    refine l_iaload (n := 5002) rfl rfl (by omega) (by omega) (by unfold rg; omega) ?_
    have w1130 : 0 ≤ (Xi U53 907 ((((Xi S 904 8) + 1)).toNat)) ∧ (Xi U53 907 ((((Xi S 904 8) + 1)).toNat)) ≤ 154 := hHU53.c _ _
    have e26 : (Xi U53 907 ((((Xi S 904 8) + 1)).toNat)) = Xi S 907 (Xi S 904 8 + 1).toNat := by first | rfl | exact (hFU53.cx 907 rfl _).1 | (rw [(hFU53.cx 907 rfl _).1, show Xi U53 904 8 = Xi S 904 8 by omega])
    refine l_bipush rfl rfl ?_
    refine l_icmp_ne rfl rfl (by unfold rg; omega) (by unfold rg; omega) (fun w1131 => ?_) (fun w1132 => ?_)
    · have w1133 : Xi U53 904 65 = Xi S 904 65 := (show Xi U53 904 65 = Xi S 904 65 from by rw [eU53]; exact Xi_ne (by omega))
      have w1134 : 0 ≤ Xi S 904 65 ∧ Xi S 904 65 ≤ 1 := hH.c _ _
      have w1135 : Xi U53 904 69 = Xi S 904 69 := (show Xi U53 904 69 = Xi S 904 69 from by rw [eU53]; exact Xi_ne (by omega))
      have w1136 : 0 ≤ Xi S 904 69 ∧ Xi S 904 69 ≤ 2600 := hH.c _ _
      have w1137 : Xi U53 904 70 = Xi S 904 70 := (show Xi U53 904 70 = Xi S 904 70 from by rw [eU53]; exact Xi_ne (by omega))
      have w1138 : 0 ≤ Xi S 904 70 ∧ Xi S 904 70 ≤ 20 := hH.c _ _
      have w1139 : Xi U53 904 71 = Xi S 904 71 := (show Xi U53 904 71 = Xi S 904 71 from by rw [eU53]; exact Xi_ne (by omega))
      have w1140 : 0 ≤ Xi S 904 71 ∧ Xi S 904 71 ≤ 2600 := hH.c _ _
      have w1141 : Xi U53 904 72 = Xi S 904 72 := (show Xi U53 904 72 = Xi S 904 72 from by rw [eU53]; exact Xi_ne (by omega))
      have w1142 : 0 ≤ Xi S 904 72 ∧ Xi S 904 72 ≤ 2600 := hH.c _ _
      have w1143 : 0 ≤ Xi U53 904 73 ∧ Xi U53 904 73 ≤ 5 := hHU53.c _ _
      have w1144 : Xi U53 904 74 = Xi S 904 74 := (show Xi U53 904 74 = Xi S 904 74 from by rw [eU53]; exact Xi_ne (by omega))
      have w1145 : 0 ≤ Xi S 904 74 ∧ Xi S 904 74 ≤ 2600 := hH.c _ _
      have w1146 : Xi U53 904 78 = Xi S 904 78 := (show Xi U53 904 78 = Xi S 904 78 from by rw [eU53]; exact Xi_ne (by omega))
      have w1147 : -2 ≤ Xi S 904 78 ∧ Xi S 904 78 ≤ 5010 := hH.c _ _
      have w1148 : Xi U53 904 8 = Xi S 904 8 := (show Xi U53 904 8 = Xi S 904 8 from by rw [eU53]; exact Xi_ne (by omega))
      have w1149 : 0 ≤ Xi S 904 8 ∧ Xi S 904 8 ≤ 5010 := hH.c _ _
      have w1150 : Xi U53 904 93 = Xi S 904 93 := (show Xi U53 904 93 = Xi S 904 93 from by rw [eU53]; exact Xi_ne (by omega))
      have w1151 : 0 ≤ Xi S 904 93 ∧ Xi S 904 93 ≤ 1700 := hH.c _ _
      exact Rl_weak (C111 U53 hHU53 hFU53 (z1106) (by omega) (by first | assumption | exact (AT_FR (FR_e eU53) rfl (by assumption : AT S _ _))) (by first | assumption | exact (RNV_FR (FR_e eU53) rfl (by assumption : RNV S _))) (by omega) (by omega) (by omega) (by omega) (by omega) (by omega)) (And.intro rfl (And.intro rfl (True.intro)))
    · refine l_aload_n rfl rfl ?_
      refine l_bipush rfl rfl ?_
      refine l_pfi rfl rfl rfl rfl ?_
      obtain ⟨U54, eU54⟩ : ∃ T : sS, T = uI U53 904 70 (Int32.ofInt 10) := ⟨_, rfl⟩
      rw [← eU54]
      have hHU54 : HI U54 := by rw [eU54]; exact HI_w hHU53 (show 0 ≤ 10 by omega) (show 10 ≤ 20 by omega)
      have hFU54 : FR md_mo_rest S U54 := by rw [eU54]; exact FR.wI hFU53 (mdf_i (r := (904, 905, 70, 71)) (List.mem_of_getElem? (i := 4) rfl) (inR_i (by omega) (by omega) (by omega) (by omega)))
      have w1152 : Xi U54 904 70 = 10 := by rw [eU54]; exact Xi_same (by unfold rg; omega)
      refine l_aload_n rfl rfl ?_
      refine l_dup rfl rfl ?_
      refine l_gfi rfl rfl rfl rfl rfl ?_
      have w1153 : (Xi U54 904 8) = (Xi S 904 8) := (show Xi U54 904 8 = Xi U53 904 8 from by rw [eU54]; exact Xi_ne (by omega)).trans ((show Xi U53 904 8 = Xi S 904 8 from by rw [eU53]; exact Xi_ne (by omega)))
      rw [w1153]
      refine l_iconst rfl ?_
      refine l_iadd rfl ?_
      refine l_pfi rfl rfl rfl rfl ?_
      obtain ⟨U55, eU55⟩ : ∃ T : sS, T = uI U54 904 8 (Int32.ofInt ((Xi S 904 8) + 2)) := ⟨_, rfl⟩
      rw [← eU55]
      have hHU55 : HI U55 := by rw [eU55]; exact HI_w hHU54 (show 0 ≤ ((Xi S 904 8) + 2) by omega) (show ((Xi S 904 8) + 2) ≤ 5010 by omega)
      have hFU55 : FR md_mo_rest S U55 := by rw [eU55]; exact FR.wI hFU54 (mdf_i (r := (904, 905, 8, 9)) (List.mem_of_getElem? (i := 0) rfl) (inR_i (by omega) (by omega) (by omega) (by omega)))
      have w1154 : Xi U55 904 8 = ((Xi S 904 8) + 2) := by rw [eU55]; exact Xi_same (by unfold rg; omega)
      have t45 : AT U55 n c ∧ _ := (at_mv2 (S := S) (P := U54) (TK_FR hF rfl (by assumption : TK S _)) (by first | assumption | exact (by assumption : AT S _ _)) (fun j => ((FR_e eU54).cx 907 rfl j).1.trans (((FR_e eU53).cx 907 rfl j).1)) (fun j => ((FR_e eU54).cx 908 rfl j).1.trans (((FR_e eU53).cx 908 rfl j).1)) ((show Xi U54 904 8 = Xi U53 904 8 from by rw [eU54]; exact Xi_ne (by omega)).trans ((show Xi U53 904 8 = Xi S 904 8 from by rw [eU53]; exact Xi_ne (by omega)))) ((show Xi U54 904 65 = Xi U53 904 65 from by rw [eU54]; exact Xi_ne (by omega)).trans ((show Xi U53 904 65 = Xi S 904 65 from by rw [eU53]; exact Xi_ne (by omega)))) ((show Xi U54 904 69 = Xi U53 904 69 from by rw [eU54]; exact Xi_ne (by omega)).trans ((show Xi U53 904 69 = Xi S 904 69 from by rw [eU53]; exact Xi_ne (by omega)))) ((show Xi U54 904 93 = Xi U53 904 93 from by rw [eU54]; exact Xi_ne (by omega)).trans ((show Xi U53 904 93 = Xi S 904 93 from by rw [eU53]; exact Xi_ne (by omega)))) eU55 (by omega) (by omega) (by omega) (by omega) (by omega))
      have a45 : AT U55 n c := t45.1
      have l45 := t45.2
      refine l_aload_n rfl rfl ?_
      refine l_iconst rfl ?_
      refine l_pfi rfl rfl rfl rfl ?_
      obtain ⟨U56, eU56⟩ : ∃ T : sS, T = uI U55 904 78 (Int32.ofInt (-1)) := ⟨_, rfl⟩
      rw [← eU56]
      have hHU56 : HI U56 := by rw [eU56]; exact HI_w hHU55 (show -2 ≤ (-1) by omega) (show (-1) ≤ 5010 by omega)
      have hFU56 : FR md_mo_rest S U56 := by rw [eU56]; exact FR.wI hFU55 (mdf_i (r := (904, 905, 78, 79)) (List.mem_of_getElem? (i := 9) rfl) (inR_i (by omega) (by omega) (by omega) (by omega)))
      have w1155 : Xi U56 904 78 = (-1) := by rw [eU56]; exact Xi_same (by unfold rg; omega)
      refine l_aload_n rfl rfl ?_
      refine l_bipush rfl rfl ?_
      have w1156 : Xi U56 904 65 = Xi S 904 65 := (show Xi U56 904 65 = Xi U55 904 65 from by rw [eU56]; exact Xi_ne (by omega)).trans ( (show Xi U55 904 65 = Xi U54 904 65 from by rw [eU55]; exact Xi_ne (by omega)).trans ( (show Xi U54 904 65 = Xi U53 904 65 from by rw [eU54]; exact Xi_ne (by omega)).trans ((show Xi U53 904 65 = Xi S 904 65 from by rw [eU53]; exact Xi_ne (by omega)))))
      have w1157 : 0 ≤ Xi S 904 65 ∧ Xi S 904 65 ≤ 1 := hH.c _ _
      have w1158 : Xi U56 904 69 = Xi S 904 69 := (show Xi U56 904 69 = Xi U55 904 69 from by rw [eU56]; exact Xi_ne (by omega)).trans ( (show Xi U55 904 69 = Xi U54 904 69 from by rw [eU55]; exact Xi_ne (by omega)).trans ( (show Xi U54 904 69 = Xi U53 904 69 from by rw [eU54]; exact Xi_ne (by omega)).trans ((show Xi U53 904 69 = Xi S 904 69 from by rw [eU53]; exact Xi_ne (by omega)))))
      have w1159 : 0 ≤ Xi S 904 69 ∧ Xi S 904 69 ≤ 2600 := hH.c _ _
      have w1160 : Xi U56 904 70 = Xi U54 904 70 := (show Xi U56 904 70 = Xi U55 904 70 from by rw [eU56]; exact Xi_ne (by omega)).trans ((show Xi U55 904 70 = Xi U54 904 70 from by rw [eU55]; exact Xi_ne (by omega)))
      have w1161 : 0 ≤ Xi U54 904 70 ∧ Xi U54 904 70 ≤ 20 := hHU54.c _ _
      have w1162 : Xi U56 904 71 = Xi S 904 71 := (show Xi U56 904 71 = Xi U55 904 71 from by rw [eU56]; exact Xi_ne (by omega)).trans ( (show Xi U55 904 71 = Xi U54 904 71 from by rw [eU55]; exact Xi_ne (by omega)).trans ( (show Xi U54 904 71 = Xi U53 904 71 from by rw [eU54]; exact Xi_ne (by omega)).trans ((show Xi U53 904 71 = Xi S 904 71 from by rw [eU53]; exact Xi_ne (by omega)))))
      have w1163 : 0 ≤ Xi S 904 71 ∧ Xi S 904 71 ≤ 2600 := hH.c _ _
      have w1164 : Xi U56 904 72 = Xi S 904 72 := (show Xi U56 904 72 = Xi U55 904 72 from by rw [eU56]; exact Xi_ne (by omega)).trans ( (show Xi U55 904 72 = Xi U54 904 72 from by rw [eU55]; exact Xi_ne (by omega)).trans ( (show Xi U54 904 72 = Xi U53 904 72 from by rw [eU54]; exact Xi_ne (by omega)).trans ((show Xi U53 904 72 = Xi S 904 72 from by rw [eU53]; exact Xi_ne (by omega)))))
      have w1165 : 0 ≤ Xi S 904 72 ∧ Xi S 904 72 ≤ 2600 := hH.c _ _
      have w1166 : Xi U56 904 73 = Xi U53 904 73 := (show Xi U56 904 73 = Xi U55 904 73 from by rw [eU56]; exact Xi_ne (by omega)).trans ( (show Xi U55 904 73 = Xi U54 904 73 from by rw [eU55]; exact Xi_ne (by omega)).trans ((show Xi U54 904 73 = Xi U53 904 73 from by rw [eU54]; exact Xi_ne (by omega))))
      have w1167 : 0 ≤ Xi U53 904 73 ∧ Xi U53 904 73 ≤ 5 := hHU53.c _ _
      have w1168 : Xi U56 904 74 = Xi S 904 74 := (show Xi U56 904 74 = Xi U55 904 74 from by rw [eU56]; exact Xi_ne (by omega)).trans ( (show Xi U55 904 74 = Xi U54 904 74 from by rw [eU55]; exact Xi_ne (by omega)).trans ( (show Xi U54 904 74 = Xi U53 904 74 from by rw [eU54]; exact Xi_ne (by omega)).trans ((show Xi U53 904 74 = Xi S 904 74 from by rw [eU53]; exact Xi_ne (by omega)))))
      have w1169 : 0 ≤ Xi S 904 74 ∧ Xi S 904 74 ≤ 2600 := hH.c _ _
      have w1170 : -2 ≤ Xi U56 904 78 ∧ Xi U56 904 78 ≤ 5010 := hHU56.c _ _
      have w1171 : Xi U56 904 8 = Xi U55 904 8 := (show Xi U56 904 8 = Xi U55 904 8 from by rw [eU56]; exact Xi_ne (by omega))
      have w1172 : 0 ≤ Xi U55 904 8 ∧ Xi U55 904 8 ≤ 5010 := hHU55.c _ _
      have w1173 : Xi U56 904 93 = Xi S 904 93 := (show Xi U56 904 93 = Xi U55 904 93 from by rw [eU56]; exact Xi_ne (by omega)).trans ( (show Xi U55 904 93 = Xi U54 904 93 from by rw [eU55]; exact Xi_ne (by omega)).trans ( (show Xi U54 904 93 = Xi U53 904 93 from by rw [eU54]; exact Xi_ne (by omega)).trans ((show Xi U53 904 93 = Xi S 904 93 from by rw [eU53]; exact Xi_ne (by omega)))))
      have w1174 : 0 ≤ Xi S 904 93 ∧ Xi S 904 93 ≤ 1700 := hH.c _ _
      refine l_callV rfl rfl rfl (t_mo_isNext hHU56 n c 107 ⟨by omega, by omega⟩ (by first | assumption | exact (TK_FR hFU56 rfl (by assumption : TK S _))) (by first | assumption | exact (AT_FR (FR_e eU56) rfl (by assumption : AT U55 _ _))) _) ?_
      rintro _ _ ⟨rfl, z1177, rfl, w1177, w1175, w1176⟩
      show Rl _ _ _ _ _ [iv z1177] _ _
      have j56 : z1177 = 1 → Xi U56 904 65 = 0 ∧ Xi U56 907 (Xi U56 904 8).toNat = 107 := by assumption
      refine l_if_eq rfl rfl (by unfold rg; omega) (fun w1178 => ?_) (fun w1179 => ?_)
      · refine l_return rfl rfl ?_
        have w1180 : Xi U56 904 65 = Xi S 904 65 := (show Xi U56 904 65 = Xi U55 904 65 from by rw [eU56]; exact Xi_ne (by omega)).trans ( (show Xi U55 904 65 = Xi U54 904 65 from by rw [eU55]; exact Xi_ne (by omega)).trans ( (show Xi U54 904 65 = Xi U53 904 65 from by rw [eU54]; exact Xi_ne (by omega)).trans ((show Xi U53 904 65 = Xi S 904 65 from by rw [eU53]; exact Xi_ne (by omega)))))
        have w1181 : 0 ≤ Xi S 904 65 ∧ Xi S 904 65 ≤ 1 := hH.c _ _
        have w1182 : Xi U56 904 69 = Xi S 904 69 := (show Xi U56 904 69 = Xi U55 904 69 from by rw [eU56]; exact Xi_ne (by omega)).trans ( (show Xi U55 904 69 = Xi U54 904 69 from by rw [eU55]; exact Xi_ne (by omega)).trans ( (show Xi U54 904 69 = Xi U53 904 69 from by rw [eU54]; exact Xi_ne (by omega)).trans ((show Xi U53 904 69 = Xi S 904 69 from by rw [eU53]; exact Xi_ne (by omega)))))
        have w1183 : 0 ≤ Xi S 904 69 ∧ Xi S 904 69 ≤ 2600 := hH.c _ _
        have w1184 : Xi U56 904 70 = Xi U54 904 70 := (show Xi U56 904 70 = Xi U55 904 70 from by rw [eU56]; exact Xi_ne (by omega)).trans ((show Xi U55 904 70 = Xi U54 904 70 from by rw [eU55]; exact Xi_ne (by omega)))
        have w1185 : 0 ≤ Xi U54 904 70 ∧ Xi U54 904 70 ≤ 20 := hHU54.c _ _
        have w1186 : Xi U56 904 71 = Xi S 904 71 := (show Xi U56 904 71 = Xi U55 904 71 from by rw [eU56]; exact Xi_ne (by omega)).trans ( (show Xi U55 904 71 = Xi U54 904 71 from by rw [eU55]; exact Xi_ne (by omega)).trans ( (show Xi U54 904 71 = Xi U53 904 71 from by rw [eU54]; exact Xi_ne (by omega)).trans ((show Xi U53 904 71 = Xi S 904 71 from by rw [eU53]; exact Xi_ne (by omega)))))
        have w1187 : 0 ≤ Xi S 904 71 ∧ Xi S 904 71 ≤ 2600 := hH.c _ _
        have w1188 : Xi U56 904 72 = Xi S 904 72 := (show Xi U56 904 72 = Xi U55 904 72 from by rw [eU56]; exact Xi_ne (by omega)).trans ( (show Xi U55 904 72 = Xi U54 904 72 from by rw [eU55]; exact Xi_ne (by omega)).trans ( (show Xi U54 904 72 = Xi U53 904 72 from by rw [eU54]; exact Xi_ne (by omega)).trans ((show Xi U53 904 72 = Xi S 904 72 from by rw [eU53]; exact Xi_ne (by omega)))))
        have w1189 : 0 ≤ Xi S 904 72 ∧ Xi S 904 72 ≤ 2600 := hH.c _ _
        have w1190 : Xi U56 904 73 = Xi U53 904 73 := (show Xi U56 904 73 = Xi U55 904 73 from by rw [eU56]; exact Xi_ne (by omega)).trans ( (show Xi U55 904 73 = Xi U54 904 73 from by rw [eU55]; exact Xi_ne (by omega)).trans ((show Xi U54 904 73 = Xi U53 904 73 from by rw [eU54]; exact Xi_ne (by omega))))
        have w1191 : 0 ≤ Xi U53 904 73 ∧ Xi U53 904 73 ≤ 5 := hHU53.c _ _
        have w1192 : Xi U56 904 74 = Xi S 904 74 := (show Xi U56 904 74 = Xi U55 904 74 from by rw [eU56]; exact Xi_ne (by omega)).trans ( (show Xi U55 904 74 = Xi U54 904 74 from by rw [eU55]; exact Xi_ne (by omega)).trans ( (show Xi U54 904 74 = Xi U53 904 74 from by rw [eU54]; exact Xi_ne (by omega)).trans ((show Xi U53 904 74 = Xi S 904 74 from by rw [eU53]; exact Xi_ne (by omega)))))
        have w1193 : 0 ≤ Xi S 904 74 ∧ Xi S 904 74 ≤ 2600 := hH.c _ _
        have w1194 : -2 ≤ Xi U56 904 78 ∧ Xi U56 904 78 ≤ 5010 := hHU56.c _ _
        have w1195 : Xi U56 904 8 = Xi U55 904 8 := (show Xi U56 904 8 = Xi U55 904 8 from by rw [eU56]; exact Xi_ne (by omega))
        have w1196 : 0 ≤ Xi U55 904 8 ∧ Xi U55 904 8 ≤ 5010 := hHU55.c _ _
        have w1197 : Xi U56 904 93 = Xi S 904 93 := (show Xi U56 904 93 = Xi U55 904 93 from by rw [eU56]; exact Xi_ne (by omega)).trans ( (show Xi U55 904 93 = Xi U54 904 93 from by rw [eU55]; exact Xi_ne (by omega)).trans ( (show Xi U54 904 93 = Xi U53 904 93 from by rw [eU54]; exact Xi_ne (by omega)).trans ((show Xi U53 904 93 = Xi S 904 93 from by rw [eU53]; exact Xi_ne (by omega)))))
        have w1198 : 0 ≤ Xi S 904 93 ∧ Xi S 904 93 ≤ 1700 := hH.c _ _
        exact ⟨hHU56, hFU56, rfl, (by first | assumption | exact (AT_FR (FR_e eU56) rfl (by assumption : AT U55 _ _))), (by omega), (by first | assumption | exact (RNV_FR (FR_e eU56) rfl (RNV_FR (FR_e eU55) rfl (RNV_FR (FR_e eU54) rfl (RNV_FR (FR_e eU53) rfl (by assumption : RNV S _)))))), (by omega), (by omega), (by omega), (fun q => by unfold SNQ; refine ⟨fun q1 => absurd q1 (by omega), by omega, by omega, by omega, fun q9 => absurd q9 (by omega), by omega, by omega, by omega, by omega, by omega⟩)⟩
      · refine l_aload_n rfl rfl ?_
        refine l_dup rfl rfl ?_
        refine l_gfi rfl rfl rfl rfl rfl ?_
        have w1199 : (Xi U56 904 8) = (Xi U55 904 8) := (show Xi U56 904 8 = Xi U55 904 8 from by rw [eU56]; exact Xi_ne (by omega))
        rw [w1199]
        refine l_iconst rfl ?_
        refine l_iadd rfl ?_
        refine l_pfi rfl rfl rfl rfl ?_
        obtain ⟨U57, eU57⟩ : ∃ T : sS, T = uI U56 904 8 (Int32.ofInt ((Xi U55 904 8) + 1)) := ⟨_, rfl⟩
        rw [← eU57]
        have hHU57 : HI U57 := by rw [eU57]; exact HI_w hHU56 (show 0 ≤ ((Xi U55 904 8) + 1) by omega) (show ((Xi U55 904 8) + 1) ≤ 5010 by omega)
        have hFU57 : FR md_mo_rest S U57 := by rw [eU57]; exact FR.wI hFU56 (mdf_i (r := (904, 905, 8, 9)) (List.mem_of_getElem? (i := 0) rfl) (inR_i (by omega) (by omega) (by omega) (by omega)))
        have w1200 : Xi U57 904 8 = ((Xi U55 904 8) + 1) := by rw [eU57]; exact Xi_same (by unfold rg; omega)
        have t69 : AT U57 n c ∧ _ := (at_mv (S := U56) (P := U56) (TK_FR hFU56 rfl (by assumption : TK S _)) (by first | assumption | exact (AT_FR (FR_e eU56) rfl (by assumption : AT U55 _ _))) (fun j => rfl) (fun j => rfl) (rfl) (rfl) (rfl) (rfl) eU57 (by omega) (by omega) (by omega) (by omega) (Or.inl rfl))
        have a69 : AT U57 n c := t69.1
        have l69 := t69.2
        refine l_aload_n rfl rfl ?_
        refine l_bipush rfl rfl ?_
        have w1201 : Xi U57 904 65 = Xi S 904 65 := (show Xi U57 904 65 = Xi U56 904 65 from by rw [eU57]; exact Xi_ne (by omega)).trans ( (show Xi U56 904 65 = Xi U55 904 65 from by rw [eU56]; exact Xi_ne (by omega)).trans ( (show Xi U55 904 65 = Xi U54 904 65 from by rw [eU55]; exact Xi_ne (by omega)).trans ( (show Xi U54 904 65 = Xi U53 904 65 from by rw [eU54]; exact Xi_ne (by omega)).trans ((show Xi U53 904 65 = Xi S 904 65 from by rw [eU53]; exact Xi_ne (by omega))))))
        have w1202 : 0 ≤ Xi S 904 65 ∧ Xi S 904 65 ≤ 1 := hH.c _ _
        have w1203 : Xi U57 904 69 = Xi S 904 69 := (show Xi U57 904 69 = Xi U56 904 69 from by rw [eU57]; exact Xi_ne (by omega)).trans ( (show Xi U56 904 69 = Xi U55 904 69 from by rw [eU56]; exact Xi_ne (by omega)).trans ( (show Xi U55 904 69 = Xi U54 904 69 from by rw [eU55]; exact Xi_ne (by omega)).trans ( (show Xi U54 904 69 = Xi U53 904 69 from by rw [eU54]; exact Xi_ne (by omega)).trans ((show Xi U53 904 69 = Xi S 904 69 from by rw [eU53]; exact Xi_ne (by omega))))))
        have w1204 : 0 ≤ Xi S 904 69 ∧ Xi S 904 69 ≤ 2600 := hH.c _ _
        have w1205 : Xi U57 904 70 = Xi U54 904 70 := (show Xi U57 904 70 = Xi U56 904 70 from by rw [eU57]; exact Xi_ne (by omega)).trans ( (show Xi U56 904 70 = Xi U55 904 70 from by rw [eU56]; exact Xi_ne (by omega)).trans ((show Xi U55 904 70 = Xi U54 904 70 from by rw [eU55]; exact Xi_ne (by omega))))
        have w1206 : 0 ≤ Xi U54 904 70 ∧ Xi U54 904 70 ≤ 20 := hHU54.c _ _
        have w1207 : Xi U57 904 71 = Xi S 904 71 := (show Xi U57 904 71 = Xi U56 904 71 from by rw [eU57]; exact Xi_ne (by omega)).trans ( (show Xi U56 904 71 = Xi U55 904 71 from by rw [eU56]; exact Xi_ne (by omega)).trans ( (show Xi U55 904 71 = Xi U54 904 71 from by rw [eU55]; exact Xi_ne (by omega)).trans ( (show Xi U54 904 71 = Xi U53 904 71 from by rw [eU54]; exact Xi_ne (by omega)).trans ((show Xi U53 904 71 = Xi S 904 71 from by rw [eU53]; exact Xi_ne (by omega))))))
        have w1208 : 0 ≤ Xi S 904 71 ∧ Xi S 904 71 ≤ 2600 := hH.c _ _
        have w1209 : Xi U57 904 72 = Xi S 904 72 := (show Xi U57 904 72 = Xi U56 904 72 from by rw [eU57]; exact Xi_ne (by omega)).trans ( (show Xi U56 904 72 = Xi U55 904 72 from by rw [eU56]; exact Xi_ne (by omega)).trans ( (show Xi U55 904 72 = Xi U54 904 72 from by rw [eU55]; exact Xi_ne (by omega)).trans ( (show Xi U54 904 72 = Xi U53 904 72 from by rw [eU54]; exact Xi_ne (by omega)).trans ((show Xi U53 904 72 = Xi S 904 72 from by rw [eU53]; exact Xi_ne (by omega))))))
        have w1210 : 0 ≤ Xi S 904 72 ∧ Xi S 904 72 ≤ 2600 := hH.c _ _
        have w1211 : Xi U57 904 73 = Xi U53 904 73 := (show Xi U57 904 73 = Xi U56 904 73 from by rw [eU57]; exact Xi_ne (by omega)).trans ( (show Xi U56 904 73 = Xi U55 904 73 from by rw [eU56]; exact Xi_ne (by omega)).trans ( (show Xi U55 904 73 = Xi U54 904 73 from by rw [eU55]; exact Xi_ne (by omega)).trans ((show Xi U54 904 73 = Xi U53 904 73 from by rw [eU54]; exact Xi_ne (by omega)))))
        have w1212 : 0 ≤ Xi U53 904 73 ∧ Xi U53 904 73 ≤ 5 := hHU53.c _ _
        have w1213 : Xi U57 904 74 = Xi S 904 74 := (show Xi U57 904 74 = Xi U56 904 74 from by rw [eU57]; exact Xi_ne (by omega)).trans ( (show Xi U56 904 74 = Xi U55 904 74 from by rw [eU56]; exact Xi_ne (by omega)).trans ( (show Xi U55 904 74 = Xi U54 904 74 from by rw [eU55]; exact Xi_ne (by omega)).trans ( (show Xi U54 904 74 = Xi U53 904 74 from by rw [eU54]; exact Xi_ne (by omega)).trans ((show Xi U53 904 74 = Xi S 904 74 from by rw [eU53]; exact Xi_ne (by omega))))))
        have w1214 : 0 ≤ Xi S 904 74 ∧ Xi S 904 74 ≤ 2600 := hH.c _ _
        have w1215 : Xi U57 904 78 = Xi U56 904 78 := (show Xi U57 904 78 = Xi U56 904 78 from by rw [eU57]; exact Xi_ne (by omega))
        have w1216 : -2 ≤ Xi U56 904 78 ∧ Xi U56 904 78 ≤ 5010 := hHU56.c _ _
        have w1217 : 0 ≤ Xi U57 904 8 ∧ Xi U57 904 8 ≤ 5010 := hHU57.c _ _
        have w1218 : Xi U57 904 93 = Xi S 904 93 := (show Xi U57 904 93 = Xi U56 904 93 from by rw [eU57]; exact Xi_ne (by omega)).trans ( (show Xi U56 904 93 = Xi U55 904 93 from by rw [eU56]; exact Xi_ne (by omega)).trans ( (show Xi U55 904 93 = Xi U54 904 93 from by rw [eU55]; exact Xi_ne (by omega)).trans ( (show Xi U54 904 93 = Xi U53 904 93 from by rw [eU54]; exact Xi_ne (by omega)).trans ((show Xi U53 904 93 = Xi S 904 93 from by rw [eU53]; exact Xi_ne (by omega))))))
        have w1219 : 0 ≤ Xi S 904 93 ∧ Xi S 904 93 ≤ 1700 := hH.c _ _
        refine l_callV rfl rfl rfl (t_mo_isNext hHU57 n c 120 ⟨by omega, by omega⟩ (by first | assumption | exact (TK_FR hFU57 rfl (by assumption : TK S _))) (by first | assumption | exact (by assumption : AT U57 _ _)) _) ?_
        rintro _ _ ⟨rfl, z1222, rfl, w1222, w1220, w1221⟩
        show Rl _ _ _ _ _ [iv z1222] _ _
        have j75 : z1222 = 1 → Xi U57 904 65 = 0 ∧ Xi U57 907 (Xi U57 904 8).toNat = 120 := by assumption
        refine l_if_eq rfl rfl (by unfold rg; omega) (fun w1223 => ?_) (fun w1224 => ?_)
        · refine l_aload_n rfl rfl ?_
          refine l_aload_n rfl rfl ?_
          have w1225 : Xi U57 904 65 = Xi S 904 65 := (show Xi U57 904 65 = Xi U56 904 65 from by rw [eU57]; exact Xi_ne (by omega)).trans ( (show Xi U56 904 65 = Xi U55 904 65 from by rw [eU56]; exact Xi_ne (by omega)).trans ( (show Xi U55 904 65 = Xi U54 904 65 from by rw [eU55]; exact Xi_ne (by omega)).trans ( (show Xi U54 904 65 = Xi U53 904 65 from by rw [eU54]; exact Xi_ne (by omega)).trans ((show Xi U53 904 65 = Xi S 904 65 from by rw [eU53]; exact Xi_ne (by omega))))))
          have w1226 : 0 ≤ Xi S 904 65 ∧ Xi S 904 65 ≤ 1 := hH.c _ _
          have w1227 : Xi U57 904 69 = Xi S 904 69 := (show Xi U57 904 69 = Xi U56 904 69 from by rw [eU57]; exact Xi_ne (by omega)).trans ( (show Xi U56 904 69 = Xi U55 904 69 from by rw [eU56]; exact Xi_ne (by omega)).trans ( (show Xi U55 904 69 = Xi U54 904 69 from by rw [eU55]; exact Xi_ne (by omega)).trans ( (show Xi U54 904 69 = Xi U53 904 69 from by rw [eU54]; exact Xi_ne (by omega)).trans ((show Xi U53 904 69 = Xi S 904 69 from by rw [eU53]; exact Xi_ne (by omega))))))
          have w1228 : 0 ≤ Xi S 904 69 ∧ Xi S 904 69 ≤ 2600 := hH.c _ _
          have w1229 : Xi U57 904 70 = Xi U54 904 70 := (show Xi U57 904 70 = Xi U56 904 70 from by rw [eU57]; exact Xi_ne (by omega)).trans ( (show Xi U56 904 70 = Xi U55 904 70 from by rw [eU56]; exact Xi_ne (by omega)).trans ((show Xi U55 904 70 = Xi U54 904 70 from by rw [eU55]; exact Xi_ne (by omega))))
          have w1230 : 0 ≤ Xi U54 904 70 ∧ Xi U54 904 70 ≤ 20 := hHU54.c _ _
          have w1231 : Xi U57 904 71 = Xi S 904 71 := (show Xi U57 904 71 = Xi U56 904 71 from by rw [eU57]; exact Xi_ne (by omega)).trans ( (show Xi U56 904 71 = Xi U55 904 71 from by rw [eU56]; exact Xi_ne (by omega)).trans ( (show Xi U55 904 71 = Xi U54 904 71 from by rw [eU55]; exact Xi_ne (by omega)).trans ( (show Xi U54 904 71 = Xi U53 904 71 from by rw [eU54]; exact Xi_ne (by omega)).trans ((show Xi U53 904 71 = Xi S 904 71 from by rw [eU53]; exact Xi_ne (by omega))))))
          have w1232 : 0 ≤ Xi S 904 71 ∧ Xi S 904 71 ≤ 2600 := hH.c _ _
          have w1233 : Xi U57 904 72 = Xi S 904 72 := (show Xi U57 904 72 = Xi U56 904 72 from by rw [eU57]; exact Xi_ne (by omega)).trans ( (show Xi U56 904 72 = Xi U55 904 72 from by rw [eU56]; exact Xi_ne (by omega)).trans ( (show Xi U55 904 72 = Xi U54 904 72 from by rw [eU55]; exact Xi_ne (by omega)).trans ( (show Xi U54 904 72 = Xi U53 904 72 from by rw [eU54]; exact Xi_ne (by omega)).trans ((show Xi U53 904 72 = Xi S 904 72 from by rw [eU53]; exact Xi_ne (by omega))))))
          have w1234 : 0 ≤ Xi S 904 72 ∧ Xi S 904 72 ≤ 2600 := hH.c _ _
          have w1235 : Xi U57 904 73 = Xi U53 904 73 := (show Xi U57 904 73 = Xi U56 904 73 from by rw [eU57]; exact Xi_ne (by omega)).trans ( (show Xi U56 904 73 = Xi U55 904 73 from by rw [eU56]; exact Xi_ne (by omega)).trans ( (show Xi U55 904 73 = Xi U54 904 73 from by rw [eU55]; exact Xi_ne (by omega)).trans ((show Xi U54 904 73 = Xi U53 904 73 from by rw [eU54]; exact Xi_ne (by omega)))))
          have w1236 : 0 ≤ Xi U53 904 73 ∧ Xi U53 904 73 ≤ 5 := hHU53.c _ _
          have w1237 : Xi U57 904 74 = Xi S 904 74 := (show Xi U57 904 74 = Xi U56 904 74 from by rw [eU57]; exact Xi_ne (by omega)).trans ( (show Xi U56 904 74 = Xi U55 904 74 from by rw [eU56]; exact Xi_ne (by omega)).trans ( (show Xi U55 904 74 = Xi U54 904 74 from by rw [eU55]; exact Xi_ne (by omega)).trans ( (show Xi U54 904 74 = Xi U53 904 74 from by rw [eU54]; exact Xi_ne (by omega)).trans ((show Xi U53 904 74 = Xi S 904 74 from by rw [eU53]; exact Xi_ne (by omega))))))
          have w1238 : 0 ≤ Xi S 904 74 ∧ Xi S 904 74 ≤ 2600 := hH.c _ _
          have w1239 : Xi U57 904 78 = Xi U56 904 78 := (show Xi U57 904 78 = Xi U56 904 78 from by rw [eU57]; exact Xi_ne (by omega))
          have w1240 : -2 ≤ Xi U56 904 78 ∧ Xi U56 904 78 ≤ 5010 := hHU56.c _ _
          have w1241 : 0 ≤ Xi U57 904 8 ∧ Xi U57 904 8 ≤ 5010 := hHU57.c _ _
          have w1242 : Xi U57 904 93 = Xi S 904 93 := (show Xi U57 904 93 = Xi U56 904 93 from by rw [eU57]; exact Xi_ne (by omega)).trans ( (show Xi U56 904 93 = Xi U55 904 93 from by rw [eU56]; exact Xi_ne (by omega)).trans ( (show Xi U55 904 93 = Xi U54 904 93 from by rw [eU55]; exact Xi_ne (by omega)).trans ( (show Xi U54 904 93 = Xi U53 904 93 from by rw [eU54]; exact Xi_ne (by omega)).trans ((show Xi U53 904 93 = Xi S 904 93 from by rw [eU53]; exact Xi_ne (by omega))))))
          have w1243 : 0 ≤ Xi S 904 93 ∧ Xi S 904 93 ≤ 1700 := hH.c _ _
          refine l_callV rfl rfl rfl (t_mo_name hHU57 n c (by first | assumption | exact (TK_FR hFU57 rfl (by assumption : TK S _))) (by first | assumption | exact (by assumption : AT U57 _ _)) (by first | assumption | exact (RNV_FR (FR_e eU57) rfl (RNV_FR (FR_e eU56) rfl (RNV_FR (FR_e eU55) rfl (RNV_FR (FR_e eU54) rfl (RNV_FR (FR_e eU53) rfl (by assumption : RNV S _))))))) _) ?_
          rintro _ T58 ⟨hHT58, w1250, z1249, rfl, w1249, w1244, w1245, w1246, w1247, w1248⟩
          have hFT58 : FR md_mo_rest S T58 := FR.tr hFU57 w1250 rfl
          show Rl _ _ _ _ _ [iv z1249, .ref 904] _ _
          have w1252 : 0 ≤ Xi T58 904 8 ∧ Xi T58 904 8 ≤ 5010 := hHT58.c _ _
          have w1253 : 0 ≤ Xi T58 904 65 ∧ Xi T58 904 65 ≤ 1 := hHT58.c _ _
          have w1254 : 0 ≤ Xi T58 904 69 ∧ Xi T58 904 69 ≤ 2600 := hHT58.c _ _
          have w1255 : Xi T58 904 93 = Xi S 904 93 := (show Xi T58 904 93 = Xi U57 904 93 from w1250.x _ _ rfl).trans ( (show Xi U57 904 93 = Xi U56 904 93 from by rw [eU57]; exact Xi_ne (by omega)).trans ( (show Xi U56 904 93 = Xi U55 904 93 from by rw [eU56]; exact Xi_ne (by omega)).trans ( (show Xi U55 904 93 = Xi U54 904 93 from by rw [eU55]; exact Xi_ne (by omega)).trans ( (show Xi U54 904 93 = Xi U53 904 93 from by rw [eU54]; exact Xi_ne (by omega)).trans ((show Xi U53 904 93 = Xi S 904 93 from by rw [eU53]; exact Xi_ne (by omega)))))))
          have w1256 : 0 ≤ Xi S 904 93 ∧ Xi S 904 93 ≤ 1700 := hH.c _ _
          have w1251 : Xi S 904 8 ≤ Xi T58 904 8 ∧ Xi T58 904 8 ≤ n ∧ Xi S 904 69 ≤ Xi T58 904 69 ∧ (Xi T58 904 65 = 0 → Xi S 904 65 = 0) := by omega
          clear w1245
          refine l_pfi rfl rfl rfl rfl ?_
          obtain ⟨U59, eU59⟩ : ∃ T : sS, T = uI T58 904 78 (Int32.ofInt z1249) := ⟨_, rfl⟩
          rw [← eU59]
          have hHU59 : HI U59 := by rw [eU59]; exact HI_w hHT58 (show -2 ≤ z1249 by omega) (show z1249 ≤ 5010 by omega)
          have hFU59 : FR md_mo_rest S U59 := by rw [eU59]; exact FR.wI hFT58 (mdf_i (r := (904, 905, 78, 79)) (List.mem_of_getElem? (i := 9) rfl) (inR_i (by omega) (by omega) (by omega) (by omega)))
          have w1257 : Xi U59 904 78 = z1249 := by rw [eU59]; exact Xi_same (by unfold rg; omega)
          refine l_goto rfl rfl ?_
          refine l_return rfl rfl ?_
          have w1258 : Xi U59 904 65 = Xi T58 904 65 := (show Xi U59 904 65 = Xi T58 904 65 from by rw [eU59]; exact Xi_ne (by omega))
          have w1259 : 0 ≤ Xi T58 904 65 ∧ Xi T58 904 65 ≤ 1 := hHT58.c _ _
          have w1260 : Xi U59 904 69 = Xi T58 904 69 := (show Xi U59 904 69 = Xi T58 904 69 from by rw [eU59]; exact Xi_ne (by omega))
          have w1261 : 0 ≤ Xi T58 904 69 ∧ Xi T58 904 69 ≤ 2600 := hHT58.c _ _
          have w1262 : Xi U59 904 70 = Xi U54 904 70 := (show Xi U59 904 70 = Xi T58 904 70 from by rw [eU59]; exact Xi_ne (by omega)).trans ( (show Xi T58 904 70 = Xi U57 904 70 from w1250.x _ _ rfl).trans ( (show Xi U57 904 70 = Xi U56 904 70 from by rw [eU57]; exact Xi_ne (by omega)).trans ( (show Xi U56 904 70 = Xi U55 904 70 from by rw [eU56]; exact Xi_ne (by omega)).trans ((show Xi U55 904 70 = Xi U54 904 70 from by rw [eU55]; exact Xi_ne (by omega))))))
          have w1263 : 0 ≤ Xi U54 904 70 ∧ Xi U54 904 70 ≤ 20 := hHU54.c _ _
          have w1264 : Xi U59 904 71 = Xi S 904 71 := (show Xi U59 904 71 = Xi T58 904 71 from by rw [eU59]; exact Xi_ne (by omega)).trans ( (show Xi T58 904 71 = Xi U57 904 71 from w1250.x _ _ rfl).trans ( (show Xi U57 904 71 = Xi U56 904 71 from by rw [eU57]; exact Xi_ne (by omega)).trans ( (show Xi U56 904 71 = Xi U55 904 71 from by rw [eU56]; exact Xi_ne (by omega)).trans ( (show Xi U55 904 71 = Xi U54 904 71 from by rw [eU55]; exact Xi_ne (by omega)).trans ( (show Xi U54 904 71 = Xi U53 904 71 from by rw [eU54]; exact Xi_ne (by omega)).trans ((show Xi U53 904 71 = Xi S 904 71 from by rw [eU53]; exact Xi_ne (by omega))))))))
          have w1265 : 0 ≤ Xi S 904 71 ∧ Xi S 904 71 ≤ 2600 := hH.c _ _
          have w1266 : Xi U59 904 72 = Xi S 904 72 := (show Xi U59 904 72 = Xi T58 904 72 from by rw [eU59]; exact Xi_ne (by omega)).trans ( (show Xi T58 904 72 = Xi U57 904 72 from w1250.x _ _ rfl).trans ( (show Xi U57 904 72 = Xi U56 904 72 from by rw [eU57]; exact Xi_ne (by omega)).trans ( (show Xi U56 904 72 = Xi U55 904 72 from by rw [eU56]; exact Xi_ne (by omega)).trans ( (show Xi U55 904 72 = Xi U54 904 72 from by rw [eU55]; exact Xi_ne (by omega)).trans ( (show Xi U54 904 72 = Xi U53 904 72 from by rw [eU54]; exact Xi_ne (by omega)).trans ((show Xi U53 904 72 = Xi S 904 72 from by rw [eU53]; exact Xi_ne (by omega))))))))
          have w1267 : 0 ≤ Xi S 904 72 ∧ Xi S 904 72 ≤ 2600 := hH.c _ _
          have w1268 : Xi U59 904 73 = Xi U53 904 73 := (show Xi U59 904 73 = Xi T58 904 73 from by rw [eU59]; exact Xi_ne (by omega)).trans ( (show Xi T58 904 73 = Xi U57 904 73 from w1250.x _ _ rfl).trans ( (show Xi U57 904 73 = Xi U56 904 73 from by rw [eU57]; exact Xi_ne (by omega)).trans ( (show Xi U56 904 73 = Xi U55 904 73 from by rw [eU56]; exact Xi_ne (by omega)).trans ( (show Xi U55 904 73 = Xi U54 904 73 from by rw [eU55]; exact Xi_ne (by omega)).trans ((show Xi U54 904 73 = Xi U53 904 73 from by rw [eU54]; exact Xi_ne (by omega)))))))
          have w1269 : 0 ≤ Xi U53 904 73 ∧ Xi U53 904 73 ≤ 5 := hHU53.c _ _
          have w1270 : Xi U59 904 74 = Xi S 904 74 := (show Xi U59 904 74 = Xi T58 904 74 from by rw [eU59]; exact Xi_ne (by omega)).trans ( (show Xi T58 904 74 = Xi U57 904 74 from w1250.x _ _ rfl).trans ( (show Xi U57 904 74 = Xi U56 904 74 from by rw [eU57]; exact Xi_ne (by omega)).trans ( (show Xi U56 904 74 = Xi U55 904 74 from by rw [eU56]; exact Xi_ne (by omega)).trans ( (show Xi U55 904 74 = Xi U54 904 74 from by rw [eU55]; exact Xi_ne (by omega)).trans ( (show Xi U54 904 74 = Xi U53 904 74 from by rw [eU54]; exact Xi_ne (by omega)).trans ((show Xi U53 904 74 = Xi S 904 74 from by rw [eU53]; exact Xi_ne (by omega))))))))
          have w1271 : 0 ≤ Xi S 904 74 ∧ Xi S 904 74 ≤ 2600 := hH.c _ _
          have w1272 : -2 ≤ Xi U59 904 78 ∧ Xi U59 904 78 ≤ 5010 := hHU59.c _ _
          have w1273 : Xi U59 904 8 = Xi T58 904 8 := (show Xi U59 904 8 = Xi T58 904 8 from by rw [eU59]; exact Xi_ne (by omega))
          have w1274 : 0 ≤ Xi T58 904 8 ∧ Xi T58 904 8 ≤ 5010 := hHT58.c _ _
          have w1275 : Xi U59 904 93 = Xi S 904 93 := (show Xi U59 904 93 = Xi T58 904 93 from by rw [eU59]; exact Xi_ne (by omega)).trans ( (show Xi T58 904 93 = Xi U57 904 93 from w1250.x _ _ rfl).trans ( (show Xi U57 904 93 = Xi U56 904 93 from by rw [eU57]; exact Xi_ne (by omega)).trans ( (show Xi U56 904 93 = Xi U55 904 93 from by rw [eU56]; exact Xi_ne (by omega)).trans ( (show Xi U55 904 93 = Xi U54 904 93 from by rw [eU55]; exact Xi_ne (by omega)).trans ( (show Xi U54 904 93 = Xi U53 904 93 from by rw [eU54]; exact Xi_ne (by omega)).trans ((show Xi U53 904 93 = Xi S 904 93 from by rw [eU53]; exact Xi_ne (by omega))))))))
          have w1276 : 0 ≤ Xi S 904 93 ∧ Xi S 904 93 ≤ 1700 := hH.c _ _
          exact ⟨hHU59, hFU59, rfl, (by first | assumption | exact (AT_FR (FR_e eU59) rfl (by assumption : AT T58 _ _))), (by omega), (by first | assumption | exact (RNV_FR (FR_e eU59) rfl (by assumption : RNV T58 _))), (by omega), (by omega), (by omega), (fun q => by unfold SNQ; refine ⟨fun q1 => absurd q1 (by omega), by omega, by omega, by omega, fun q9 => absurd q9 (by omega), by omega, by omega, by omega, by omega, by omega⟩)⟩
        · refine l_aload_n rfl rfl ?_
          refine l_bipush rfl rfl ?_
          refine l_pfi rfl rfl rfl rfl ?_
          obtain ⟨U60, eU60⟩ : ∃ T : sS, T = uI U57 904 78 (Int32.ofInt (-2)) := ⟨_, rfl⟩
          rw [← eU60]
          have hHU60 : HI U60 := by rw [eU60]; exact HI_w hHU57 (show -2 ≤ (-2) by omega) (show (-2) ≤ 5010 by omega)
          have hFU60 : FR md_mo_rest S U60 := by rw [eU60]; exact FR.wI hFU57 (mdf_i (r := (904, 905, 78, 79)) (List.mem_of_getElem? (i := 9) rfl) (inR_i (by omega) (by omega) (by omega) (by omega)))
          have w1277 : Xi U60 904 78 = (-2) := by rw [eU60]; exact Xi_same (by unfold rg; omega)
          refine l_aload_n rfl rfl ?_
          refine l_dup rfl rfl ?_
          refine l_gfi rfl rfl rfl rfl rfl ?_
          have w1278 : (Xi U60 904 8) = (Xi U57 904 8) := (show Xi U60 904 8 = Xi U57 904 8 from by rw [eU60]; exact Xi_ne (by omega))
          rw [w1278]
          refine l_iconst rfl ?_
          refine l_iadd rfl ?_
          refine l_pfi rfl rfl rfl rfl ?_
          obtain ⟨U61, eU61⟩ : ∃ T : sS, T = uI U60 904 8 (Int32.ofInt ((Xi U57 904 8) + 1)) := ⟨_, rfl⟩
          rw [← eU61]
          have hHU61 : HI U61 := by rw [eU61]; exact HI_w hHU60 (show 0 ≤ ((Xi U57 904 8) + 1) by omega) (show ((Xi U57 904 8) + 1) ≤ 5010 by omega)
          have hFU61 : FR md_mo_rest S U61 := by rw [eU61]; exact FR.wI hFU60 (mdf_i (r := (904, 905, 8, 9)) (List.mem_of_getElem? (i := 0) rfl) (inR_i (by omega) (by omega) (by omega) (by omega)))
          have w1279 : Xi U61 904 8 = ((Xi U57 904 8) + 1) := by rw [eU61]; exact Xi_same (by unfold rg; omega)
          have t94 : AT U61 n c ∧ _ := (at_mv (S := U57) (P := U60) (TK_FR hFU57 rfl (by assumption : TK S _)) (by first | assumption | exact (by assumption : AT U57 _ _)) (fun j => ((FR_e eU60).cx 907 rfl j).1) (fun j => ((FR_e eU60).cx 908 rfl j).1) ((show Xi U60 904 8 = Xi U57 904 8 from by rw [eU60]; exact Xi_ne (by omega))) ((show Xi U60 904 65 = Xi U57 904 65 from by rw [eU60]; exact Xi_ne (by omega))) ((show Xi U60 904 69 = Xi U57 904 69 from by rw [eU60]; exact Xi_ne (by omega))) ((show Xi U60 904 93 = Xi U57 904 93 from by rw [eU60]; exact Xi_ne (by omega))) eU61 (by omega) (by omega) (by omega) (by omega) (Or.inl rfl))
          have a94 : AT U61 n c := t94.1
          have l94 := t94.2
          refine l_goto rfl rfl ?_
          refine l_return rfl rfl ?_
          have w1280 : Xi U61 904 65 = Xi S 904 65 := (show Xi U61 904 65 = Xi U60 904 65 from by rw [eU61]; exact Xi_ne (by omega)).trans ( (show Xi U60 904 65 = Xi U57 904 65 from by rw [eU60]; exact Xi_ne (by omega)).trans ( (show Xi U57 904 65 = Xi U56 904 65 from by rw [eU57]; exact Xi_ne (by omega)).trans ( (show Xi U56 904 65 = Xi U55 904 65 from by rw [eU56]; exact Xi_ne (by omega)).trans ( (show Xi U55 904 65 = Xi U54 904 65 from by rw [eU55]; exact Xi_ne (by omega)).trans ( (show Xi U54 904 65 = Xi U53 904 65 from by rw [eU54]; exact Xi_ne (by omega)).trans ((show Xi U53 904 65 = Xi S 904 65 from by rw [eU53]; exact Xi_ne (by omega))))))))
          have w1281 : 0 ≤ Xi S 904 65 ∧ Xi S 904 65 ≤ 1 := hH.c _ _
          have w1282 : Xi U61 904 69 = Xi S 904 69 := (show Xi U61 904 69 = Xi U60 904 69 from by rw [eU61]; exact Xi_ne (by omega)).trans ( (show Xi U60 904 69 = Xi U57 904 69 from by rw [eU60]; exact Xi_ne (by omega)).trans ( (show Xi U57 904 69 = Xi U56 904 69 from by rw [eU57]; exact Xi_ne (by omega)).trans ( (show Xi U56 904 69 = Xi U55 904 69 from by rw [eU56]; exact Xi_ne (by omega)).trans ( (show Xi U55 904 69 = Xi U54 904 69 from by rw [eU55]; exact Xi_ne (by omega)).trans ( (show Xi U54 904 69 = Xi U53 904 69 from by rw [eU54]; exact Xi_ne (by omega)).trans ((show Xi U53 904 69 = Xi S 904 69 from by rw [eU53]; exact Xi_ne (by omega))))))))
          have w1283 : 0 ≤ Xi S 904 69 ∧ Xi S 904 69 ≤ 2600 := hH.c _ _
          have w1284 : Xi U61 904 70 = Xi U54 904 70 := (show Xi U61 904 70 = Xi U60 904 70 from by rw [eU61]; exact Xi_ne (by omega)).trans ( (show Xi U60 904 70 = Xi U57 904 70 from by rw [eU60]; exact Xi_ne (by omega)).trans ( (show Xi U57 904 70 = Xi U56 904 70 from by rw [eU57]; exact Xi_ne (by omega)).trans ( (show Xi U56 904 70 = Xi U55 904 70 from by rw [eU56]; exact Xi_ne (by omega)).trans ((show Xi U55 904 70 = Xi U54 904 70 from by rw [eU55]; exact Xi_ne (by omega))))))
          have w1285 : 0 ≤ Xi U54 904 70 ∧ Xi U54 904 70 ≤ 20 := hHU54.c _ _
          have w1286 : Xi U61 904 71 = Xi S 904 71 := (show Xi U61 904 71 = Xi U60 904 71 from by rw [eU61]; exact Xi_ne (by omega)).trans ( (show Xi U60 904 71 = Xi U57 904 71 from by rw [eU60]; exact Xi_ne (by omega)).trans ( (show Xi U57 904 71 = Xi U56 904 71 from by rw [eU57]; exact Xi_ne (by omega)).trans ( (show Xi U56 904 71 = Xi U55 904 71 from by rw [eU56]; exact Xi_ne (by omega)).trans ( (show Xi U55 904 71 = Xi U54 904 71 from by rw [eU55]; exact Xi_ne (by omega)).trans ( (show Xi U54 904 71 = Xi U53 904 71 from by rw [eU54]; exact Xi_ne (by omega)).trans ((show Xi U53 904 71 = Xi S 904 71 from by rw [eU53]; exact Xi_ne (by omega))))))))
          have w1287 : 0 ≤ Xi S 904 71 ∧ Xi S 904 71 ≤ 2600 := hH.c _ _
          have w1288 : Xi U61 904 72 = Xi S 904 72 := (show Xi U61 904 72 = Xi U60 904 72 from by rw [eU61]; exact Xi_ne (by omega)).trans ( (show Xi U60 904 72 = Xi U57 904 72 from by rw [eU60]; exact Xi_ne (by omega)).trans ( (show Xi U57 904 72 = Xi U56 904 72 from by rw [eU57]; exact Xi_ne (by omega)).trans ( (show Xi U56 904 72 = Xi U55 904 72 from by rw [eU56]; exact Xi_ne (by omega)).trans ( (show Xi U55 904 72 = Xi U54 904 72 from by rw [eU55]; exact Xi_ne (by omega)).trans ( (show Xi U54 904 72 = Xi U53 904 72 from by rw [eU54]; exact Xi_ne (by omega)).trans ((show Xi U53 904 72 = Xi S 904 72 from by rw [eU53]; exact Xi_ne (by omega))))))))
          have w1289 : 0 ≤ Xi S 904 72 ∧ Xi S 904 72 ≤ 2600 := hH.c _ _
          have w1290 : Xi U61 904 73 = Xi U53 904 73 := (show Xi U61 904 73 = Xi U60 904 73 from by rw [eU61]; exact Xi_ne (by omega)).trans ( (show Xi U60 904 73 = Xi U57 904 73 from by rw [eU60]; exact Xi_ne (by omega)).trans ( (show Xi U57 904 73 = Xi U56 904 73 from by rw [eU57]; exact Xi_ne (by omega)).trans ( (show Xi U56 904 73 = Xi U55 904 73 from by rw [eU56]; exact Xi_ne (by omega)).trans ( (show Xi U55 904 73 = Xi U54 904 73 from by rw [eU55]; exact Xi_ne (by omega)).trans ((show Xi U54 904 73 = Xi U53 904 73 from by rw [eU54]; exact Xi_ne (by omega)))))))
          have w1291 : 0 ≤ Xi U53 904 73 ∧ Xi U53 904 73 ≤ 5 := hHU53.c _ _
          have w1292 : Xi U61 904 74 = Xi S 904 74 := (show Xi U61 904 74 = Xi U60 904 74 from by rw [eU61]; exact Xi_ne (by omega)).trans ( (show Xi U60 904 74 = Xi U57 904 74 from by rw [eU60]; exact Xi_ne (by omega)).trans ( (show Xi U57 904 74 = Xi U56 904 74 from by rw [eU57]; exact Xi_ne (by omega)).trans ( (show Xi U56 904 74 = Xi U55 904 74 from by rw [eU56]; exact Xi_ne (by omega)).trans ( (show Xi U55 904 74 = Xi U54 904 74 from by rw [eU55]; exact Xi_ne (by omega)).trans ( (show Xi U54 904 74 = Xi U53 904 74 from by rw [eU54]; exact Xi_ne (by omega)).trans ((show Xi U53 904 74 = Xi S 904 74 from by rw [eU53]; exact Xi_ne (by omega))))))))
          have w1293 : 0 ≤ Xi S 904 74 ∧ Xi S 904 74 ≤ 2600 := hH.c _ _
          have w1294 : Xi U61 904 78 = Xi U60 904 78 := (show Xi U61 904 78 = Xi U60 904 78 from by rw [eU61]; exact Xi_ne (by omega))
          have w1295 : -2 ≤ Xi U60 904 78 ∧ Xi U60 904 78 ≤ 5010 := hHU60.c _ _
          have w1296 : 0 ≤ Xi U61 904 8 ∧ Xi U61 904 8 ≤ 5010 := hHU61.c _ _
          have w1297 : Xi U61 904 93 = Xi S 904 93 := (show Xi U61 904 93 = Xi U60 904 93 from by rw [eU61]; exact Xi_ne (by omega)).trans ( (show Xi U60 904 93 = Xi U57 904 93 from by rw [eU60]; exact Xi_ne (by omega)).trans ( (show Xi U57 904 93 = Xi U56 904 93 from by rw [eU57]; exact Xi_ne (by omega)).trans ( (show Xi U56 904 93 = Xi U55 904 93 from by rw [eU56]; exact Xi_ne (by omega)).trans ( (show Xi U55 904 93 = Xi U54 904 93 from by rw [eU55]; exact Xi_ne (by omega)).trans ( (show Xi U54 904 93 = Xi U53 904 93 from by rw [eU54]; exact Xi_ne (by omega)).trans ((show Xi U53 904 93 = Xi S 904 93 from by rw [eU53]; exact Xi_ne (by omega))))))))
          have w1298 : 0 ≤ Xi S 904 93 ∧ Xi S 904 93 ≤ 1700 := hH.c _ _
          exact ⟨hHU61, hFU61, rfl, (by first | assumption | exact (by assumption : AT U61 _ _)), (by omega), (by first | assumption | exact (RNV_FR (FR_e eU61) rfl (RNV_FR (FR_e eU60) rfl (RNV_FR (FR_e eU57) rfl (RNV_FR (FR_e eU56) rfl (RNV_FR (FR_e eU55) rfl (RNV_FR (FR_e eU54) rfl (RNV_FR (FR_e eU53) rfl (by assumption : RNV S _))))))))), (by omega), (by omega), (by omega), (fun q => by unfold SNQ; refine ⟨fun q1 => absurd q1 (by omega), by omega, by omega, by omega, fun q9 => absurd q9 (by omega), by omega, by omega, by omega, by omega, by omega⟩)⟩
