/-! SAFETY of methods: printed by wip/safe (vc.py, decl.py) -/
def md_mo_rest__2 : List rec := [(904, 905, 8, 9), (904, 905, 65, 66), (904, 905, 66, 67), (904, 905, 69, 70), (904, 905, 70, 71), (904, 905, 73, 74), (904, 905, 74, 75), (904, 905, 75, 76), (904, 905, 76, 77), (904, 905, 78, 79), (950, 951, 0, 100000), (951, 952, 0, 100000)]
abbrev Q_mo_rest__2 (S : sS) (n : Nat) (c : Nat) : pst := fun r S1 => HI S1 ∧ FR md_mo_rest__2 S S1 ∧ (r = none ∧ (AT S1 n c) ∧ (Xi S 904 8 ≤ Xi S1 904 8 ∧ Xi S1 904 8 ≤ n) ∧ (RNV S1 n) ∧ (Xi S1 904 65 = 0 → Xi S 904 65 = 0) ∧ (Xi S 904 69 ≤ Xi S1 904 69) ∧ (10 ≤ Xi S1 904 70 ∧ Xi S1 904 70 ≤ 16) ∧ (Xi S1 904 65 = 0 → SNQ S1 n) ∧ (Xi S1 904 65 = 0 → Xi S1 904 70 = 11 → -1 ≤ Xi S1 904 78) ∧ (BDA S1))
set_option maxRecDepth 100000 in
set_option maxHeartbeats 8000000 in
theorem c313_mo_rest__2 {S : sS} (hH : HI S) (n : Nat) (c : Nat) (hT : TK S n) (hA : AT S n c) (hv : RNV S n) (hb : Xi S 904 65 = 0) (hl : Xi S 904 71 + Xi S 904 72 ≤ Xi S 904 69 ∧ 1 ≤ Xi S 904 72) (hBDA : BDA S) (d : Nat) : ∀  (T1 : sS) (_ : HI T1) (_ : FR md_mo_rest__2 S T1), (AT T1 n c) → (RNV T1 n) → (Xi T1 904 8 = Xi S 904 8) → (Xi T1 904 65 = 0) → (Xi T1 904 69 = Xi S 904 69) → (Xi T1 904 71 = Xi S 904 71 ∧ Xi T1 904 72 = Xi S 904 72) → (Xi T1 904 73 = 0) → (Xi T1 904 70 = 15) → (Xi T1 907 (Xi T1 904 8).toNat ≠ 1) → (BDA T1) → Rl lay0 (d + 3) m_mo_rest 313 [(0, .ref 904)] [] T1 (Q_mo_rest__2 S n c) := by
  have hF : FR md_mo_rest__2 S S := FR.rf
  have w1 : 0 ≤ Xi S 904 65 ∧ Xi S 904 65 ≤ 1 := hH.c _ _
  have w2 : 0 ≤ Xi S 904 69 ∧ Xi S 904 69 ≤ 2600 := hH.c _ _
  have w3 : 0 ≤ Xi S 904 70 ∧ Xi S 904 70 ≤ 20 := hH.c _ _
  have w4 : 0 ≤ Xi S 904 71 ∧ Xi S 904 71 ≤ 2600 := hH.c _ _
  have w5 : 0 ≤ Xi S 904 72 ∧ Xi S 904 72 ≤ 2600 := hH.c _ _
  have w6 : 0 ≤ Xi S 904 73 ∧ Xi S 904 73 ≤ 5 := hH.c _ _
  have w7 : -2 ≤ Xi S 904 78 ∧ Xi S 904 78 ≤ 5010 := hH.c _ _
  have w8 : 0 ≤ Xi S 904 8 ∧ Xi S 904 8 ≤ 5010 := hH.c _ _
  have hn5 := hT.1
  have hat := hA
  have h8 : 0 ≤ Xi S 904 8 ∧ Xi S 904 8 ≤ 5010 := hH.c _ _
  have h69 : 0 ≤ Xi S 904 69 ∧ Xi S 904 69 ≤ 2600 := hH.c _ _
  have ha0 : Xi S 904 65 = 0 → Xi S 904 8 ≤ n := fun q => (hA q).1
  have ha3 : Xi S 904 65 = 0 → 2 * Xi S 904 69 ≤ Xi S 904 8 + 1 := fun q => (hA q).2.1
  clear hat
  have hx := ha0 hb
  intro T1 hHT1 hFT1 A313 V313 w9 w10 w11 w12 w13 w14 M313 BDA_313
  have w15 : Xi T1 904 71 = Xi S 904 71 := hFT1.x _ _ rfl
  have w16 : Xi T1 904 72 = Xi S 904 72 := hFT1.x _ _ rfl
  have w17 : 0 ≤ Xi T1 904 65 ∧ Xi T1 904 65 ≤ 1 := hHT1.c _ _
  have w18 : 0 ≤ Xi T1 904 69 ∧ Xi T1 904 69 ≤ 2600 := hHT1.c _ _
  have w19 : 0 ≤ Xi T1 904 70 ∧ Xi T1 904 70 ≤ 20 := hHT1.c _ _
  have w20 : 0 ≤ Xi T1 904 71 ∧ Xi T1 904 71 ≤ 2600 := hHT1.c _ _
  have w21 : 0 ≤ Xi T1 904 72 ∧ Xi T1 904 72 ≤ 2600 := hHT1.c _ _
  have w22 : 0 ≤ Xi T1 904 73 ∧ Xi T1 904 73 ≤ 5 := hHT1.c _ _
  have w23 : 0 ≤ Xi T1 904 8 ∧ Xi T1 904 8 ≤ 5010 := hHT1.c _ _
  refine l_aload_n rfl rfl ?_
  refine l_dup rfl rfl ?_
  refine l_gfi rfl rfl rfl rfl rfl ?_
  refine l_iconst rfl ?_
  refine l_iadd rfl ?_
  refine l_pfi rfl rfl rfl rfl ?_
  obtain ⟨U2, eU2⟩ : ∃ T : sS, T = uI T1 904 8 (Int32.ofInt ((Xi T1 904 8) + 1)) := ⟨_, rfl⟩
  rw [← eU2]
  have hHU2 : HI U2 := by rw [eU2]; exact HI_w hHT1 (show 0 ≤ ((Xi T1 904 8) + 1) by omega) (show ((Xi T1 904 8) + 1) ≤ 5010 by omega)
  have hFU2 : FR md_mo_rest__2 S U2 := by rw [eU2]; exact FR.wI hFT1 (mdf_i (r := (904, 905, 8, 9)) (List.mem_of_getElem? (i := 0) rfl) (inR_i (by omega) (by omega) (by omega) (by omega)))
  have w24 : Xi U2 904 8 = ((Xi T1 904 8) + 1) := by rw [eU2]; exact Xi_same (by unfold rg; omega)
  have t320 : AT U2 n c ∧ _ := (at_mv (S := T1) (P := T1) (TK_FR hFT1 rfl (by assumption : TK S _)) (by first | assumption | exact (by assumption : AT T1 _ _)) (fun j => rfl) (fun j => rfl) (rfl) (rfl) (rfl) (rfl) eU2 (by omega) (by omega) (by omega) (by omega) (Or.inl rfl))
  have a320 : AT U2 n c := t320.1
  have l320 := t320.2
  refine l_aload_n rfl rfl ?_
  refine l_aload_n rfl rfl ?_
  have w25 : Xi U2 904 65 = Xi T1 904 65 := (show Xi U2 904 65 = Xi T1 904 65 from by rw [eU2]; exact Xi_ne (by omega))
  have w27 : Xi U2 904 69 = Xi T1 904 69 := (show Xi U2 904 69 = Xi T1 904 69 from by rw [eU2]; exact Xi_ne (by omega))
  have w29 : Xi U2 904 70 = Xi T1 904 70 := (show Xi U2 904 70 = Xi T1 904 70 from by rw [eU2]; exact Xi_ne (by omega))
  have w31 : Xi U2 904 71 = Xi T1 904 71 := (show Xi U2 904 71 = Xi T1 904 71 from by rw [eU2]; exact Xi_ne (by omega))
  have w33 : Xi U2 904 72 = Xi T1 904 72 := (show Xi U2 904 72 = Xi T1 904 72 from by rw [eU2]; exact Xi_ne (by omega))
  have w35 : Xi U2 904 73 = Xi T1 904 73 := (show Xi U2 904 73 = Xi T1 904 73 from by rw [eU2]; exact Xi_ne (by omega))
  have w37 : Xi U2 904 74 = Xi T1 904 74 := (show Xi U2 904 74 = Xi T1 904 74 from by rw [eU2]; exact Xi_ne (by omega))
  have w38 : 0 ≤ Xi T1 904 74 ∧ Xi T1 904 74 ≤ 2600 := hHT1.c _ _
  have w39 : Xi U2 904 78 = Xi T1 904 78 := (show Xi U2 904 78 = Xi T1 904 78 from by rw [eU2]; exact Xi_ne (by omega))
  have w40 : -2 ≤ Xi T1 904 78 ∧ Xi T1 904 78 ≤ 5010 := hHT1.c _ _
  have w41 : 0 ≤ Xi U2 904 8 ∧ Xi U2 904 8 ≤ 5010 := hHU2.c _ _
  have w42 : Xi U2 904 93 = Xi T1 904 93 := (show Xi U2 904 93 = Xi T1 904 93 from by rw [eU2]; exact Xi_ne (by omega))
  have w43 : 0 ≤ Xi T1 904 93 ∧ Xi T1 904 93 ≤ 1700 := hHT1.c _ _
  refine l_callV rfl rfl rfl (t_mo_run__2 hHU2 n c (by first | assumption | exact (TK_FR hFU2 rfl (by assumption : TK S _))) (by first | assumption | exact (by assumption : AT U2 _ _)) (by first | assumption | exact (RNV_FR (FR_e eU2) rfl (by assumption : RNV T1 _))) (by first | assumption | exact (BDA_FR (FR_e eU2) rfl (by assumption : BDA T1))) _) ?_
  rintro _ T3 ⟨hHT3, w51, z50, rfl, w50, w44, w45, w46, w47, w48, w49⟩
  have hFT3 : FR md_mo_rest__2 S T3 := FR.tr hFU2 w51 rfl
  show Rl _ _ _ _ _ [iv z50, .ref 904] _ _
  have w53 : 0 ≤ Xi T3 904 8 ∧ Xi T3 904 8 ≤ 5010 := hHT3.c _ _
  have w54 : 0 ≤ Xi T3 904 65 ∧ Xi T3 904 65 ≤ 1 := hHT3.c _ _
  have w55 : 0 ≤ Xi T3 904 69 ∧ Xi T3 904 69 ≤ 2600 := hHT3.c _ _
  have w56 : Xi T3 904 93 = Xi T1 904 93 := (show Xi T3 904 93 = Xi U2 904 93 from w51.x _ _ rfl).trans ((show Xi U2 904 93 = Xi T1 904 93 from by rw [eU2]; exact Xi_ne (by omega)))
  have w52 : Xi S 904 8 ≤ Xi T3 904 8 ∧ Xi T3 904 8 ≤ n ∧ Xi S 904 69 ≤ Xi T3 904 69 ∧ (Xi T3 904 65 = 0 → Xi S 904 65 = 0) := by omega
  clear w45
  refine l_pfi rfl rfl rfl rfl ?_
  obtain ⟨U4, eU4⟩ : ∃ T : sS, T = uI T3 904 78 (Int32.ofInt z50) := ⟨_, rfl⟩
  rw [← eU4]
  have hHU4 : HI U4 := by rw [eU4]; exact HI_w hHT3 (show -2 ≤ z50 by omega) (show z50 ≤ 5010 by omega)
  have hFU4 : FR md_mo_rest__2 S U4 := by rw [eU4]; exact FR.wI hFT3 (mdf_i (r := (904, 905, 78, 79)) (List.mem_of_getElem? (i := 9) rfl) (inR_i (by omega) (by omega) (by omega) (by omega)))
  have w58 : Xi U4 904 78 = z50 := by rw [eU4]; exact Xi_same (by unfold rg; omega)
  refine l_goto rfl rfl ?_
  refine l_return rfl rfl ?_
  have w59 : Xi U4 904 65 = Xi T3 904 65 := (show Xi U4 904 65 = Xi T3 904 65 from by rw [eU4]; exact Xi_ne (by omega))
  have w61 : Xi U4 904 69 = Xi T3 904 69 := (show Xi U4 904 69 = Xi T3 904 69 from by rw [eU4]; exact Xi_ne (by omega))
  have w63 : Xi U4 904 70 = Xi T1 904 70 := (show Xi U4 904 70 = Xi T3 904 70 from by rw [eU4]; exact Xi_ne (by omega)).trans ( (show Xi T3 904 70 = Xi U2 904 70 from w51.x _ _ rfl).trans ((show Xi U2 904 70 = Xi T1 904 70 from by rw [eU2]; exact Xi_ne (by omega))))
  have w65 : Xi U4 904 71 = Xi T1 904 71 := (show Xi U4 904 71 = Xi T3 904 71 from by rw [eU4]; exact Xi_ne (by omega)).trans ( (show Xi T3 904 71 = Xi U2 904 71 from w51.x _ _ rfl).trans ((show Xi U2 904 71 = Xi T1 904 71 from by rw [eU2]; exact Xi_ne (by omega))))
  have w67 : Xi U4 904 72 = Xi T1 904 72 := (show Xi U4 904 72 = Xi T3 904 72 from by rw [eU4]; exact Xi_ne (by omega)).trans ( (show Xi T3 904 72 = Xi U2 904 72 from w51.x _ _ rfl).trans ((show Xi U2 904 72 = Xi T1 904 72 from by rw [eU2]; exact Xi_ne (by omega))))
  have w69 : Xi U4 904 73 = Xi T1 904 73 := (show Xi U4 904 73 = Xi T3 904 73 from by rw [eU4]; exact Xi_ne (by omega)).trans ( (show Xi T3 904 73 = Xi U2 904 73 from w51.x _ _ rfl).trans ((show Xi U2 904 73 = Xi T1 904 73 from by rw [eU2]; exact Xi_ne (by omega))))
  have w71 : Xi U4 904 74 = Xi T1 904 74 := (show Xi U4 904 74 = Xi T3 904 74 from by rw [eU4]; exact Xi_ne (by omega)).trans ( (show Xi T3 904 74 = Xi U2 904 74 from w51.x _ _ rfl).trans ((show Xi U2 904 74 = Xi T1 904 74 from by rw [eU2]; exact Xi_ne (by omega))))
  have w73 : -2 ≤ Xi U4 904 78 ∧ Xi U4 904 78 ≤ 5010 := hHU4.c _ _
  have w74 : Xi U4 904 8 = Xi T3 904 8 := (show Xi U4 904 8 = Xi T3 904 8 from by rw [eU4]; exact Xi_ne (by omega))
  have w76 : Xi U4 904 93 = Xi T1 904 93 := (show Xi U4 904 93 = Xi T3 904 93 from by rw [eU4]; exact Xi_ne (by omega)).trans ( (show Xi T3 904 93 = Xi U2 904 93 from w51.x _ _ rfl).trans ((show Xi U2 904 93 = Xi T1 904 93 from by rw [eU2]; exact Xi_ne (by omega))))
  exact ⟨hHU4, hFU4, rfl, (by first | assumption | exact (AT_FR (FR_e eU4) rfl (by assumption : AT T3 _ _))), (by omega), (by first | assumption | exact (RNV_FR (FR_e eU4) rfl (by assumption : RNV T3 _))), (by omega), (by omega), (by omega), (fun q => by unfold SNQ; refine ⟨fun q1 => absurd q1 (by omega), by omega, by omega, by omega, fun q9 => absurd q9 (by omega), by omega, by omega, by omega, by omega, by omega⟩), (by omega), (by first | assumption | exact (BDA_FR (FR_e eU4) rfl (by assumption : BDA T3)))⟩
set_option maxRecDepth 100000 in
set_option maxHeartbeats 8000000 in
theorem c413_mo_rest__2 {S : sS} (hH : HI S) (n : Nat) (c : Nat) (hT : TK S n) (hA : AT S n c) (hv : RNV S n) (hb : Xi S 904 65 = 0) (hl : Xi S 904 71 + Xi S 904 72 ≤ Xi S 904 69 ∧ 1 ≤ Xi S 904 72) (hBDA : BDA S) (d : Nat) : ∀ (n413 : Nat) (T5 : sS) (_ : HI T5) (_ : FR md_mo_rest__2 S T5), (AT T5 n c) → (RNV T5 n) → (Xi S 904 8 ≤ Xi T5 904 8 ∧ Xi T5 904 8 ≤ n) → (Xi S 904 69 ≤ Xi T5 904 69) → (Xi T5 904 70 = 16) → (Xi T5 904 65 = 0 → 0 ≤ Xi T5 904 78 ∧ Xi T5 904 78 < Xi T5 904 69) → (Xi T5 904 71 = Xi S 904 71 ∧ Xi T5 904 72 = Xi S 904 72) → (BDA T5) → n413 = (5002 - Xi T5 904 8).toNat → Rl lay0 (d + 3) m_mo_rest 413 [(0, .ref 904)] [] T5 (Q_mo_rest__2 S n c) := by
  have hF : FR md_mo_rest__2 S S := FR.rf
  have w1 : 0 ≤ Xi S 904 65 ∧ Xi S 904 65 ≤ 1 := hH.c _ _
  have w2 : 0 ≤ Xi S 904 69 ∧ Xi S 904 69 ≤ 2600 := hH.c _ _
  have w3 : 0 ≤ Xi S 904 70 ∧ Xi S 904 70 ≤ 20 := hH.c _ _
  have w4 : 0 ≤ Xi S 904 71 ∧ Xi S 904 71 ≤ 2600 := hH.c _ _
  have w5 : 0 ≤ Xi S 904 72 ∧ Xi S 904 72 ≤ 2600 := hH.c _ _
  have w6 : 0 ≤ Xi S 904 73 ∧ Xi S 904 73 ≤ 5 := hH.c _ _
  have w7 : -2 ≤ Xi S 904 78 ∧ Xi S 904 78 ≤ 5010 := hH.c _ _
  have w8 : 0 ≤ Xi S 904 8 ∧ Xi S 904 8 ≤ 5010 := hH.c _ _
  have hn5 := hT.1
  have hat := hA
  have h8 : 0 ≤ Xi S 904 8 ∧ Xi S 904 8 ≤ 5010 := hH.c _ _
  have h69 : 0 ≤ Xi S 904 69 ∧ Xi S 904 69 ≤ 2600 := hH.c _ _
  have ha0 : Xi S 904 65 = 0 → Xi S 904 8 ≤ n := fun q => (hA q).1
  have ha3 : Xi S 904 65 = 0 → 2 * Xi S 904 69 ≤ Xi S 904 8 + 1 := fun q => (hA q).2.1
  clear hat
  have hx := ha0 hb
  intro n413
  induction n413 using Nat.strongRecOn with
  | ind n413 ih413 =>
    intro T5 hHT5 hFT5 A413 V413 w78 w79 w80 w81 w82 BDA_413 hm413
    have w83 : Xi T5 904 71 = Xi S 904 71 := hFT5.x _ _ rfl
    have w84 : Xi T5 904 72 = Xi S 904 72 := hFT5.x _ _ rfl
    have w85 : 0 ≤ Xi T5 904 65 ∧ Xi T5 904 65 ≤ 1 := hHT5.c _ _
    have w86 : 0 ≤ Xi T5 904 69 ∧ Xi T5 904 69 ≤ 2600 := hHT5.c _ _
    have w87 : 0 ≤ Xi T5 904 70 ∧ Xi T5 904 70 ≤ 20 := hHT5.c _ _
    have w88 : 0 ≤ Xi T5 904 71 ∧ Xi T5 904 71 ≤ 2600 := hHT5.c _ _
    have w89 : 0 ≤ Xi T5 904 72 ∧ Xi T5 904 72 ≤ 2600 := hHT5.c _ _
    have w90 : -2 ≤ Xi T5 904 78 ∧ Xi T5 904 78 ≤ 5010 := hHT5.c _ _
    have w91 : 0 ≤ Xi T5 904 8 ∧ Xi T5 904 8 ≤ 5010 := hHT5.c _ _
    refine l_aload_n rfl rfl ?_
    refine l_gfi rfl rfl rfl rfl rfl ?_
    refine l_if_ne rfl rfl (by unfold rg; omega) (fun w92 => ?_) (fun w93 => ?_)
    · refine l_return rfl rfl ?_
      have w99 : 0 ≤ Xi T5 904 73 ∧ Xi T5 904 73 ≤ 5 := hHT5.c _ _
      have w100 : 0 ≤ Xi T5 904 74 ∧ Xi T5 904 74 ≤ 2600 := hHT5.c _ _
      have w103 : 0 ≤ Xi T5 904 93 ∧ Xi T5 904 93 ≤ 1700 := hHT5.c _ _
      exact ⟨hHT5, hFT5, rfl, (by first | assumption | exact (by assumption : AT T5 _ _)), (by omega), (by first | assumption | exact (by assumption : RNV T5 _)), (by omega), (by omega), (by omega), (fun q => by unfold SNQ; refine ⟨fun q1 => absurd q1 (by omega), by omega, by omega, by omega, fun q9 => absurd q9 (by omega), by omega, by omega, by omega, by omega, by omega⟩), (by omega), (by first | assumption | exact (by assumption : BDA T5))⟩
    · refine l_aload_n rfl rfl ?_
      have w109 : 0 ≤ Xi T5 904 73 ∧ Xi T5 904 73 ≤ 5 := hHT5.c _ _
      have w110 : 0 ≤ Xi T5 904 74 ∧ Xi T5 904 74 ≤ 2600 := hHT5.c _ _
      have w113 : 0 ≤ Xi T5 904 93 ∧ Xi T5 904 93 ≤ 1700 := hHT5.c _ _
      refine l_callV rfl rfl rfl (t_mo_isMore hHT5 n c (by first | assumption | exact (TK_FR hFT5 rfl (by assumption : TK S _))) (by first | assumption | exact (by assumption : AT T5 _ _)) _) ?_
      rintro _ T6 ⟨hHT6, w119, z118, rfl, w118, w114, w115, w116, w117⟩
      have hFT6 : FR md_mo_rest__2 S T6 := FR.tr hFT5 w119 rfl
      show Rl _ _ _ _ _ [iv z118] _ _
      have w121 : 0 ≤ Xi T6 904 8 ∧ Xi T6 904 8 ≤ 5010 := hHT6.c _ _
      have w122 : Xi T6 904 65 = Xi T5 904 65 := (show Xi T6 904 65 = Xi T5 904 65 from w119.x _ _ rfl)
      have w124 : Xi T6 904 69 = Xi T5 904 69 := (show Xi T6 904 69 = Xi T5 904 69 from w119.x _ _ rfl)
      have w126 : Xi T6 904 93 = Xi T5 904 93 := (show Xi T6 904 93 = Xi T5 904 93 from w119.x _ _ rfl)
      have w120 : Xi S 904 8 ≤ Xi T6 904 8 ∧ Xi T6 904 8 ≤ n ∧ Xi S 904 69 ≤ Xi T6 904 69 ∧ (Xi T6 904 65 = 0 → Xi S 904 65 = 0) := by omega
      clear w115
      refine l_if_eq rfl rfl (by unfold rg; omega) (fun w128 => ?_) (fun w129 => ?_)
      · refine l_return rfl rfl ?_
        have w134 : Xi T6 904 70 = Xi T5 904 70 := (show Xi T6 904 70 = Xi T5 904 70 from w119.x _ _ rfl)
        have w136 : Xi T6 904 71 = Xi T5 904 71 := (show Xi T6 904 71 = Xi T5 904 71 from w119.x _ _ rfl)
        have w138 : Xi T6 904 72 = Xi T5 904 72 := (show Xi T6 904 72 = Xi T5 904 72 from w119.x _ _ rfl)
        have w140 : Xi T6 904 73 = Xi T5 904 73 := (show Xi T6 904 73 = Xi T5 904 73 from w119.x _ _ rfl)
        have w142 : Xi T6 904 74 = Xi T5 904 74 := (show Xi T6 904 74 = Xi T5 904 74 from w119.x _ _ rfl)
        have w144 : Xi T6 904 78 = Xi T5 904 78 := (show Xi T6 904 78 = Xi T5 904 78 from w119.x _ _ rfl)
        exact ⟨hHT6, hFT6, rfl, (by first | assumption | exact (by assumption : AT T6 _ _)), (by omega), (by first | assumption | exact (RNV_FR w119 rfl (by assumption : RNV T5 _))), (by omega), (by omega), (by omega), (fun q => by unfold SNQ; refine ⟨fun q1 => absurd q1 (by omega), by omega, by omega, by omega, fun q9 => absurd q9 (by omega), by omega, by omega, by omega, by omega, by omega⟩), (by omega), (by first | assumption | exact (BDA_FR w119 rfl (by assumption : BDA T5)))⟩
      · refine l_aload_n rfl rfl ?_
        have w153 : Xi T6 904 70 = Xi T5 904 70 := (show Xi T6 904 70 = Xi T5 904 70 from w119.x _ _ rfl)
        have w155 : Xi T6 904 71 = Xi T5 904 71 := (show Xi T6 904 71 = Xi T5 904 71 from w119.x _ _ rfl)
        have w157 : Xi T6 904 72 = Xi T5 904 72 := (show Xi T6 904 72 = Xi T5 904 72 from w119.x _ _ rfl)
        have w159 : Xi T6 904 73 = Xi T5 904 73 := (show Xi T6 904 73 = Xi T5 904 73 from w119.x _ _ rfl)
        have w161 : Xi T6 904 74 = Xi T5 904 74 := (show Xi T6 904 74 = Xi T5 904 74 from w119.x _ _ rfl)
        have w163 : Xi T6 904 78 = Xi T5 904 78 := (show Xi T6 904 78 = Xi T5 904 78 from w119.x _ _ rfl)
        refine l_callV rfl rfl rfl (t_mo_run__2 hHT6 n c (by first | assumption | exact (TK_FR hFT6 rfl (by assumption : TK S _))) (by first | assumption | exact (by assumption : AT T6 _ _)) (by first | assumption | exact (RNV_FR w119 rfl (by assumption : RNV T5 _))) (by first | assumption | exact (BDA_FR w119 rfl (by assumption : BDA T5))) _) ?_
        rintro _ T7 ⟨hHT7, w175, z174, rfl, w174, w168, w169, w170, w171, w172, w173⟩
        have hFT7 : FR md_mo_rest__2 S T7 := FR.tr hFT6 w175 rfl
        show Rl _ _ _ _ _ [iv z174] _ _
        have w177 : 0 ≤ Xi T7 904 8 ∧ Xi T7 904 8 ≤ 5010 := hHT7.c _ _
        have w178 : 0 ≤ Xi T7 904 65 ∧ Xi T7 904 65 ≤ 1 := hHT7.c _ _
        have w179 : 0 ≤ Xi T7 904 69 ∧ Xi T7 904 69 ≤ 2600 := hHT7.c _ _
        have w180 : Xi T7 904 93 = Xi T5 904 93 := (show Xi T7 904 93 = Xi T6 904 93 from w175.x _ _ rfl).trans ((show Xi T6 904 93 = Xi T5 904 93 from w119.x _ _ rfl))
        have n428 : Xi T6 904 8 ≤ Xi T7 904 8 := by omega
        have w176 : Xi S 904 8 ≤ Xi T7 904 8 ∧ Xi T7 904 8 ≤ n ∧ Xi S 904 69 ≤ Xi T7 904 69 ∧ (Xi T7 904 65 = 0 → Xi S 904 65 = 0) := by omega
        clear w169 w120
        refine l_pop rfl rfl ?_
        refine l_goto rfl rfl ?_
        have w184 : Xi T7 904 70 = Xi T5 904 70 := (show Xi T7 904 70 = Xi T6 904 70 from w175.x _ _ rfl).trans ((show Xi T6 904 70 = Xi T5 904 70 from w119.x _ _ rfl))
        have w186 : Xi T7 904 71 = Xi T5 904 71 := (show Xi T7 904 71 = Xi T6 904 71 from w175.x _ _ rfl).trans ((show Xi T6 904 71 = Xi T5 904 71 from w119.x _ _ rfl))
        have w188 : Xi T7 904 72 = Xi T5 904 72 := (show Xi T7 904 72 = Xi T6 904 72 from w175.x _ _ rfl).trans ((show Xi T6 904 72 = Xi T5 904 72 from w119.x _ _ rfl))
        have w190 : Xi T7 904 73 = Xi T5 904 73 := (show Xi T7 904 73 = Xi T6 904 73 from w175.x _ _ rfl).trans ((show Xi T6 904 73 = Xi T5 904 73 from w119.x _ _ rfl))
        have w192 : Xi T7 904 74 = Xi T5 904 74 := (show Xi T7 904 74 = Xi T6 904 74 from w175.x _ _ rfl).trans ((show Xi T6 904 74 = Xi T5 904 74 from w119.x _ _ rfl))
        have w194 : Xi T7 904 78 = Xi T5 904 78 := (show Xi T7 904 78 = Xi T6 904 78 from w175.x _ _ rfl).trans ((show Xi T6 904 78 = Xi T5 904 78 from w119.x _ _ rfl))
        exact Rl_weak (ih413 _ (by omega) T7 hHT7 hFT7  (by first | assumption | exact (by assumption : AT T7 _ _)) (by first | assumption | exact (by assumption : RNV T7 _)) (by omega) (by omega) (by omega) (by omega) (by omega) (by first | assumption | exact (by assumption : BDA T7)) rfl) (And.intro rfl (True.intro))
set_option maxRecDepth 100000 in
set_option maxHeartbeats 8000000 in
theorem c197_mo_rest__2 {S : sS} (hH : HI S) (n : Nat) (c : Nat) (hT : TK S n) (hA : AT S n c) (hv : RNV S n) (hb : Xi S 904 65 = 0) (hl : Xi S 904 71 + Xi S 904 72 ≤ Xi S 904 69 ∧ 1 ≤ Xi S 904 72) (hBDA : BDA S) (d : Nat) : ∀  (T8 : sS) (_ : HI T8) (_ : FR md_mo_rest__2 S T8) (v1 : Int), (0 ≤ v1 ∧ v1 ≤ 154) → (AT T8 n c) → (RNV T8 n) → (v1 ≠ 1 → Xi T8 904 65 = 0 ∧ Xi T8 907 (Xi T8 904 8).toNat = v1) → (Xi T8 904 8 = Xi S 904 8) → (Xi T8 904 65 = 0) → (Xi T8 904 69 = Xi S 904 69) → (Xi T8 904 71 = Xi S 904 71 ∧ Xi T8 904 72 = Xi S 904 72) → (Xi T8 904 73 = 0) → (BDA T8) → Rl lay0 (d + 3) m_mo_rest 197 [(0, .ref 904), (1, iv v1)] [] T8 (Q_mo_rest__2 S n c) := by
  have C313 := c313_mo_rest__2 hH n c hT hA hv hb hl hBDA d 
  have C413 := c413_mo_rest__2 hH n c hT hA hv hb hl hBDA d 
  have hF : FR md_mo_rest__2 S S := FR.rf
  have w1 : 0 ≤ Xi S 904 65 ∧ Xi S 904 65 ≤ 1 := hH.c _ _
  have w2 : 0 ≤ Xi S 904 69 ∧ Xi S 904 69 ≤ 2600 := hH.c _ _
  have w3 : 0 ≤ Xi S 904 70 ∧ Xi S 904 70 ≤ 20 := hH.c _ _
  have w4 : 0 ≤ Xi S 904 71 ∧ Xi S 904 71 ≤ 2600 := hH.c _ _
  have w5 : 0 ≤ Xi S 904 72 ∧ Xi S 904 72 ≤ 2600 := hH.c _ _
  have w6 : 0 ≤ Xi S 904 73 ∧ Xi S 904 73 ≤ 5 := hH.c _ _
  have w7 : -2 ≤ Xi S 904 78 ∧ Xi S 904 78 ≤ 5010 := hH.c _ _
  have w8 : 0 ≤ Xi S 904 8 ∧ Xi S 904 8 ≤ 5010 := hH.c _ _
  have hn5 := hT.1
  have hat := hA
  have h8 : 0 ≤ Xi S 904 8 ∧ Xi S 904 8 ≤ 5010 := hH.c _ _
  have h69 : 0 ≤ Xi S 904 69 ∧ Xi S 904 69 ≤ 2600 := hH.c _ _
  have ha0 : Xi S 904 65 = 0 → Xi S 904 8 ≤ n := fun q => (hA q).1
  have ha3 : Xi S 904 65 = 0 → 2 * Xi S 904 69 ≤ Xi S 904 8 + 1 := fun q => (hA q).2.1
  clear hat
  have hx := ha0 hb
  intro T8 hHT8 hFT8 v1 w199 A197 V197 w200 w201 w202 w203 w204 w205 BDA_197
  have w206 : Xi T8 904 71 = Xi S 904 71 := hFT8.x _ _ rfl
  have w207 : Xi T8 904 72 = Xi S 904 72 := hFT8.x _ _ rfl
  have w208 : 0 ≤ Xi T8 904 65 ∧ Xi T8 904 65 ≤ 1 := hHT8.c _ _
  have w209 : 0 ≤ Xi T8 904 69 ∧ Xi T8 904 69 ≤ 2600 := hHT8.c _ _
  have w210 : 0 ≤ Xi T8 904 71 ∧ Xi T8 904 71 ≤ 2600 := hHT8.c _ _
  have w211 : 0 ≤ Xi T8 904 72 ∧ Xi T8 904 72 ≤ 2600 := hHT8.c _ _
  have w212 : 0 ≤ Xi T8 904 73 ∧ Xi T8 904 73 ≤ 5 := hHT8.c _ _
  have w213 : 0 ≤ Xi T8 904 8 ∧ Xi T8 904 8 ≤ 5010 := hHT8.c _ _
  refine l_iload_n rfl rfl ?_
  have w216 : 0 ≤ Xi T8 904 70 ∧ Xi T8 904 70 ≤ 20 := hHT8.c _ _
  have w220 : 0 ≤ Xi T8 904 74 ∧ Xi T8 904 74 ≤ 2600 := hHT8.c _ _
  have w221 : -2 ≤ Xi T8 904 78 ∧ Xi T8 904 78 ≤ 5010 := hHT8.c _ _
  have w223 : 0 ≤ Xi T8 904 93 ∧ Xi T8 904 93 ≤ 1700 := hHT8.c _ _
  refine l_callS rfl rfl (by decide) rfl (t_mo_isArt hHT8 v1 ⟨by omega, by omega⟩ _) ?_
  rintro _ _ ⟨rfl, z225, rfl, w225, w224⟩
  show Rl _ _ _ _ _ [iv z225] _ _
  refine l_if_eq rfl rfl (by unfold rg; omega) (fun w226 => ?_) (fun w227 => ?_)
  · refine l_iload_n rfl rfl ?_
    refine l_bipush rfl rfl ?_
    refine l_icmp_eq rfl rfl (by unfold rg; omega) (by unfold rg; omega) (fun w228 => ?_) (fun w229 => ?_)
    · refine l_aload_n rfl rfl ?_
      refine l_bipush rfl rfl ?_
      refine l_pfi rfl rfl rfl rfl ?_
      obtain ⟨U9, eU9⟩ : ∃ T : sS, T = uI T8 904 70 (Int32.ofInt 15) := ⟨_, rfl⟩
      rw [← eU9]
      have hHU9 : HI U9 := by rw [eU9]; exact HI_w hHT8 (show 0 ≤ 15 by omega) (show 15 ≤ 20 by omega)
      have hFU9 : FR md_mo_rest__2 S U9 := by rw [eU9]; exact FR.wI hFT8 (mdf_i (r := (904, 905, 70, 71)) (List.mem_of_getElem? (i := 4) rfl) (inR_i (by omega) (by omega) (by omega) (by omega)))
      have w230 : Xi U9 904 70 = 15 := by rw [eU9]; exact Xi_same (by unfold rg; omega)
      refine l_aload_n rfl rfl ?_
      refine l_iload_n rfl rfl ?_
      refine l_bipush rfl rfl ?_
      refine l_icmp_ne rfl rfl (by unfold rg; omega) (by unfold rg; omega) (fun w231 => ?_) (fun w232 => ?_)
      · refine l_iconst rfl ?_
        refine l_pfz rfl rfl rfl rfl (by omega) ?_
        obtain ⟨U10, eU10⟩ : ∃ T : sS, T = uI U9 904 75 (Int32.ofInt 0) := ⟨_, rfl⟩
        rw [← eU10]
        have hHU10 : HI U10 := by rw [eU10]; exact HI_w hHU9 (show 0 ≤ 0 by omega) (show 0 ≤ 1 by omega)
        have hFU10 : FR md_mo_rest__2 S U10 := by rw [eU10]; exact FR.wI hFU9 (mdf_i (r := (904, 905, 75, 76)) (List.mem_of_getElem? (i := 7) rfl) (inR_i (by omega) (by omega) (by omega) (by omega)))
        have w233 : Xi U10 904 75 = 0 := by rw [eU10]; exact Xi_same (by unfold rg; omega)
        refine l_aload_n rfl rfl ?_
        refine l_iload_n rfl rfl ?_
        refine l_sipush rfl rfl ?_
        refine l_icmp_ne rfl rfl (by unfold rg; omega) (by unfold rg; omega) (fun w234 => ?_) (fun w235 => ?_)
        · refine l_iconst rfl ?_
          refine l_pfz rfl rfl rfl rfl (by omega) ?_
          obtain ⟨U11, eU11⟩ : ∃ T : sS, T = uI U10 904 76 (Int32.ofInt 0) := ⟨_, rfl⟩
          rw [← eU11]
          have hHU11 : HI U11 := by rw [eU11]; exact HI_w hHU10 (show 0 ≤ 0 by omega) (show 0 ≤ 1 by omega)
          have hFU11 : FR md_mo_rest__2 S U11 := by rw [eU11]; exact FR.wI hFU10 (mdf_i (r := (904, 905, 76, 77)) (List.mem_of_getElem? (i := 8) rfl) (inR_i (by omega) (by omega) (by omega) (by omega)))
          have w236 : Xi U11 904 76 = 0 := by rw [eU11]; exact Xi_same (by unfold rg; omega)
          have w237 : Xi U11 904 65 = Xi T8 904 65 := (show Xi U11 904 65 = Xi U10 904 65 from by rw [eU11]; exact Xi_ne (by omega)).trans ( (show Xi U10 904 65 = Xi U9 904 65 from by rw [eU10]; exact Xi_ne (by omega)).trans ((show Xi U9 904 65 = Xi T8 904 65 from by rw [eU9]; exact Xi_ne (by omega))))
          have w239 : Xi U11 904 69 = Xi T8 904 69 := (show Xi U11 904 69 = Xi U10 904 69 from by rw [eU11]; exact Xi_ne (by omega)).trans ( (show Xi U10 904 69 = Xi U9 904 69 from by rw [eU10]; exact Xi_ne (by omega)).trans ((show Xi U9 904 69 = Xi T8 904 69 from by rw [eU9]; exact Xi_ne (by omega))))
          have w241 : Xi U11 904 70 = Xi U9 904 70 := (show Xi U11 904 70 = Xi U10 904 70 from by rw [eU11]; exact Xi_ne (by omega)).trans ((show Xi U10 904 70 = Xi U9 904 70 from by rw [eU10]; exact Xi_ne (by omega)))
          have w242 : 0 ≤ Xi U9 904 70 ∧ Xi U9 904 70 ≤ 20 := hHU9.c _ _
          have w243 : Xi U11 904 71 = Xi T8 904 71 := (show Xi U11 904 71 = Xi U10 904 71 from by rw [eU11]; exact Xi_ne (by omega)).trans ( (show Xi U10 904 71 = Xi U9 904 71 from by rw [eU10]; exact Xi_ne (by omega)).trans ((show Xi U9 904 71 = Xi T8 904 71 from by rw [eU9]; exact Xi_ne (by omega))))
          have w245 : Xi U11 904 72 = Xi T8 904 72 := (show Xi U11 904 72 = Xi U10 904 72 from by rw [eU11]; exact Xi_ne (by omega)).trans ( (show Xi U10 904 72 = Xi U9 904 72 from by rw [eU10]; exact Xi_ne (by omega)).trans ((show Xi U9 904 72 = Xi T8 904 72 from by rw [eU9]; exact Xi_ne (by omega))))
          have w247 : Xi U11 904 73 = Xi T8 904 73 := (show Xi U11 904 73 = Xi U10 904 73 from by rw [eU11]; exact Xi_ne (by omega)).trans ( (show Xi U10 904 73 = Xi U9 904 73 from by rw [eU10]; exact Xi_ne (by omega)).trans ((show Xi U9 904 73 = Xi T8 904 73 from by rw [eU9]; exact Xi_ne (by omega))))
          have w249 : Xi U11 904 74 = Xi T8 904 74 := (show Xi U11 904 74 = Xi U10 904 74 from by rw [eU11]; exact Xi_ne (by omega)).trans ( (show Xi U10 904 74 = Xi U9 904 74 from by rw [eU10]; exact Xi_ne (by omega)).trans ((show Xi U9 904 74 = Xi T8 904 74 from by rw [eU9]; exact Xi_ne (by omega))))
          have w251 : Xi U11 904 78 = Xi T8 904 78 := (show Xi U11 904 78 = Xi U10 904 78 from by rw [eU11]; exact Xi_ne (by omega)).trans ( (show Xi U10 904 78 = Xi U9 904 78 from by rw [eU10]; exact Xi_ne (by omega)).trans ((show Xi U9 904 78 = Xi T8 904 78 from by rw [eU9]; exact Xi_ne (by omega))))
          have w253 : Xi U11 904 8 = Xi T8 904 8 := (show Xi U11 904 8 = Xi U10 904 8 from by rw [eU11]; exact Xi_ne (by omega)).trans ( (show Xi U10 904 8 = Xi U9 904 8 from by rw [eU10]; exact Xi_ne (by omega)).trans ((show Xi U9 904 8 = Xi T8 904 8 from by rw [eU9]; exact Xi_ne (by omega))))
          have w255 : Xi U11 904 93 = Xi T8 904 93 := (show Xi U11 904 93 = Xi U10 904 93 from by rw [eU11]; exact Xi_ne (by omega)).trans ( (show Xi U10 904 93 = Xi U9 904 93 from by rw [eU10]; exact Xi_ne (by omega)).trans ((show Xi U9 904 93 = Xi T8 904 93 from by rw [eU9]; exact Xi_ne (by omega))))
          exact Rl_weak (C313 U11 hHU11 hFU11  (by first | assumption | exact (AT_FR (FR_e eU11) rfl (AT_FR (FR_e eU10) rfl (AT_FR (FR_e eU9) rfl (by assumption : AT T8 _ _))))) (by first | assumption | exact (RNV_FR (FR_e eU11) rfl (RNV_FR (FR_e eU10) rfl (RNV_FR (FR_e eU9) rfl (by assumption : RNV T8 _))))) (by omega) (by omega) (by omega) (by omega) (by omega) (by omega) (by rw [(fun j => ((FR_e eU11).cx 907 rfl j).1.trans (((FR_e eU10).cx 907 rfl j).1.trans (((FR_e eU9).cx 907 rfl j).1))) (Xi U11 904 8).toNat, show Xi U11 904 8 = Xi T8 904 8 by omega]; omega) (by first | assumption | exact (BDA_FR (FR_e eU11) rfl (BDA_FR (FR_e eU10) rfl (BDA_FR (FR_e eU9) rfl (by assumption : BDA T8)))))) (And.intro rfl (True.intro))
        · refine l_iconst rfl ?_
          refine l_goto rfl rfl ?_
          refine l_pfz rfl rfl rfl rfl (by omega) ?_
          obtain ⟨U12, eU12⟩ : ∃ T : sS, T = uI U10 904 76 (Int32.ofInt 1) := ⟨_, rfl⟩
          rw [← eU12]
          have hHU12 : HI U12 := by rw [eU12]; exact HI_w hHU10 (show 0 ≤ 1 by omega) (show 1 ≤ 1 by omega)
          have hFU12 : FR md_mo_rest__2 S U12 := by rw [eU12]; exact FR.wI hFU10 (mdf_i (r := (904, 905, 76, 77)) (List.mem_of_getElem? (i := 8) rfl) (inR_i (by omega) (by omega) (by omega) (by omega)))
          have w257 : Xi U12 904 76 = 1 := by rw [eU12]; exact Xi_same (by unfold rg; omega)
          have w258 : Xi U12 904 65 = Xi T8 904 65 := (show Xi U12 904 65 = Xi U10 904 65 from by rw [eU12]; exact Xi_ne (by omega)).trans ( (show Xi U10 904 65 = Xi U9 904 65 from by rw [eU10]; exact Xi_ne (by omega)).trans ((show Xi U9 904 65 = Xi T8 904 65 from by rw [eU9]; exact Xi_ne (by omega))))
          have w260 : Xi U12 904 69 = Xi T8 904 69 := (show Xi U12 904 69 = Xi U10 904 69 from by rw [eU12]; exact Xi_ne (by omega)).trans ( (show Xi U10 904 69 = Xi U9 904 69 from by rw [eU10]; exact Xi_ne (by omega)).trans ((show Xi U9 904 69 = Xi T8 904 69 from by rw [eU9]; exact Xi_ne (by omega))))
          have w262 : Xi U12 904 70 = Xi U9 904 70 := (show Xi U12 904 70 = Xi U10 904 70 from by rw [eU12]; exact Xi_ne (by omega)).trans ((show Xi U10 904 70 = Xi U9 904 70 from by rw [eU10]; exact Xi_ne (by omega)))
          have w263 : 0 ≤ Xi U9 904 70 ∧ Xi U9 904 70 ≤ 20 := hHU9.c _ _
          have w264 : Xi U12 904 71 = Xi T8 904 71 := (show Xi U12 904 71 = Xi U10 904 71 from by rw [eU12]; exact Xi_ne (by omega)).trans ( (show Xi U10 904 71 = Xi U9 904 71 from by rw [eU10]; exact Xi_ne (by omega)).trans ((show Xi U9 904 71 = Xi T8 904 71 from by rw [eU9]; exact Xi_ne (by omega))))
          have w266 : Xi U12 904 72 = Xi T8 904 72 := (show Xi U12 904 72 = Xi U10 904 72 from by rw [eU12]; exact Xi_ne (by omega)).trans ( (show Xi U10 904 72 = Xi U9 904 72 from by rw [eU10]; exact Xi_ne (by omega)).trans ((show Xi U9 904 72 = Xi T8 904 72 from by rw [eU9]; exact Xi_ne (by omega))))
          have w268 : Xi U12 904 73 = Xi T8 904 73 := (show Xi U12 904 73 = Xi U10 904 73 from by rw [eU12]; exact Xi_ne (by omega)).trans ( (show Xi U10 904 73 = Xi U9 904 73 from by rw [eU10]; exact Xi_ne (by omega)).trans ((show Xi U9 904 73 = Xi T8 904 73 from by rw [eU9]; exact Xi_ne (by omega))))
          have w270 : Xi U12 904 74 = Xi T8 904 74 := (show Xi U12 904 74 = Xi U10 904 74 from by rw [eU12]; exact Xi_ne (by omega)).trans ( (show Xi U10 904 74 = Xi U9 904 74 from by rw [eU10]; exact Xi_ne (by omega)).trans ((show Xi U9 904 74 = Xi T8 904 74 from by rw [eU9]; exact Xi_ne (by omega))))
          have w272 : Xi U12 904 78 = Xi T8 904 78 := (show Xi U12 904 78 = Xi U10 904 78 from by rw [eU12]; exact Xi_ne (by omega)).trans ( (show Xi U10 904 78 = Xi U9 904 78 from by rw [eU10]; exact Xi_ne (by omega)).trans ((show Xi U9 904 78 = Xi T8 904 78 from by rw [eU9]; exact Xi_ne (by omega))))
          have w274 : Xi U12 904 8 = Xi T8 904 8 := (show Xi U12 904 8 = Xi U10 904 8 from by rw [eU12]; exact Xi_ne (by omega)).trans ( (show Xi U10 904 8 = Xi U9 904 8 from by rw [eU10]; exact Xi_ne (by omega)).trans ((show Xi U9 904 8 = Xi T8 904 8 from by rw [eU9]; exact Xi_ne (by omega))))
          have w276 : Xi U12 904 93 = Xi T8 904 93 := (show Xi U12 904 93 = Xi U10 904 93 from by rw [eU12]; exact Xi_ne (by omega)).trans ( (show Xi U10 904 93 = Xi U9 904 93 from by rw [eU10]; exact Xi_ne (by omega)).trans ((show Xi U9 904 93 = Xi T8 904 93 from by rw [eU9]; exact Xi_ne (by omega))))
          exact Rl_weak (C313 U12 hHU12 hFU12  (by first | assumption | exact (AT_FR (FR_e eU12) rfl (AT_FR (FR_e eU10) rfl (AT_FR (FR_e eU9) rfl (by assumption : AT T8 _ _))))) (by first | assumption | exact (RNV_FR (FR_e eU12) rfl (RNV_FR (FR_e eU10) rfl (RNV_FR (FR_e eU9) rfl (by assumption : RNV T8 _))))) (by omega) (by omega) (by omega) (by omega) (by omega) (by omega) (by rw [(fun j => ((FR_e eU12).cx 907 rfl j).1.trans (((FR_e eU10).cx 907 rfl j).1.trans (((FR_e eU9).cx 907 rfl j).1))) (Xi U12 904 8).toNat, show Xi U12 904 8 = Xi T8 904 8 by omega]; omega) (by first | assumption | exact (BDA_FR (FR_e eU12) rfl (BDA_FR (FR_e eU10) rfl (BDA_FR (FR_e eU9) rfl (by assumption : BDA T8)))))) (And.intro rfl (True.intro))
      · refine l_iconst rfl ?_
        refine l_goto rfl rfl ?_
        refine l_pfz rfl rfl rfl rfl (by omega) ?_
        obtain ⟨U13, eU13⟩ : ∃ T : sS, T = uI U9 904 75 (Int32.ofInt 1) := ⟨_, rfl⟩
        rw [← eU13]
        have hHU13 : HI U13 := by rw [eU13]; exact HI_w hHU9 (show 0 ≤ 1 by omega) (show 1 ≤ 1 by omega)
        have hFU13 : FR md_mo_rest__2 S U13 := by rw [eU13]; exact FR.wI hFU9 (mdf_i (r := (904, 905, 75, 76)) (List.mem_of_getElem? (i := 7) rfl) (inR_i (by omega) (by omega) (by omega) (by omega)))
        have w278 : Xi U13 904 75 = 1 := by rw [eU13]; exact Xi_same (by unfold rg; omega)
        refine l_aload_n rfl rfl ?_
        refine l_iload_n rfl rfl ?_
        refine l_sipush rfl rfl ?_
        refine l_icmp_ne rfl rfl (by unfold rg; omega) (by unfold rg; omega) (fun w279 => ?_) (fun w280 => ?_)
        · refine l_iconst rfl ?_
          refine l_pfz rfl rfl rfl rfl (by omega) ?_
          obtain ⟨U14, eU14⟩ : ∃ T : sS, T = uI U13 904 76 (Int32.ofInt 0) := ⟨_, rfl⟩
          rw [← eU14]
          have hHU14 : HI U14 := by rw [eU14]; exact HI_w hHU13 (show 0 ≤ 0 by omega) (show 0 ≤ 1 by omega)
          have hFU14 : FR md_mo_rest__2 S U14 := by rw [eU14]; exact FR.wI hFU13 (mdf_i (r := (904, 905, 76, 77)) (List.mem_of_getElem? (i := 8) rfl) (inR_i (by omega) (by omega) (by omega) (by omega)))
          have w281 : Xi U14 904 76 = 0 := by rw [eU14]; exact Xi_same (by unfold rg; omega)
          have w282 : Xi U14 904 65 = Xi T8 904 65 := (show Xi U14 904 65 = Xi U13 904 65 from by rw [eU14]; exact Xi_ne (by omega)).trans ( (show Xi U13 904 65 = Xi U9 904 65 from by rw [eU13]; exact Xi_ne (by omega)).trans ((show Xi U9 904 65 = Xi T8 904 65 from by rw [eU9]; exact Xi_ne (by omega))))
          have w284 : Xi U14 904 69 = Xi T8 904 69 := (show Xi U14 904 69 = Xi U13 904 69 from by rw [eU14]; exact Xi_ne (by omega)).trans ( (show Xi U13 904 69 = Xi U9 904 69 from by rw [eU13]; exact Xi_ne (by omega)).trans ((show Xi U9 904 69 = Xi T8 904 69 from by rw [eU9]; exact Xi_ne (by omega))))
          have w286 : Xi U14 904 70 = Xi U9 904 70 := (show Xi U14 904 70 = Xi U13 904 70 from by rw [eU14]; exact Xi_ne (by omega)).trans ((show Xi U13 904 70 = Xi U9 904 70 from by rw [eU13]; exact Xi_ne (by omega)))
          have w287 : 0 ≤ Xi U9 904 70 ∧ Xi U9 904 70 ≤ 20 := hHU9.c _ _
          have w288 : Xi U14 904 71 = Xi T8 904 71 := (show Xi U14 904 71 = Xi U13 904 71 from by rw [eU14]; exact Xi_ne (by omega)).trans ( (show Xi U13 904 71 = Xi U9 904 71 from by rw [eU13]; exact Xi_ne (by omega)).trans ((show Xi U9 904 71 = Xi T8 904 71 from by rw [eU9]; exact Xi_ne (by omega))))
          have w290 : Xi U14 904 72 = Xi T8 904 72 := (show Xi U14 904 72 = Xi U13 904 72 from by rw [eU14]; exact Xi_ne (by omega)).trans ( (show Xi U13 904 72 = Xi U9 904 72 from by rw [eU13]; exact Xi_ne (by omega)).trans ((show Xi U9 904 72 = Xi T8 904 72 from by rw [eU9]; exact Xi_ne (by omega))))
          have w292 : Xi U14 904 73 = Xi T8 904 73 := (show Xi U14 904 73 = Xi U13 904 73 from by rw [eU14]; exact Xi_ne (by omega)).trans ( (show Xi U13 904 73 = Xi U9 904 73 from by rw [eU13]; exact Xi_ne (by omega)).trans ((show Xi U9 904 73 = Xi T8 904 73 from by rw [eU9]; exact Xi_ne (by omega))))
          have w294 : Xi U14 904 74 = Xi T8 904 74 := (show Xi U14 904 74 = Xi U13 904 74 from by rw [eU14]; exact Xi_ne (by omega)).trans ( (show Xi U13 904 74 = Xi U9 904 74 from by rw [eU13]; exact Xi_ne (by omega)).trans ((show Xi U9 904 74 = Xi T8 904 74 from by rw [eU9]; exact Xi_ne (by omega))))
          have w296 : Xi U14 904 78 = Xi T8 904 78 := (show Xi U14 904 78 = Xi U13 904 78 from by rw [eU14]; exact Xi_ne (by omega)).trans ( (show Xi U13 904 78 = Xi U9 904 78 from by rw [eU13]; exact Xi_ne (by omega)).trans ((show Xi U9 904 78 = Xi T8 904 78 from by rw [eU9]; exact Xi_ne (by omega))))
          have w298 : Xi U14 904 8 = Xi T8 904 8 := (show Xi U14 904 8 = Xi U13 904 8 from by rw [eU14]; exact Xi_ne (by omega)).trans ( (show Xi U13 904 8 = Xi U9 904 8 from by rw [eU13]; exact Xi_ne (by omega)).trans ((show Xi U9 904 8 = Xi T8 904 8 from by rw [eU9]; exact Xi_ne (by omega))))
          have w300 : Xi U14 904 93 = Xi T8 904 93 := (show Xi U14 904 93 = Xi U13 904 93 from by rw [eU14]; exact Xi_ne (by omega)).trans ( (show Xi U13 904 93 = Xi U9 904 93 from by rw [eU13]; exact Xi_ne (by omega)).trans ((show Xi U9 904 93 = Xi T8 904 93 from by rw [eU9]; exact Xi_ne (by omega))))
          exact Rl_weak (C313 U14 hHU14 hFU14  (by first | assumption | exact (AT_FR (FR_e eU14) rfl (AT_FR (FR_e eU13) rfl (AT_FR (FR_e eU9) rfl (by assumption : AT T8 _ _))))) (by first | assumption | exact (RNV_FR (FR_e eU14) rfl (RNV_FR (FR_e eU13) rfl (RNV_FR (FR_e eU9) rfl (by assumption : RNV T8 _))))) (by omega) (by omega) (by omega) (by omega) (by omega) (by omega) (by rw [(fun j => ((FR_e eU14).cx 907 rfl j).1.trans (((FR_e eU13).cx 907 rfl j).1.trans (((FR_e eU9).cx 907 rfl j).1))) (Xi U14 904 8).toNat, show Xi U14 904 8 = Xi T8 904 8 by omega]; omega) (by first | assumption | exact (BDA_FR (FR_e eU14) rfl (BDA_FR (FR_e eU13) rfl (BDA_FR (FR_e eU9) rfl (by assumption : BDA T8)))))) (And.intro rfl (True.intro))
        · refine l_iconst rfl ?_
          refine l_goto rfl rfl ?_
          refine l_pfz rfl rfl rfl rfl (by omega) ?_
          obtain ⟨U15, eU15⟩ : ∃ T : sS, T = uI U13 904 76 (Int32.ofInt 1) := ⟨_, rfl⟩
          rw [← eU15]
          have hHU15 : HI U15 := by rw [eU15]; exact HI_w hHU13 (show 0 ≤ 1 by omega) (show 1 ≤ 1 by omega)
          have hFU15 : FR md_mo_rest__2 S U15 := by rw [eU15]; exact FR.wI hFU13 (mdf_i (r := (904, 905, 76, 77)) (List.mem_of_getElem? (i := 8) rfl) (inR_i (by omega) (by omega) (by omega) (by omega)))
          have w302 : Xi U15 904 76 = 1 := by rw [eU15]; exact Xi_same (by unfold rg; omega)
          have w303 : Xi U15 904 65 = Xi T8 904 65 := (show Xi U15 904 65 = Xi U13 904 65 from by rw [eU15]; exact Xi_ne (by omega)).trans ( (show Xi U13 904 65 = Xi U9 904 65 from by rw [eU13]; exact Xi_ne (by omega)).trans ((show Xi U9 904 65 = Xi T8 904 65 from by rw [eU9]; exact Xi_ne (by omega))))
          have w305 : Xi U15 904 69 = Xi T8 904 69 := (show Xi U15 904 69 = Xi U13 904 69 from by rw [eU15]; exact Xi_ne (by omega)).trans ( (show Xi U13 904 69 = Xi U9 904 69 from by rw [eU13]; exact Xi_ne (by omega)).trans ((show Xi U9 904 69 = Xi T8 904 69 from by rw [eU9]; exact Xi_ne (by omega))))
          have w307 : Xi U15 904 70 = Xi U9 904 70 := (show Xi U15 904 70 = Xi U13 904 70 from by rw [eU15]; exact Xi_ne (by omega)).trans ((show Xi U13 904 70 = Xi U9 904 70 from by rw [eU13]; exact Xi_ne (by omega)))
          have w308 : 0 ≤ Xi U9 904 70 ∧ Xi U9 904 70 ≤ 20 := hHU9.c _ _
          have w309 : Xi U15 904 71 = Xi T8 904 71 := (show Xi U15 904 71 = Xi U13 904 71 from by rw [eU15]; exact Xi_ne (by omega)).trans ( (show Xi U13 904 71 = Xi U9 904 71 from by rw [eU13]; exact Xi_ne (by omega)).trans ((show Xi U9 904 71 = Xi T8 904 71 from by rw [eU9]; exact Xi_ne (by omega))))
          have w311 : Xi U15 904 72 = Xi T8 904 72 := (show Xi U15 904 72 = Xi U13 904 72 from by rw [eU15]; exact Xi_ne (by omega)).trans ( (show Xi U13 904 72 = Xi U9 904 72 from by rw [eU13]; exact Xi_ne (by omega)).trans ((show Xi U9 904 72 = Xi T8 904 72 from by rw [eU9]; exact Xi_ne (by omega))))
          have w313 : Xi U15 904 73 = Xi T8 904 73 := (show Xi U15 904 73 = Xi U13 904 73 from by rw [eU15]; exact Xi_ne (by omega)).trans ( (show Xi U13 904 73 = Xi U9 904 73 from by rw [eU13]; exact Xi_ne (by omega)).trans ((show Xi U9 904 73 = Xi T8 904 73 from by rw [eU9]; exact Xi_ne (by omega))))
          have w315 : Xi U15 904 74 = Xi T8 904 74 := (show Xi U15 904 74 = Xi U13 904 74 from by rw [eU15]; exact Xi_ne (by omega)).trans ( (show Xi U13 904 74 = Xi U9 904 74 from by rw [eU13]; exact Xi_ne (by omega)).trans ((show Xi U9 904 74 = Xi T8 904 74 from by rw [eU9]; exact Xi_ne (by omega))))
          have w317 : Xi U15 904 78 = Xi T8 904 78 := (show Xi U15 904 78 = Xi U13 904 78 from by rw [eU15]; exact Xi_ne (by omega)).trans ( (show Xi U13 904 78 = Xi U9 904 78 from by rw [eU13]; exact Xi_ne (by omega)).trans ((show Xi U9 904 78 = Xi T8 904 78 from by rw [eU9]; exact Xi_ne (by omega))))
          have w319 : Xi U15 904 8 = Xi T8 904 8 := (show Xi U15 904 8 = Xi U13 904 8 from by rw [eU15]; exact Xi_ne (by omega)).trans ( (show Xi U13 904 8 = Xi U9 904 8 from by rw [eU13]; exact Xi_ne (by omega)).trans ((show Xi U9 904 8 = Xi T8 904 8 from by rw [eU9]; exact Xi_ne (by omega))))
          have w321 : Xi U15 904 93 = Xi T8 904 93 := (show Xi U15 904 93 = Xi U13 904 93 from by rw [eU15]; exact Xi_ne (by omega)).trans ( (show Xi U13 904 93 = Xi U9 904 93 from by rw [eU13]; exact Xi_ne (by omega)).trans ((show Xi U9 904 93 = Xi T8 904 93 from by rw [eU9]; exact Xi_ne (by omega))))
          exact Rl_weak (C313 U15 hHU15 hFU15  (by first | assumption | exact (AT_FR (FR_e eU15) rfl (AT_FR (FR_e eU13) rfl (AT_FR (FR_e eU9) rfl (by assumption : AT T8 _ _))))) (by first | assumption | exact (RNV_FR (FR_e eU15) rfl (RNV_FR (FR_e eU13) rfl (RNV_FR (FR_e eU9) rfl (by assumption : RNV T8 _))))) (by omega) (by omega) (by omega) (by omega) (by omega) (by omega) (by rw [(fun j => ((FR_e eU15).cx 907 rfl j).1.trans (((FR_e eU13).cx 907 rfl j).1.trans (((FR_e eU9).cx 907 rfl j).1))) (Xi U15 904 8).toNat, show Xi U15 904 8 = Xi T8 904 8 by omega]; omega) (by first | assumption | exact (BDA_FR (FR_e eU15) rfl (BDA_FR (FR_e eU13) rfl (BDA_FR (FR_e eU9) rfl (by assumption : BDA T8)))))) (And.intro rfl (True.intro))
    · refine l_iload_n rfl rfl ?_
      refine l_sipush rfl rfl ?_
      refine l_icmp_ne rfl rfl (by unfold rg; omega) (by unfold rg; omega) (fun w323 => ?_) (fun w324 => ?_)
      · refine l_iload_n rfl rfl ?_
        refine l_iconst rfl ?_
        refine l_icmp_ne rfl rfl (by unfold rg; omega) (by unfold rg; omega) (fun w325 => ?_) (fun w326 => ?_)
        · refine l_aload_n rfl rfl ?_
          refine l_bipush rfl rfl ?_
          refine l_pfi rfl rfl rfl rfl ?_
          obtain ⟨U16, eU16⟩ : ∃ T : sS, T = uI T8 904 70 (Int32.ofInt 13) := ⟨_, rfl⟩
          rw [← eU16]
          have hHU16 : HI U16 := by rw [eU16]; exact HI_w hHT8 (show 0 ≤ 13 by omega) (show 13 ≤ 20 by omega)
          have hFU16 : FR md_mo_rest__2 S U16 := by rw [eU16]; exact FR.wI hFT8 (mdf_i (r := (904, 905, 70, 71)) (List.mem_of_getElem? (i := 4) rfl) (inR_i (by omega) (by omega) (by omega) (by omega)))
          have w327 : Xi U16 904 70 = 13 := by rw [eU16]; exact Xi_same (by unfold rg; omega)
          refine l_aload_n rfl rfl ?_
          refine l_aload_n rfl rfl ?_
          have w328 : Xi U16 904 65 = Xi T8 904 65 := (show Xi U16 904 65 = Xi T8 904 65 from by rw [eU16]; exact Xi_ne (by omega))
          have w330 : Xi U16 904 69 = Xi T8 904 69 := (show Xi U16 904 69 = Xi T8 904 69 from by rw [eU16]; exact Xi_ne (by omega))
          have w332 : 0 ≤ Xi U16 904 70 ∧ Xi U16 904 70 ≤ 20 := hHU16.c _ _
          have w333 : Xi U16 904 71 = Xi T8 904 71 := (show Xi U16 904 71 = Xi T8 904 71 from by rw [eU16]; exact Xi_ne (by omega))
          have w335 : Xi U16 904 72 = Xi T8 904 72 := (show Xi U16 904 72 = Xi T8 904 72 from by rw [eU16]; exact Xi_ne (by omega))
          have w337 : Xi U16 904 73 = Xi T8 904 73 := (show Xi U16 904 73 = Xi T8 904 73 from by rw [eU16]; exact Xi_ne (by omega))
          have w339 : Xi U16 904 74 = Xi T8 904 74 := (show Xi U16 904 74 = Xi T8 904 74 from by rw [eU16]; exact Xi_ne (by omega))
          have w341 : Xi U16 904 78 = Xi T8 904 78 := (show Xi U16 904 78 = Xi T8 904 78 from by rw [eU16]; exact Xi_ne (by omega))
          have w343 : Xi U16 904 8 = Xi T8 904 8 := (show Xi U16 904 8 = Xi T8 904 8 from by rw [eU16]; exact Xi_ne (by omega))
          have w345 : Xi U16 904 93 = Xi T8 904 93 := (show Xi U16 904 93 = Xi T8 904 93 from by rw [eU16]; exact Xi_ne (by omega))
          refine l_callV rfl rfl rfl (t_mo_placing__3 hHU16 n c (by first | assumption | exact (TK_FR hFU16 rfl (by assumption : TK S _))) (by first | assumption | exact (AT_FR (FR_e eU16) rfl (by assumption : AT T8 _ _))) (by first | assumption | exact (BDA_FR (FR_e eU16) rfl (by assumption : BDA T8))) _) ?_
          rintro _ T17 ⟨hHT17, w352, z351, rfl, w351, w347, w348, w349, w350⟩
          have hFT17 : FR md_mo_rest__2 S T17 := FR.tr hFU16 w352 rfl
          show Rl _ _ _ _ _ [iv z351, .ref 904] _ _
          have w354 : 0 ≤ Xi T17 904 8 ∧ Xi T17 904 8 ≤ 5010 := hHT17.c _ _
          have w355 : 0 ≤ Xi T17 904 65 ∧ Xi T17 904 65 ≤ 1 := hHT17.c _ _
          have w356 : Xi T17 904 69 = Xi T8 904 69 := (show Xi T17 904 69 = Xi U16 904 69 from w352.x _ _ rfl).trans ((show Xi U16 904 69 = Xi T8 904 69 from by rw [eU16]; exact Xi_ne (by omega)))
          have w358 : Xi T17 904 93 = Xi T8 904 93 := (show Xi T17 904 93 = Xi U16 904 93 from w352.x _ _ rfl).trans ((show Xi U16 904 93 = Xi T8 904 93 from by rw [eU16]; exact Xi_ne (by omega)))
          have w353 : Xi S 904 8 ≤ Xi T17 904 8 ∧ Xi T17 904 8 ≤ n ∧ Xi S 904 69 ≤ Xi T17 904 69 ∧ (Xi T17 904 65 = 0 → Xi S 904 65 = 0) := by omega
          clear w348
          refine l_pfi rfl rfl rfl rfl ?_
          obtain ⟨U18, eU18⟩ : ∃ T : sS, T = uI T17 904 73 (Int32.ofInt z351) := ⟨_, rfl⟩
          rw [← eU18]
          have hHU18 : HI U18 := by rw [eU18]; exact HI_w hHT17 (show 0 ≤ z351 by omega) (show z351 ≤ 5 by omega)
          have hFU18 : FR md_mo_rest__2 S U18 := by rw [eU18]; exact FR.wI hFT17 (mdf_i (r := (904, 905, 73, 74)) (List.mem_of_getElem? (i := 5) rfl) (inR_i (by omega) (by omega) (by omega) (by omega)))
          have w360 : Xi U18 904 73 = z351 := by rw [eU18]; exact Xi_same (by unfold rg; omega)
          refine l_aload_n rfl rfl ?_
          refine l_aload_n rfl rfl ?_
          have w361 : Xi U18 904 65 = Xi T17 904 65 := (show Xi U18 904 65 = Xi T17 904 65 from by rw [eU18]; exact Xi_ne (by omega))
          have w363 : Xi U18 904 69 = Xi T8 904 69 := (show Xi U18 904 69 = Xi T17 904 69 from by rw [eU18]; exact Xi_ne (by omega)).trans ( (show Xi T17 904 69 = Xi U16 904 69 from w352.x _ _ rfl).trans ((show Xi U16 904 69 = Xi T8 904 69 from by rw [eU16]; exact Xi_ne (by omega))))
          have w365 : Xi U18 904 70 = Xi U16 904 70 := (show Xi U18 904 70 = Xi T17 904 70 from by rw [eU18]; exact Xi_ne (by omega)).trans ((show Xi T17 904 70 = Xi U16 904 70 from w352.x _ _ rfl))
          have w367 : Xi U18 904 71 = Xi T8 904 71 := (show Xi U18 904 71 = Xi T17 904 71 from by rw [eU18]; exact Xi_ne (by omega)).trans ( (show Xi T17 904 71 = Xi U16 904 71 from w352.x _ _ rfl).trans ((show Xi U16 904 71 = Xi T8 904 71 from by rw [eU16]; exact Xi_ne (by omega))))
          have w369 : Xi U18 904 72 = Xi T8 904 72 := (show Xi U18 904 72 = Xi T17 904 72 from by rw [eU18]; exact Xi_ne (by omega)).trans ( (show Xi T17 904 72 = Xi U16 904 72 from w352.x _ _ rfl).trans ((show Xi U16 904 72 = Xi T8 904 72 from by rw [eU16]; exact Xi_ne (by omega))))
          have w371 : 0 ≤ Xi U18 904 73 ∧ Xi U18 904 73 ≤ 5 := hHU18.c _ _
          have w372 : Xi U18 904 74 = Xi T8 904 74 := (show Xi U18 904 74 = Xi T17 904 74 from by rw [eU18]; exact Xi_ne (by omega)).trans ( (show Xi T17 904 74 = Xi U16 904 74 from w352.x _ _ rfl).trans ((show Xi U16 904 74 = Xi T8 904 74 from by rw [eU16]; exact Xi_ne (by omega))))
          have w374 : Xi U18 904 78 = Xi T8 904 78 := (show Xi U18 904 78 = Xi T17 904 78 from by rw [eU18]; exact Xi_ne (by omega)).trans ( (show Xi T17 904 78 = Xi U16 904 78 from w352.x _ _ rfl).trans ((show Xi U16 904 78 = Xi T8 904 78 from by rw [eU16]; exact Xi_ne (by omega))))
          have w376 : Xi U18 904 8 = Xi T17 904 8 := (show Xi U18 904 8 = Xi T17 904 8 from by rw [eU18]; exact Xi_ne (by omega))
          have w378 : Xi U18 904 93 = Xi T8 904 93 := (show Xi U18 904 93 = Xi T17 904 93 from by rw [eU18]; exact Xi_ne (by omega)).trans ( (show Xi T17 904 93 = Xi U16 904 93 from w352.x _ _ rfl).trans ((show Xi U16 904 93 = Xi T8 904 93 from by rw [eU16]; exact Xi_ne (by omega))))
          refine l_callV rfl rfl rfl (t_mo_name__2 hHU18 n c (by first | assumption | exact (TK_FR hFU18 rfl (by assumption : TK S _))) (by first | assumption | exact (AT_FR (FR_e eU18) rfl (by assumption : AT T17 _ _))) (by first | assumption | exact (RNV_FR (FR_e eU18) rfl (RNV_FR w352 rfl (RNV_FR (FR_e eU16) rfl (by assumption : RNV T8 _))))) (by first | assumption | exact (BDA_FR (FR_e eU18) rfl (by assumption : BDA T17))) _) ?_
          rintro _ T19 ⟨hHT19, w387, z386, rfl, w386, w380, w381, w382, w383, w384, w385⟩
          have hFT19 : FR md_mo_rest__2 S T19 := FR.tr hFU18 w387 rfl
          show Rl _ _ _ _ _ [iv z386, .ref 904] _ _
          have w389 : 0 ≤ Xi T19 904 8 ∧ Xi T19 904 8 ≤ 5010 := hHT19.c _ _
          have w390 : 0 ≤ Xi T19 904 65 ∧ Xi T19 904 65 ≤ 1 := hHT19.c _ _
          have w391 : 0 ≤ Xi T19 904 69 ∧ Xi T19 904 69 ≤ 2600 := hHT19.c _ _
          have w392 : Xi T19 904 93 = Xi T8 904 93 := (show Xi T19 904 93 = Xi U18 904 93 from w387.x _ _ rfl).trans ( (show Xi U18 904 93 = Xi T17 904 93 from by rw [eU18]; exact Xi_ne (by omega)).trans ( (show Xi T17 904 93 = Xi U16 904 93 from w352.x _ _ rfl).trans ((show Xi U16 904 93 = Xi T8 904 93 from by rw [eU16]; exact Xi_ne (by omega)))))
          have w388 : Xi S 904 8 ≤ Xi T19 904 8 ∧ Xi T19 904 8 ≤ n ∧ Xi S 904 69 ≤ Xi T19 904 69 ∧ (Xi T19 904 65 = 0 → Xi S 904 65 = 0) := by omega
          clear w381 w353
          refine l_pfi rfl rfl rfl rfl ?_
          obtain ⟨U20, eU20⟩ : ∃ T : sS, T = uI T19 904 74 (Int32.ofInt z386) := ⟨_, rfl⟩
          rw [← eU20]
          have hHU20 : HI U20 := by rw [eU20]; exact HI_w hHT19 (show 0 ≤ z386 by omega) (show z386 ≤ 2600 by omega)
          have hFU20 : FR md_mo_rest__2 S U20 := by rw [eU20]; exact FR.wI hFT19 (mdf_i (r := (904, 905, 74, 75)) (List.mem_of_getElem? (i := 6) rfl) (inR_i (by omega) (by omega) (by omega) (by omega)))
          have w394 : Xi U20 904 74 = z386 := by rw [eU20]; exact Xi_same (by unfold rg; omega)
          refine l_return rfl rfl ?_
          have w395 : Xi U20 904 65 = Xi T19 904 65 := (show Xi U20 904 65 = Xi T19 904 65 from by rw [eU20]; exact Xi_ne (by omega))
          have w397 : Xi U20 904 69 = Xi T19 904 69 := (show Xi U20 904 69 = Xi T19 904 69 from by rw [eU20]; exact Xi_ne (by omega))
          have w399 : Xi U20 904 70 = Xi U16 904 70 := (show Xi U20 904 70 = Xi T19 904 70 from by rw [eU20]; exact Xi_ne (by omega)).trans ( (show Xi T19 904 70 = Xi U18 904 70 from w387.x _ _ rfl).trans ( (show Xi U18 904 70 = Xi T17 904 70 from by rw [eU18]; exact Xi_ne (by omega)).trans ((show Xi T17 904 70 = Xi U16 904 70 from w352.x _ _ rfl))))
          have w401 : Xi U20 904 71 = Xi T8 904 71 := (show Xi U20 904 71 = Xi T19 904 71 from by rw [eU20]; exact Xi_ne (by omega)).trans ( (show Xi T19 904 71 = Xi U18 904 71 from w387.x _ _ rfl).trans ( (show Xi U18 904 71 = Xi T17 904 71 from by rw [eU18]; exact Xi_ne (by omega)).trans ( (show Xi T17 904 71 = Xi U16 904 71 from w352.x _ _ rfl).trans ((show Xi U16 904 71 = Xi T8 904 71 from by rw [eU16]; exact Xi_ne (by omega))))))
          have w403 : Xi U20 904 72 = Xi T8 904 72 := (show Xi U20 904 72 = Xi T19 904 72 from by rw [eU20]; exact Xi_ne (by omega)).trans ( (show Xi T19 904 72 = Xi U18 904 72 from w387.x _ _ rfl).trans ( (show Xi U18 904 72 = Xi T17 904 72 from by rw [eU18]; exact Xi_ne (by omega)).trans ( (show Xi T17 904 72 = Xi U16 904 72 from w352.x _ _ rfl).trans ((show Xi U16 904 72 = Xi T8 904 72 from by rw [eU16]; exact Xi_ne (by omega))))))
          have w405 : Xi U20 904 73 = Xi U18 904 73 := (show Xi U20 904 73 = Xi T19 904 73 from by rw [eU20]; exact Xi_ne (by omega)).trans ((show Xi T19 904 73 = Xi U18 904 73 from w387.x _ _ rfl))
          have w407 : 0 ≤ Xi U20 904 74 ∧ Xi U20 904 74 ≤ 2600 := hHU20.c _ _
          have w408 : Xi U20 904 78 = Xi T8 904 78 := (show Xi U20 904 78 = Xi T19 904 78 from by rw [eU20]; exact Xi_ne (by omega)).trans ( (show Xi T19 904 78 = Xi U18 904 78 from w387.x _ _ rfl).trans ( (show Xi U18 904 78 = Xi T17 904 78 from by rw [eU18]; exact Xi_ne (by omega)).trans ( (show Xi T17 904 78 = Xi U16 904 78 from w352.x _ _ rfl).trans ((show Xi U16 904 78 = Xi T8 904 78 from by rw [eU16]; exact Xi_ne (by omega))))))
          have w410 : Xi U20 904 8 = Xi T19 904 8 := (show Xi U20 904 8 = Xi T19 904 8 from by rw [eU20]; exact Xi_ne (by omega))
          have w412 : Xi U20 904 93 = Xi T8 904 93 := (show Xi U20 904 93 = Xi T19 904 93 from by rw [eU20]; exact Xi_ne (by omega)).trans ( (show Xi T19 904 93 = Xi U18 904 93 from w387.x _ _ rfl).trans ( (show Xi U18 904 93 = Xi T17 904 93 from by rw [eU18]; exact Xi_ne (by omega)).trans ( (show Xi T17 904 93 = Xi U16 904 93 from w352.x _ _ rfl).trans ((show Xi U16 904 93 = Xi T8 904 93 from by rw [eU16]; exact Xi_ne (by omega))))))
          exact ⟨hHU20, hFU20, rfl, (by first | assumption | exact (AT_FR (FR_e eU20) rfl (by assumption : AT T19 _ _))), (by omega), (by first | assumption | exact (RNV_FR (FR_e eU20) rfl (by assumption : RNV T19 _))), (by omega), (by omega), (by omega), (fun q => by unfold SNQ; refine ⟨fun q1 => absurd q1 (by omega), by omega, by omega, by omega, fun q9 => absurd q9 (by omega), by omega, by omega, by omega, by omega, by omega⟩), (by omega), (by first | assumption | exact (BDA_FR (FR_e eU20) rfl (by assumption : BDA T19)))⟩
        · refine l_aload_n rfl rfl ?_
          refine l_aload_n rfl rfl ?_
          refine l_callV rfl rfl rfl (t_mo_run__2 hHT8 n c (by first | assumption | exact (TK_FR hFT8 rfl (by assumption : TK S _))) (by first | assumption | exact (by assumption : AT T8 _ _)) (by first | assumption | exact (by assumption : RNV T8 _)) (by first | assumption | exact (by assumption : BDA T8)) _) ?_
          rintro _ T21 ⟨hHT21, w431, z430, rfl, w430, w424, w425, w426, w427, w428, w429⟩
          have hFT21 : FR md_mo_rest__2 S T21 := FR.tr hFT8 w431 rfl
          show Rl _ _ _ _ _ [iv z430, .ref 904] _ _
          have w433 : 0 ≤ Xi T21 904 8 ∧ Xi T21 904 8 ≤ 5010 := hHT21.c _ _
          have w434 : 0 ≤ Xi T21 904 65 ∧ Xi T21 904 65 ≤ 1 := hHT21.c _ _
          have w435 : 0 ≤ Xi T21 904 69 ∧ Xi T21 904 69 ≤ 2600 := hHT21.c _ _
          have w436 : Xi T21 904 93 = Xi T8 904 93 := (show Xi T21 904 93 = Xi T8 904 93 from w431.x _ _ rfl)
          have w432 : Xi S 904 8 ≤ Xi T21 904 8 ∧ Xi T21 904 8 ≤ n ∧ Xi S 904 69 ≤ Xi T21 904 69 ∧ (Xi T21 904 65 = 0 → Xi S 904 65 = 0) := by omega
          clear w425
          refine l_pfi rfl rfl rfl rfl ?_
          obtain ⟨U22, eU22⟩ : ∃ T : sS, T = uI T21 904 78 (Int32.ofInt z430) := ⟨_, rfl⟩
          rw [← eU22]
          have hHU22 : HI U22 := by rw [eU22]; exact HI_w hHT21 (show -2 ≤ z430 by omega) (show z430 ≤ 5010 by omega)
          have hFU22 : FR md_mo_rest__2 S U22 := by rw [eU22]; exact FR.wI hFT21 (mdf_i (r := (904, 905, 78, 79)) (List.mem_of_getElem? (i := 9) rfl) (inR_i (by omega) (by omega) (by omega) (by omega)))
          have w438 : Xi U22 904 78 = z430 := by rw [eU22]; exact Xi_same (by unfold rg; omega)
          refine l_aload_n rfl rfl ?_
          refine l_bipush rfl rfl ?_
          refine l_pfi rfl rfl rfl rfl ?_
          obtain ⟨U23, eU23⟩ : ∃ T : sS, T = uI U22 904 70 (Int32.ofInt 15) := ⟨_, rfl⟩
          rw [← eU23]
          have hHU23 : HI U23 := by rw [eU23]; exact HI_w hHU22 (show 0 ≤ 15 by omega) (show 15 ≤ 20 by omega)
          have hFU23 : FR md_mo_rest__2 S U23 := by rw [eU23]; exact FR.wI hFU22 (mdf_i (r := (904, 905, 70, 71)) (List.mem_of_getElem? (i := 4) rfl) (inR_i (by omega) (by omega) (by omega) (by omega)))
          have w439 : Xi U23 904 70 = 15 := by rw [eU23]; exact Xi_same (by unfold rg; omega)
          refine l_aload_n rfl rfl ?_
          refine l_bipush rfl rfl ?_
          have w440 : Xi U23 904 65 = Xi T21 904 65 := (show Xi U23 904 65 = Xi U22 904 65 from by rw [eU23]; exact Xi_ne (by omega)).trans ((show Xi U22 904 65 = Xi T21 904 65 from by rw [eU22]; exact Xi_ne (by omega)))
          have w442 : Xi U23 904 69 = Xi T21 904 69 := (show Xi U23 904 69 = Xi U22 904 69 from by rw [eU23]; exact Xi_ne (by omega)).trans ((show Xi U22 904 69 = Xi T21 904 69 from by rw [eU22]; exact Xi_ne (by omega)))
          have w444 : 0 ≤ Xi U23 904 70 ∧ Xi U23 904 70 ≤ 20 := hHU23.c _ _
          have w445 : Xi U23 904 71 = Xi T8 904 71 := (show Xi U23 904 71 = Xi U22 904 71 from by rw [eU23]; exact Xi_ne (by omega)).trans ( (show Xi U22 904 71 = Xi T21 904 71 from by rw [eU22]; exact Xi_ne (by omega)).trans ((show Xi T21 904 71 = Xi T8 904 71 from w431.x _ _ rfl)))
          have w447 : Xi U23 904 72 = Xi T8 904 72 := (show Xi U23 904 72 = Xi U22 904 72 from by rw [eU23]; exact Xi_ne (by omega)).trans ( (show Xi U22 904 72 = Xi T21 904 72 from by rw [eU22]; exact Xi_ne (by omega)).trans ((show Xi T21 904 72 = Xi T8 904 72 from w431.x _ _ rfl)))
          have w449 : Xi U23 904 73 = Xi T8 904 73 := (show Xi U23 904 73 = Xi U22 904 73 from by rw [eU23]; exact Xi_ne (by omega)).trans ( (show Xi U22 904 73 = Xi T21 904 73 from by rw [eU22]; exact Xi_ne (by omega)).trans ((show Xi T21 904 73 = Xi T8 904 73 from w431.x _ _ rfl)))
          have w451 : Xi U23 904 74 = Xi T8 904 74 := (show Xi U23 904 74 = Xi U22 904 74 from by rw [eU23]; exact Xi_ne (by omega)).trans ( (show Xi U22 904 74 = Xi T21 904 74 from by rw [eU22]; exact Xi_ne (by omega)).trans ((show Xi T21 904 74 = Xi T8 904 74 from w431.x _ _ rfl)))
          have w453 : Xi U23 904 78 = Xi U22 904 78 := (show Xi U23 904 78 = Xi U22 904 78 from by rw [eU23]; exact Xi_ne (by omega))
          have w454 : -2 ≤ Xi U22 904 78 ∧ Xi U22 904 78 ≤ 5010 := hHU22.c _ _
          have w455 : Xi U23 904 8 = Xi T21 904 8 := (show Xi U23 904 8 = Xi U22 904 8 from by rw [eU23]; exact Xi_ne (by omega)).trans ((show Xi U22 904 8 = Xi T21 904 8 from by rw [eU22]; exact Xi_ne (by omega)))
          have w457 : Xi U23 904 93 = Xi T8 904 93 := (show Xi U23 904 93 = Xi U22 904 93 from by rw [eU23]; exact Xi_ne (by omega)).trans ( (show Xi U22 904 93 = Xi T21 904 93 from by rw [eU22]; exact Xi_ne (by omega)).trans ((show Xi T21 904 93 = Xi T8 904 93 from w431.x _ _ rfl)))
          refine l_callV rfl rfl rfl (t_mo_isNext hHU23 n c 107 ⟨by omega, by omega⟩ (by first | assumption | exact (TK_FR hFU23 rfl (by assumption : TK S _))) (by first | assumption | exact (AT_FR (FR_e eU23) rfl (AT_FR (FR_e eU22) rfl (by assumption : AT T21 _ _)))) _) ?_
          rintro _ _ ⟨rfl, z461, rfl, w461, w459, w460⟩
          show Rl _ _ _ _ _ [iv z461] _ _
          have j356 : z461 = 1 → Xi U23 904 65 = 0 ∧ Xi U23 907 (Xi U23 904 8).toNat = 107 := by assumption
          refine l_if_eq rfl rfl (by unfold rg; omega) (fun w462 => ?_) (fun w463 => ?_)
          · refine l_aload_n rfl rfl ?_
            refine l_bipush rfl rfl ?_
            refine l_callV rfl rfl rfl (t_mo_isNext hHU23 n c 116 ⟨by omega, by omega⟩ (by first | assumption | exact (TK_FR hFU23 rfl (by assumption : TK S _))) (by first | assumption | exact (AT_FR (FR_e eU23) rfl (AT_FR (FR_e eU22) rfl (by assumption : AT T21 _ _)))) _) ?_
            rintro _ _ ⟨rfl, z485, rfl, w485, w483, w484⟩
            show Rl _ _ _ _ _ [iv z485] _ _
            refine l_if_ne rfl rfl (by unfold rg; omega) (fun w486 => ?_) (fun w487 => ?_)
            · refine l_aload_n rfl rfl ?_
              refine l_bipush rfl rfl ?_
              refine l_pfi rfl rfl rfl rfl ?_
              obtain ⟨U24, eU24⟩ : ∃ T : sS, T = uI U23 904 70 (Int32.ofInt 16) := ⟨_, rfl⟩
              rw [← eU24]
              have hHU24 : HI U24 := by rw [eU24]; exact HI_w hHU23 (show 0 ≤ 16 by omega) (show 16 ≤ 20 by omega)
              have hFU24 : FR md_mo_rest__2 S U24 := by rw [eU24]; exact FR.wI hFU23 (mdf_i (r := (904, 905, 70, 71)) (List.mem_of_getElem? (i := 4) rfl) (inR_i (by omega) (by omega) (by omega) (by omega)))
              have w488 : Xi U24 904 70 = 16 := by rw [eU24]; exact Xi_same (by unfold rg; omega)
              have w489 : Xi U24 904 65 = Xi T21 904 65 := (show Xi U24 904 65 = Xi U23 904 65 from by rw [eU24]; exact Xi_ne (by omega)).trans ( (show Xi U23 904 65 = Xi U22 904 65 from by rw [eU23]; exact Xi_ne (by omega)).trans ((show Xi U22 904 65 = Xi T21 904 65 from by rw [eU22]; exact Xi_ne (by omega))))
              have w491 : Xi U24 904 69 = Xi T21 904 69 := (show Xi U24 904 69 = Xi U23 904 69 from by rw [eU24]; exact Xi_ne (by omega)).trans ( (show Xi U23 904 69 = Xi U22 904 69 from by rw [eU23]; exact Xi_ne (by omega)).trans ((show Xi U22 904 69 = Xi T21 904 69 from by rw [eU22]; exact Xi_ne (by omega))))
              have w493 : 0 ≤ Xi U24 904 70 ∧ Xi U24 904 70 ≤ 20 := hHU24.c _ _
              have w494 : Xi U24 904 71 = Xi T8 904 71 := (show Xi U24 904 71 = Xi U23 904 71 from by rw [eU24]; exact Xi_ne (by omega)).trans ( (show Xi U23 904 71 = Xi U22 904 71 from by rw [eU23]; exact Xi_ne (by omega)).trans ( (show Xi U22 904 71 = Xi T21 904 71 from by rw [eU22]; exact Xi_ne (by omega)).trans ((show Xi T21 904 71 = Xi T8 904 71 from w431.x _ _ rfl))))
              have w496 : Xi U24 904 72 = Xi T8 904 72 := (show Xi U24 904 72 = Xi U23 904 72 from by rw [eU24]; exact Xi_ne (by omega)).trans ( (show Xi U23 904 72 = Xi U22 904 72 from by rw [eU23]; exact Xi_ne (by omega)).trans ( (show Xi U22 904 72 = Xi T21 904 72 from by rw [eU22]; exact Xi_ne (by omega)).trans ((show Xi T21 904 72 = Xi T8 904 72 from w431.x _ _ rfl))))
              have w498 : Xi U24 904 73 = Xi T8 904 73 := (show Xi U24 904 73 = Xi U23 904 73 from by rw [eU24]; exact Xi_ne (by omega)).trans ( (show Xi U23 904 73 = Xi U22 904 73 from by rw [eU23]; exact Xi_ne (by omega)).trans ( (show Xi U22 904 73 = Xi T21 904 73 from by rw [eU22]; exact Xi_ne (by omega)).trans ((show Xi T21 904 73 = Xi T8 904 73 from w431.x _ _ rfl))))
              have w500 : Xi U24 904 74 = Xi T8 904 74 := (show Xi U24 904 74 = Xi U23 904 74 from by rw [eU24]; exact Xi_ne (by omega)).trans ( (show Xi U23 904 74 = Xi U22 904 74 from by rw [eU23]; exact Xi_ne (by omega)).trans ( (show Xi U22 904 74 = Xi T21 904 74 from by rw [eU22]; exact Xi_ne (by omega)).trans ((show Xi T21 904 74 = Xi T8 904 74 from w431.x _ _ rfl))))
              have w502 : Xi U24 904 78 = Xi U22 904 78 := (show Xi U24 904 78 = Xi U23 904 78 from by rw [eU24]; exact Xi_ne (by omega)).trans ((show Xi U23 904 78 = Xi U22 904 78 from by rw [eU23]; exact Xi_ne (by omega)))
              have w504 : Xi U24 904 8 = Xi T21 904 8 := (show Xi U24 904 8 = Xi U23 904 8 from by rw [eU24]; exact Xi_ne (by omega)).trans ( (show Xi U23 904 8 = Xi U22 904 8 from by rw [eU23]; exact Xi_ne (by omega)).trans ((show Xi U22 904 8 = Xi T21 904 8 from by rw [eU22]; exact Xi_ne (by omega))))
              have w506 : Xi U24 904 93 = Xi T8 904 93 := (show Xi U24 904 93 = Xi U23 904 93 from by rw [eU24]; exact Xi_ne (by omega)).trans ( (show Xi U23 904 93 = Xi U22 904 93 from by rw [eU23]; exact Xi_ne (by omega)).trans ( (show Xi U22 904 93 = Xi T21 904 93 from by rw [eU22]; exact Xi_ne (by omega)).trans ((show Xi T21 904 93 = Xi T8 904 93 from w431.x _ _ rfl))))
              exact Rl_weak (C413 _ U24 hHU24 hFU24  (by first | assumption | exact (AT_FR (FR_e eU24) rfl (AT_FR (FR_e eU23) rfl (AT_FR (FR_e eU22) rfl (by assumption : AT T21 _ _))))) (by first | assumption | exact (RNV_FR (FR_e eU24) rfl (RNV_FR (FR_e eU23) rfl (RNV_FR (FR_e eU22) rfl (by assumption : RNV T21 _))))) (by omega) (by omega) (by omega) (by omega) (by omega) (by first | assumption | exact (BDA_FR (FR_e eU24) rfl (BDA_FR (FR_e eU23) rfl (BDA_FR (FR_e eU22) rfl (by assumption : BDA T21))))) rfl) (And.intro rfl (True.intro))
            · refine l_aload_n rfl rfl ?_
              refine l_bipush rfl rfl ?_
              refine l_callV rfl rfl rfl (t_mo_isNext hHU23 n c 44 ⟨by omega, by omega⟩ (by first | assumption | exact (TK_FR hFU23 rfl (by assumption : TK S _))) (by first | assumption | exact (AT_FR (FR_e eU23) rfl (AT_FR (FR_e eU22) rfl (by assumption : AT T21 _ _)))) _) ?_
              rintro _ _ ⟨rfl, z529, rfl, w529, w527, w528⟩
              show Rl _ _ _ _ _ [iv z529] _ _
              refine l_if_eq rfl rfl (by unfold rg; omega) (fun w530 => ?_) (fun w531 => ?_)
              · refine l_return rfl rfl ?_
                exact ⟨hHU23, hFU23, rfl, (by first | assumption | exact (AT_FR (FR_e eU23) rfl (AT_FR (FR_e eU22) rfl (by assumption : AT T21 _ _)))), (by omega), (by first | assumption | exact (RNV_FR (FR_e eU23) rfl (RNV_FR (FR_e eU22) rfl (by assumption : RNV T21 _)))), (by omega), (by omega), (by omega), (fun q => by unfold SNQ; refine ⟨fun q1 => absurd q1 (by omega), by omega, by omega, by omega, fun q9 => absurd q9 (by omega), by omega, by omega, by omega, by omega, by omega⟩), (by omega), (by first | assumption | exact (BDA_FR (FR_e eU23) rfl (BDA_FR (FR_e eU22) rfl (by assumption : BDA T21))))⟩
              · refine l_aload_n rfl rfl ?_
                refine l_bipush rfl rfl ?_
                refine l_pfi rfl rfl rfl rfl ?_
                obtain ⟨U25, eU25⟩ : ∃ T : sS, T = uI U23 904 70 (Int32.ofInt 16) := ⟨_, rfl⟩
                rw [← eU25]
                have hHU25 : HI U25 := by rw [eU25]; exact HI_w hHU23 (show 0 ≤ 16 by omega) (show 16 ≤ 20 by omega)
                have hFU25 : FR md_mo_rest__2 S U25 := by rw [eU25]; exact FR.wI hFU23 (mdf_i (r := (904, 905, 70, 71)) (List.mem_of_getElem? (i := 4) rfl) (inR_i (by omega) (by omega) (by omega) (by omega)))
                have w551 : Xi U25 904 70 = 16 := by rw [eU25]; exact Xi_same (by unfold rg; omega)
                have w552 : Xi U25 904 65 = Xi T21 904 65 := (show Xi U25 904 65 = Xi U23 904 65 from by rw [eU25]; exact Xi_ne (by omega)).trans ( (show Xi U23 904 65 = Xi U22 904 65 from by rw [eU23]; exact Xi_ne (by omega)).trans ((show Xi U22 904 65 = Xi T21 904 65 from by rw [eU22]; exact Xi_ne (by omega))))
                have w554 : Xi U25 904 69 = Xi T21 904 69 := (show Xi U25 904 69 = Xi U23 904 69 from by rw [eU25]; exact Xi_ne (by omega)).trans ( (show Xi U23 904 69 = Xi U22 904 69 from by rw [eU23]; exact Xi_ne (by omega)).trans ((show Xi U22 904 69 = Xi T21 904 69 from by rw [eU22]; exact Xi_ne (by omega))))
                have w556 : 0 ≤ Xi U25 904 70 ∧ Xi U25 904 70 ≤ 20 := hHU25.c _ _
                have w557 : Xi U25 904 71 = Xi T8 904 71 := (show Xi U25 904 71 = Xi U23 904 71 from by rw [eU25]; exact Xi_ne (by omega)).trans ( (show Xi U23 904 71 = Xi U22 904 71 from by rw [eU23]; exact Xi_ne (by omega)).trans ( (show Xi U22 904 71 = Xi T21 904 71 from by rw [eU22]; exact Xi_ne (by omega)).trans ((show Xi T21 904 71 = Xi T8 904 71 from w431.x _ _ rfl))))
                have w559 : Xi U25 904 72 = Xi T8 904 72 := (show Xi U25 904 72 = Xi U23 904 72 from by rw [eU25]; exact Xi_ne (by omega)).trans ( (show Xi U23 904 72 = Xi U22 904 72 from by rw [eU23]; exact Xi_ne (by omega)).trans ( (show Xi U22 904 72 = Xi T21 904 72 from by rw [eU22]; exact Xi_ne (by omega)).trans ((show Xi T21 904 72 = Xi T8 904 72 from w431.x _ _ rfl))))
                have w561 : Xi U25 904 73 = Xi T8 904 73 := (show Xi U25 904 73 = Xi U23 904 73 from by rw [eU25]; exact Xi_ne (by omega)).trans ( (show Xi U23 904 73 = Xi U22 904 73 from by rw [eU23]; exact Xi_ne (by omega)).trans ( (show Xi U22 904 73 = Xi T21 904 73 from by rw [eU22]; exact Xi_ne (by omega)).trans ((show Xi T21 904 73 = Xi T8 904 73 from w431.x _ _ rfl))))
                have w563 : Xi U25 904 74 = Xi T8 904 74 := (show Xi U25 904 74 = Xi U23 904 74 from by rw [eU25]; exact Xi_ne (by omega)).trans ( (show Xi U23 904 74 = Xi U22 904 74 from by rw [eU23]; exact Xi_ne (by omega)).trans ( (show Xi U22 904 74 = Xi T21 904 74 from by rw [eU22]; exact Xi_ne (by omega)).trans ((show Xi T21 904 74 = Xi T8 904 74 from w431.x _ _ rfl))))
                have w565 : Xi U25 904 78 = Xi U22 904 78 := (show Xi U25 904 78 = Xi U23 904 78 from by rw [eU25]; exact Xi_ne (by omega)).trans ((show Xi U23 904 78 = Xi U22 904 78 from by rw [eU23]; exact Xi_ne (by omega)))
                have w567 : Xi U25 904 8 = Xi T21 904 8 := (show Xi U25 904 8 = Xi U23 904 8 from by rw [eU25]; exact Xi_ne (by omega)).trans ( (show Xi U23 904 8 = Xi U22 904 8 from by rw [eU23]; exact Xi_ne (by omega)).trans ((show Xi U22 904 8 = Xi T21 904 8 from by rw [eU22]; exact Xi_ne (by omega))))
                have w569 : Xi U25 904 93 = Xi T8 904 93 := (show Xi U25 904 93 = Xi U23 904 93 from by rw [eU25]; exact Xi_ne (by omega)).trans ( (show Xi U23 904 93 = Xi U22 904 93 from by rw [eU23]; exact Xi_ne (by omega)).trans ( (show Xi U22 904 93 = Xi T21 904 93 from by rw [eU22]; exact Xi_ne (by omega)).trans ((show Xi T21 904 93 = Xi T8 904 93 from w431.x _ _ rfl))))
                exact Rl_weak (C413 _ U25 hHU25 hFU25  (by first | assumption | exact (AT_FR (FR_e eU25) rfl (AT_FR (FR_e eU23) rfl (AT_FR (FR_e eU22) rfl (by assumption : AT T21 _ _))))) (by first | assumption | exact (RNV_FR (FR_e eU25) rfl (RNV_FR (FR_e eU23) rfl (RNV_FR (FR_e eU22) rfl (by assumption : RNV T21 _))))) (by omega) (by omega) (by omega) (by omega) (by omega) (by first | assumption | exact (BDA_FR (FR_e eU25) rfl (BDA_FR (FR_e eU23) rfl (BDA_FR (FR_e eU22) rfl (by assumption : BDA T21))))) rfl) (And.intro rfl (True.intro))
          · refine l_aload_n rfl rfl ?_
            refine l_bipush rfl rfl ?_
            refine l_pfi rfl rfl rfl rfl ?_
            obtain ⟨U26, eU26⟩ : ∃ T : sS, T = uI U23 904 70 (Int32.ofInt 14) := ⟨_, rfl⟩
            rw [← eU26]
            have hHU26 : HI U26 := by rw [eU26]; exact HI_w hHU23 (show 0 ≤ 14 by omega) (show 14 ≤ 20 by omega)
            have hFU26 : FR md_mo_rest__2 S U26 := by rw [eU26]; exact FR.wI hFU23 (mdf_i (r := (904, 905, 70, 71)) (List.mem_of_getElem? (i := 4) rfl) (inR_i (by omega) (by omega) (by omega) (by omega)))
            have w571 : Xi U26 904 70 = 14 := by rw [eU26]; exact Xi_same (by unfold rg; omega)
            refine l_aload_n rfl rfl ?_
            refine l_dup rfl rfl ?_
            refine l_gfi rfl rfl rfl rfl rfl ?_
            have w572 : 0 ≤ (Xi U26 904 8) ∧ (Xi U26 904 8) ≤ 5010 := hHU26.c _ _
            have b370 : (Xi U26 904 8) = Xi U23 904 8 := by rw [eU26, Xi_ne (by omega)]
            refine l_iconst rfl ?_
            refine l_iadd rfl ?_
            refine l_pfi rfl rfl rfl rfl ?_
            obtain ⟨U27, eU27⟩ : ∃ T : sS, T = uI U26 904 8 (Int32.ofInt ((Xi U26 904 8) + 1)) := ⟨_, rfl⟩
            rw [← eU27]
            have hHU27 : HI U27 := by rw [eU27]; exact HI_w hHU26 (show 0 ≤ ((Xi U26 904 8) + 1) by omega) (show ((Xi U26 904 8) + 1) ≤ 5010 by omega)
            have hFU27 : FR md_mo_rest__2 S U27 := by rw [eU27]; exact FR.wI hFU26 (mdf_i (r := (904, 905, 8, 9)) (List.mem_of_getElem? (i := 0) rfl) (inR_i (by omega) (by omega) (by omega) (by omega)))
            have w573 : Xi U27 904 8 = ((Xi U26 904 8) + 1) := by rw [eU27]; exact Xi_same (by unfold rg; omega)
            have t375 : AT U27 n c ∧ _ := (at_mv (S := U23) (P := U26) (TK_FR hFU23 rfl (by assumption : TK S _)) (by first | assumption | exact (AT_FR (FR_e eU23) rfl (AT_FR (FR_e eU22) rfl (by assumption : AT T21 _ _)))) (fun j => ((FR_e eU26).cx 907 rfl j).1) (fun j => ((FR_e eU26).cx 908 rfl j).1) ((show Xi U26 904 8 = Xi U23 904 8 from by rw [eU26]; exact Xi_ne (by omega))) ((show Xi U26 904 65 = Xi U23 904 65 from by rw [eU26]; exact Xi_ne (by omega))) ((show Xi U26 904 69 = Xi U23 904 69 from by rw [eU26]; exact Xi_ne (by omega))) ((show Xi U26 904 93 = Xi U23 904 93 from by rw [eU26]; exact Xi_ne (by omega))) eU27 (by omega) (by omega) (by omega) (by omega) (Or.inl rfl))
            have a375 : AT U27 n c := t375.1
            have l375 := t375.2
            refine l_aload_n rfl rfl ?_
            refine l_aload_n rfl rfl ?_
            have w574 : Xi U27 904 65 = Xi T21 904 65 := (show Xi U27 904 65 = Xi U26 904 65 from by rw [eU27]; exact Xi_ne (by omega)).trans ( (show Xi U26 904 65 = Xi U23 904 65 from by rw [eU26]; exact Xi_ne (by omega)).trans ( (show Xi U23 904 65 = Xi U22 904 65 from by rw [eU23]; exact Xi_ne (by omega)).trans ((show Xi U22 904 65 = Xi T21 904 65 from by rw [eU22]; exact Xi_ne (by omega)))))
            have w576 : Xi U27 904 69 = Xi T21 904 69 := (show Xi U27 904 69 = Xi U26 904 69 from by rw [eU27]; exact Xi_ne (by omega)).trans ( (show Xi U26 904 69 = Xi U23 904 69 from by rw [eU26]; exact Xi_ne (by omega)).trans ( (show Xi U23 904 69 = Xi U22 904 69 from by rw [eU23]; exact Xi_ne (by omega)).trans ((show Xi U22 904 69 = Xi T21 904 69 from by rw [eU22]; exact Xi_ne (by omega)))))
            have w578 : Xi U27 904 70 = Xi U26 904 70 := (show Xi U27 904 70 = Xi U26 904 70 from by rw [eU27]; exact Xi_ne (by omega))
            have w579 : 0 ≤ Xi U26 904 70 ∧ Xi U26 904 70 ≤ 20 := hHU26.c _ _
            have w580 : Xi U27 904 71 = Xi T8 904 71 := (show Xi U27 904 71 = Xi U26 904 71 from by rw [eU27]; exact Xi_ne (by omega)).trans ( (show Xi U26 904 71 = Xi U23 904 71 from by rw [eU26]; exact Xi_ne (by omega)).trans ( (show Xi U23 904 71 = Xi U22 904 71 from by rw [eU23]; exact Xi_ne (by omega)).trans ( (show Xi U22 904 71 = Xi T21 904 71 from by rw [eU22]; exact Xi_ne (by omega)).trans ((show Xi T21 904 71 = Xi T8 904 71 from w431.x _ _ rfl)))))
            have w582 : Xi U27 904 72 = Xi T8 904 72 := (show Xi U27 904 72 = Xi U26 904 72 from by rw [eU27]; exact Xi_ne (by omega)).trans ( (show Xi U26 904 72 = Xi U23 904 72 from by rw [eU26]; exact Xi_ne (by omega)).trans ( (show Xi U23 904 72 = Xi U22 904 72 from by rw [eU23]; exact Xi_ne (by omega)).trans ( (show Xi U22 904 72 = Xi T21 904 72 from by rw [eU22]; exact Xi_ne (by omega)).trans ((show Xi T21 904 72 = Xi T8 904 72 from w431.x _ _ rfl)))))
            have w584 : Xi U27 904 73 = Xi T8 904 73 := (show Xi U27 904 73 = Xi U26 904 73 from by rw [eU27]; exact Xi_ne (by omega)).trans ( (show Xi U26 904 73 = Xi U23 904 73 from by rw [eU26]; exact Xi_ne (by omega)).trans ( (show Xi U23 904 73 = Xi U22 904 73 from by rw [eU23]; exact Xi_ne (by omega)).trans ( (show Xi U22 904 73 = Xi T21 904 73 from by rw [eU22]; exact Xi_ne (by omega)).trans ((show Xi T21 904 73 = Xi T8 904 73 from w431.x _ _ rfl)))))
            have w586 : Xi U27 904 74 = Xi T8 904 74 := (show Xi U27 904 74 = Xi U26 904 74 from by rw [eU27]; exact Xi_ne (by omega)).trans ( (show Xi U26 904 74 = Xi U23 904 74 from by rw [eU26]; exact Xi_ne (by omega)).trans ( (show Xi U23 904 74 = Xi U22 904 74 from by rw [eU23]; exact Xi_ne (by omega)).trans ( (show Xi U22 904 74 = Xi T21 904 74 from by rw [eU22]; exact Xi_ne (by omega)).trans ((show Xi T21 904 74 = Xi T8 904 74 from w431.x _ _ rfl)))))
            have w588 : Xi U27 904 78 = Xi U22 904 78 := (show Xi U27 904 78 = Xi U26 904 78 from by rw [eU27]; exact Xi_ne (by omega)).trans ( (show Xi U26 904 78 = Xi U23 904 78 from by rw [eU26]; exact Xi_ne (by omega)).trans ((show Xi U23 904 78 = Xi U22 904 78 from by rw [eU23]; exact Xi_ne (by omega))))
            have w590 : 0 ≤ Xi U27 904 8 ∧ Xi U27 904 8 ≤ 5010 := hHU27.c _ _
            have w591 : Xi U27 904 93 = Xi T8 904 93 := (show Xi U27 904 93 = Xi U26 904 93 from by rw [eU27]; exact Xi_ne (by omega)).trans ( (show Xi U26 904 93 = Xi U23 904 93 from by rw [eU26]; exact Xi_ne (by omega)).trans ( (show Xi U23 904 93 = Xi U22 904 93 from by rw [eU23]; exact Xi_ne (by omega)).trans ( (show Xi U22 904 93 = Xi T21 904 93 from by rw [eU22]; exact Xi_ne (by omega)).trans ((show Xi T21 904 93 = Xi T8 904 93 from w431.x _ _ rfl)))))
            refine l_callV rfl rfl rfl (t_mo_name__2 hHU27 n c (by first | assumption | exact (TK_FR hFU27 rfl (by assumption : TK S _))) (by first | assumption | exact (by assumption : AT U27 _ _)) (by first | assumption | exact (RNV_FR (FR_e eU27) rfl (RNV_FR (FR_e eU26) rfl (RNV_FR (FR_e eU23) rfl (RNV_FR (FR_e eU22) rfl (by assumption : RNV T21 _)))))) (by first | assumption | exact (BDA_FR (FR_e eU27) rfl (BDA_FR (FR_e eU26) rfl (BDA_FR (FR_e eU23) rfl (BDA_FR (FR_e eU22) rfl (by assumption : BDA T21)))))) _) ?_
            rintro _ T28 ⟨hHT28, w600, z599, rfl, w599, w593, w594, w595, w596, w597, w598⟩
            have hFT28 : FR md_mo_rest__2 S T28 := FR.tr hFU27 w600 rfl
            show Rl _ _ _ _ _ [iv z599, .ref 904] _ _
            have w602 : 0 ≤ Xi T28 904 8 ∧ Xi T28 904 8 ≤ 5010 := hHT28.c _ _
            have w603 : 0 ≤ Xi T28 904 65 ∧ Xi T28 904 65 ≤ 1 := hHT28.c _ _
            have w604 : 0 ≤ Xi T28 904 69 ∧ Xi T28 904 69 ≤ 2600 := hHT28.c _ _
            have w605 : Xi T28 904 93 = Xi T8 904 93 := (show Xi T28 904 93 = Xi U27 904 93 from w600.x _ _ rfl).trans ( (show Xi U27 904 93 = Xi U26 904 93 from by rw [eU27]; exact Xi_ne (by omega)).trans ( (show Xi U26 904 93 = Xi U23 904 93 from by rw [eU26]; exact Xi_ne (by omega)).trans ( (show Xi U23 904 93 = Xi U22 904 93 from by rw [eU23]; exact Xi_ne (by omega)).trans ( (show Xi U22 904 93 = Xi T21 904 93 from by rw [eU22]; exact Xi_ne (by omega)).trans ((show Xi T21 904 93 = Xi T8 904 93 from w431.x _ _ rfl))))))
            have w601 : Xi S 904 8 ≤ Xi T28 904 8 ∧ Xi T28 904 8 ≤ n ∧ Xi S 904 69 ≤ Xi T28 904 69 ∧ (Xi T28 904 65 = 0 → Xi S 904 65 = 0) := by omega
            clear w594 w432
            refine l_pfi rfl rfl rfl rfl ?_
            obtain ⟨U29, eU29⟩ : ∃ T : sS, T = uI T28 904 74 (Int32.ofInt z599) := ⟨_, rfl⟩
            rw [← eU29]
            have hHU29 : HI U29 := by rw [eU29]; exact HI_w hHT28 (show 0 ≤ z599 by omega) (show z599 ≤ 2600 by omega)
            have hFU29 : FR md_mo_rest__2 S U29 := by rw [eU29]; exact FR.wI hFT28 (mdf_i (r := (904, 905, 74, 75)) (List.mem_of_getElem? (i := 6) rfl) (inR_i (by omega) (by omega) (by omega) (by omega)))
            have w607 : Xi U29 904 74 = z599 := by rw [eU29]; exact Xi_same (by unfold rg; omega)
            refine l_goto rfl rfl ?_
            refine l_return rfl rfl ?_
            have w608 : Xi U29 904 65 = Xi T28 904 65 := (show Xi U29 904 65 = Xi T28 904 65 from by rw [eU29]; exact Xi_ne (by omega))
            have w610 : Xi U29 904 69 = Xi T28 904 69 := (show Xi U29 904 69 = Xi T28 904 69 from by rw [eU29]; exact Xi_ne (by omega))
            have w612 : Xi U29 904 70 = Xi U26 904 70 := (show Xi U29 904 70 = Xi T28 904 70 from by rw [eU29]; exact Xi_ne (by omega)).trans ( (show Xi T28 904 70 = Xi U27 904 70 from w600.x _ _ rfl).trans ((show Xi U27 904 70 = Xi U26 904 70 from by rw [eU27]; exact Xi_ne (by omega))))
            have w614 : Xi U29 904 71 = Xi T8 904 71 := (show Xi U29 904 71 = Xi T28 904 71 from by rw [eU29]; exact Xi_ne (by omega)).trans ( (show Xi T28 904 71 = Xi U27 904 71 from w600.x _ _ rfl).trans ( (show Xi U27 904 71 = Xi U26 904 71 from by rw [eU27]; exact Xi_ne (by omega)).trans ( (show Xi U26 904 71 = Xi U23 904 71 from by rw [eU26]; exact Xi_ne (by omega)).trans ( (show Xi U23 904 71 = Xi U22 904 71 from by rw [eU23]; exact Xi_ne (by omega)).trans ( (show Xi U22 904 71 = Xi T21 904 71 from by rw [eU22]; exact Xi_ne (by omega)).trans ((show Xi T21 904 71 = Xi T8 904 71 from w431.x _ _ rfl)))))))
            have w616 : Xi U29 904 72 = Xi T8 904 72 := (show Xi U29 904 72 = Xi T28 904 72 from by rw [eU29]; exact Xi_ne (by omega)).trans ( (show Xi T28 904 72 = Xi U27 904 72 from w600.x _ _ rfl).trans ( (show Xi U27 904 72 = Xi U26 904 72 from by rw [eU27]; exact Xi_ne (by omega)).trans ( (show Xi U26 904 72 = Xi U23 904 72 from by rw [eU26]; exact Xi_ne (by omega)).trans ( (show Xi U23 904 72 = Xi U22 904 72 from by rw [eU23]; exact Xi_ne (by omega)).trans ( (show Xi U22 904 72 = Xi T21 904 72 from by rw [eU22]; exact Xi_ne (by omega)).trans ((show Xi T21 904 72 = Xi T8 904 72 from w431.x _ _ rfl)))))))
            have w618 : Xi U29 904 73 = Xi T8 904 73 := (show Xi U29 904 73 = Xi T28 904 73 from by rw [eU29]; exact Xi_ne (by omega)).trans ( (show Xi T28 904 73 = Xi U27 904 73 from w600.x _ _ rfl).trans ( (show Xi U27 904 73 = Xi U26 904 73 from by rw [eU27]; exact Xi_ne (by omega)).trans ( (show Xi U26 904 73 = Xi U23 904 73 from by rw [eU26]; exact Xi_ne (by omega)).trans ( (show Xi U23 904 73 = Xi U22 904 73 from by rw [eU23]; exact Xi_ne (by omega)).trans ( (show Xi U22 904 73 = Xi T21 904 73 from by rw [eU22]; exact Xi_ne (by omega)).trans ((show Xi T21 904 73 = Xi T8 904 73 from w431.x _ _ rfl)))))))
            have w620 : 0 ≤ Xi U29 904 74 ∧ Xi U29 904 74 ≤ 2600 := hHU29.c _ _
            have w621 : Xi U29 904 78 = Xi U22 904 78 := (show Xi U29 904 78 = Xi T28 904 78 from by rw [eU29]; exact Xi_ne (by omega)).trans ( (show Xi T28 904 78 = Xi U27 904 78 from w600.x _ _ rfl).trans ( (show Xi U27 904 78 = Xi U26 904 78 from by rw [eU27]; exact Xi_ne (by omega)).trans ( (show Xi U26 904 78 = Xi U23 904 78 from by rw [eU26]; exact Xi_ne (by omega)).trans ((show Xi U23 904 78 = Xi U22 904 78 from by rw [eU23]; exact Xi_ne (by omega))))))
            have w623 : Xi U29 904 8 = Xi T28 904 8 := (show Xi U29 904 8 = Xi T28 904 8 from by rw [eU29]; exact Xi_ne (by omega))
            have w625 : Xi U29 904 93 = Xi T8 904 93 := (show Xi U29 904 93 = Xi T28 904 93 from by rw [eU29]; exact Xi_ne (by omega)).trans ( (show Xi T28 904 93 = Xi U27 904 93 from w600.x _ _ rfl).trans ( (show Xi U27 904 93 = Xi U26 904 93 from by rw [eU27]; exact Xi_ne (by omega)).trans ( (show Xi U26 904 93 = Xi U23 904 93 from by rw [eU26]; exact Xi_ne (by omega)).trans ( (show Xi U23 904 93 = Xi U22 904 93 from by rw [eU23]; exact Xi_ne (by omega)).trans ( (show Xi U22 904 93 = Xi T21 904 93 from by rw [eU22]; exact Xi_ne (by omega)).trans ((show Xi T21 904 93 = Xi T8 904 93 from w431.x _ _ rfl)))))))
            exact ⟨hHU29, hFU29, rfl, (by first | assumption | exact (AT_FR (FR_e eU29) rfl (by assumption : AT T28 _ _))), (by omega), (by first | assumption | exact (RNV_FR (FR_e eU29) rfl (by assumption : RNV T28 _))), (by omega), (by omega), (by omega), (fun q => by unfold SNQ; refine ⟨fun q1 => absurd q1 (by omega), by omega, by omega, by omega, fun q9 => absurd q9 (by omega), by omega, by omega, by omega, by omega, by omega⟩), (by omega), (by first | assumption | exact (BDA_FR (FR_e eU29) rfl (by assumption : BDA T28)))⟩
      · refine l_aload_n rfl rfl ?_
        refine l_bipush rfl rfl ?_
        refine l_pfi rfl rfl rfl rfl ?_
        obtain ⟨U30, eU30⟩ : ∃ T : sS, T = uI T8 904 70 (Int32.ofInt 15) := ⟨_, rfl⟩
        rw [← eU30]
        have hHU30 : HI U30 := by rw [eU30]; exact HI_w hHT8 (show 0 ≤ 15 by omega) (show 15 ≤ 20 by omega)
        have hFU30 : FR md_mo_rest__2 S U30 := by rw [eU30]; exact FR.wI hFT8 (mdf_i (r := (904, 905, 70, 71)) (List.mem_of_getElem? (i := 4) rfl) (inR_i (by omega) (by omega) (by omega) (by omega)))
        have w627 : Xi U30 904 70 = 15 := by rw [eU30]; exact Xi_same (by unfold rg; omega)
        refine l_aload_n rfl rfl ?_
        refine l_iload_n rfl rfl ?_
        refine l_bipush rfl rfl ?_
        refine l_icmp_ne rfl rfl (by unfold rg; omega) (by unfold rg; omega) (fun w628 => ?_) (fun w629 => ?_)
        · refine l_iconst rfl ?_
          refine l_pfz rfl rfl rfl rfl (by omega) ?_
          obtain ⟨U31, eU31⟩ : ∃ T : sS, T = uI U30 904 75 (Int32.ofInt 0) := ⟨_, rfl⟩
          rw [← eU31]
          have hHU31 : HI U31 := by rw [eU31]; exact HI_w hHU30 (show 0 ≤ 0 by omega) (show 0 ≤ 1 by omega)
          have hFU31 : FR md_mo_rest__2 S U31 := by rw [eU31]; exact FR.wI hFU30 (mdf_i (r := (904, 905, 75, 76)) (List.mem_of_getElem? (i := 7) rfl) (inR_i (by omega) (by omega) (by omega) (by omega)))
          have w630 : Xi U31 904 75 = 0 := by rw [eU31]; exact Xi_same (by unfold rg; omega)
          refine l_aload_n rfl rfl ?_
          refine l_iload_n rfl rfl ?_
          refine l_sipush rfl rfl ?_
          refine l_icmp_ne rfl rfl (by unfold rg; omega) (by unfold rg; omega) (fun w631 => ?_) (fun w632 => ?_)
          · refine l_iconst rfl ?_
            refine l_pfz rfl rfl rfl rfl (by omega) ?_
            obtain ⟨U32, eU32⟩ : ∃ T : sS, T = uI U31 904 76 (Int32.ofInt 0) := ⟨_, rfl⟩
            rw [← eU32]
            have hHU32 : HI U32 := by rw [eU32]; exact HI_w hHU31 (show 0 ≤ 0 by omega) (show 0 ≤ 1 by omega)
            have hFU32 : FR md_mo_rest__2 S U32 := by rw [eU32]; exact FR.wI hFU31 (mdf_i (r := (904, 905, 76, 77)) (List.mem_of_getElem? (i := 8) rfl) (inR_i (by omega) (by omega) (by omega) (by omega)))
            have w633 : Xi U32 904 76 = 0 := by rw [eU32]; exact Xi_same (by unfold rg; omega)
            have w634 : Xi U32 904 65 = Xi T8 904 65 := (show Xi U32 904 65 = Xi U31 904 65 from by rw [eU32]; exact Xi_ne (by omega)).trans ( (show Xi U31 904 65 = Xi U30 904 65 from by rw [eU31]; exact Xi_ne (by omega)).trans ((show Xi U30 904 65 = Xi T8 904 65 from by rw [eU30]; exact Xi_ne (by omega))))
            have w636 : Xi U32 904 69 = Xi T8 904 69 := (show Xi U32 904 69 = Xi U31 904 69 from by rw [eU32]; exact Xi_ne (by omega)).trans ( (show Xi U31 904 69 = Xi U30 904 69 from by rw [eU31]; exact Xi_ne (by omega)).trans ((show Xi U30 904 69 = Xi T8 904 69 from by rw [eU30]; exact Xi_ne (by omega))))
            have w638 : Xi U32 904 70 = Xi U30 904 70 := (show Xi U32 904 70 = Xi U31 904 70 from by rw [eU32]; exact Xi_ne (by omega)).trans ((show Xi U31 904 70 = Xi U30 904 70 from by rw [eU31]; exact Xi_ne (by omega)))
            have w639 : 0 ≤ Xi U30 904 70 ∧ Xi U30 904 70 ≤ 20 := hHU30.c _ _
            have w640 : Xi U32 904 71 = Xi T8 904 71 := (show Xi U32 904 71 = Xi U31 904 71 from by rw [eU32]; exact Xi_ne (by omega)).trans ( (show Xi U31 904 71 = Xi U30 904 71 from by rw [eU31]; exact Xi_ne (by omega)).trans ((show Xi U30 904 71 = Xi T8 904 71 from by rw [eU30]; exact Xi_ne (by omega))))
            have w642 : Xi U32 904 72 = Xi T8 904 72 := (show Xi U32 904 72 = Xi U31 904 72 from by rw [eU32]; exact Xi_ne (by omega)).trans ( (show Xi U31 904 72 = Xi U30 904 72 from by rw [eU31]; exact Xi_ne (by omega)).trans ((show Xi U30 904 72 = Xi T8 904 72 from by rw [eU30]; exact Xi_ne (by omega))))
            have w644 : Xi U32 904 73 = Xi T8 904 73 := (show Xi U32 904 73 = Xi U31 904 73 from by rw [eU32]; exact Xi_ne (by omega)).trans ( (show Xi U31 904 73 = Xi U30 904 73 from by rw [eU31]; exact Xi_ne (by omega)).trans ((show Xi U30 904 73 = Xi T8 904 73 from by rw [eU30]; exact Xi_ne (by omega))))
            have w646 : Xi U32 904 74 = Xi T8 904 74 := (show Xi U32 904 74 = Xi U31 904 74 from by rw [eU32]; exact Xi_ne (by omega)).trans ( (show Xi U31 904 74 = Xi U30 904 74 from by rw [eU31]; exact Xi_ne (by omega)).trans ((show Xi U30 904 74 = Xi T8 904 74 from by rw [eU30]; exact Xi_ne (by omega))))
            have w648 : Xi U32 904 78 = Xi T8 904 78 := (show Xi U32 904 78 = Xi U31 904 78 from by rw [eU32]; exact Xi_ne (by omega)).trans ( (show Xi U31 904 78 = Xi U30 904 78 from by rw [eU31]; exact Xi_ne (by omega)).trans ((show Xi U30 904 78 = Xi T8 904 78 from by rw [eU30]; exact Xi_ne (by omega))))
            have w650 : Xi U32 904 8 = Xi T8 904 8 := (show Xi U32 904 8 = Xi U31 904 8 from by rw [eU32]; exact Xi_ne (by omega)).trans ( (show Xi U31 904 8 = Xi U30 904 8 from by rw [eU31]; exact Xi_ne (by omega)).trans ((show Xi U30 904 8 = Xi T8 904 8 from by rw [eU30]; exact Xi_ne (by omega))))
            have w652 : Xi U32 904 93 = Xi T8 904 93 := (show Xi U32 904 93 = Xi U31 904 93 from by rw [eU32]; exact Xi_ne (by omega)).trans ( (show Xi U31 904 93 = Xi U30 904 93 from by rw [eU31]; exact Xi_ne (by omega)).trans ((show Xi U30 904 93 = Xi T8 904 93 from by rw [eU30]; exact Xi_ne (by omega))))
            exact Rl_weak (C313 U32 hHU32 hFU32  (by first | assumption | exact (AT_FR (FR_e eU32) rfl (AT_FR (FR_e eU31) rfl (AT_FR (FR_e eU30) rfl (by assumption : AT T8 _ _))))) (by first | assumption | exact (RNV_FR (FR_e eU32) rfl (RNV_FR (FR_e eU31) rfl (RNV_FR (FR_e eU30) rfl (by assumption : RNV T8 _))))) (by omega) (by omega) (by omega) (by omega) (by omega) (by omega) (by rw [(fun j => ((FR_e eU32).cx 907 rfl j).1.trans (((FR_e eU31).cx 907 rfl j).1.trans (((FR_e eU30).cx 907 rfl j).1))) (Xi U32 904 8).toNat, show Xi U32 904 8 = Xi T8 904 8 by omega]; omega) (by first | assumption | exact (BDA_FR (FR_e eU32) rfl (BDA_FR (FR_e eU31) rfl (BDA_FR (FR_e eU30) rfl (by assumption : BDA T8)))))) (And.intro rfl (True.intro))
          · refine l_iconst rfl ?_
            refine l_goto rfl rfl ?_
            refine l_pfz rfl rfl rfl rfl (by omega) ?_
            obtain ⟨U33, eU33⟩ : ∃ T : sS, T = uI U31 904 76 (Int32.ofInt 1) := ⟨_, rfl⟩
            rw [← eU33]
            have hHU33 : HI U33 := by rw [eU33]; exact HI_w hHU31 (show 0 ≤ 1 by omega) (show 1 ≤ 1 by omega)
            have hFU33 : FR md_mo_rest__2 S U33 := by rw [eU33]; exact FR.wI hFU31 (mdf_i (r := (904, 905, 76, 77)) (List.mem_of_getElem? (i := 8) rfl) (inR_i (by omega) (by omega) (by omega) (by omega)))
            have w654 : Xi U33 904 76 = 1 := by rw [eU33]; exact Xi_same (by unfold rg; omega)
            have w655 : Xi U33 904 65 = Xi T8 904 65 := (show Xi U33 904 65 = Xi U31 904 65 from by rw [eU33]; exact Xi_ne (by omega)).trans ( (show Xi U31 904 65 = Xi U30 904 65 from by rw [eU31]; exact Xi_ne (by omega)).trans ((show Xi U30 904 65 = Xi T8 904 65 from by rw [eU30]; exact Xi_ne (by omega))))
            have w657 : Xi U33 904 69 = Xi T8 904 69 := (show Xi U33 904 69 = Xi U31 904 69 from by rw [eU33]; exact Xi_ne (by omega)).trans ( (show Xi U31 904 69 = Xi U30 904 69 from by rw [eU31]; exact Xi_ne (by omega)).trans ((show Xi U30 904 69 = Xi T8 904 69 from by rw [eU30]; exact Xi_ne (by omega))))
            have w659 : Xi U33 904 70 = Xi U30 904 70 := (show Xi U33 904 70 = Xi U31 904 70 from by rw [eU33]; exact Xi_ne (by omega)).trans ((show Xi U31 904 70 = Xi U30 904 70 from by rw [eU31]; exact Xi_ne (by omega)))
            have w660 : 0 ≤ Xi U30 904 70 ∧ Xi U30 904 70 ≤ 20 := hHU30.c _ _
            have w661 : Xi U33 904 71 = Xi T8 904 71 := (show Xi U33 904 71 = Xi U31 904 71 from by rw [eU33]; exact Xi_ne (by omega)).trans ( (show Xi U31 904 71 = Xi U30 904 71 from by rw [eU31]; exact Xi_ne (by omega)).trans ((show Xi U30 904 71 = Xi T8 904 71 from by rw [eU30]; exact Xi_ne (by omega))))
            have w663 : Xi U33 904 72 = Xi T8 904 72 := (show Xi U33 904 72 = Xi U31 904 72 from by rw [eU33]; exact Xi_ne (by omega)).trans ( (show Xi U31 904 72 = Xi U30 904 72 from by rw [eU31]; exact Xi_ne (by omega)).trans ((show Xi U30 904 72 = Xi T8 904 72 from by rw [eU30]; exact Xi_ne (by omega))))
            have w665 : Xi U33 904 73 = Xi T8 904 73 := (show Xi U33 904 73 = Xi U31 904 73 from by rw [eU33]; exact Xi_ne (by omega)).trans ( (show Xi U31 904 73 = Xi U30 904 73 from by rw [eU31]; exact Xi_ne (by omega)).trans ((show Xi U30 904 73 = Xi T8 904 73 from by rw [eU30]; exact Xi_ne (by omega))))
            have w667 : Xi U33 904 74 = Xi T8 904 74 := (show Xi U33 904 74 = Xi U31 904 74 from by rw [eU33]; exact Xi_ne (by omega)).trans ( (show Xi U31 904 74 = Xi U30 904 74 from by rw [eU31]; exact Xi_ne (by omega)).trans ((show Xi U30 904 74 = Xi T8 904 74 from by rw [eU30]; exact Xi_ne (by omega))))
            have w669 : Xi U33 904 78 = Xi T8 904 78 := (show Xi U33 904 78 = Xi U31 904 78 from by rw [eU33]; exact Xi_ne (by omega)).trans ( (show Xi U31 904 78 = Xi U30 904 78 from by rw [eU31]; exact Xi_ne (by omega)).trans ((show Xi U30 904 78 = Xi T8 904 78 from by rw [eU30]; exact Xi_ne (by omega))))
            have w671 : Xi U33 904 8 = Xi T8 904 8 := (show Xi U33 904 8 = Xi U31 904 8 from by rw [eU33]; exact Xi_ne (by omega)).trans ( (show Xi U31 904 8 = Xi U30 904 8 from by rw [eU31]; exact Xi_ne (by omega)).trans ((show Xi U30 904 8 = Xi T8 904 8 from by rw [eU30]; exact Xi_ne (by omega))))
            have w673 : Xi U33 904 93 = Xi T8 904 93 := (show Xi U33 904 93 = Xi U31 904 93 from by rw [eU33]; exact Xi_ne (by omega)).trans ( (show Xi U31 904 93 = Xi U30 904 93 from by rw [eU31]; exact Xi_ne (by omega)).trans ((show Xi U30 904 93 = Xi T8 904 93 from by rw [eU30]; exact Xi_ne (by omega))))
            exact Rl_weak (C313 U33 hHU33 hFU33  (by first | assumption | exact (AT_FR (FR_e eU33) rfl (AT_FR (FR_e eU31) rfl (AT_FR (FR_e eU30) rfl (by assumption : AT T8 _ _))))) (by first | assumption | exact (RNV_FR (FR_e eU33) rfl (RNV_FR (FR_e eU31) rfl (RNV_FR (FR_e eU30) rfl (by assumption : RNV T8 _))))) (by omega) (by omega) (by omega) (by omega) (by omega) (by omega) (by rw [(fun j => ((FR_e eU33).cx 907 rfl j).1.trans (((FR_e eU31).cx 907 rfl j).1.trans (((FR_e eU30).cx 907 rfl j).1))) (Xi U33 904 8).toNat, show Xi U33 904 8 = Xi T8 904 8 by omega]; omega) (by first | assumption | exact (BDA_FR (FR_e eU33) rfl (BDA_FR (FR_e eU31) rfl (BDA_FR (FR_e eU30) rfl (by assumption : BDA T8)))))) (And.intro rfl (True.intro))
        · refine l_iconst rfl ?_
          refine l_goto rfl rfl ?_
          refine l_pfz rfl rfl rfl rfl (by omega) ?_
          obtain ⟨U34, eU34⟩ : ∃ T : sS, T = uI U30 904 75 (Int32.ofInt 1) := ⟨_, rfl⟩
          rw [← eU34]
          have hHU34 : HI U34 := by rw [eU34]; exact HI_w hHU30 (show 0 ≤ 1 by omega) (show 1 ≤ 1 by omega)
          have hFU34 : FR md_mo_rest__2 S U34 := by rw [eU34]; exact FR.wI hFU30 (mdf_i (r := (904, 905, 75, 76)) (List.mem_of_getElem? (i := 7) rfl) (inR_i (by omega) (by omega) (by omega) (by omega)))
          have w675 : Xi U34 904 75 = 1 := by rw [eU34]; exact Xi_same (by unfold rg; omega)
          refine l_aload_n rfl rfl ?_
          refine l_iload_n rfl rfl ?_
          refine l_sipush rfl rfl ?_
          refine l_icmp_ne rfl rfl (by unfold rg; omega) (by unfold rg; omega) (fun w676 => ?_) (fun w677 => ?_)
          · refine l_iconst rfl ?_
            refine l_pfz rfl rfl rfl rfl (by omega) ?_
            obtain ⟨U35, eU35⟩ : ∃ T : sS, T = uI U34 904 76 (Int32.ofInt 0) := ⟨_, rfl⟩
            rw [← eU35]
            have hHU35 : HI U35 := by rw [eU35]; exact HI_w hHU34 (show 0 ≤ 0 by omega) (show 0 ≤ 1 by omega)
            have hFU35 : FR md_mo_rest__2 S U35 := by rw [eU35]; exact FR.wI hFU34 (mdf_i (r := (904, 905, 76, 77)) (List.mem_of_getElem? (i := 8) rfl) (inR_i (by omega) (by omega) (by omega) (by omega)))
            have w678 : Xi U35 904 76 = 0 := by rw [eU35]; exact Xi_same (by unfold rg; omega)
            have w679 : Xi U35 904 65 = Xi T8 904 65 := (show Xi U35 904 65 = Xi U34 904 65 from by rw [eU35]; exact Xi_ne (by omega)).trans ( (show Xi U34 904 65 = Xi U30 904 65 from by rw [eU34]; exact Xi_ne (by omega)).trans ((show Xi U30 904 65 = Xi T8 904 65 from by rw [eU30]; exact Xi_ne (by omega))))
            have w681 : Xi U35 904 69 = Xi T8 904 69 := (show Xi U35 904 69 = Xi U34 904 69 from by rw [eU35]; exact Xi_ne (by omega)).trans ( (show Xi U34 904 69 = Xi U30 904 69 from by rw [eU34]; exact Xi_ne (by omega)).trans ((show Xi U30 904 69 = Xi T8 904 69 from by rw [eU30]; exact Xi_ne (by omega))))
            have w683 : Xi U35 904 70 = Xi U30 904 70 := (show Xi U35 904 70 = Xi U34 904 70 from by rw [eU35]; exact Xi_ne (by omega)).trans ((show Xi U34 904 70 = Xi U30 904 70 from by rw [eU34]; exact Xi_ne (by omega)))
            have w684 : 0 ≤ Xi U30 904 70 ∧ Xi U30 904 70 ≤ 20 := hHU30.c _ _
            have w685 : Xi U35 904 71 = Xi T8 904 71 := (show Xi U35 904 71 = Xi U34 904 71 from by rw [eU35]; exact Xi_ne (by omega)).trans ( (show Xi U34 904 71 = Xi U30 904 71 from by rw [eU34]; exact Xi_ne (by omega)).trans ((show Xi U30 904 71 = Xi T8 904 71 from by rw [eU30]; exact Xi_ne (by omega))))
            have w687 : Xi U35 904 72 = Xi T8 904 72 := (show Xi U35 904 72 = Xi U34 904 72 from by rw [eU35]; exact Xi_ne (by omega)).trans ( (show Xi U34 904 72 = Xi U30 904 72 from by rw [eU34]; exact Xi_ne (by omega)).trans ((show Xi U30 904 72 = Xi T8 904 72 from by rw [eU30]; exact Xi_ne (by omega))))
            have w689 : Xi U35 904 73 = Xi T8 904 73 := (show Xi U35 904 73 = Xi U34 904 73 from by rw [eU35]; exact Xi_ne (by omega)).trans ( (show Xi U34 904 73 = Xi U30 904 73 from by rw [eU34]; exact Xi_ne (by omega)).trans ((show Xi U30 904 73 = Xi T8 904 73 from by rw [eU30]; exact Xi_ne (by omega))))
            have w691 : Xi U35 904 74 = Xi T8 904 74 := (show Xi U35 904 74 = Xi U34 904 74 from by rw [eU35]; exact Xi_ne (by omega)).trans ( (show Xi U34 904 74 = Xi U30 904 74 from by rw [eU34]; exact Xi_ne (by omega)).trans ((show Xi U30 904 74 = Xi T8 904 74 from by rw [eU30]; exact Xi_ne (by omega))))
            have w693 : Xi U35 904 78 = Xi T8 904 78 := (show Xi U35 904 78 = Xi U34 904 78 from by rw [eU35]; exact Xi_ne (by omega)).trans ( (show Xi U34 904 78 = Xi U30 904 78 from by rw [eU34]; exact Xi_ne (by omega)).trans ((show Xi U30 904 78 = Xi T8 904 78 from by rw [eU30]; exact Xi_ne (by omega))))
            have w695 : Xi U35 904 8 = Xi T8 904 8 := (show Xi U35 904 8 = Xi U34 904 8 from by rw [eU35]; exact Xi_ne (by omega)).trans ( (show Xi U34 904 8 = Xi U30 904 8 from by rw [eU34]; exact Xi_ne (by omega)).trans ((show Xi U30 904 8 = Xi T8 904 8 from by rw [eU30]; exact Xi_ne (by omega))))
            have w697 : Xi U35 904 93 = Xi T8 904 93 := (show Xi U35 904 93 = Xi U34 904 93 from by rw [eU35]; exact Xi_ne (by omega)).trans ( (show Xi U34 904 93 = Xi U30 904 93 from by rw [eU34]; exact Xi_ne (by omega)).trans ((show Xi U30 904 93 = Xi T8 904 93 from by rw [eU30]; exact Xi_ne (by omega))))
            exact Rl_weak (C313 U35 hHU35 hFU35  (by first | assumption | exact (AT_FR (FR_e eU35) rfl (AT_FR (FR_e eU34) rfl (AT_FR (FR_e eU30) rfl (by assumption : AT T8 _ _))))) (by first | assumption | exact (RNV_FR (FR_e eU35) rfl (RNV_FR (FR_e eU34) rfl (RNV_FR (FR_e eU30) rfl (by assumption : RNV T8 _))))) (by omega) (by omega) (by omega) (by omega) (by omega) (by omega) (by rw [(fun j => ((FR_e eU35).cx 907 rfl j).1.trans (((FR_e eU34).cx 907 rfl j).1.trans (((FR_e eU30).cx 907 rfl j).1))) (Xi U35 904 8).toNat, show Xi U35 904 8 = Xi T8 904 8 by omega]; omega) (by first | assumption | exact (BDA_FR (FR_e eU35) rfl (BDA_FR (FR_e eU34) rfl (BDA_FR (FR_e eU30) rfl (by assumption : BDA T8)))))) (And.intro rfl (True.intro))
          · refine l_iconst rfl ?_
            refine l_goto rfl rfl ?_
            refine l_pfz rfl rfl rfl rfl (by omega) ?_
            obtain ⟨U36, eU36⟩ : ∃ T : sS, T = uI U34 904 76 (Int32.ofInt 1) := ⟨_, rfl⟩
            rw [← eU36]
            have hHU36 : HI U36 := by rw [eU36]; exact HI_w hHU34 (show 0 ≤ 1 by omega) (show 1 ≤ 1 by omega)
            have hFU36 : FR md_mo_rest__2 S U36 := by rw [eU36]; exact FR.wI hFU34 (mdf_i (r := (904, 905, 76, 77)) (List.mem_of_getElem? (i := 8) rfl) (inR_i (by omega) (by omega) (by omega) (by omega)))
            have w699 : Xi U36 904 76 = 1 := by rw [eU36]; exact Xi_same (by unfold rg; omega)
            have w700 : Xi U36 904 65 = Xi T8 904 65 := (show Xi U36 904 65 = Xi U34 904 65 from by rw [eU36]; exact Xi_ne (by omega)).trans ( (show Xi U34 904 65 = Xi U30 904 65 from by rw [eU34]; exact Xi_ne (by omega)).trans ((show Xi U30 904 65 = Xi T8 904 65 from by rw [eU30]; exact Xi_ne (by omega))))
            have w702 : Xi U36 904 69 = Xi T8 904 69 := (show Xi U36 904 69 = Xi U34 904 69 from by rw [eU36]; exact Xi_ne (by omega)).trans ( (show Xi U34 904 69 = Xi U30 904 69 from by rw [eU34]; exact Xi_ne (by omega)).trans ((show Xi U30 904 69 = Xi T8 904 69 from by rw [eU30]; exact Xi_ne (by omega))))
            have w704 : Xi U36 904 70 = Xi U30 904 70 := (show Xi U36 904 70 = Xi U34 904 70 from by rw [eU36]; exact Xi_ne (by omega)).trans ((show Xi U34 904 70 = Xi U30 904 70 from by rw [eU34]; exact Xi_ne (by omega)))
            have w705 : 0 ≤ Xi U30 904 70 ∧ Xi U30 904 70 ≤ 20 := hHU30.c _ _
            have w706 : Xi U36 904 71 = Xi T8 904 71 := (show Xi U36 904 71 = Xi U34 904 71 from by rw [eU36]; exact Xi_ne (by omega)).trans ( (show Xi U34 904 71 = Xi U30 904 71 from by rw [eU34]; exact Xi_ne (by omega)).trans ((show Xi U30 904 71 = Xi T8 904 71 from by rw [eU30]; exact Xi_ne (by omega))))
            have w708 : Xi U36 904 72 = Xi T8 904 72 := (show Xi U36 904 72 = Xi U34 904 72 from by rw [eU36]; exact Xi_ne (by omega)).trans ( (show Xi U34 904 72 = Xi U30 904 72 from by rw [eU34]; exact Xi_ne (by omega)).trans ((show Xi U30 904 72 = Xi T8 904 72 from by rw [eU30]; exact Xi_ne (by omega))))
            have w710 : Xi U36 904 73 = Xi T8 904 73 := (show Xi U36 904 73 = Xi U34 904 73 from by rw [eU36]; exact Xi_ne (by omega)).trans ( (show Xi U34 904 73 = Xi U30 904 73 from by rw [eU34]; exact Xi_ne (by omega)).trans ((show Xi U30 904 73 = Xi T8 904 73 from by rw [eU30]; exact Xi_ne (by omega))))
            have w712 : Xi U36 904 74 = Xi T8 904 74 := (show Xi U36 904 74 = Xi U34 904 74 from by rw [eU36]; exact Xi_ne (by omega)).trans ( (show Xi U34 904 74 = Xi U30 904 74 from by rw [eU34]; exact Xi_ne (by omega)).trans ((show Xi U30 904 74 = Xi T8 904 74 from by rw [eU30]; exact Xi_ne (by omega))))
            have w714 : Xi U36 904 78 = Xi T8 904 78 := (show Xi U36 904 78 = Xi U34 904 78 from by rw [eU36]; exact Xi_ne (by omega)).trans ( (show Xi U34 904 78 = Xi U30 904 78 from by rw [eU34]; exact Xi_ne (by omega)).trans ((show Xi U30 904 78 = Xi T8 904 78 from by rw [eU30]; exact Xi_ne (by omega))))
            have w716 : Xi U36 904 8 = Xi T8 904 8 := (show Xi U36 904 8 = Xi U34 904 8 from by rw [eU36]; exact Xi_ne (by omega)).trans ( (show Xi U34 904 8 = Xi U30 904 8 from by rw [eU34]; exact Xi_ne (by omega)).trans ((show Xi U30 904 8 = Xi T8 904 8 from by rw [eU30]; exact Xi_ne (by omega))))
            have w718 : Xi U36 904 93 = Xi T8 904 93 := (show Xi U36 904 93 = Xi U34 904 93 from by rw [eU36]; exact Xi_ne (by omega)).trans ( (show Xi U34 904 93 = Xi U30 904 93 from by rw [eU34]; exact Xi_ne (by omega)).trans ((show Xi U30 904 93 = Xi T8 904 93 from by rw [eU30]; exact Xi_ne (by omega))))
            exact Rl_weak (C313 U36 hHU36 hFU36  (by first | assumption | exact (AT_FR (FR_e eU36) rfl (AT_FR (FR_e eU34) rfl (AT_FR (FR_e eU30) rfl (by assumption : AT T8 _ _))))) (by first | assumption | exact (RNV_FR (FR_e eU36) rfl (RNV_FR (FR_e eU34) rfl (RNV_FR (FR_e eU30) rfl (by assumption : RNV T8 _))))) (by omega) (by omega) (by omega) (by omega) (by omega) (by omega) (by rw [(fun j => ((FR_e eU36).cx 907 rfl j).1.trans (((FR_e eU34).cx 907 rfl j).1.trans (((FR_e eU30).cx 907 rfl j).1))) (Xi U36 904 8).toNat, show Xi U36 904 8 = Xi T8 904 8 by omega]; omega) (by first | assumption | exact (BDA_FR (FR_e eU36) rfl (BDA_FR (FR_e eU34) rfl (BDA_FR (FR_e eU30) rfl (by assumption : BDA T8)))))) (And.intro rfl (True.intro))
  · refine l_aload_n rfl rfl ?_
    refine l_bipush rfl rfl ?_
    refine l_pfi rfl rfl rfl rfl ?_
    obtain ⟨U37, eU37⟩ : ∃ T : sS, T = uI T8 904 70 (Int32.ofInt 12) := ⟨_, rfl⟩
    rw [← eU37]
    have hHU37 : HI U37 := by rw [eU37]; exact HI_w hHT8 (show 0 ≤ 12 by omega) (show 12 ≤ 20 by omega)
    have hFU37 : FR md_mo_rest__2 S U37 := by rw [eU37]; exact FR.wI hFT8 (mdf_i (r := (904, 905, 70, 71)) (List.mem_of_getElem? (i := 4) rfl) (inR_i (by omega) (by omega) (by omega) (by omega)))
    have w720 : Xi U37 904 70 = 12 := by rw [eU37]; exact Xi_same (by unfold rg; omega)
    refine l_aload_n rfl rfl ?_
    refine l_dup rfl rfl ?_
    refine l_gfi rfl rfl rfl rfl rfl ?_
    have w721 : (Xi U37 904 8) = (Xi T8 904 8) := (show Xi U37 904 8 = Xi T8 904 8 from by rw [eU37]; exact Xi_ne (by omega))
    rw [w721]
    refine l_iconst rfl ?_
    refine l_iadd rfl ?_
    refine l_pfi rfl rfl rfl rfl ?_
    obtain ⟨U38, eU38⟩ : ∃ T : sS, T = uI U37 904 8 (Int32.ofInt ((Xi T8 904 8) + 1)) := ⟨_, rfl⟩
    rw [← eU38]
    have hHU38 : HI U38 := by rw [eU38]; exact HI_w hHU37 (show 0 ≤ ((Xi T8 904 8) + 1) by omega) (show ((Xi T8 904 8) + 1) ≤ 5010 by omega)
    have hFU38 : FR md_mo_rest__2 S U38 := by rw [eU38]; exact FR.wI hFU37 (mdf_i (r := (904, 905, 8, 9)) (List.mem_of_getElem? (i := 0) rfl) (inR_i (by omega) (by omega) (by omega) (by omega)))
    have w722 : Xi U38 904 8 = ((Xi T8 904 8) + 1) := by rw [eU38]; exact Xi_same (by unfold rg; omega)
    have t217 : AT U38 n c ∧ _ := (at_mv (S := T8) (P := U37) (TK_FR hFT8 rfl (by assumption : TK S _)) (by first | assumption | exact (by assumption : AT T8 _ _)) (fun j => ((FR_e eU37).cx 907 rfl j).1) (fun j => ((FR_e eU37).cx 908 rfl j).1) ((show Xi U37 904 8 = Xi T8 904 8 from by rw [eU37]; exact Xi_ne (by omega))) ((show Xi U37 904 65 = Xi T8 904 65 from by rw [eU37]; exact Xi_ne (by omega))) ((show Xi U37 904 69 = Xi T8 904 69 from by rw [eU37]; exact Xi_ne (by omega))) ((show Xi U37 904 93 = Xi T8 904 93 from by rw [eU37]; exact Xi_ne (by omega))) eU38 (by omega) (by omega) (by omega) (by omega) (Or.inl rfl))
    have a217 : AT U38 n c := t217.1
    have l217 := t217.2
    refine l_aload_n rfl rfl ?_
    refine l_aload_n rfl rfl ?_
    have w723 : Xi U38 904 65 = Xi T8 904 65 := (show Xi U38 904 65 = Xi U37 904 65 from by rw [eU38]; exact Xi_ne (by omega)).trans ((show Xi U37 904 65 = Xi T8 904 65 from by rw [eU37]; exact Xi_ne (by omega)))
    have w725 : Xi U38 904 69 = Xi T8 904 69 := (show Xi U38 904 69 = Xi U37 904 69 from by rw [eU38]; exact Xi_ne (by omega)).trans ((show Xi U37 904 69 = Xi T8 904 69 from by rw [eU37]; exact Xi_ne (by omega)))
    have w727 : Xi U38 904 70 = Xi U37 904 70 := (show Xi U38 904 70 = Xi U37 904 70 from by rw [eU38]; exact Xi_ne (by omega))
    have w728 : 0 ≤ Xi U37 904 70 ∧ Xi U37 904 70 ≤ 20 := hHU37.c _ _
    have w729 : Xi U38 904 71 = Xi T8 904 71 := (show Xi U38 904 71 = Xi U37 904 71 from by rw [eU38]; exact Xi_ne (by omega)).trans ((show Xi U37 904 71 = Xi T8 904 71 from by rw [eU37]; exact Xi_ne (by omega)))
    have w731 : Xi U38 904 72 = Xi T8 904 72 := (show Xi U38 904 72 = Xi U37 904 72 from by rw [eU38]; exact Xi_ne (by omega)).trans ((show Xi U37 904 72 = Xi T8 904 72 from by rw [eU37]; exact Xi_ne (by omega)))
    have w733 : Xi U38 904 73 = Xi T8 904 73 := (show Xi U38 904 73 = Xi U37 904 73 from by rw [eU38]; exact Xi_ne (by omega)).trans ((show Xi U37 904 73 = Xi T8 904 73 from by rw [eU37]; exact Xi_ne (by omega)))
    have w735 : Xi U38 904 74 = Xi T8 904 74 := (show Xi U38 904 74 = Xi U37 904 74 from by rw [eU38]; exact Xi_ne (by omega)).trans ((show Xi U37 904 74 = Xi T8 904 74 from by rw [eU37]; exact Xi_ne (by omega)))
    have w737 : Xi U38 904 78 = Xi T8 904 78 := (show Xi U38 904 78 = Xi U37 904 78 from by rw [eU38]; exact Xi_ne (by omega)).trans ((show Xi U37 904 78 = Xi T8 904 78 from by rw [eU37]; exact Xi_ne (by omega)))
    have w739 : 0 ≤ Xi U38 904 8 ∧ Xi U38 904 8 ≤ 5010 := hHU38.c _ _
    have w740 : Xi U38 904 93 = Xi T8 904 93 := (show Xi U38 904 93 = Xi U37 904 93 from by rw [eU38]; exact Xi_ne (by omega)).trans ((show Xi U37 904 93 = Xi T8 904 93 from by rw [eU37]; exact Xi_ne (by omega)))
    refine l_callV rfl rfl rfl (t_mo_run__2 hHU38 n c (by first | assumption | exact (TK_FR hFU38 rfl (by assumption : TK S _))) (by first | assumption | exact (by assumption : AT U38 _ _)) (by first | assumption | exact (RNV_FR (FR_e eU38) rfl (RNV_FR (FR_e eU37) rfl (by assumption : RNV T8 _)))) (by first | assumption | exact (BDA_FR (FR_e eU38) rfl (BDA_FR (FR_e eU37) rfl (by assumption : BDA T8)))) _) ?_
    rintro _ T39 ⟨hHT39, w749, z748, rfl, w748, w742, w743, w744, w745, w746, w747⟩
    have hFT39 : FR md_mo_rest__2 S T39 := FR.tr hFU38 w749 rfl
    show Rl _ _ _ _ _ [iv z748, .ref 904] _ _
    have w751 : 0 ≤ Xi T39 904 8 ∧ Xi T39 904 8 ≤ 5010 := hHT39.c _ _
    have w752 : 0 ≤ Xi T39 904 65 ∧ Xi T39 904 65 ≤ 1 := hHT39.c _ _
    have w753 : 0 ≤ Xi T39 904 69 ∧ Xi T39 904 69 ≤ 2600 := hHT39.c _ _
    have w754 : Xi T39 904 93 = Xi T8 904 93 := (show Xi T39 904 93 = Xi U38 904 93 from w749.x _ _ rfl).trans ( (show Xi U38 904 93 = Xi U37 904 93 from by rw [eU38]; exact Xi_ne (by omega)).trans ((show Xi U37 904 93 = Xi T8 904 93 from by rw [eU37]; exact Xi_ne (by omega))))
    have w750 : Xi S 904 8 ≤ Xi T39 904 8 ∧ Xi T39 904 8 ≤ n ∧ Xi S 904 69 ≤ Xi T39 904 69 ∧ (Xi T39 904 65 = 0 → Xi S 904 65 = 0) := by omega
    clear w743
    refine l_pfi rfl rfl rfl rfl ?_
    obtain ⟨U40, eU40⟩ : ∃ T : sS, T = uI T39 904 78 (Int32.ofInt z748) := ⟨_, rfl⟩
    rw [← eU40]
    have hHU40 : HI U40 := by rw [eU40]; exact HI_w hHT39 (show -2 ≤ z748 by omega) (show z748 ≤ 5010 by omega)
    have hFU40 : FR md_mo_rest__2 S U40 := by rw [eU40]; exact FR.wI hFT39 (mdf_i (r := (904, 905, 78, 79)) (List.mem_of_getElem? (i := 9) rfl) (inR_i (by omega) (by omega) (by omega) (by omega)))
    have w756 : Xi U40 904 78 = z748 := by rw [eU40]; exact Xi_same (by unfold rg; omega)
    refine l_aload_n rfl rfl ?_
    refine l_bipush rfl rfl ?_
    have w757 : Xi U40 904 65 = Xi T39 904 65 := (show Xi U40 904 65 = Xi T39 904 65 from by rw [eU40]; exact Xi_ne (by omega))
    have w759 : Xi U40 904 69 = Xi T39 904 69 := (show Xi U40 904 69 = Xi T39 904 69 from by rw [eU40]; exact Xi_ne (by omega))
    have w761 : Xi U40 904 70 = Xi U37 904 70 := (show Xi U40 904 70 = Xi T39 904 70 from by rw [eU40]; exact Xi_ne (by omega)).trans ( (show Xi T39 904 70 = Xi U38 904 70 from w749.x _ _ rfl).trans ((show Xi U38 904 70 = Xi U37 904 70 from by rw [eU38]; exact Xi_ne (by omega))))
    have w763 : Xi U40 904 71 = Xi T8 904 71 := (show Xi U40 904 71 = Xi T39 904 71 from by rw [eU40]; exact Xi_ne (by omega)).trans ( (show Xi T39 904 71 = Xi U38 904 71 from w749.x _ _ rfl).trans ( (show Xi U38 904 71 = Xi U37 904 71 from by rw [eU38]; exact Xi_ne (by omega)).trans ((show Xi U37 904 71 = Xi T8 904 71 from by rw [eU37]; exact Xi_ne (by omega)))))
    have w765 : Xi U40 904 72 = Xi T8 904 72 := (show Xi U40 904 72 = Xi T39 904 72 from by rw [eU40]; exact Xi_ne (by omega)).trans ( (show Xi T39 904 72 = Xi U38 904 72 from w749.x _ _ rfl).trans ( (show Xi U38 904 72 = Xi U37 904 72 from by rw [eU38]; exact Xi_ne (by omega)).trans ((show Xi U37 904 72 = Xi T8 904 72 from by rw [eU37]; exact Xi_ne (by omega)))))
    have w767 : Xi U40 904 73 = Xi T8 904 73 := (show Xi U40 904 73 = Xi T39 904 73 from by rw [eU40]; exact Xi_ne (by omega)).trans ( (show Xi T39 904 73 = Xi U38 904 73 from w749.x _ _ rfl).trans ( (show Xi U38 904 73 = Xi U37 904 73 from by rw [eU38]; exact Xi_ne (by omega)).trans ((show Xi U37 904 73 = Xi T8 904 73 from by rw [eU37]; exact Xi_ne (by omega)))))
    have w769 : Xi U40 904 74 = Xi T8 904 74 := (show Xi U40 904 74 = Xi T39 904 74 from by rw [eU40]; exact Xi_ne (by omega)).trans ( (show Xi T39 904 74 = Xi U38 904 74 from w749.x _ _ rfl).trans ( (show Xi U38 904 74 = Xi U37 904 74 from by rw [eU38]; exact Xi_ne (by omega)).trans ((show Xi U37 904 74 = Xi T8 904 74 from by rw [eU37]; exact Xi_ne (by omega)))))
    have w771 : -2 ≤ Xi U40 904 78 ∧ Xi U40 904 78 ≤ 5010 := hHU40.c _ _
    have w772 : Xi U40 904 8 = Xi T39 904 8 := (show Xi U40 904 8 = Xi T39 904 8 from by rw [eU40]; exact Xi_ne (by omega))
    have w774 : Xi U40 904 93 = Xi T8 904 93 := (show Xi U40 904 93 = Xi T39 904 93 from by rw [eU40]; exact Xi_ne (by omega)).trans ( (show Xi T39 904 93 = Xi U38 904 93 from w749.x _ _ rfl).trans ( (show Xi U38 904 93 = Xi U37 904 93 from by rw [eU38]; exact Xi_ne (by omega)).trans ((show Xi U37 904 93 = Xi T8 904 93 from by rw [eU37]; exact Xi_ne (by omega)))))
    refine l_callV rfl rfl rfl (t_mo_isNext hHU40 n c 46 ⟨by omega, by omega⟩ (by first | assumption | exact (TK_FR hFU40 rfl (by assumption : TK S _))) (by first | assumption | exact (AT_FR (FR_e eU40) rfl (by assumption : AT T39 _ _))) _) ?_
    rintro _ _ ⟨rfl, z778, rfl, w778, w776, w777⟩
    show Rl _ _ _ _ _ [iv z778] _ _
    refine l_if_ne rfl rfl (by unfold rg; omega) (fun w779 => ?_) (fun w780 => ?_)
    · refine l_return rfl rfl ?_
      exact ⟨hHU40, hFU40, rfl, (by first | assumption | exact (AT_FR (FR_e eU40) rfl (by assumption : AT T39 _ _))), (by omega), (by first | assumption | exact (RNV_FR (FR_e eU40) rfl (by assumption : RNV T39 _))), (by omega), (by omega), (by omega), (fun q => by unfold SNQ; refine ⟨fun q1 => absurd q1 (by omega), by omega, by omega, by omega, fun q9 => absurd q9 (by omega), by omega, by omega, by omega, by omega, by omega⟩), (by omega), (by first | assumption | exact (BDA_FR (FR_e eU40) rfl (by assumption : BDA T39)))⟩
    · refine l_aload_n rfl rfl ?_
      refine l_gfi rfl rfl rfl rfl rfl ?_
      have w800 : 0 ≤ (Xi U40 904 65) ∧ (Xi U40 904 65) ≤ 1 := hHU40.c _ _
      refine l_if_ne rfl rfl (by unfold rg; omega) (fun w801 => ?_) (fun w802 => ?_)
      · refine l_return rfl rfl ?_
        exact ⟨hHU40, hFU40, rfl, (by first | assumption | exact (AT_FR (FR_e eU40) rfl (by assumption : AT T39 _ _))), (by omega), (by first | assumption | exact (RNV_FR (FR_e eU40) rfl (by assumption : RNV T39 _))), (by omega), (by omega), (by omega), (fun q => by unfold SNQ; refine ⟨fun q1 => absurd q1 (by omega), by omega, by omega, by omega, fun q9 => absurd q9 (by omega), by omega, by omega, by omega, by omega, by omega⟩), (by omega), (by first | assumption | exact (BDA_FR (FR_e eU40) rfl (by assumption : BDA T39)))⟩
      · refine l_aload_n rfl rfl ?_
        refine l_aload_n rfl rfl ?_
        refine l_callV rfl rfl rfl (t_mo_placing__3 hHU40 n c (by first | assumption | exact (TK_FR hFU40 rfl (by assumption : TK S _))) (by first | assumption | exact (AT_FR (FR_e eU40) rfl (by assumption : AT T39 _ _))) (by first | assumption | exact (BDA_FR (FR_e eU40) rfl (by assumption : BDA T39))) _) ?_
        rintro _ T41 ⟨hHT41, w846, z845, rfl, w845, w841, w842, w843, w844⟩
        have hFT41 : FR md_mo_rest__2 S T41 := FR.tr hFU40 w846 rfl
        show Rl _ _ _ _ _ [iv z845, .ref 904] _ _
        have w848 : 0 ≤ Xi T41 904 8 ∧ Xi T41 904 8 ≤ 5010 := hHT41.c _ _
        have w849 : 0 ≤ Xi T41 904 65 ∧ Xi T41 904 65 ≤ 1 := hHT41.c _ _
        have w850 : Xi T41 904 69 = Xi T39 904 69 := (show Xi T41 904 69 = Xi U40 904 69 from w846.x _ _ rfl).trans ((show Xi U40 904 69 = Xi T39 904 69 from by rw [eU40]; exact Xi_ne (by omega)))
        have w852 : Xi T41 904 93 = Xi T8 904 93 := (show Xi T41 904 93 = Xi U40 904 93 from w846.x _ _ rfl).trans ( (show Xi U40 904 93 = Xi T39 904 93 from by rw [eU40]; exact Xi_ne (by omega)).trans ( (show Xi T39 904 93 = Xi U38 904 93 from w749.x _ _ rfl).trans ( (show Xi U38 904 93 = Xi U37 904 93 from by rw [eU38]; exact Xi_ne (by omega)).trans ((show Xi U37 904 93 = Xi T8 904 93 from by rw [eU37]; exact Xi_ne (by omega))))))
        have w847 : Xi S 904 8 ≤ Xi T41 904 8 ∧ Xi T41 904 8 ≤ n ∧ Xi S 904 69 ≤ Xi T41 904 69 ∧ (Xi T41 904 65 = 0 → Xi S 904 65 = 0) := by omega
        clear w842 w750
        refine l_pfi rfl rfl rfl rfl ?_
        obtain ⟨U42, eU42⟩ : ∃ T : sS, T = uI T41 904 73 (Int32.ofInt z845) := ⟨_, rfl⟩
        rw [← eU42]
        have hHU42 : HI U42 := by rw [eU42]; exact HI_w hHT41 (show 0 ≤ z845 by omega) (show z845 ≤ 5 by omega)
        have hFU42 : FR md_mo_rest__2 S U42 := by rw [eU42]; exact FR.wI hFT41 (mdf_i (r := (904, 905, 73, 74)) (List.mem_of_getElem? (i := 5) rfl) (inR_i (by omega) (by omega) (by omega) (by omega)))
        have w854 : Xi U42 904 73 = z845 := by rw [eU42]; exact Xi_same (by unfold rg; omega)
        refine l_aload_n rfl rfl ?_
        refine l_aload_n rfl rfl ?_
        have w855 : Xi U42 904 65 = Xi T41 904 65 := (show Xi U42 904 65 = Xi T41 904 65 from by rw [eU42]; exact Xi_ne (by omega))
        have w857 : Xi U42 904 69 = Xi T39 904 69 := (show Xi U42 904 69 = Xi T41 904 69 from by rw [eU42]; exact Xi_ne (by omega)).trans ( (show Xi T41 904 69 = Xi U40 904 69 from w846.x _ _ rfl).trans ((show Xi U40 904 69 = Xi T39 904 69 from by rw [eU40]; exact Xi_ne (by omega))))
        have w859 : Xi U42 904 70 = Xi U37 904 70 := (show Xi U42 904 70 = Xi T41 904 70 from by rw [eU42]; exact Xi_ne (by omega)).trans ( (show Xi T41 904 70 = Xi U40 904 70 from w846.x _ _ rfl).trans ( (show Xi U40 904 70 = Xi T39 904 70 from by rw [eU40]; exact Xi_ne (by omega)).trans ( (show Xi T39 904 70 = Xi U38 904 70 from w749.x _ _ rfl).trans ((show Xi U38 904 70 = Xi U37 904 70 from by rw [eU38]; exact Xi_ne (by omega))))))
        have w861 : Xi U42 904 71 = Xi T8 904 71 := (show Xi U42 904 71 = Xi T41 904 71 from by rw [eU42]; exact Xi_ne (by omega)).trans ( (show Xi T41 904 71 = Xi U40 904 71 from w846.x _ _ rfl).trans ( (show Xi U40 904 71 = Xi T39 904 71 from by rw [eU40]; exact Xi_ne (by omega)).trans ( (show Xi T39 904 71 = Xi U38 904 71 from w749.x _ _ rfl).trans ( (show Xi U38 904 71 = Xi U37 904 71 from by rw [eU38]; exact Xi_ne (by omega)).trans ((show Xi U37 904 71 = Xi T8 904 71 from by rw [eU37]; exact Xi_ne (by omega)))))))
        have w863 : Xi U42 904 72 = Xi T8 904 72 := (show Xi U42 904 72 = Xi T41 904 72 from by rw [eU42]; exact Xi_ne (by omega)).trans ( (show Xi T41 904 72 = Xi U40 904 72 from w846.x _ _ rfl).trans ( (show Xi U40 904 72 = Xi T39 904 72 from by rw [eU40]; exact Xi_ne (by omega)).trans ( (show Xi T39 904 72 = Xi U38 904 72 from w749.x _ _ rfl).trans ( (show Xi U38 904 72 = Xi U37 904 72 from by rw [eU38]; exact Xi_ne (by omega)).trans ((show Xi U37 904 72 = Xi T8 904 72 from by rw [eU37]; exact Xi_ne (by omega)))))))
        have w865 : 0 ≤ Xi U42 904 73 ∧ Xi U42 904 73 ≤ 5 := hHU42.c _ _
        have w866 : Xi U42 904 74 = Xi T8 904 74 := (show Xi U42 904 74 = Xi T41 904 74 from by rw [eU42]; exact Xi_ne (by omega)).trans ( (show Xi T41 904 74 = Xi U40 904 74 from w846.x _ _ rfl).trans ( (show Xi U40 904 74 = Xi T39 904 74 from by rw [eU40]; exact Xi_ne (by omega)).trans ( (show Xi T39 904 74 = Xi U38 904 74 from w749.x _ _ rfl).trans ( (show Xi U38 904 74 = Xi U37 904 74 from by rw [eU38]; exact Xi_ne (by omega)).trans ((show Xi U37 904 74 = Xi T8 904 74 from by rw [eU37]; exact Xi_ne (by omega)))))))
        have w868 : Xi U42 904 78 = Xi U40 904 78 := (show Xi U42 904 78 = Xi T41 904 78 from by rw [eU42]; exact Xi_ne (by omega)).trans ((show Xi T41 904 78 = Xi U40 904 78 from w846.x _ _ rfl))
        have w870 : Xi U42 904 8 = Xi T41 904 8 := (show Xi U42 904 8 = Xi T41 904 8 from by rw [eU42]; exact Xi_ne (by omega))
        have w872 : Xi U42 904 93 = Xi T8 904 93 := (show Xi U42 904 93 = Xi T41 904 93 from by rw [eU42]; exact Xi_ne (by omega)).trans ( (show Xi T41 904 93 = Xi U40 904 93 from w846.x _ _ rfl).trans ( (show Xi U40 904 93 = Xi T39 904 93 from by rw [eU40]; exact Xi_ne (by omega)).trans ( (show Xi T39 904 93 = Xi U38 904 93 from w749.x _ _ rfl).trans ( (show Xi U38 904 93 = Xi U37 904 93 from by rw [eU38]; exact Xi_ne (by omega)).trans ((show Xi U37 904 93 = Xi T8 904 93 from by rw [eU37]; exact Xi_ne (by omega)))))))
        refine l_callV rfl rfl rfl (t_mo_name__2 hHU42 n c (by first | assumption | exact (TK_FR hFU42 rfl (by assumption : TK S _))) (by first | assumption | exact (AT_FR (FR_e eU42) rfl (by assumption : AT T41 _ _))) (by first | assumption | exact (RNV_FR (FR_e eU42) rfl (RNV_FR w846 rfl (RNV_FR (FR_e eU40) rfl (by assumption : RNV T39 _))))) (by first | assumption | exact (BDA_FR (FR_e eU42) rfl (by assumption : BDA T41))) _) ?_
        rintro _ T43 ⟨hHT43, w881, z880, rfl, w880, w874, w875, w876, w877, w878, w879⟩
        have hFT43 : FR md_mo_rest__2 S T43 := FR.tr hFU42 w881 rfl
        show Rl _ _ _ _ _ [iv z880, .ref 904] _ _
        have w883 : 0 ≤ Xi T43 904 8 ∧ Xi T43 904 8 ≤ 5010 := hHT43.c _ _
        have w884 : 0 ≤ Xi T43 904 65 ∧ Xi T43 904 65 ≤ 1 := hHT43.c _ _
        have w885 : 0 ≤ Xi T43 904 69 ∧ Xi T43 904 69 ≤ 2600 := hHT43.c _ _
        have w886 : Xi T43 904 93 = Xi T8 904 93 := (show Xi T43 904 93 = Xi U42 904 93 from w881.x _ _ rfl).trans ( (show Xi U42 904 93 = Xi T41 904 93 from by rw [eU42]; exact Xi_ne (by omega)).trans ( (show Xi T41 904 93 = Xi U40 904 93 from w846.x _ _ rfl).trans ( (show Xi U40 904 93 = Xi T39 904 93 from by rw [eU40]; exact Xi_ne (by omega)).trans ( (show Xi T39 904 93 = Xi U38 904 93 from w749.x _ _ rfl).trans ( (show Xi U38 904 93 = Xi U37 904 93 from by rw [eU38]; exact Xi_ne (by omega)).trans ((show Xi U37 904 93 = Xi T8 904 93 from by rw [eU37]; exact Xi_ne (by omega))))))))
        have w882 : Xi S 904 8 ≤ Xi T43 904 8 ∧ Xi T43 904 8 ≤ n ∧ Xi S 904 69 ≤ Xi T43 904 69 ∧ (Xi T43 904 65 = 0 → Xi S 904 65 = 0) := by omega
        clear w875 w847
        refine l_pfi rfl rfl rfl rfl ?_
        obtain ⟨U44, eU44⟩ : ∃ T : sS, T = uI T43 904 74 (Int32.ofInt z880) := ⟨_, rfl⟩
        rw [← eU44]
        have hHU44 : HI U44 := by rw [eU44]; exact HI_w hHT43 (show 0 ≤ z880 by omega) (show z880 ≤ 2600 by omega)
        have hFU44 : FR md_mo_rest__2 S U44 := by rw [eU44]; exact FR.wI hFT43 (mdf_i (r := (904, 905, 74, 75)) (List.mem_of_getElem? (i := 6) rfl) (inR_i (by omega) (by omega) (by omega) (by omega)))
        have w888 : Xi U44 904 74 = z880 := by rw [eU44]; exact Xi_same (by unfold rg; omega)
        refine l_goto rfl rfl ?_
        refine l_return rfl rfl ?_
        have w889 : Xi U44 904 65 = Xi T43 904 65 := (show Xi U44 904 65 = Xi T43 904 65 from by rw [eU44]; exact Xi_ne (by omega))
        have w891 : Xi U44 904 69 = Xi T43 904 69 := (show Xi U44 904 69 = Xi T43 904 69 from by rw [eU44]; exact Xi_ne (by omega))
        have w893 : Xi U44 904 70 = Xi U37 904 70 := (show Xi U44 904 70 = Xi T43 904 70 from by rw [eU44]; exact Xi_ne (by omega)).trans ( (show Xi T43 904 70 = Xi U42 904 70 from w881.x _ _ rfl).trans ( (show Xi U42 904 70 = Xi T41 904 70 from by rw [eU42]; exact Xi_ne (by omega)).trans ( (show Xi T41 904 70 = Xi U40 904 70 from w846.x _ _ rfl).trans ( (show Xi U40 904 70 = Xi T39 904 70 from by rw [eU40]; exact Xi_ne (by omega)).trans ( (show Xi T39 904 70 = Xi U38 904 70 from w749.x _ _ rfl).trans ((show Xi U38 904 70 = Xi U37 904 70 from by rw [eU38]; exact Xi_ne (by omega))))))))
        have w895 : Xi U44 904 71 = Xi T8 904 71 := (show Xi U44 904 71 = Xi T43 904 71 from by rw [eU44]; exact Xi_ne (by omega)).trans ( (show Xi T43 904 71 = Xi U42 904 71 from w881.x _ _ rfl).trans ( (show Xi U42 904 71 = Xi T41 904 71 from by rw [eU42]; exact Xi_ne (by omega)).trans ( (show Xi T41 904 71 = Xi U40 904 71 from w846.x _ _ rfl).trans ( (show Xi U40 904 71 = Xi T39 904 71 from by rw [eU40]; exact Xi_ne (by omega)).trans ( (show Xi T39 904 71 = Xi U38 904 71 from w749.x _ _ rfl).trans ( (show Xi U38 904 71 = Xi U37 904 71 from by rw [eU38]; exact Xi_ne (by omega)).trans ((show Xi U37 904 71 = Xi T8 904 71 from by rw [eU37]; exact Xi_ne (by omega)))))))))
        have w897 : Xi U44 904 72 = Xi T8 904 72 := (show Xi U44 904 72 = Xi T43 904 72 from by rw [eU44]; exact Xi_ne (by omega)).trans ( (show Xi T43 904 72 = Xi U42 904 72 from w881.x _ _ rfl).trans ( (show Xi U42 904 72 = Xi T41 904 72 from by rw [eU42]; exact Xi_ne (by omega)).trans ( (show Xi T41 904 72 = Xi U40 904 72 from w846.x _ _ rfl).trans ( (show Xi U40 904 72 = Xi T39 904 72 from by rw [eU40]; exact Xi_ne (by omega)).trans ( (show Xi T39 904 72 = Xi U38 904 72 from w749.x _ _ rfl).trans ( (show Xi U38 904 72 = Xi U37 904 72 from by rw [eU38]; exact Xi_ne (by omega)).trans ((show Xi U37 904 72 = Xi T8 904 72 from by rw [eU37]; exact Xi_ne (by omega)))))))))
        have w899 : Xi U44 904 73 = Xi U42 904 73 := (show Xi U44 904 73 = Xi T43 904 73 from by rw [eU44]; exact Xi_ne (by omega)).trans ((show Xi T43 904 73 = Xi U42 904 73 from w881.x _ _ rfl))
        have w901 : 0 ≤ Xi U44 904 74 ∧ Xi U44 904 74 ≤ 2600 := hHU44.c _ _
        have w902 : Xi U44 904 78 = Xi U40 904 78 := (show Xi U44 904 78 = Xi T43 904 78 from by rw [eU44]; exact Xi_ne (by omega)).trans ( (show Xi T43 904 78 = Xi U42 904 78 from w881.x _ _ rfl).trans ( (show Xi U42 904 78 = Xi T41 904 78 from by rw [eU42]; exact Xi_ne (by omega)).trans ((show Xi T41 904 78 = Xi U40 904 78 from w846.x _ _ rfl))))
        have w904 : Xi U44 904 8 = Xi T43 904 8 := (show Xi U44 904 8 = Xi T43 904 8 from by rw [eU44]; exact Xi_ne (by omega))
        have w906 : Xi U44 904 93 = Xi T8 904 93 := (show Xi U44 904 93 = Xi T43 904 93 from by rw [eU44]; exact Xi_ne (by omega)).trans ( (show Xi T43 904 93 = Xi U42 904 93 from w881.x _ _ rfl).trans ( (show Xi U42 904 93 = Xi T41 904 93 from by rw [eU42]; exact Xi_ne (by omega)).trans ( (show Xi T41 904 93 = Xi U40 904 93 from w846.x _ _ rfl).trans ( (show Xi U40 904 93 = Xi T39 904 93 from by rw [eU40]; exact Xi_ne (by omega)).trans ( (show Xi T39 904 93 = Xi U38 904 93 from w749.x _ _ rfl).trans ( (show Xi U38 904 93 = Xi U37 904 93 from by rw [eU38]; exact Xi_ne (by omega)).trans ((show Xi U37 904 93 = Xi T8 904 93 from by rw [eU37]; exact Xi_ne (by omega)))))))))
        exact ⟨hHU44, hFU44, rfl, (by first | assumption | exact (AT_FR (FR_e eU44) rfl (by assumption : AT T43 _ _))), (by omega), (by first | assumption | exact (RNV_FR (FR_e eU44) rfl (by assumption : RNV T43 _))), (by omega), (by omega), (by omega), (fun q => by unfold SNQ; refine ⟨fun q1 => absurd q1 (by omega), by omega, by omega, by omega, fun q9 => absurd q9 (by omega), by omega, by omega, by omega, by omega, by omega⟩), (by omega), (by first | assumption | exact (BDA_FR (FR_e eU44) rfl (by assumption : BDA T43)))⟩
set_option maxRecDepth 100000 in
set_option maxHeartbeats 8000000 in
theorem c111_mo_rest__2 {S : sS} (hH : HI S) (n : Nat) (c : Nat) (hT : TK S n) (hA : AT S n c) (hv : RNV S n) (hb : Xi S 904 65 = 0) (hl : Xi S 904 71 + Xi S 904 72 ≤ Xi S 904 69 ∧ 1 ≤ Xi S 904 72) (hBDA : BDA S) (d : Nat) : ∀  (T45 : sS) (_ : HI T45) (_ : FR md_mo_rest__2 S T45) (v1 : Int), (0 ≤ v1 ∧ v1 ≤ 154) → (AT T45 n c) → (RNV T45 n) → (v1 ≠ 1 → Xi T45 904 65 = 0 ∧ Xi T45 907 (Xi T45 904 8).toNat = v1) → (Xi T45 904 8 = Xi S 904 8) → (Xi T45 904 65 = 0) → (Xi T45 904 69 = Xi S 904 69) → (Xi T45 904 71 = Xi S 904 71 ∧ Xi T45 904 72 = Xi S 904 72) → (Xi T45 904 73 = 0) → (BDA T45) → Rl lay0 (d + 3) m_mo_rest 111 [(0, .ref 904), (1, iv v1)] [] T45 (Q_mo_rest__2 S n c) := by
  have C197 := c197_mo_rest__2 hH n c hT hA hv hb hl hBDA d 
  have hF : FR md_mo_rest__2 S S := FR.rf
  have w1 : 0 ≤ Xi S 904 65 ∧ Xi S 904 65 ≤ 1 := hH.c _ _
  have w2 : 0 ≤ Xi S 904 69 ∧ Xi S 904 69 ≤ 2600 := hH.c _ _
  have w3 : 0 ≤ Xi S 904 70 ∧ Xi S 904 70 ≤ 20 := hH.c _ _
  have w4 : 0 ≤ Xi S 904 71 ∧ Xi S 904 71 ≤ 2600 := hH.c _ _
  have w5 : 0 ≤ Xi S 904 72 ∧ Xi S 904 72 ≤ 2600 := hH.c _ _
  have w6 : 0 ≤ Xi S 904 73 ∧ Xi S 904 73 ≤ 5 := hH.c _ _
  have w7 : -2 ≤ Xi S 904 78 ∧ Xi S 904 78 ≤ 5010 := hH.c _ _
  have w8 : 0 ≤ Xi S 904 8 ∧ Xi S 904 8 ≤ 5010 := hH.c _ _
  have hn5 := hT.1
  have hat := hA
  have h8 : 0 ≤ Xi S 904 8 ∧ Xi S 904 8 ≤ 5010 := hH.c _ _
  have h69 : 0 ≤ Xi S 904 69 ∧ Xi S 904 69 ≤ 2600 := hH.c _ _
  have ha0 : Xi S 904 65 = 0 → Xi S 904 8 ≤ n := fun q => (hA q).1
  have ha3 : Xi S 904 65 = 0 → 2 * Xi S 904 69 ≤ Xi S 904 8 + 1 := fun q => (hA q).2.1
  clear hat
  have hx := ha0 hb
  intro T45 hHT45 hFT45 v1 w908 A111 V111 w909 w910 w911 w912 w913 w914 BDA_111
  have w915 : Xi T45 904 71 = Xi S 904 71 := hFT45.x _ _ rfl
  have w916 : Xi T45 904 72 = Xi S 904 72 := hFT45.x _ _ rfl
  have w917 : 0 ≤ Xi T45 904 65 ∧ Xi T45 904 65 ≤ 1 := hHT45.c _ _
  have w918 : 0 ≤ Xi T45 904 69 ∧ Xi T45 904 69 ≤ 2600 := hHT45.c _ _
  have w919 : 0 ≤ Xi T45 904 71 ∧ Xi T45 904 71 ≤ 2600 := hHT45.c _ _
  have w920 : 0 ≤ Xi T45 904 72 ∧ Xi T45 904 72 ≤ 2600 := hHT45.c _ _
  have w921 : 0 ≤ Xi T45 904 73 ∧ Xi T45 904 73 ≤ 5 := hHT45.c _ _
  have w922 : 0 ≤ Xi T45 904 8 ∧ Xi T45 904 8 ≤ 5010 := hHT45.c _ _
  refine l_iload_n rfl rfl ?_
  refine l_bipush rfl rfl ?_
  refine l_icmp_ne rfl rfl (by unfold rg; omega) (by unfold rg; omega) (fun w923 => ?_) (fun w924 => ?_)
  · have w925 : 0 ≤ Xi T45 904 65 ∧ Xi T45 904 65 ≤ 1 := hHT45.c _ _
    have w927 : 0 ≤ Xi T45 904 70 ∧ Xi T45 904 70 ≤ 20 := hHT45.c _ _
    have w931 : 0 ≤ Xi T45 904 74 ∧ Xi T45 904 74 ≤ 2600 := hHT45.c _ _
    have w932 : -2 ≤ Xi T45 904 78 ∧ Xi T45 904 78 ≤ 5010 := hHT45.c _ _
    have w934 : 0 ≤ Xi T45 904 93 ∧ Xi T45 904 93 ≤ 1700 := hHT45.c _ _
    exact Rl_weak (C197 T45 hHT45 hFT45 (v1) (by omega) (by first | assumption | exact (by assumption : AT T45 _ _)) (by first | assumption | exact (by assumption : RNV T45 _)) (by omega) (by omega) (by omega) (by omega) (by omega) (by omega) (by first | assumption | exact (by assumption : BDA T45))) (And.intro rfl (And.intro rfl (True.intro)))
  · refine l_aload_n rfl rfl ?_
    refine l_gfr rfl rfl rfl rfl rfl (hHT45.r 904 4 907 rfl) ?_
    refine l_aload_n rfl rfl ?_
    refine l_gfi rfl rfl rfl rfl rfl ?_
    refine l_iconst rfl ?_
    refine l_iadd rfl ?_
    refine l_iaload (n := 5002) rfl rfl (by omega) (by omega) (by unfold rg; omega) ?_
    have w935 : 0 ≤ (Xi T45 907 ((((Xi T45 904 8) + 1)).toNat)) ∧ (Xi T45 907 ((((Xi T45 904 8) + 1)).toNat)) ≤ 154 := hHT45.c _ _
    refine l_bipush rfl rfl ?_
    refine l_icmp_ne rfl rfl (by unfold rg; omega) (by unfold rg; omega) (fun w936 => ?_) (fun w937 => ?_)
    · have w938 : 0 ≤ Xi T45 904 65 ∧ Xi T45 904 65 ≤ 1 := hHT45.c _ _
      have w940 : 0 ≤ Xi T45 904 70 ∧ Xi T45 904 70 ≤ 20 := hHT45.c _ _
      have w944 : 0 ≤ Xi T45 904 74 ∧ Xi T45 904 74 ≤ 2600 := hHT45.c _ _
      have w945 : -2 ≤ Xi T45 904 78 ∧ Xi T45 904 78 ≤ 5010 := hHT45.c _ _
      have w947 : 0 ≤ Xi T45 904 93 ∧ Xi T45 904 93 ≤ 1700 := hHT45.c _ _
      exact Rl_weak (C197 T45 hHT45 hFT45 (v1) (by omega) (by first | assumption | exact (by assumption : AT T45 _ _)) (by first | assumption | exact (by assumption : RNV T45 _)) (by omega) (by omega) (by omega) (by omega) (by omega) (by omega) (by first | assumption | exact (by assumption : BDA T45))) (And.intro rfl (And.intro rfl (True.intro)))
    · refine l_aload_n rfl rfl ?_
      refine l_bipush rfl rfl ?_
      refine l_pfi rfl rfl rfl rfl ?_
      obtain ⟨U46, eU46⟩ : ∃ T : sS, T = uI T45 904 70 (Int32.ofInt 11) := ⟨_, rfl⟩
      rw [← eU46]
      have hHU46 : HI U46 := by rw [eU46]; exact HI_w hHT45 (show 0 ≤ 11 by omega) (show 11 ≤ 20 by omega)
      have hFU46 : FR md_mo_rest__2 S U46 := by rw [eU46]; exact FR.wI hFT45 (mdf_i (r := (904, 905, 70, 71)) (List.mem_of_getElem? (i := 4) rfl) (inR_i (by omega) (by omega) (by omega) (by omega)))
      have w948 : Xi U46 904 70 = 11 := by rw [eU46]; exact Xi_same (by unfold rg; omega)
      refine l_aload_n rfl rfl ?_
      refine l_dup rfl rfl ?_
      refine l_gfi rfl rfl rfl rfl rfl ?_
      have w949 : (Xi U46 904 8) = (Xi T45 904 8) := (show Xi U46 904 8 = Xi T45 904 8 from by rw [eU46]; exact Xi_ne (by omega))
      rw [w949]
      refine l_iconst rfl ?_
      refine l_iadd rfl ?_
      refine l_pfi rfl rfl rfl rfl ?_
      obtain ⟨U47, eU47⟩ : ∃ T : sS, T = uI U46 904 8 (Int32.ofInt ((Xi T45 904 8) + 2)) := ⟨_, rfl⟩
      rw [← eU47]
      have hHU47 : HI U47 := by rw [eU47]; exact HI_w hHU46 (show 0 ≤ ((Xi T45 904 8) + 2) by omega) (show ((Xi T45 904 8) + 2) ≤ 5010 by omega)
      have hFU47 : FR md_mo_rest__2 S U47 := by rw [eU47]; exact FR.wI hFU46 (mdf_i (r := (904, 905, 8, 9)) (List.mem_of_getElem? (i := 0) rfl) (inR_i (by omega) (by omega) (by omega) (by omega)))
      have w950 : Xi U47 904 8 = ((Xi T45 904 8) + 2) := by rw [eU47]; exact Xi_same (by unfold rg; omega)
      have t146 : AT U47 n c ∧ _ := (at_mv2 (S := T45) (P := U46) (TK_FR hFT45 rfl (by assumption : TK S _)) (by first | assumption | exact (by assumption : AT T45 _ _)) (fun j => ((FR_e eU46).cx 907 rfl j).1) (fun j => ((FR_e eU46).cx 908 rfl j).1) ((show Xi U46 904 8 = Xi T45 904 8 from by rw [eU46]; exact Xi_ne (by omega))) ((show Xi U46 904 65 = Xi T45 904 65 from by rw [eU46]; exact Xi_ne (by omega))) ((show Xi U46 904 69 = Xi T45 904 69 from by rw [eU46]; exact Xi_ne (by omega))) ((show Xi U46 904 93 = Xi T45 904 93 from by rw [eU46]; exact Xi_ne (by omega))) eU47 (by omega) (by omega) (by omega) (by omega) (by omega))
      have a146 : AT U47 n c := t146.1
      have l146 := t146.2
      refine l_aload_n rfl rfl ?_
      refine l_iconst rfl ?_
      refine l_pfi rfl rfl rfl rfl ?_
      obtain ⟨U48, eU48⟩ : ∃ T : sS, T = uI U47 904 78 (Int32.ofInt (-1)) := ⟨_, rfl⟩
      rw [← eU48]
      have hHU48 : HI U48 := by rw [eU48]; exact HI_w hHU47 (show -2 ≤ (-1) by omega) (show (-1) ≤ 5010 by omega)
      have hFU48 : FR md_mo_rest__2 S U48 := by rw [eU48]; exact FR.wI hFU47 (mdf_i (r := (904, 905, 78, 79)) (List.mem_of_getElem? (i := 9) rfl) (inR_i (by omega) (by omega) (by omega) (by omega)))
      have w951 : Xi U48 904 78 = (-1) := by rw [eU48]; exact Xi_same (by unfold rg; omega)
      refine l_aload_n rfl rfl ?_
      refine l_sipush rfl rfl ?_
      have w952 : Xi U48 904 65 = Xi T45 904 65 := (show Xi U48 904 65 = Xi U47 904 65 from by rw [eU48]; exact Xi_ne (by omega)).trans ( (show Xi U47 904 65 = Xi U46 904 65 from by rw [eU47]; exact Xi_ne (by omega)).trans ((show Xi U46 904 65 = Xi T45 904 65 from by rw [eU46]; exact Xi_ne (by omega))))
      have w954 : Xi U48 904 69 = Xi T45 904 69 := (show Xi U48 904 69 = Xi U47 904 69 from by rw [eU48]; exact Xi_ne (by omega)).trans ( (show Xi U47 904 69 = Xi U46 904 69 from by rw [eU47]; exact Xi_ne (by omega)).trans ((show Xi U46 904 69 = Xi T45 904 69 from by rw [eU46]; exact Xi_ne (by omega))))
      have w956 : Xi U48 904 70 = Xi U46 904 70 := (show Xi U48 904 70 = Xi U47 904 70 from by rw [eU48]; exact Xi_ne (by omega)).trans ((show Xi U47 904 70 = Xi U46 904 70 from by rw [eU47]; exact Xi_ne (by omega)))
      have w957 : 0 ≤ Xi U46 904 70 ∧ Xi U46 904 70 ≤ 20 := hHU46.c _ _
      have w958 : Xi U48 904 71 = Xi T45 904 71 := (show Xi U48 904 71 = Xi U47 904 71 from by rw [eU48]; exact Xi_ne (by omega)).trans ( (show Xi U47 904 71 = Xi U46 904 71 from by rw [eU47]; exact Xi_ne (by omega)).trans ((show Xi U46 904 71 = Xi T45 904 71 from by rw [eU46]; exact Xi_ne (by omega))))
      have w960 : Xi U48 904 72 = Xi T45 904 72 := (show Xi U48 904 72 = Xi U47 904 72 from by rw [eU48]; exact Xi_ne (by omega)).trans ( (show Xi U47 904 72 = Xi U46 904 72 from by rw [eU47]; exact Xi_ne (by omega)).trans ((show Xi U46 904 72 = Xi T45 904 72 from by rw [eU46]; exact Xi_ne (by omega))))
      have w962 : Xi U48 904 73 = Xi T45 904 73 := (show Xi U48 904 73 = Xi U47 904 73 from by rw [eU48]; exact Xi_ne (by omega)).trans ( (show Xi U47 904 73 = Xi U46 904 73 from by rw [eU47]; exact Xi_ne (by omega)).trans ((show Xi U46 904 73 = Xi T45 904 73 from by rw [eU46]; exact Xi_ne (by omega))))
      have w964 : Xi U48 904 74 = Xi T45 904 74 := (show Xi U48 904 74 = Xi U47 904 74 from by rw [eU48]; exact Xi_ne (by omega)).trans ( (show Xi U47 904 74 = Xi U46 904 74 from by rw [eU47]; exact Xi_ne (by omega)).trans ((show Xi U46 904 74 = Xi T45 904 74 from by rw [eU46]; exact Xi_ne (by omega))))
      have w965 : 0 ≤ Xi T45 904 74 ∧ Xi T45 904 74 ≤ 2600 := hHT45.c _ _
      have w966 : -2 ≤ Xi U48 904 78 ∧ Xi U48 904 78 ≤ 5010 := hHU48.c _ _
      have w967 : Xi U48 904 8 = Xi U47 904 8 := (show Xi U48 904 8 = Xi U47 904 8 from by rw [eU48]; exact Xi_ne (by omega))
      have w968 : 0 ≤ Xi U47 904 8 ∧ Xi U47 904 8 ≤ 5010 := hHU47.c _ _
      have w969 : Xi U48 904 93 = Xi T45 904 93 := (show Xi U48 904 93 = Xi U47 904 93 from by rw [eU48]; exact Xi_ne (by omega)).trans ( (show Xi U47 904 93 = Xi U46 904 93 from by rw [eU47]; exact Xi_ne (by omega)).trans ((show Xi U46 904 93 = Xi T45 904 93 from by rw [eU46]; exact Xi_ne (by omega))))
      have w970 : 0 ≤ Xi T45 904 93 ∧ Xi T45 904 93 ≤ 1700 := hHT45.c _ _
      refine l_callV rfl rfl rfl (t_mo_isNext hHU48 n c 128 ⟨by omega, by omega⟩ (by first | assumption | exact (TK_FR hFU48 rfl (by assumption : TK S _))) (by first | assumption | exact (AT_FR (FR_e eU48) rfl (by assumption : AT U47 _ _))) _) ?_
      rintro _ _ ⟨rfl, z973, rfl, w973, w971, w972⟩
      show Rl _ _ _ _ _ [iv z973] _ _
      have j158 : z973 = 1 → Xi U48 904 65 = 0 ∧ Xi U48 907 (Xi U48 904 8).toNat = 128 := by assumption
      refine l_if_eq rfl rfl (by unfold rg; omega) (fun w974 => ?_) (fun w975 => ?_)
      · refine l_return rfl rfl ?_
        exact ⟨hHU48, hFU48, rfl, (by first | assumption | exact (AT_FR (FR_e eU48) rfl (by assumption : AT U47 _ _))), (by omega), (by first | assumption | exact (RNV_FR (FR_e eU48) rfl (RNV_FR (FR_e eU47) rfl (RNV_FR (FR_e eU46) rfl (by assumption : RNV T45 _))))), (by omega), (by omega), (by omega), (fun q => by unfold SNQ; refine ⟨fun q1 => absurd q1 (by omega), by omega, by omega, by omega, fun q9 => absurd q9 (by omega), by omega, by omega, by omega, by omega, by omega⟩), (by omega), (by first | assumption | exact (BDA_FR (FR_e eU48) rfl (BDA_FR (FR_e eU47) rfl (BDA_FR (FR_e eU46) rfl (by assumption : BDA T45)))))⟩
      · refine l_aload_n rfl rfl ?_
        refine l_dup rfl rfl ?_
        refine l_gfi rfl rfl rfl rfl rfl ?_
        have w995 : (Xi U48 904 8) = (Xi U47 904 8) := (show Xi U48 904 8 = Xi U47 904 8 from by rw [eU48]; exact Xi_ne (by omega))
        rw [w995]
        refine l_iconst rfl ?_
        refine l_iadd rfl ?_
        refine l_pfi rfl rfl rfl rfl ?_
        obtain ⟨U49, eU49⟩ : ∃ T : sS, T = uI U48 904 8 (Int32.ofInt ((Xi U47 904 8) + 1)) := ⟨_, rfl⟩
        rw [← eU49]
        have hHU49 : HI U49 := by rw [eU49]; exact HI_w hHU48 (show 0 ≤ ((Xi U47 904 8) + 1) by omega) (show ((Xi U47 904 8) + 1) ≤ 5010 by omega)
        have hFU49 : FR md_mo_rest__2 S U49 := by rw [eU49]; exact FR.wI hFU48 (mdf_i (r := (904, 905, 8, 9)) (List.mem_of_getElem? (i := 0) rfl) (inR_i (by omega) (by omega) (by omega) (by omega)))
        have w996 : Xi U49 904 8 = ((Xi U47 904 8) + 1) := by rw [eU49]; exact Xi_same (by unfold rg; omega)
        have t171 : AT U49 n c ∧ _ := (at_mv (S := U48) (P := U48) (TK_FR hFU48 rfl (by assumption : TK S _)) (by first | assumption | exact (AT_FR (FR_e eU48) rfl (by assumption : AT U47 _ _))) (fun j => rfl) (fun j => rfl) (rfl) (rfl) (rfl) (rfl) eU49 (by omega) (by omega) (by omega) (by omega) (Or.inl rfl))
        have a171 : AT U49 n c := t171.1
        have l171 := t171.2
        refine l_aload_n rfl rfl ?_
        refine l_bipush rfl rfl ?_
        have w997 : Xi U49 904 65 = Xi T45 904 65 := (show Xi U49 904 65 = Xi U48 904 65 from by rw [eU49]; exact Xi_ne (by omega)).trans ( (show Xi U48 904 65 = Xi U47 904 65 from by rw [eU48]; exact Xi_ne (by omega)).trans ( (show Xi U47 904 65 = Xi U46 904 65 from by rw [eU47]; exact Xi_ne (by omega)).trans ((show Xi U46 904 65 = Xi T45 904 65 from by rw [eU46]; exact Xi_ne (by omega)))))
        have w999 : Xi U49 904 69 = Xi T45 904 69 := (show Xi U49 904 69 = Xi U48 904 69 from by rw [eU49]; exact Xi_ne (by omega)).trans ( (show Xi U48 904 69 = Xi U47 904 69 from by rw [eU48]; exact Xi_ne (by omega)).trans ( (show Xi U47 904 69 = Xi U46 904 69 from by rw [eU47]; exact Xi_ne (by omega)).trans ((show Xi U46 904 69 = Xi T45 904 69 from by rw [eU46]; exact Xi_ne (by omega)))))
        have w1001 : Xi U49 904 70 = Xi U46 904 70 := (show Xi U49 904 70 = Xi U48 904 70 from by rw [eU49]; exact Xi_ne (by omega)).trans ( (show Xi U48 904 70 = Xi U47 904 70 from by rw [eU48]; exact Xi_ne (by omega)).trans ((show Xi U47 904 70 = Xi U46 904 70 from by rw [eU47]; exact Xi_ne (by omega))))
        have w1003 : Xi U49 904 71 = Xi T45 904 71 := (show Xi U49 904 71 = Xi U48 904 71 from by rw [eU49]; exact Xi_ne (by omega)).trans ( (show Xi U48 904 71 = Xi U47 904 71 from by rw [eU48]; exact Xi_ne (by omega)).trans ( (show Xi U47 904 71 = Xi U46 904 71 from by rw [eU47]; exact Xi_ne (by omega)).trans ((show Xi U46 904 71 = Xi T45 904 71 from by rw [eU46]; exact Xi_ne (by omega)))))
        have w1005 : Xi U49 904 72 = Xi T45 904 72 := (show Xi U49 904 72 = Xi U48 904 72 from by rw [eU49]; exact Xi_ne (by omega)).trans ( (show Xi U48 904 72 = Xi U47 904 72 from by rw [eU48]; exact Xi_ne (by omega)).trans ( (show Xi U47 904 72 = Xi U46 904 72 from by rw [eU47]; exact Xi_ne (by omega)).trans ((show Xi U46 904 72 = Xi T45 904 72 from by rw [eU46]; exact Xi_ne (by omega)))))
        have w1007 : Xi U49 904 73 = Xi T45 904 73 := (show Xi U49 904 73 = Xi U48 904 73 from by rw [eU49]; exact Xi_ne (by omega)).trans ( (show Xi U48 904 73 = Xi U47 904 73 from by rw [eU48]; exact Xi_ne (by omega)).trans ( (show Xi U47 904 73 = Xi U46 904 73 from by rw [eU47]; exact Xi_ne (by omega)).trans ((show Xi U46 904 73 = Xi T45 904 73 from by rw [eU46]; exact Xi_ne (by omega)))))
        have w1009 : Xi U49 904 74 = Xi T45 904 74 := (show Xi U49 904 74 = Xi U48 904 74 from by rw [eU49]; exact Xi_ne (by omega)).trans ( (show Xi U48 904 74 = Xi U47 904 74 from by rw [eU48]; exact Xi_ne (by omega)).trans ( (show Xi U47 904 74 = Xi U46 904 74 from by rw [eU47]; exact Xi_ne (by omega)).trans ((show Xi U46 904 74 = Xi T45 904 74 from by rw [eU46]; exact Xi_ne (by omega)))))
        have w1011 : Xi U49 904 78 = Xi U48 904 78 := (show Xi U49 904 78 = Xi U48 904 78 from by rw [eU49]; exact Xi_ne (by omega))
        have w1013 : 0 ≤ Xi U49 904 8 ∧ Xi U49 904 8 ≤ 5010 := hHU49.c _ _
        have w1014 : Xi U49 904 93 = Xi T45 904 93 := (show Xi U49 904 93 = Xi U48 904 93 from by rw [eU49]; exact Xi_ne (by omega)).trans ( (show Xi U48 904 93 = Xi U47 904 93 from by rw [eU48]; exact Xi_ne (by omega)).trans ( (show Xi U47 904 93 = Xi U46 904 93 from by rw [eU47]; exact Xi_ne (by omega)).trans ((show Xi U46 904 93 = Xi T45 904 93 from by rw [eU46]; exact Xi_ne (by omega)))))
        refine l_callV rfl rfl rfl (t_mo_take__3 hHU49 n c 111 ⟨by omega, by omega⟩ (by first | assumption | exact (TK_FR hFU49 rfl (by assumption : TK S _))) (by first | assumption | exact (by assumption : AT U49 _ _)) (by first | assumption | omega) (by first | assumption | exact (BDA_FR (FR_e eU49) rfl (BDA_FR (FR_e eU48) rfl (BDA_FR (FR_e eU47) rfl (BDA_FR (FR_e eU46) rfl (by assumption : BDA T45)))))) _) ?_
        rintro _ T50 ⟨hHT50, w1022, rfl, w1016, w1017, w1018, w1019, w1020⟩
        have hFT50 : FR md_mo_rest__2 S T50 := FR.tr hFU49 w1022 rfl
        show Rl _ _ _ _ _ [] _ _
        have w1024 : 0 ≤ Xi T50 904 8 ∧ Xi T50 904 8 ≤ 5010 := hHT50.c _ _
        have w1025 : 0 ≤ Xi T50 904 65 ∧ Xi T50 904 65 ≤ 1 := hHT50.c _ _
        have w1026 : Xi T50 904 69 = Xi T45 904 69 := (show Xi T50 904 69 = Xi U49 904 69 from w1022.x _ _ rfl).trans ( (show Xi U49 904 69 = Xi U48 904 69 from by rw [eU49]; exact Xi_ne (by omega)).trans ( (show Xi U48 904 69 = Xi U47 904 69 from by rw [eU48]; exact Xi_ne (by omega)).trans ( (show Xi U47 904 69 = Xi U46 904 69 from by rw [eU47]; exact Xi_ne (by omega)).trans ((show Xi U46 904 69 = Xi T45 904 69 from by rw [eU46]; exact Xi_ne (by omega))))))
        have w1028 : Xi T50 904 93 = Xi T45 904 93 := (show Xi T50 904 93 = Xi U49 904 93 from w1022.x _ _ rfl).trans ( (show Xi U49 904 93 = Xi U48 904 93 from by rw [eU49]; exact Xi_ne (by omega)).trans ( (show Xi U48 904 93 = Xi U47 904 93 from by rw [eU48]; exact Xi_ne (by omega)).trans ( (show Xi U47 904 93 = Xi U46 904 93 from by rw [eU47]; exact Xi_ne (by omega)).trans ((show Xi U46 904 93 = Xi T45 904 93 from by rw [eU46]; exact Xi_ne (by omega))))))
        have w1023 : Xi S 904 8 ≤ Xi T50 904 8 ∧ Xi T50 904 8 ≤ n ∧ Xi S 904 69 ≤ Xi T50 904 69 ∧ (Xi T50 904 65 = 0 → Xi S 904 65 = 0) := by omega
        clear w1017
        refine l_aload_n rfl rfl ?_
        refine l_bipush rfl rfl ?_
        have w1033 : Xi T50 904 70 = Xi U46 904 70 := (show Xi T50 904 70 = Xi U49 904 70 from w1022.x _ _ rfl).trans ( (show Xi U49 904 70 = Xi U48 904 70 from by rw [eU49]; exact Xi_ne (by omega)).trans ( (show Xi U48 904 70 = Xi U47 904 70 from by rw [eU48]; exact Xi_ne (by omega)).trans ((show Xi U47 904 70 = Xi U46 904 70 from by rw [eU47]; exact Xi_ne (by omega)))))
        have w1035 : Xi T50 904 71 = Xi T45 904 71 := (show Xi T50 904 71 = Xi U49 904 71 from w1022.x _ _ rfl).trans ( (show Xi U49 904 71 = Xi U48 904 71 from by rw [eU49]; exact Xi_ne (by omega)).trans ( (show Xi U48 904 71 = Xi U47 904 71 from by rw [eU48]; exact Xi_ne (by omega)).trans ( (show Xi U47 904 71 = Xi U46 904 71 from by rw [eU47]; exact Xi_ne (by omega)).trans ((show Xi U46 904 71 = Xi T45 904 71 from by rw [eU46]; exact Xi_ne (by omega))))))
        have w1037 : Xi T50 904 72 = Xi T45 904 72 := (show Xi T50 904 72 = Xi U49 904 72 from w1022.x _ _ rfl).trans ( (show Xi U49 904 72 = Xi U48 904 72 from by rw [eU49]; exact Xi_ne (by omega)).trans ( (show Xi U48 904 72 = Xi U47 904 72 from by rw [eU48]; exact Xi_ne (by omega)).trans ( (show Xi U47 904 72 = Xi U46 904 72 from by rw [eU47]; exact Xi_ne (by omega)).trans ((show Xi U46 904 72 = Xi T45 904 72 from by rw [eU46]; exact Xi_ne (by omega))))))
        have w1039 : Xi T50 904 73 = Xi T45 904 73 := (show Xi T50 904 73 = Xi U49 904 73 from w1022.x _ _ rfl).trans ( (show Xi U49 904 73 = Xi U48 904 73 from by rw [eU49]; exact Xi_ne (by omega)).trans ( (show Xi U48 904 73 = Xi U47 904 73 from by rw [eU48]; exact Xi_ne (by omega)).trans ( (show Xi U47 904 73 = Xi U46 904 73 from by rw [eU47]; exact Xi_ne (by omega)).trans ((show Xi U46 904 73 = Xi T45 904 73 from by rw [eU46]; exact Xi_ne (by omega))))))
        have w1041 : Xi T50 904 74 = Xi T45 904 74 := (show Xi T50 904 74 = Xi U49 904 74 from w1022.x _ _ rfl).trans ( (show Xi U49 904 74 = Xi U48 904 74 from by rw [eU49]; exact Xi_ne (by omega)).trans ( (show Xi U48 904 74 = Xi U47 904 74 from by rw [eU48]; exact Xi_ne (by omega)).trans ( (show Xi U47 904 74 = Xi U46 904 74 from by rw [eU47]; exact Xi_ne (by omega)).trans ((show Xi U46 904 74 = Xi T45 904 74 from by rw [eU46]; exact Xi_ne (by omega))))))
        have w1043 : Xi T50 904 78 = Xi U48 904 78 := (show Xi T50 904 78 = Xi U49 904 78 from w1022.x _ _ rfl).trans ((show Xi U49 904 78 = Xi U48 904 78 from by rw [eU49]; exact Xi_ne (by omega)))
        refine l_callV rfl rfl rfl (t_mo_take__3 hHT50 n c 122 ⟨by omega, by omega⟩ (by first | assumption | exact (TK_FR hFT50 rfl (by assumption : TK S _))) (by first | assumption | exact (by assumption : AT T50 _ _)) (by first | assumption | omega) (by first | assumption | exact (by assumption : BDA T50)) _) ?_
        rintro _ T51 ⟨hHT51, w1054, rfl, w1048, w1049, w1050, w1051, w1052⟩
        have hFT51 : FR md_mo_rest__2 S T51 := FR.tr hFT50 w1054 rfl
        show Rl _ _ _ _ _ [] _ _
        have w1056 : 0 ≤ Xi T51 904 8 ∧ Xi T51 904 8 ≤ 5010 := hHT51.c _ _
        have w1057 : 0 ≤ Xi T51 904 65 ∧ Xi T51 904 65 ≤ 1 := hHT51.c _ _
        have w1058 : Xi T51 904 69 = Xi T45 904 69 := (show Xi T51 904 69 = Xi T50 904 69 from w1054.x _ _ rfl).trans ( (show Xi T50 904 69 = Xi U49 904 69 from w1022.x _ _ rfl).trans ( (show Xi U49 904 69 = Xi U48 904 69 from by rw [eU49]; exact Xi_ne (by omega)).trans ( (show Xi U48 904 69 = Xi U47 904 69 from by rw [eU48]; exact Xi_ne (by omega)).trans ( (show Xi U47 904 69 = Xi U46 904 69 from by rw [eU47]; exact Xi_ne (by omega)).trans ((show Xi U46 904 69 = Xi T45 904 69 from by rw [eU46]; exact Xi_ne (by omega)))))))
        have w1060 : Xi T51 904 93 = Xi T45 904 93 := (show Xi T51 904 93 = Xi T50 904 93 from w1054.x _ _ rfl).trans ( (show Xi T50 904 93 = Xi U49 904 93 from w1022.x _ _ rfl).trans ( (show Xi U49 904 93 = Xi U48 904 93 from by rw [eU49]; exact Xi_ne (by omega)).trans ( (show Xi U48 904 93 = Xi U47 904 93 from by rw [eU48]; exact Xi_ne (by omega)).trans ( (show Xi U47 904 93 = Xi U46 904 93 from by rw [eU47]; exact Xi_ne (by omega)).trans ((show Xi U46 904 93 = Xi T45 904 93 from by rw [eU46]; exact Xi_ne (by omega)))))))
        have w1055 : Xi S 904 8 ≤ Xi T51 904 8 ∧ Xi T51 904 8 ≤ n ∧ Xi S 904 69 ≤ Xi T51 904 69 ∧ (Xi T51 904 65 = 0 → Xi S 904 65 = 0) := by omega
        clear w1049 w1023
        refine l_aload_n rfl rfl ?_
        refine l_aload_n rfl rfl ?_
        have w1065 : Xi T51 904 70 = Xi U46 904 70 := (show Xi T51 904 70 = Xi T50 904 70 from w1054.x _ _ rfl).trans ( (show Xi T50 904 70 = Xi U49 904 70 from w1022.x _ _ rfl).trans ( (show Xi U49 904 70 = Xi U48 904 70 from by rw [eU49]; exact Xi_ne (by omega)).trans ( (show Xi U48 904 70 = Xi U47 904 70 from by rw [eU48]; exact Xi_ne (by omega)).trans ((show Xi U47 904 70 = Xi U46 904 70 from by rw [eU47]; exact Xi_ne (by omega))))))
        have w1067 : Xi T51 904 71 = Xi T45 904 71 := (show Xi T51 904 71 = Xi T50 904 71 from w1054.x _ _ rfl).trans ( (show Xi T50 904 71 = Xi U49 904 71 from w1022.x _ _ rfl).trans ( (show Xi U49 904 71 = Xi U48 904 71 from by rw [eU49]; exact Xi_ne (by omega)).trans ( (show Xi U48 904 71 = Xi U47 904 71 from by rw [eU48]; exact Xi_ne (by omega)).trans ( (show Xi U47 904 71 = Xi U46 904 71 from by rw [eU47]; exact Xi_ne (by omega)).trans ((show Xi U46 904 71 = Xi T45 904 71 from by rw [eU46]; exact Xi_ne (by omega)))))))
        have w1069 : Xi T51 904 72 = Xi T45 904 72 := (show Xi T51 904 72 = Xi T50 904 72 from w1054.x _ _ rfl).trans ( (show Xi T50 904 72 = Xi U49 904 72 from w1022.x _ _ rfl).trans ( (show Xi U49 904 72 = Xi U48 904 72 from by rw [eU49]; exact Xi_ne (by omega)).trans ( (show Xi U48 904 72 = Xi U47 904 72 from by rw [eU48]; exact Xi_ne (by omega)).trans ( (show Xi U47 904 72 = Xi U46 904 72 from by rw [eU47]; exact Xi_ne (by omega)).trans ((show Xi U46 904 72 = Xi T45 904 72 from by rw [eU46]; exact Xi_ne (by omega)))))))
        have w1071 : Xi T51 904 73 = Xi T45 904 73 := (show Xi T51 904 73 = Xi T50 904 73 from w1054.x _ _ rfl).trans ( (show Xi T50 904 73 = Xi U49 904 73 from w1022.x _ _ rfl).trans ( (show Xi U49 904 73 = Xi U48 904 73 from by rw [eU49]; exact Xi_ne (by omega)).trans ( (show Xi U48 904 73 = Xi U47 904 73 from by rw [eU48]; exact Xi_ne (by omega)).trans ( (show Xi U47 904 73 = Xi U46 904 73 from by rw [eU47]; exact Xi_ne (by omega)).trans ((show Xi U46 904 73 = Xi T45 904 73 from by rw [eU46]; exact Xi_ne (by omega)))))))
        have w1073 : Xi T51 904 74 = Xi T45 904 74 := (show Xi T51 904 74 = Xi T50 904 74 from w1054.x _ _ rfl).trans ( (show Xi T50 904 74 = Xi U49 904 74 from w1022.x _ _ rfl).trans ( (show Xi U49 904 74 = Xi U48 904 74 from by rw [eU49]; exact Xi_ne (by omega)).trans ( (show Xi U48 904 74 = Xi U47 904 74 from by rw [eU48]; exact Xi_ne (by omega)).trans ( (show Xi U47 904 74 = Xi U46 904 74 from by rw [eU47]; exact Xi_ne (by omega)).trans ((show Xi U46 904 74 = Xi T45 904 74 from by rw [eU46]; exact Xi_ne (by omega)))))))
        have w1075 : Xi T51 904 78 = Xi U48 904 78 := (show Xi T51 904 78 = Xi T50 904 78 from w1054.x _ _ rfl).trans ( (show Xi T50 904 78 = Xi U49 904 78 from w1022.x _ _ rfl).trans ((show Xi U49 904 78 = Xi U48 904 78 from by rw [eU49]; exact Xi_ne (by omega))))
        refine l_callV rfl rfl rfl (t_mo_run__2 hHT51 n c (by first | assumption | exact (TK_FR hFT51 rfl (by assumption : TK S _))) (by first | assumption | exact (by assumption : AT T51 _ _)) (by first | assumption | exact (RNV_FR w1054 rfl (RNV_FR w1022 rfl (RNV_FR (FR_e eU49) rfl (RNV_FR (FR_e eU48) rfl (RNV_FR (FR_e eU47) rfl (RNV_FR (FR_e eU46) rfl (by assumption : RNV T45 _)))))))) (by first | assumption | exact (by assumption : BDA T51)) _) ?_
        rintro _ T52 ⟨hHT52, w1087, z1086, rfl, w1086, w1080, w1081, w1082, w1083, w1084, w1085⟩
        have hFT52 : FR md_mo_rest__2 S T52 := FR.tr hFT51 w1087 rfl
        show Rl _ _ _ _ _ [iv z1086, .ref 904] _ _
        have w1089 : 0 ≤ Xi T52 904 8 ∧ Xi T52 904 8 ≤ 5010 := hHT52.c _ _
        have w1090 : 0 ≤ Xi T52 904 65 ∧ Xi T52 904 65 ≤ 1 := hHT52.c _ _
        have w1091 : 0 ≤ Xi T52 904 69 ∧ Xi T52 904 69 ≤ 2600 := hHT52.c _ _
        have w1092 : Xi T52 904 93 = Xi T45 904 93 := (show Xi T52 904 93 = Xi T51 904 93 from w1087.x _ _ rfl).trans ( (show Xi T51 904 93 = Xi T50 904 93 from w1054.x _ _ rfl).trans ( (show Xi T50 904 93 = Xi U49 904 93 from w1022.x _ _ rfl).trans ( (show Xi U49 904 93 = Xi U48 904 93 from by rw [eU49]; exact Xi_ne (by omega)).trans ( (show Xi U48 904 93 = Xi U47 904 93 from by rw [eU48]; exact Xi_ne (by omega)).trans ( (show Xi U47 904 93 = Xi U46 904 93 from by rw [eU47]; exact Xi_ne (by omega)).trans ((show Xi U46 904 93 = Xi T45 904 93 from by rw [eU46]; exact Xi_ne (by omega))))))))
        have w1088 : Xi S 904 8 ≤ Xi T52 904 8 ∧ Xi T52 904 8 ≤ n ∧ Xi S 904 69 ≤ Xi T52 904 69 ∧ (Xi T52 904 65 = 0 → Xi S 904 65 = 0) := by omega
        clear w1081 w1055
        refine l_pfi rfl rfl rfl rfl ?_
        obtain ⟨U53, eU53⟩ : ∃ T : sS, T = uI T52 904 78 (Int32.ofInt z1086) := ⟨_, rfl⟩
        rw [← eU53]
        have hHU53 : HI U53 := by rw [eU53]; exact HI_w hHT52 (show -2 ≤ z1086 by omega) (show z1086 ≤ 5010 by omega)
        have hFU53 : FR md_mo_rest__2 S U53 := by rw [eU53]; exact FR.wI hFT52 (mdf_i (r := (904, 905, 78, 79)) (List.mem_of_getElem? (i := 9) rfl) (inR_i (by omega) (by omega) (by omega) (by omega)))
        have w1094 : Xi U53 904 78 = z1086 := by rw [eU53]; exact Xi_same (by unfold rg; omega)
        refine l_goto rfl rfl ?_
        refine l_return rfl rfl ?_
        have w1095 : Xi U53 904 65 = Xi T52 904 65 := (show Xi U53 904 65 = Xi T52 904 65 from by rw [eU53]; exact Xi_ne (by omega))
        have w1097 : Xi U53 904 69 = Xi T52 904 69 := (show Xi U53 904 69 = Xi T52 904 69 from by rw [eU53]; exact Xi_ne (by omega))
        have w1099 : Xi U53 904 70 = Xi U46 904 70 := (show Xi U53 904 70 = Xi T52 904 70 from by rw [eU53]; exact Xi_ne (by omega)).trans ( (show Xi T52 904 70 = Xi T51 904 70 from w1087.x _ _ rfl).trans ( (show Xi T51 904 70 = Xi T50 904 70 from w1054.x _ _ rfl).trans ( (show Xi T50 904 70 = Xi U49 904 70 from w1022.x _ _ rfl).trans ( (show Xi U49 904 70 = Xi U48 904 70 from by rw [eU49]; exact Xi_ne (by omega)).trans ( (show Xi U48 904 70 = Xi U47 904 70 from by rw [eU48]; exact Xi_ne (by omega)).trans ((show Xi U47 904 70 = Xi U46 904 70 from by rw [eU47]; exact Xi_ne (by omega))))))))
        have w1101 : Xi U53 904 71 = Xi T45 904 71 := (show Xi U53 904 71 = Xi T52 904 71 from by rw [eU53]; exact Xi_ne (by omega)).trans ( (show Xi T52 904 71 = Xi T51 904 71 from w1087.x _ _ rfl).trans ( (show Xi T51 904 71 = Xi T50 904 71 from w1054.x _ _ rfl).trans ( (show Xi T50 904 71 = Xi U49 904 71 from w1022.x _ _ rfl).trans ( (show Xi U49 904 71 = Xi U48 904 71 from by rw [eU49]; exact Xi_ne (by omega)).trans ( (show Xi U48 904 71 = Xi U47 904 71 from by rw [eU48]; exact Xi_ne (by omega)).trans ( (show Xi U47 904 71 = Xi U46 904 71 from by rw [eU47]; exact Xi_ne (by omega)).trans ((show Xi U46 904 71 = Xi T45 904 71 from by rw [eU46]; exact Xi_ne (by omega)))))))))
        have w1103 : Xi U53 904 72 = Xi T45 904 72 := (show Xi U53 904 72 = Xi T52 904 72 from by rw [eU53]; exact Xi_ne (by omega)).trans ( (show Xi T52 904 72 = Xi T51 904 72 from w1087.x _ _ rfl).trans ( (show Xi T51 904 72 = Xi T50 904 72 from w1054.x _ _ rfl).trans ( (show Xi T50 904 72 = Xi U49 904 72 from w1022.x _ _ rfl).trans ( (show Xi U49 904 72 = Xi U48 904 72 from by rw [eU49]; exact Xi_ne (by omega)).trans ( (show Xi U48 904 72 = Xi U47 904 72 from by rw [eU48]; exact Xi_ne (by omega)).trans ( (show Xi U47 904 72 = Xi U46 904 72 from by rw [eU47]; exact Xi_ne (by omega)).trans ((show Xi U46 904 72 = Xi T45 904 72 from by rw [eU46]; exact Xi_ne (by omega)))))))))
        have w1105 : Xi U53 904 73 = Xi T45 904 73 := (show Xi U53 904 73 = Xi T52 904 73 from by rw [eU53]; exact Xi_ne (by omega)).trans ( (show Xi T52 904 73 = Xi T51 904 73 from w1087.x _ _ rfl).trans ( (show Xi T51 904 73 = Xi T50 904 73 from w1054.x _ _ rfl).trans ( (show Xi T50 904 73 = Xi U49 904 73 from w1022.x _ _ rfl).trans ( (show Xi U49 904 73 = Xi U48 904 73 from by rw [eU49]; exact Xi_ne (by omega)).trans ( (show Xi U48 904 73 = Xi U47 904 73 from by rw [eU48]; exact Xi_ne (by omega)).trans ( (show Xi U47 904 73 = Xi U46 904 73 from by rw [eU47]; exact Xi_ne (by omega)).trans ((show Xi U46 904 73 = Xi T45 904 73 from by rw [eU46]; exact Xi_ne (by omega)))))))))
        have w1107 : Xi U53 904 74 = Xi T45 904 74 := (show Xi U53 904 74 = Xi T52 904 74 from by rw [eU53]; exact Xi_ne (by omega)).trans ( (show Xi T52 904 74 = Xi T51 904 74 from w1087.x _ _ rfl).trans ( (show Xi T51 904 74 = Xi T50 904 74 from w1054.x _ _ rfl).trans ( (show Xi T50 904 74 = Xi U49 904 74 from w1022.x _ _ rfl).trans ( (show Xi U49 904 74 = Xi U48 904 74 from by rw [eU49]; exact Xi_ne (by omega)).trans ( (show Xi U48 904 74 = Xi U47 904 74 from by rw [eU48]; exact Xi_ne (by omega)).trans ( (show Xi U47 904 74 = Xi U46 904 74 from by rw [eU47]; exact Xi_ne (by omega)).trans ((show Xi U46 904 74 = Xi T45 904 74 from by rw [eU46]; exact Xi_ne (by omega)))))))))
        have w1109 : -2 ≤ Xi U53 904 78 ∧ Xi U53 904 78 ≤ 5010 := hHU53.c _ _
        have w1110 : Xi U53 904 8 = Xi T52 904 8 := (show Xi U53 904 8 = Xi T52 904 8 from by rw [eU53]; exact Xi_ne (by omega))
        have w1112 : Xi U53 904 93 = Xi T45 904 93 := (show Xi U53 904 93 = Xi T52 904 93 from by rw [eU53]; exact Xi_ne (by omega)).trans ( (show Xi T52 904 93 = Xi T51 904 93 from w1087.x _ _ rfl).trans ( (show Xi T51 904 93 = Xi T50 904 93 from w1054.x _ _ rfl).trans ( (show Xi T50 904 93 = Xi U49 904 93 from w1022.x _ _ rfl).trans ( (show Xi U49 904 93 = Xi U48 904 93 from by rw [eU49]; exact Xi_ne (by omega)).trans ( (show Xi U48 904 93 = Xi U47 904 93 from by rw [eU48]; exact Xi_ne (by omega)).trans ( (show Xi U47 904 93 = Xi U46 904 93 from by rw [eU47]; exact Xi_ne (by omega)).trans ((show Xi U46 904 93 = Xi T45 904 93 from by rw [eU46]; exact Xi_ne (by omega)))))))))
        exact ⟨hHU53, hFU53, rfl, (by first | assumption | exact (AT_FR (FR_e eU53) rfl (by assumption : AT T52 _ _))), (by omega), (by first | assumption | exact (RNV_FR (FR_e eU53) rfl (by assumption : RNV T52 _))), (by omega), (by omega), (by omega), (fun q => by unfold SNQ; refine ⟨fun q1 => absurd q1 (by omega), by omega, by omega, by omega, fun q9 => absurd q9 (by omega), by omega, by omega, by omega, by omega, by omega⟩), (by omega), (by first | assumption | exact (BDA_FR (FR_e eU53) rfl (by assumption : BDA T52)))⟩
set_option maxRecDepth 100000 in
set_option maxHeartbeats 8000000 in
theorem t_mo_rest__2 {S : sS} (hH : HI S) (n : Nat) (c : Nat) (hT : TK S n) (hA : AT S n c) (hv : RNV S n) (hb : Xi S 904 65 = 0) (hl : Xi S 904 71 + Xi S 904 72 ≤ Xi S 904 69 ∧ 1 ≤ Xi S 904 72) (hBDA : BDA S) (d : Nat) : Mt lay0 (d + 4) m_mo_rest [.ref 904] S (Q_mo_rest__2 S n c) := by
  refine Mt_R rfl rfl ?_
  have C313 := c313_mo_rest__2 hH n c hT hA hv hb hl hBDA d 
  have C413 := c413_mo_rest__2 hH n c hT hA hv hb hl hBDA d 
  have C197 := c197_mo_rest__2 hH n c hT hA hv hb hl hBDA d 
  have C111 := c111_mo_rest__2 hH n c hT hA hv hb hl hBDA d 
  have hF : FR md_mo_rest__2 S S := FR.rf
  have w1 : 0 ≤ Xi S 904 65 ∧ Xi S 904 65 ≤ 1 := hH.c _ _
  have w2 : 0 ≤ Xi S 904 69 ∧ Xi S 904 69 ≤ 2600 := hH.c _ _
  have w3 : 0 ≤ Xi S 904 70 ∧ Xi S 904 70 ≤ 20 := hH.c _ _
  have w4 : 0 ≤ Xi S 904 71 ∧ Xi S 904 71 ≤ 2600 := hH.c _ _
  have w5 : 0 ≤ Xi S 904 72 ∧ Xi S 904 72 ≤ 2600 := hH.c _ _
  have w6 : 0 ≤ Xi S 904 73 ∧ Xi S 904 73 ≤ 5 := hH.c _ _
  have w7 : -2 ≤ Xi S 904 78 ∧ Xi S 904 78 ≤ 5010 := hH.c _ _
  have w8 : 0 ≤ Xi S 904 8 ∧ Xi S 904 8 ≤ 5010 := hH.c _ _
  have hn5 := hT.1
  have hat := hA
  have h8 : 0 ≤ Xi S 904 8 ∧ Xi S 904 8 ≤ 5010 := hH.c _ _
  have h69 : 0 ≤ Xi S 904 69 ∧ Xi S 904 69 ≤ 2600 := hH.c _ _
  have ha0 : Xi S 904 65 = 0 → Xi S 904 8 ≤ n := fun q => (hA q).1
  have ha3 : Xi S 904 65 = 0 → 2 * Xi S 904 69 ≤ Xi S 904 8 + 1 := fun q => (hA q).2.1
  clear hat
  have hx := ha0 hb
  refine l_aload_n rfl rfl ?_
  have w1120 : 0 ≤ Xi S 904 74 ∧ Xi S 904 74 ≤ 2600 := hH.c _ _
  have w1123 : 0 ≤ Xi S 904 93 ∧ Xi S 904 93 ≤ 1700 := hH.c _ _
  refine l_callV rfl rfl rfl (t_mo_look hH n c (by first | assumption | exact (TK_FR hF rfl (by assumption : TK S _))) (by first | assumption | exact (by assumption : AT S _ _)) _) ?_
  rintro _ _ ⟨rfl, z1125, rfl, w1125, w1124⟩
  show Rl _ _ _ _ _ [iv z1125] _ _
  refine l_istore_n rfl rfl rfl ?_
  refine l_aload_n rfl rfl ?_
  refine l_iconst rfl ?_
  refine l_pfi rfl rfl rfl rfl ?_
  obtain ⟨U54, eU54⟩ : ∃ T : sS, T = uI S 904 73 (Int32.ofInt 0) := ⟨_, rfl⟩
  rw [← eU54]
  have hHU54 : HI U54 := by rw [eU54]; exact HI_w hH (show 0 ≤ 0 by omega) (show 0 ≤ 5 by omega)
  have hFU54 : FR md_mo_rest__2 S U54 := by rw [eU54]; exact FR.wI hF (mdf_i (r := (904, 905, 73, 74)) (List.mem_of_getElem? (i := 5) rfl) (inR_i (by omega) (by omega) (by omega) (by omega)))
  have w1126 : Xi U54 904 73 = 0 := by rw [eU54]; exact Xi_same (by unfold rg; omega)
  have s7_8 : Xi U54 904 8 = Xi S 904 8 := by rw [eU54, Xi_ne (by omega)]
  have s7_65 : Xi U54 904 65 = Xi S 904 65 := by rw [eU54, Xi_ne (by omega)]
  have s7_69 : Xi U54 904 69 = Xi S 904 69 := by rw [eU54, Xi_ne (by omega)]
  have s7_93 : Xi U54 904 93 = Xi S 904 93 := by rw [eU54, Xi_ne (by omega)]
  have x7 : ∀ j, Xi U54 907 j = Xi S 907 j := fun j => by rw [eU54, Xi_ne (by omega)]
  have l7 : z1125 ≠ 1 → Xi U54 904 65 = 0 ∧ Xi U54 907 (Xi U54 904 8).toNat = z1125 := fun q => by rw [x7, s7_8, s7_65]; exact (by assumption : z1125 ≠ 1 → Xi S 904 65 = 0 ∧ Xi S 907 (Xi S 904 8).toNat = z1125) q
  refine l_iload_n rfl rfl ?_
  refine l_bipush rfl rfl ?_
  refine l_icmp_ne rfl rfl (by unfold rg; omega) (by unfold rg; omega) (fun w1127 => ?_) (fun w1128 => ?_)
  · have w1129 : Xi U54 904 65 = Xi S 904 65 := (show Xi U54 904 65 = Xi S 904 65 from by rw [eU54]; exact Xi_ne (by omega))
    have w1131 : Xi U54 904 69 = Xi S 904 69 := (show Xi U54 904 69 = Xi S 904 69 from by rw [eU54]; exact Xi_ne (by omega))
    have w1133 : Xi U54 904 70 = Xi S 904 70 := (show Xi U54 904 70 = Xi S 904 70 from by rw [eU54]; exact Xi_ne (by omega))
    have w1135 : Xi U54 904 71 = Xi S 904 71 := (show Xi U54 904 71 = Xi S 904 71 from by rw [eU54]; exact Xi_ne (by omega))
    have w1137 : Xi U54 904 72 = Xi S 904 72 := (show Xi U54 904 72 = Xi S 904 72 from by rw [eU54]; exact Xi_ne (by omega))
    have w1139 : 0 ≤ Xi U54 904 73 ∧ Xi U54 904 73 ≤ 5 := hHU54.c _ _
    have w1140 : Xi U54 904 74 = Xi S 904 74 := (show Xi U54 904 74 = Xi S 904 74 from by rw [eU54]; exact Xi_ne (by omega))
    have w1142 : Xi U54 904 78 = Xi S 904 78 := (show Xi U54 904 78 = Xi S 904 78 from by rw [eU54]; exact Xi_ne (by omega))
    have w1144 : Xi U54 904 8 = Xi S 904 8 := (show Xi U54 904 8 = Xi S 904 8 from by rw [eU54]; exact Xi_ne (by omega))
    have w1146 : Xi U54 904 93 = Xi S 904 93 := (show Xi U54 904 93 = Xi S 904 93 from by rw [eU54]; exact Xi_ne (by omega))
    exact Rl_weak (C111 U54 hHU54 hFU54 (z1125) (by omega) (by first | assumption | exact (AT_FR (FR_e eU54) rfl (by assumption : AT S _ _))) (by first | assumption | exact (RNV_FR (FR_e eU54) rfl (by assumption : RNV S _))) (by omega) (by omega) (by omega) (by omega) (by omega) (by omega) (by first | assumption | exact (BDA_FR (FR_e eU54) rfl (by assumption : BDA S)))) (And.intro rfl (And.intro rfl (True.intro)))
  · refine l_aload_n rfl rfl ?_
    refine l_gfr rfl rfl rfl rfl rfl (hHU54.r 904 4 907 rfl) ?_
    refine l_aload_n rfl rfl ?_
    refine l_gfi rfl rfl rfl rfl rfl ?_
    have w1148 : (Xi U54 904 8) = (Xi S 904 8) := (show Xi U54 904 8 = Xi S 904 8 from by rw [eU54]; exact Xi_ne (by omega))
    rw [w1148]
    refine l_iconst rfl ?_
    refine l_iadd rfl ?_
    refine l_iaload (n := 5002) rfl rfl (by omega) (by omega) (by unfold rg; omega) ?_
    have w1149 : 0 ≤ (Xi U54 907 ((((Xi S 904 8) + 1)).toNat)) ∧ (Xi U54 907 ((((Xi S 904 8) + 1)).toNat)) ≤ 154 := hHU54.c _ _
    have e26 : (Xi U54 907 ((((Xi S 904 8) + 1)).toNat)) = Xi S 907 (Xi S 904 8 + 1).toNat := by first | rfl | exact (hFU54.cx 907 rfl _).1 | (rw [(hFU54.cx 907 rfl _).1, show Xi U54 904 8 = Xi S 904 8 by omega])
    refine l_bipush rfl rfl ?_
    refine l_icmp_ne rfl rfl (by unfold rg; omega) (by unfold rg; omega) (fun w1150 => ?_) (fun w1151 => ?_)
    · have w1152 : Xi U54 904 65 = Xi S 904 65 := (show Xi U54 904 65 = Xi S 904 65 from by rw [eU54]; exact Xi_ne (by omega))
      have w1154 : Xi U54 904 69 = Xi S 904 69 := (show Xi U54 904 69 = Xi S 904 69 from by rw [eU54]; exact Xi_ne (by omega))
      have w1156 : Xi U54 904 70 = Xi S 904 70 := (show Xi U54 904 70 = Xi S 904 70 from by rw [eU54]; exact Xi_ne (by omega))
      have w1158 : Xi U54 904 71 = Xi S 904 71 := (show Xi U54 904 71 = Xi S 904 71 from by rw [eU54]; exact Xi_ne (by omega))
      have w1160 : Xi U54 904 72 = Xi S 904 72 := (show Xi U54 904 72 = Xi S 904 72 from by rw [eU54]; exact Xi_ne (by omega))
      have w1162 : 0 ≤ Xi U54 904 73 ∧ Xi U54 904 73 ≤ 5 := hHU54.c _ _
      have w1163 : Xi U54 904 74 = Xi S 904 74 := (show Xi U54 904 74 = Xi S 904 74 from by rw [eU54]; exact Xi_ne (by omega))
      have w1165 : Xi U54 904 78 = Xi S 904 78 := (show Xi U54 904 78 = Xi S 904 78 from by rw [eU54]; exact Xi_ne (by omega))
      have w1167 : Xi U54 904 8 = Xi S 904 8 := (show Xi U54 904 8 = Xi S 904 8 from by rw [eU54]; exact Xi_ne (by omega))
      have w1169 : Xi U54 904 93 = Xi S 904 93 := (show Xi U54 904 93 = Xi S 904 93 from by rw [eU54]; exact Xi_ne (by omega))
      exact Rl_weak (C111 U54 hHU54 hFU54 (z1125) (by omega) (by first | assumption | exact (AT_FR (FR_e eU54) rfl (by assumption : AT S _ _))) (by first | assumption | exact (RNV_FR (FR_e eU54) rfl (by assumption : RNV S _))) (by omega) (by omega) (by omega) (by omega) (by omega) (by omega) (by first | assumption | exact (BDA_FR (FR_e eU54) rfl (by assumption : BDA S)))) (And.intro rfl (And.intro rfl (True.intro)))
    · refine l_aload_n rfl rfl ?_
      refine l_bipush rfl rfl ?_
      refine l_pfi rfl rfl rfl rfl ?_
      obtain ⟨U55, eU55⟩ : ∃ T : sS, T = uI U54 904 70 (Int32.ofInt 10) := ⟨_, rfl⟩
      rw [← eU55]
      have hHU55 : HI U55 := by rw [eU55]; exact HI_w hHU54 (show 0 ≤ 10 by omega) (show 10 ≤ 20 by omega)
      have hFU55 : FR md_mo_rest__2 S U55 := by rw [eU55]; exact FR.wI hFU54 (mdf_i (r := (904, 905, 70, 71)) (List.mem_of_getElem? (i := 4) rfl) (inR_i (by omega) (by omega) (by omega) (by omega)))
      have w1171 : Xi U55 904 70 = 10 := by rw [eU55]; exact Xi_same (by unfold rg; omega)
      refine l_aload_n rfl rfl ?_
      refine l_dup rfl rfl ?_
      refine l_gfi rfl rfl rfl rfl rfl ?_
      have w1172 : (Xi U55 904 8) = (Xi S 904 8) := (show Xi U55 904 8 = Xi U54 904 8 from by rw [eU55]; exact Xi_ne (by omega)).trans ((show Xi U54 904 8 = Xi S 904 8 from by rw [eU54]; exact Xi_ne (by omega)))
      rw [w1172]
      refine l_iconst rfl ?_
      refine l_iadd rfl ?_
      refine l_pfi rfl rfl rfl rfl ?_
      obtain ⟨U56, eU56⟩ : ∃ T : sS, T = uI U55 904 8 (Int32.ofInt ((Xi S 904 8) + 2)) := ⟨_, rfl⟩
      rw [← eU56]
      have hHU56 : HI U56 := by rw [eU56]; exact HI_w hHU55 (show 0 ≤ ((Xi S 904 8) + 2) by omega) (show ((Xi S 904 8) + 2) ≤ 5010 by omega)
      have hFU56 : FR md_mo_rest__2 S U56 := by rw [eU56]; exact FR.wI hFU55 (mdf_i (r := (904, 905, 8, 9)) (List.mem_of_getElem? (i := 0) rfl) (inR_i (by omega) (by omega) (by omega) (by omega)))
      have w1173 : Xi U56 904 8 = ((Xi S 904 8) + 2) := by rw [eU56]; exact Xi_same (by unfold rg; omega)
      have t45 : AT U56 n c ∧ _ := (at_mv2 (S := S) (P := U55) (TK_FR hF rfl (by assumption : TK S _)) (by first | assumption | exact (by assumption : AT S _ _)) (fun j => ((FR_e eU55).cx 907 rfl j).1.trans (((FR_e eU54).cx 907 rfl j).1)) (fun j => ((FR_e eU55).cx 908 rfl j).1.trans (((FR_e eU54).cx 908 rfl j).1)) ((show Xi U55 904 8 = Xi U54 904 8 from by rw [eU55]; exact Xi_ne (by omega)).trans ((show Xi U54 904 8 = Xi S 904 8 from by rw [eU54]; exact Xi_ne (by omega)))) ((show Xi U55 904 65 = Xi U54 904 65 from by rw [eU55]; exact Xi_ne (by omega)).trans ((show Xi U54 904 65 = Xi S 904 65 from by rw [eU54]; exact Xi_ne (by omega)))) ((show Xi U55 904 69 = Xi U54 904 69 from by rw [eU55]; exact Xi_ne (by omega)).trans ((show Xi U54 904 69 = Xi S 904 69 from by rw [eU54]; exact Xi_ne (by omega)))) ((show Xi U55 904 93 = Xi U54 904 93 from by rw [eU55]; exact Xi_ne (by omega)).trans ((show Xi U54 904 93 = Xi S 904 93 from by rw [eU54]; exact Xi_ne (by omega)))) eU56 (by omega) (by omega) (by omega) (by omega) (by omega))
      have a45 : AT U56 n c := t45.1
      have l45 := t45.2
      refine l_aload_n rfl rfl ?_
      refine l_iconst rfl ?_
      refine l_pfi rfl rfl rfl rfl ?_
      obtain ⟨U57, eU57⟩ : ∃ T : sS, T = uI U56 904 78 (Int32.ofInt (-1)) := ⟨_, rfl⟩
      rw [← eU57]
      have hHU57 : HI U57 := by rw [eU57]; exact HI_w hHU56 (show -2 ≤ (-1) by omega) (show (-1) ≤ 5010 by omega)
      have hFU57 : FR md_mo_rest__2 S U57 := by rw [eU57]; exact FR.wI hFU56 (mdf_i (r := (904, 905, 78, 79)) (List.mem_of_getElem? (i := 9) rfl) (inR_i (by omega) (by omega) (by omega) (by omega)))
      have w1174 : Xi U57 904 78 = (-1) := by rw [eU57]; exact Xi_same (by unfold rg; omega)
      refine l_aload_n rfl rfl ?_
      refine l_bipush rfl rfl ?_
      have w1175 : Xi U57 904 65 = Xi S 904 65 := (show Xi U57 904 65 = Xi U56 904 65 from by rw [eU57]; exact Xi_ne (by omega)).trans ( (show Xi U56 904 65 = Xi U55 904 65 from by rw [eU56]; exact Xi_ne (by omega)).trans ( (show Xi U55 904 65 = Xi U54 904 65 from by rw [eU55]; exact Xi_ne (by omega)).trans ((show Xi U54 904 65 = Xi S 904 65 from by rw [eU54]; exact Xi_ne (by omega)))))
      have w1177 : Xi U57 904 69 = Xi S 904 69 := (show Xi U57 904 69 = Xi U56 904 69 from by rw [eU57]; exact Xi_ne (by omega)).trans ( (show Xi U56 904 69 = Xi U55 904 69 from by rw [eU56]; exact Xi_ne (by omega)).trans ( (show Xi U55 904 69 = Xi U54 904 69 from by rw [eU55]; exact Xi_ne (by omega)).trans ((show Xi U54 904 69 = Xi S 904 69 from by rw [eU54]; exact Xi_ne (by omega)))))
      have w1179 : Xi U57 904 70 = Xi U55 904 70 := (show Xi U57 904 70 = Xi U56 904 70 from by rw [eU57]; exact Xi_ne (by omega)).trans ((show Xi U56 904 70 = Xi U55 904 70 from by rw [eU56]; exact Xi_ne (by omega)))
      have w1180 : 0 ≤ Xi U55 904 70 ∧ Xi U55 904 70 ≤ 20 := hHU55.c _ _
      have w1181 : Xi U57 904 71 = Xi S 904 71 := (show Xi U57 904 71 = Xi U56 904 71 from by rw [eU57]; exact Xi_ne (by omega)).trans ( (show Xi U56 904 71 = Xi U55 904 71 from by rw [eU56]; exact Xi_ne (by omega)).trans ( (show Xi U55 904 71 = Xi U54 904 71 from by rw [eU55]; exact Xi_ne (by omega)).trans ((show Xi U54 904 71 = Xi S 904 71 from by rw [eU54]; exact Xi_ne (by omega)))))
      have w1183 : Xi U57 904 72 = Xi S 904 72 := (show Xi U57 904 72 = Xi U56 904 72 from by rw [eU57]; exact Xi_ne (by omega)).trans ( (show Xi U56 904 72 = Xi U55 904 72 from by rw [eU56]; exact Xi_ne (by omega)).trans ( (show Xi U55 904 72 = Xi U54 904 72 from by rw [eU55]; exact Xi_ne (by omega)).trans ((show Xi U54 904 72 = Xi S 904 72 from by rw [eU54]; exact Xi_ne (by omega)))))
      have w1185 : Xi U57 904 73 = Xi U54 904 73 := (show Xi U57 904 73 = Xi U56 904 73 from by rw [eU57]; exact Xi_ne (by omega)).trans ( (show Xi U56 904 73 = Xi U55 904 73 from by rw [eU56]; exact Xi_ne (by omega)).trans ((show Xi U55 904 73 = Xi U54 904 73 from by rw [eU55]; exact Xi_ne (by omega))))
      have w1186 : 0 ≤ Xi U54 904 73 ∧ Xi U54 904 73 ≤ 5 := hHU54.c _ _
      have w1187 : Xi U57 904 74 = Xi S 904 74 := (show Xi U57 904 74 = Xi U56 904 74 from by rw [eU57]; exact Xi_ne (by omega)).trans ( (show Xi U56 904 74 = Xi U55 904 74 from by rw [eU56]; exact Xi_ne (by omega)).trans ( (show Xi U55 904 74 = Xi U54 904 74 from by rw [eU55]; exact Xi_ne (by omega)).trans ((show Xi U54 904 74 = Xi S 904 74 from by rw [eU54]; exact Xi_ne (by omega)))))
      have w1189 : -2 ≤ Xi U57 904 78 ∧ Xi U57 904 78 ≤ 5010 := hHU57.c _ _
      have w1190 : Xi U57 904 8 = Xi U56 904 8 := (show Xi U57 904 8 = Xi U56 904 8 from by rw [eU57]; exact Xi_ne (by omega))
      have w1191 : 0 ≤ Xi U56 904 8 ∧ Xi U56 904 8 ≤ 5010 := hHU56.c _ _
      have w1192 : Xi U57 904 93 = Xi S 904 93 := (show Xi U57 904 93 = Xi U56 904 93 from by rw [eU57]; exact Xi_ne (by omega)).trans ( (show Xi U56 904 93 = Xi U55 904 93 from by rw [eU56]; exact Xi_ne (by omega)).trans ( (show Xi U55 904 93 = Xi U54 904 93 from by rw [eU55]; exact Xi_ne (by omega)).trans ((show Xi U54 904 93 = Xi S 904 93 from by rw [eU54]; exact Xi_ne (by omega)))))
      refine l_callV rfl rfl rfl (t_mo_isNext hHU57 n c 107 ⟨by omega, by omega⟩ (by first | assumption | exact (TK_FR hFU57 rfl (by assumption : TK S _))) (by first | assumption | exact (AT_FR (FR_e eU57) rfl (by assumption : AT U56 _ _))) _) ?_
      rintro _ _ ⟨rfl, z1196, rfl, w1196, w1194, w1195⟩
      show Rl _ _ _ _ _ [iv z1196] _ _
      have j56 : z1196 = 1 → Xi U57 904 65 = 0 ∧ Xi U57 907 (Xi U57 904 8).toNat = 107 := by assumption
      refine l_if_eq rfl rfl (by unfold rg; omega) (fun w1197 => ?_) (fun w1198 => ?_)
      · refine l_return rfl rfl ?_
        exact ⟨hHU57, hFU57, rfl, (by first | assumption | exact (AT_FR (FR_e eU57) rfl (by assumption : AT U56 _ _))), (by omega), (by first | assumption | exact (RNV_FR (FR_e eU57) rfl (RNV_FR (FR_e eU56) rfl (RNV_FR (FR_e eU55) rfl (RNV_FR (FR_e eU54) rfl (by assumption : RNV S _)))))), (by omega), (by omega), (by omega), (fun q => by unfold SNQ; refine ⟨fun q1 => absurd q1 (by omega), by omega, by omega, by omega, fun q9 => absurd q9 (by omega), by omega, by omega, by omega, by omega, by omega⟩), (by omega), (by first | assumption | exact (BDA_FR (FR_e eU57) rfl (BDA_FR (FR_e eU56) rfl (BDA_FR (FR_e eU55) rfl (BDA_FR (FR_e eU54) rfl (by assumption : BDA S))))))⟩
      · refine l_aload_n rfl rfl ?_
        refine l_dup rfl rfl ?_
        refine l_gfi rfl rfl rfl rfl rfl ?_
        have w1218 : (Xi U57 904 8) = (Xi U56 904 8) := (show Xi U57 904 8 = Xi U56 904 8 from by rw [eU57]; exact Xi_ne (by omega))
        rw [w1218]
        refine l_iconst rfl ?_
        refine l_iadd rfl ?_
        refine l_pfi rfl rfl rfl rfl ?_
        obtain ⟨U58, eU58⟩ : ∃ T : sS, T = uI U57 904 8 (Int32.ofInt ((Xi U56 904 8) + 1)) := ⟨_, rfl⟩
        rw [← eU58]
        have hHU58 : HI U58 := by rw [eU58]; exact HI_w hHU57 (show 0 ≤ ((Xi U56 904 8) + 1) by omega) (show ((Xi U56 904 8) + 1) ≤ 5010 by omega)
        have hFU58 : FR md_mo_rest__2 S U58 := by rw [eU58]; exact FR.wI hFU57 (mdf_i (r := (904, 905, 8, 9)) (List.mem_of_getElem? (i := 0) rfl) (inR_i (by omega) (by omega) (by omega) (by omega)))
        have w1219 : Xi U58 904 8 = ((Xi U56 904 8) + 1) := by rw [eU58]; exact Xi_same (by unfold rg; omega)
        have t69 : AT U58 n c ∧ _ := (at_mv (S := U57) (P := U57) (TK_FR hFU57 rfl (by assumption : TK S _)) (by first | assumption | exact (AT_FR (FR_e eU57) rfl (by assumption : AT U56 _ _))) (fun j => rfl) (fun j => rfl) (rfl) (rfl) (rfl) (rfl) eU58 (by omega) (by omega) (by omega) (by omega) (Or.inl rfl))
        have a69 : AT U58 n c := t69.1
        have l69 := t69.2
        refine l_aload_n rfl rfl ?_
        refine l_bipush rfl rfl ?_
        have w1220 : Xi U58 904 65 = Xi S 904 65 := (show Xi U58 904 65 = Xi U57 904 65 from by rw [eU58]; exact Xi_ne (by omega)).trans ( (show Xi U57 904 65 = Xi U56 904 65 from by rw [eU57]; exact Xi_ne (by omega)).trans ( (show Xi U56 904 65 = Xi U55 904 65 from by rw [eU56]; exact Xi_ne (by omega)).trans ( (show Xi U55 904 65 = Xi U54 904 65 from by rw [eU55]; exact Xi_ne (by omega)).trans ((show Xi U54 904 65 = Xi S 904 65 from by rw [eU54]; exact Xi_ne (by omega))))))
        have w1222 : Xi U58 904 69 = Xi S 904 69 := (show Xi U58 904 69 = Xi U57 904 69 from by rw [eU58]; exact Xi_ne (by omega)).trans ( (show Xi U57 904 69 = Xi U56 904 69 from by rw [eU57]; exact Xi_ne (by omega)).trans ( (show Xi U56 904 69 = Xi U55 904 69 from by rw [eU56]; exact Xi_ne (by omega)).trans ( (show Xi U55 904 69 = Xi U54 904 69 from by rw [eU55]; exact Xi_ne (by omega)).trans ((show Xi U54 904 69 = Xi S 904 69 from by rw [eU54]; exact Xi_ne (by omega))))))
        have w1224 : Xi U58 904 70 = Xi U55 904 70 := (show Xi U58 904 70 = Xi U57 904 70 from by rw [eU58]; exact Xi_ne (by omega)).trans ( (show Xi U57 904 70 = Xi U56 904 70 from by rw [eU57]; exact Xi_ne (by omega)).trans ((show Xi U56 904 70 = Xi U55 904 70 from by rw [eU56]; exact Xi_ne (by omega))))
        have w1226 : Xi U58 904 71 = Xi S 904 71 := (show Xi U58 904 71 = Xi U57 904 71 from by rw [eU58]; exact Xi_ne (by omega)).trans ( (show Xi U57 904 71 = Xi U56 904 71 from by rw [eU57]; exact Xi_ne (by omega)).trans ( (show Xi U56 904 71 = Xi U55 904 71 from by rw [eU56]; exact Xi_ne (by omega)).trans ( (show Xi U55 904 71 = Xi U54 904 71 from by rw [eU55]; exact Xi_ne (by omega)).trans ((show Xi U54 904 71 = Xi S 904 71 from by rw [eU54]; exact Xi_ne (by omega))))))
        have w1228 : Xi U58 904 72 = Xi S 904 72 := (show Xi U58 904 72 = Xi U57 904 72 from by rw [eU58]; exact Xi_ne (by omega)).trans ( (show Xi U57 904 72 = Xi U56 904 72 from by rw [eU57]; exact Xi_ne (by omega)).trans ( (show Xi U56 904 72 = Xi U55 904 72 from by rw [eU56]; exact Xi_ne (by omega)).trans ( (show Xi U55 904 72 = Xi U54 904 72 from by rw [eU55]; exact Xi_ne (by omega)).trans ((show Xi U54 904 72 = Xi S 904 72 from by rw [eU54]; exact Xi_ne (by omega))))))
        have w1230 : Xi U58 904 73 = Xi U54 904 73 := (show Xi U58 904 73 = Xi U57 904 73 from by rw [eU58]; exact Xi_ne (by omega)).trans ( (show Xi U57 904 73 = Xi U56 904 73 from by rw [eU57]; exact Xi_ne (by omega)).trans ( (show Xi U56 904 73 = Xi U55 904 73 from by rw [eU56]; exact Xi_ne (by omega)).trans ((show Xi U55 904 73 = Xi U54 904 73 from by rw [eU55]; exact Xi_ne (by omega)))))
        have w1232 : Xi U58 904 74 = Xi S 904 74 := (show Xi U58 904 74 = Xi U57 904 74 from by rw [eU58]; exact Xi_ne (by omega)).trans ( (show Xi U57 904 74 = Xi U56 904 74 from by rw [eU57]; exact Xi_ne (by omega)).trans ( (show Xi U56 904 74 = Xi U55 904 74 from by rw [eU56]; exact Xi_ne (by omega)).trans ( (show Xi U55 904 74 = Xi U54 904 74 from by rw [eU55]; exact Xi_ne (by omega)).trans ((show Xi U54 904 74 = Xi S 904 74 from by rw [eU54]; exact Xi_ne (by omega))))))
        have w1234 : Xi U58 904 78 = Xi U57 904 78 := (show Xi U58 904 78 = Xi U57 904 78 from by rw [eU58]; exact Xi_ne (by omega))
        have w1236 : 0 ≤ Xi U58 904 8 ∧ Xi U58 904 8 ≤ 5010 := hHU58.c _ _
        have w1237 : Xi U58 904 93 = Xi S 904 93 := (show Xi U58 904 93 = Xi U57 904 93 from by rw [eU58]; exact Xi_ne (by omega)).trans ( (show Xi U57 904 93 = Xi U56 904 93 from by rw [eU57]; exact Xi_ne (by omega)).trans ( (show Xi U56 904 93 = Xi U55 904 93 from by rw [eU56]; exact Xi_ne (by omega)).trans ( (show Xi U55 904 93 = Xi U54 904 93 from by rw [eU55]; exact Xi_ne (by omega)).trans ((show Xi U54 904 93 = Xi S 904 93 from by rw [eU54]; exact Xi_ne (by omega))))))
        refine l_callV rfl rfl rfl (t_mo_isNext hHU58 n c 120 ⟨by omega, by omega⟩ (by first | assumption | exact (TK_FR hFU58 rfl (by assumption : TK S _))) (by first | assumption | exact (by assumption : AT U58 _ _)) _) ?_
        rintro _ _ ⟨rfl, z1241, rfl, w1241, w1239, w1240⟩
        show Rl _ _ _ _ _ [iv z1241] _ _
        have j75 : z1241 = 1 → Xi U58 904 65 = 0 ∧ Xi U58 907 (Xi U58 904 8).toNat = 120 := by assumption
        refine l_if_eq rfl rfl (by unfold rg; omega) (fun w1242 => ?_) (fun w1243 => ?_)
        · refine l_aload_n rfl rfl ?_
          refine l_aload_n rfl rfl ?_
          refine l_callV rfl rfl rfl (t_mo_name__2 hHU58 n c (by first | assumption | exact (TK_FR hFU58 rfl (by assumption : TK S _))) (by first | assumption | exact (by assumption : AT U58 _ _)) (by first | assumption | exact (RNV_FR (FR_e eU58) rfl (RNV_FR (FR_e eU57) rfl (RNV_FR (FR_e eU56) rfl (RNV_FR (FR_e eU55) rfl (RNV_FR (FR_e eU54) rfl (by assumption : RNV S _))))))) (by first | assumption | exact (BDA_FR (FR_e eU58) rfl (BDA_FR (FR_e eU57) rfl (BDA_FR (FR_e eU56) rfl (BDA_FR (FR_e eU55) rfl (BDA_FR (FR_e eU54) rfl (by assumption : BDA S))))))) _) ?_
          rintro _ T59 ⟨hHT59, w1270, z1269, rfl, w1269, w1263, w1264, w1265, w1266, w1267, w1268⟩
          have hFT59 : FR md_mo_rest__2 S T59 := FR.tr hFU58 w1270 rfl
          show Rl _ _ _ _ _ [iv z1269, .ref 904] _ _
          have w1272 : 0 ≤ Xi T59 904 8 ∧ Xi T59 904 8 ≤ 5010 := hHT59.c _ _
          have w1273 : 0 ≤ Xi T59 904 65 ∧ Xi T59 904 65 ≤ 1 := hHT59.c _ _
          have w1274 : 0 ≤ Xi T59 904 69 ∧ Xi T59 904 69 ≤ 2600 := hHT59.c _ _
          have w1275 : Xi T59 904 93 = Xi S 904 93 := (show Xi T59 904 93 = Xi U58 904 93 from w1270.x _ _ rfl).trans ( (show Xi U58 904 93 = Xi U57 904 93 from by rw [eU58]; exact Xi_ne (by omega)).trans ( (show Xi U57 904 93 = Xi U56 904 93 from by rw [eU57]; exact Xi_ne (by omega)).trans ( (show Xi U56 904 93 = Xi U55 904 93 from by rw [eU56]; exact Xi_ne (by omega)).trans ( (show Xi U55 904 93 = Xi U54 904 93 from by rw [eU55]; exact Xi_ne (by omega)).trans ((show Xi U54 904 93 = Xi S 904 93 from by rw [eU54]; exact Xi_ne (by omega)))))))
          have w1271 : Xi S 904 8 ≤ Xi T59 904 8 ∧ Xi T59 904 8 ≤ n ∧ Xi S 904 69 ≤ Xi T59 904 69 ∧ (Xi T59 904 65 = 0 → Xi S 904 65 = 0) := by omega
          clear w1264
          refine l_pfi rfl rfl rfl rfl ?_
          obtain ⟨U60, eU60⟩ : ∃ T : sS, T = uI T59 904 78 (Int32.ofInt z1269) := ⟨_, rfl⟩
          rw [← eU60]
          have hHU60 : HI U60 := by rw [eU60]; exact HI_w hHT59 (show -2 ≤ z1269 by omega) (show z1269 ≤ 5010 by omega)
          have hFU60 : FR md_mo_rest__2 S U60 := by rw [eU60]; exact FR.wI hFT59 (mdf_i (r := (904, 905, 78, 79)) (List.mem_of_getElem? (i := 9) rfl) (inR_i (by omega) (by omega) (by omega) (by omega)))
          have w1277 : Xi U60 904 78 = z1269 := by rw [eU60]; exact Xi_same (by unfold rg; omega)
          refine l_goto rfl rfl ?_
          refine l_return rfl rfl ?_
          have w1278 : Xi U60 904 65 = Xi T59 904 65 := (show Xi U60 904 65 = Xi T59 904 65 from by rw [eU60]; exact Xi_ne (by omega))
          have w1280 : Xi U60 904 69 = Xi T59 904 69 := (show Xi U60 904 69 = Xi T59 904 69 from by rw [eU60]; exact Xi_ne (by omega))
          have w1282 : Xi U60 904 70 = Xi U55 904 70 := (show Xi U60 904 70 = Xi T59 904 70 from by rw [eU60]; exact Xi_ne (by omega)).trans ( (show Xi T59 904 70 = Xi U58 904 70 from w1270.x _ _ rfl).trans ( (show Xi U58 904 70 = Xi U57 904 70 from by rw [eU58]; exact Xi_ne (by omega)).trans ( (show Xi U57 904 70 = Xi U56 904 70 from by rw [eU57]; exact Xi_ne (by omega)).trans ((show Xi U56 904 70 = Xi U55 904 70 from by rw [eU56]; exact Xi_ne (by omega))))))
          have w1284 : Xi U60 904 71 = Xi S 904 71 := (show Xi U60 904 71 = Xi T59 904 71 from by rw [eU60]; exact Xi_ne (by omega)).trans ( (show Xi T59 904 71 = Xi U58 904 71 from w1270.x _ _ rfl).trans ( (show Xi U58 904 71 = Xi U57 904 71 from by rw [eU58]; exact Xi_ne (by omega)).trans ( (show Xi U57 904 71 = Xi U56 904 71 from by rw [eU57]; exact Xi_ne (by omega)).trans ( (show Xi U56 904 71 = Xi U55 904 71 from by rw [eU56]; exact Xi_ne (by omega)).trans ( (show Xi U55 904 71 = Xi U54 904 71 from by rw [eU55]; exact Xi_ne (by omega)).trans ((show Xi U54 904 71 = Xi S 904 71 from by rw [eU54]; exact Xi_ne (by omega))))))))
          have w1286 : Xi U60 904 72 = Xi S 904 72 := (show Xi U60 904 72 = Xi T59 904 72 from by rw [eU60]; exact Xi_ne (by omega)).trans ( (show Xi T59 904 72 = Xi U58 904 72 from w1270.x _ _ rfl).trans ( (show Xi U58 904 72 = Xi U57 904 72 from by rw [eU58]; exact Xi_ne (by omega)).trans ( (show Xi U57 904 72 = Xi U56 904 72 from by rw [eU57]; exact Xi_ne (by omega)).trans ( (show Xi U56 904 72 = Xi U55 904 72 from by rw [eU56]; exact Xi_ne (by omega)).trans ( (show Xi U55 904 72 = Xi U54 904 72 from by rw [eU55]; exact Xi_ne (by omega)).trans ((show Xi U54 904 72 = Xi S 904 72 from by rw [eU54]; exact Xi_ne (by omega))))))))
          have w1288 : Xi U60 904 73 = Xi U54 904 73 := (show Xi U60 904 73 = Xi T59 904 73 from by rw [eU60]; exact Xi_ne (by omega)).trans ( (show Xi T59 904 73 = Xi U58 904 73 from w1270.x _ _ rfl).trans ( (show Xi U58 904 73 = Xi U57 904 73 from by rw [eU58]; exact Xi_ne (by omega)).trans ( (show Xi U57 904 73 = Xi U56 904 73 from by rw [eU57]; exact Xi_ne (by omega)).trans ( (show Xi U56 904 73 = Xi U55 904 73 from by rw [eU56]; exact Xi_ne (by omega)).trans ((show Xi U55 904 73 = Xi U54 904 73 from by rw [eU55]; exact Xi_ne (by omega)))))))
          have w1290 : Xi U60 904 74 = Xi S 904 74 := (show Xi U60 904 74 = Xi T59 904 74 from by rw [eU60]; exact Xi_ne (by omega)).trans ( (show Xi T59 904 74 = Xi U58 904 74 from w1270.x _ _ rfl).trans ( (show Xi U58 904 74 = Xi U57 904 74 from by rw [eU58]; exact Xi_ne (by omega)).trans ( (show Xi U57 904 74 = Xi U56 904 74 from by rw [eU57]; exact Xi_ne (by omega)).trans ( (show Xi U56 904 74 = Xi U55 904 74 from by rw [eU56]; exact Xi_ne (by omega)).trans ( (show Xi U55 904 74 = Xi U54 904 74 from by rw [eU55]; exact Xi_ne (by omega)).trans ((show Xi U54 904 74 = Xi S 904 74 from by rw [eU54]; exact Xi_ne (by omega))))))))
          have w1292 : -2 ≤ Xi U60 904 78 ∧ Xi U60 904 78 ≤ 5010 := hHU60.c _ _
          have w1293 : Xi U60 904 8 = Xi T59 904 8 := (show Xi U60 904 8 = Xi T59 904 8 from by rw [eU60]; exact Xi_ne (by omega))
          have w1295 : Xi U60 904 93 = Xi S 904 93 := (show Xi U60 904 93 = Xi T59 904 93 from by rw [eU60]; exact Xi_ne (by omega)).trans ( (show Xi T59 904 93 = Xi U58 904 93 from w1270.x _ _ rfl).trans ( (show Xi U58 904 93 = Xi U57 904 93 from by rw [eU58]; exact Xi_ne (by omega)).trans ( (show Xi U57 904 93 = Xi U56 904 93 from by rw [eU57]; exact Xi_ne (by omega)).trans ( (show Xi U56 904 93 = Xi U55 904 93 from by rw [eU56]; exact Xi_ne (by omega)).trans ( (show Xi U55 904 93 = Xi U54 904 93 from by rw [eU55]; exact Xi_ne (by omega)).trans ((show Xi U54 904 93 = Xi S 904 93 from by rw [eU54]; exact Xi_ne (by omega))))))))
          exact ⟨hHU60, hFU60, rfl, (by first | assumption | exact (AT_FR (FR_e eU60) rfl (by assumption : AT T59 _ _))), (by omega), (by first | assumption | exact (RNV_FR (FR_e eU60) rfl (by assumption : RNV T59 _))), (by omega), (by omega), (by omega), (fun q => by unfold SNQ; refine ⟨fun q1 => absurd q1 (by omega), by omega, by omega, by omega, fun q9 => absurd q9 (by omega), by omega, by omega, by omega, by omega, by omega⟩), (by omega), (by first | assumption | exact (BDA_FR (FR_e eU60) rfl (by assumption : BDA T59)))⟩
        · refine l_aload_n rfl rfl ?_
          refine l_bipush rfl rfl ?_
          refine l_pfi rfl rfl rfl rfl ?_
          obtain ⟨U61, eU61⟩ : ∃ T : sS, T = uI U58 904 78 (Int32.ofInt (-2)) := ⟨_, rfl⟩
          rw [← eU61]
          have hHU61 : HI U61 := by rw [eU61]; exact HI_w hHU58 (show -2 ≤ (-2) by omega) (show (-2) ≤ 5010 by omega)
          have hFU61 : FR md_mo_rest__2 S U61 := by rw [eU61]; exact FR.wI hFU58 (mdf_i (r := (904, 905, 78, 79)) (List.mem_of_getElem? (i := 9) rfl) (inR_i (by omega) (by omega) (by omega) (by omega)))
          have w1297 : Xi U61 904 78 = (-2) := by rw [eU61]; exact Xi_same (by unfold rg; omega)
          refine l_aload_n rfl rfl ?_
          refine l_dup rfl rfl ?_
          refine l_gfi rfl rfl rfl rfl rfl ?_
          have w1298 : (Xi U61 904 8) = (Xi U58 904 8) := (show Xi U61 904 8 = Xi U58 904 8 from by rw [eU61]; exact Xi_ne (by omega))
          rw [w1298]
          refine l_iconst rfl ?_
          refine l_iadd rfl ?_
          refine l_pfi rfl rfl rfl rfl ?_
          obtain ⟨U62, eU62⟩ : ∃ T : sS, T = uI U61 904 8 (Int32.ofInt ((Xi U58 904 8) + 1)) := ⟨_, rfl⟩
          rw [← eU62]
          have hHU62 : HI U62 := by rw [eU62]; exact HI_w hHU61 (show 0 ≤ ((Xi U58 904 8) + 1) by omega) (show ((Xi U58 904 8) + 1) ≤ 5010 by omega)
          have hFU62 : FR md_mo_rest__2 S U62 := by rw [eU62]; exact FR.wI hFU61 (mdf_i (r := (904, 905, 8, 9)) (List.mem_of_getElem? (i := 0) rfl) (inR_i (by omega) (by omega) (by omega) (by omega)))
          have w1299 : Xi U62 904 8 = ((Xi U58 904 8) + 1) := by rw [eU62]; exact Xi_same (by unfold rg; omega)
          have t94 : AT U62 n c ∧ _ := (at_mv (S := U58) (P := U61) (TK_FR hFU58 rfl (by assumption : TK S _)) (by first | assumption | exact (by assumption : AT U58 _ _)) (fun j => ((FR_e eU61).cx 907 rfl j).1) (fun j => ((FR_e eU61).cx 908 rfl j).1) ((show Xi U61 904 8 = Xi U58 904 8 from by rw [eU61]; exact Xi_ne (by omega))) ((show Xi U61 904 65 = Xi U58 904 65 from by rw [eU61]; exact Xi_ne (by omega))) ((show Xi U61 904 69 = Xi U58 904 69 from by rw [eU61]; exact Xi_ne (by omega))) ((show Xi U61 904 93 = Xi U58 904 93 from by rw [eU61]; exact Xi_ne (by omega))) eU62 (by omega) (by omega) (by omega) (by omega) (Or.inl rfl))
          have a94 : AT U62 n c := t94.1
          have l94 := t94.2
          refine l_goto rfl rfl ?_
          refine l_return rfl rfl ?_
          have w1300 : Xi U62 904 65 = Xi S 904 65 := (show Xi U62 904 65 = Xi U61 904 65 from by rw [eU62]; exact Xi_ne (by omega)).trans ( (show Xi U61 904 65 = Xi U58 904 65 from by rw [eU61]; exact Xi_ne (by omega)).trans ( (show Xi U58 904 65 = Xi U57 904 65 from by rw [eU58]; exact Xi_ne (by omega)).trans ( (show Xi U57 904 65 = Xi U56 904 65 from by rw [eU57]; exact Xi_ne (by omega)).trans ( (show Xi U56 904 65 = Xi U55 904 65 from by rw [eU56]; exact Xi_ne (by omega)).trans ( (show Xi U55 904 65 = Xi U54 904 65 from by rw [eU55]; exact Xi_ne (by omega)).trans ((show Xi U54 904 65 = Xi S 904 65 from by rw [eU54]; exact Xi_ne (by omega))))))))
          have w1302 : Xi U62 904 69 = Xi S 904 69 := (show Xi U62 904 69 = Xi U61 904 69 from by rw [eU62]; exact Xi_ne (by omega)).trans ( (show Xi U61 904 69 = Xi U58 904 69 from by rw [eU61]; exact Xi_ne (by omega)).trans ( (show Xi U58 904 69 = Xi U57 904 69 from by rw [eU58]; exact Xi_ne (by omega)).trans ( (show Xi U57 904 69 = Xi U56 904 69 from by rw [eU57]; exact Xi_ne (by omega)).trans ( (show Xi U56 904 69 = Xi U55 904 69 from by rw [eU56]; exact Xi_ne (by omega)).trans ( (show Xi U55 904 69 = Xi U54 904 69 from by rw [eU55]; exact Xi_ne (by omega)).trans ((show Xi U54 904 69 = Xi S 904 69 from by rw [eU54]; exact Xi_ne (by omega))))))))
          have w1304 : Xi U62 904 70 = Xi U55 904 70 := (show Xi U62 904 70 = Xi U61 904 70 from by rw [eU62]; exact Xi_ne (by omega)).trans ( (show Xi U61 904 70 = Xi U58 904 70 from by rw [eU61]; exact Xi_ne (by omega)).trans ( (show Xi U58 904 70 = Xi U57 904 70 from by rw [eU58]; exact Xi_ne (by omega)).trans ( (show Xi U57 904 70 = Xi U56 904 70 from by rw [eU57]; exact Xi_ne (by omega)).trans ((show Xi U56 904 70 = Xi U55 904 70 from by rw [eU56]; exact Xi_ne (by omega))))))
          have w1306 : Xi U62 904 71 = Xi S 904 71 := (show Xi U62 904 71 = Xi U61 904 71 from by rw [eU62]; exact Xi_ne (by omega)).trans ( (show Xi U61 904 71 = Xi U58 904 71 from by rw [eU61]; exact Xi_ne (by omega)).trans ( (show Xi U58 904 71 = Xi U57 904 71 from by rw [eU58]; exact Xi_ne (by omega)).trans ( (show Xi U57 904 71 = Xi U56 904 71 from by rw [eU57]; exact Xi_ne (by omega)).trans ( (show Xi U56 904 71 = Xi U55 904 71 from by rw [eU56]; exact Xi_ne (by omega)).trans ( (show Xi U55 904 71 = Xi U54 904 71 from by rw [eU55]; exact Xi_ne (by omega)).trans ((show Xi U54 904 71 = Xi S 904 71 from by rw [eU54]; exact Xi_ne (by omega))))))))
          have w1308 : Xi U62 904 72 = Xi S 904 72 := (show Xi U62 904 72 = Xi U61 904 72 from by rw [eU62]; exact Xi_ne (by omega)).trans ( (show Xi U61 904 72 = Xi U58 904 72 from by rw [eU61]; exact Xi_ne (by omega)).trans ( (show Xi U58 904 72 = Xi U57 904 72 from by rw [eU58]; exact Xi_ne (by omega)).trans ( (show Xi U57 904 72 = Xi U56 904 72 from by rw [eU57]; exact Xi_ne (by omega)).trans ( (show Xi U56 904 72 = Xi U55 904 72 from by rw [eU56]; exact Xi_ne (by omega)).trans ( (show Xi U55 904 72 = Xi U54 904 72 from by rw [eU55]; exact Xi_ne (by omega)).trans ((show Xi U54 904 72 = Xi S 904 72 from by rw [eU54]; exact Xi_ne (by omega))))))))
          have w1310 : Xi U62 904 73 = Xi U54 904 73 := (show Xi U62 904 73 = Xi U61 904 73 from by rw [eU62]; exact Xi_ne (by omega)).trans ( (show Xi U61 904 73 = Xi U58 904 73 from by rw [eU61]; exact Xi_ne (by omega)).trans ( (show Xi U58 904 73 = Xi U57 904 73 from by rw [eU58]; exact Xi_ne (by omega)).trans ( (show Xi U57 904 73 = Xi U56 904 73 from by rw [eU57]; exact Xi_ne (by omega)).trans ( (show Xi U56 904 73 = Xi U55 904 73 from by rw [eU56]; exact Xi_ne (by omega)).trans ((show Xi U55 904 73 = Xi U54 904 73 from by rw [eU55]; exact Xi_ne (by omega)))))))
          have w1312 : Xi U62 904 74 = Xi S 904 74 := (show Xi U62 904 74 = Xi U61 904 74 from by rw [eU62]; exact Xi_ne (by omega)).trans ( (show Xi U61 904 74 = Xi U58 904 74 from by rw [eU61]; exact Xi_ne (by omega)).trans ( (show Xi U58 904 74 = Xi U57 904 74 from by rw [eU58]; exact Xi_ne (by omega)).trans ( (show Xi U57 904 74 = Xi U56 904 74 from by rw [eU57]; exact Xi_ne (by omega)).trans ( (show Xi U56 904 74 = Xi U55 904 74 from by rw [eU56]; exact Xi_ne (by omega)).trans ( (show Xi U55 904 74 = Xi U54 904 74 from by rw [eU55]; exact Xi_ne (by omega)).trans ((show Xi U54 904 74 = Xi S 904 74 from by rw [eU54]; exact Xi_ne (by omega))))))))
          have w1314 : Xi U62 904 78 = Xi U61 904 78 := (show Xi U62 904 78 = Xi U61 904 78 from by rw [eU62]; exact Xi_ne (by omega))
          have w1315 : -2 ≤ Xi U61 904 78 ∧ Xi U61 904 78 ≤ 5010 := hHU61.c _ _
          have w1316 : 0 ≤ Xi U62 904 8 ∧ Xi U62 904 8 ≤ 5010 := hHU62.c _ _
          have w1317 : Xi U62 904 93 = Xi S 904 93 := (show Xi U62 904 93 = Xi U61 904 93 from by rw [eU62]; exact Xi_ne (by omega)).trans ( (show Xi U61 904 93 = Xi U58 904 93 from by rw [eU61]; exact Xi_ne (by omega)).trans ( (show Xi U58 904 93 = Xi U57 904 93 from by rw [eU58]; exact Xi_ne (by omega)).trans ( (show Xi U57 904 93 = Xi U56 904 93 from by rw [eU57]; exact Xi_ne (by omega)).trans ( (show Xi U56 904 93 = Xi U55 904 93 from by rw [eU56]; exact Xi_ne (by omega)).trans ( (show Xi U55 904 93 = Xi U54 904 93 from by rw [eU55]; exact Xi_ne (by omega)).trans ((show Xi U54 904 93 = Xi S 904 93 from by rw [eU54]; exact Xi_ne (by omega))))))))
          exact ⟨hHU62, hFU62, rfl, (by first | assumption | exact (by assumption : AT U62 _ _)), (by omega), (by first | assumption | exact (RNV_FR (FR_e eU62) rfl (RNV_FR (FR_e eU61) rfl (RNV_FR (FR_e eU58) rfl (RNV_FR (FR_e eU57) rfl (RNV_FR (FR_e eU56) rfl (RNV_FR (FR_e eU55) rfl (RNV_FR (FR_e eU54) rfl (by assumption : RNV S _))))))))), (by omega), (by omega), (by omega), (fun q => by unfold SNQ; refine ⟨fun q1 => absurd q1 (by omega), by omega, by omega, by omega, fun q9 => absurd q9 (by omega), by omega, by omega, by omega, by omega, by omega⟩), (by omega), (by first | assumption | exact (BDA_FR (FR_e eU62) rfl (BDA_FR (FR_e eU61) rfl (BDA_FR (FR_e eU58) rfl (BDA_FR (FR_e eU57) rfl (BDA_FR (FR_e eU56) rfl (BDA_FR (FR_e eU55) rfl (BDA_FR (FR_e eU54) rfl (by assumption : BDA S)))))))))⟩
