/-! SAFETY of methods: printed by wip/safe (vc.py, decl.py) -/
def md_mo_tests__3 : List rec := [(904, 905, 8, 9), (904, 905, 65, 66), (904, 905, 66, 67), (904, 905, 69, 70), (904, 905, 78, 79), (904, 905, 93, 94), (904, 905, 94, 95), (904, 905, 99, 100), (904, 905, 100, 101), (904, 905, 101, 102), (950, 951, 0, 100000), (951, 952, 0, 100000), (952, 953, 0, 100000), (953, 954, 0, 100000), (954, 955, 0, 100000), (955, 956, 0, 100000), (956, 957, 0, 100000), (957, 958, 0, 100000), (958, 959, 0, 100000), (959, 960, 0, 100000), (960, 961, 0, 100000), (961, 962, 0, 100000), (962, 963, 0, 100000)]
abbrev Q_mo_tests__3 (S : sS) (n : Nat) (c : Nat) : pst := fun r S1 => HI S1 ∧ FR md_mo_tests__3 S S1 ∧ (r = none ∧ (AT S1 n (c - 1)) ∧ (Xi S 904 8 ≤ Xi S1 904 8 ∧ (Xi S1 904 8 ≤ n ∨ Xi S1 904 8 = Xi S 904 8)) ∧ (RNV S1 n) ∧ (Xi S1 904 65 = 0 → Xi S 904 65 = 0) ∧ (Xi S 904 69 ≤ Xi S1 904 69) ∧ (Xi S1 904 94 = Xi S1 904 93) ∧ (Xi S1 904 93 ≤ 1668) ∧ (Xi S1 904 65 = 0 → TVA S1 n (Xi S1 904 93)) ∧ (BDA S1) ∧ (1 ≤ Xi S1 904 93))
set_option maxRecDepth 100000 in
theorem t_mo_tests__3 {S : sS} (hH : HI S) (n : Nat) (c : Nat) (hT : TK S n) (hA : AT S n c) (hv : RNV S n) (hx : Xi S 904 8 ≤ n) (hc : 1 ≤ c) (h0 : Xi S 904 93 = 0) (hBDA : BDA S) (d : Nat) : Mt lay0 (d + 7) m_mo_tests [.ref 904] S (Q_mo_tests__3 S n c) := by
  refine Mt_R rfl rfl ?_
  have hF : FR md_mo_tests__3 S S := FR.rf
  have w1 : 0 ≤ Xi S 904 65 ∧ Xi S 904 65 ≤ 1 := hH.c _ _
  have w2 : 0 ≤ Xi S 904 69 ∧ Xi S 904 69 ≤ 2600 := hH.c _ _
  have w3 : 0 ≤ Xi S 904 8 ∧ Xi S 904 8 ≤ 5010 := hH.c _ _
  have w4 : 0 ≤ Xi S 904 93 ∧ Xi S 904 93 ≤ 1700 := hH.c _ _
  have hn5 := hT.1
  have hat := hA
  have h8 : 0 ≤ Xi S 904 8 ∧ Xi S 904 8 ≤ 5010 := hH.c _ _
  have h69 : 0 ≤ Xi S 904 69 ∧ Xi S 904 69 ≤ 2600 := hH.c _ _
  have ha0 : Xi S 904 65 = 0 → Xi S 904 8 ≤ n := fun q => (hA q).1
  have ha3 : Xi S 904 65 = 0 → 2 * Xi S 904 69 ≤ Xi S 904 8 + 1 := fun q => (hA q).2.1
  clear hat
  have C5 : ∀ (n5 : Nat) (T1 : sS) (_ : HI T1) (_ : FR md_mo_tests__3 S T1), (AT T1 n (c - 1)) → (RNV T1 n) → (Xi S 904 8 ≤ Xi T1 904 8) → (Xi T1 904 8 ≤ n) → (Xi T1 904 93 ≤ 1668) → (Xi S 904 69 ≤ Xi T1 904 69) → (Xi T1 904 65 = 0 → Xi S 904 65 = 0) → (Xi T1 904 65 = 0 → TVA T1 n (Xi T1 904 93)) → (BDA T1) → (1 ≤ Xi T1 904 93) → n5 = (5002 - Xi T1 904 8).toNat → Rl lay0 (d + 6) m_mo_tests 5 [(0, .ref 904)] [] T1 (Q_mo_tests__3 S n c) := by
    intro n5
    induction n5 using Nat.strongRecOn with
    | ind n5 ih5 =>
      intro T1 hHT1 hFT1 A5 V5 w5 w6 w7 w8 w9 E5 BDA_5 w10 hm5
      have w11 : 0 ≤ Xi T1 904 65 ∧ Xi T1 904 65 ≤ 1 := hHT1.c _ _
      have w12 : 0 ≤ Xi T1 904 69 ∧ Xi T1 904 69 ≤ 2600 := hHT1.c _ _
      have w13 : 0 ≤ Xi T1 904 8 ∧ Xi T1 904 8 ≤ 5010 := hHT1.c _ _
      have w14 : 0 ≤ Xi T1 904 93 ∧ Xi T1 904 93 ≤ 1700 := hHT1.c _ _
      refine l_aload_n rfl rfl ?_
      refine l_bipush rfl rfl ?_
      have w19 : 0 ≤ Xi T1 904 94 ∧ Xi T1 904 94 ≤ 1700 := hHT1.c _ _
      refine l_callV rfl rfl rfl (t_mo_isNext hHT1 n (c - 1) 116 ⟨by omega, by omega⟩ (by first | assumption | exact (TK_FR hFT1 rfl (by assumption : TK S _))) (by first | assumption | exact (by assumption : AT T1 _ _)) _) ?_
      rintro _ _ ⟨rfl, z22, rfl, w22, w20, w21⟩
      show Rl _ _ _ _ _ [iv z22] _ _
      have j8 : z22 = 1 → Xi T1 904 65 = 0 ∧ Xi T1 907 (Xi T1 904 8).toNat = 116 := by assumption
      refine l_if_eq rfl rfl (by unfold rg; omega) (fun w23 => ?_) (fun w24 => ?_)
      · refine l_aload_n rfl rfl ?_
        refine l_aload_n rfl rfl ?_
        refine l_gfi rfl rfl rfl rfl rfl ?_
        refine l_pfi rfl rfl rfl rfl ?_
        obtain ⟨U2, eU2⟩ : ∃ T : sS, T = uI T1 904 94 (Int32.ofInt (Xi T1 904 93)) := ⟨_, rfl⟩
        rw [← eU2]
        have hHU2 : HI U2 := by rw [eU2]; exact HI_w hHT1 (show 0 ≤ (Xi T1 904 93) by omega) (show (Xi T1 904 93) ≤ 1700 by omega)
        have hFU2 : FR md_mo_tests__3 S U2 := by rw [eU2]; exact FR.wI hFT1 (mdf_i (r := (904, 905, 94, 95)) (List.mem_of_getElem? (i := 6) rfl) (inR_i (by omega) (by omega) (by omega) (by omega)))
        have w25 : Xi U2 904 94 = (Xi T1 904 93) := by rw [eU2]; exact Xi_same (by unfold rg; omega)
        have V37 : Xi U2 904 65 = 0 → TVA U2 n (Xi U2 904 93) := fun q i hi => by rw [eU2, Xi_ne (by omega)] at q hi; exact (E5 q i hi).mv (fun k a b => by rw [eU2, Xi_ne (by omega)]) (by rw [eU2, Xi_ne (by omega)]; exact Int.le_refl _) (fun j => by rw [eU2, Xi_ne (by omega)])
        refine l_return rfl rfl ?_
        have w26 : Xi U2 904 65 = Xi T1 904 65 := (show Xi U2 904 65 = Xi T1 904 65 from by rw [eU2]; exact Xi_ne (by omega))
        have w28 : Xi U2 904 69 = Xi T1 904 69 := (show Xi U2 904 69 = Xi T1 904 69 from by rw [eU2]; exact Xi_ne (by omega))
        have w30 : Xi U2 904 8 = Xi T1 904 8 := (show Xi U2 904 8 = Xi T1 904 8 from by rw [eU2]; exact Xi_ne (by omega))
        have w32 : Xi U2 904 93 = Xi T1 904 93 := (show Xi U2 904 93 = Xi T1 904 93 from by rw [eU2]; exact Xi_ne (by omega))
        have w34 : 0 ≤ Xi U2 904 94 ∧ Xi U2 904 94 ≤ 1700 := hHU2.c _ _
        exact ⟨hHU2, hFU2, rfl, (AT_FR (FR_e eU2) rfl A5), (by omega), (by first | assumption | exact (RNV_FR (FR_e eU2) rfl (by assumption : RNV T1 _))), (by omega), (by omega), (by omega), (by omega), (V37), (by first | assumption | exact (BDA_FR (FR_e eU2) rfl (by assumption : BDA T1))), (by omega)⟩
      · refine l_aload_n rfl rfl ?_
        refine l_dup rfl rfl ?_
        refine l_gfi rfl rfl rfl rfl rfl ?_
        refine l_iconst rfl ?_
        refine l_iadd rfl ?_
        refine l_pfi rfl rfl rfl rfl ?_
        obtain ⟨U3, eU3⟩ : ∃ T : sS, T = uI T1 904 8 (Int32.ofInt ((Xi T1 904 8) + 1)) := ⟨_, rfl⟩
        rw [← eU3]
        have hHU3 : HI U3 := by rw [eU3]; exact HI_w hHT1 (show 0 ≤ ((Xi T1 904 8) + 1) by omega) (show ((Xi T1 904 8) + 1) ≤ 5010 by omega)
        have hFU3 : FR md_mo_tests__3 S U3 := by rw [eU3]; exact FR.wI hFT1 (mdf_i (r := (904, 905, 8, 9)) (List.mem_of_getElem? (i := 0) rfl) (inR_i (by omega) (by omega) (by omega) (by omega)))
        have w35 : Xi U3 904 8 = ((Xi T1 904 8) + 1) := by rw [eU3]; exact Xi_same (by unfold rg; omega)
        have b21 : Xi T1 904 93 ≤ 1666 := by have t := at_tc A5 hHT1 (by omega); omega
        have t21 : AT U3 n c ∧ _ := at_mv (S := T1) (P := T1) (c2 := c) (TK_FR hFT1 rfl hT) A5 (fun _ => rfl) (fun _ => rfl) rfl rfl rfl rfl eU3 (by omega) (by omega) (by omega) (by omega) (Or.inr ⟨by omega, Or.inl (by omega)⟩)
        have a21 : AT U3 n c := t21.1
        have K21 : KT U3 T1 (Xi T1 904 93) := KT_FR (FR_e eU3) rfl KT.rf
        have x21 : ∀ j, Xi U3 907 j = Xi T1 907 j := fun j => by rw [eU3, Xi_ne (by omega)]
        refine l_aload_n rfl rfl ?_
        refine l_iconst rfl ?_
        have w36 : Xi U3 904 65 = Xi T1 904 65 := (show Xi U3 904 65 = Xi T1 904 65 from by rw [eU3]; exact Xi_ne (by omega))
        have w38 : Xi U3 904 69 = Xi T1 904 69 := (show Xi U3 904 69 = Xi T1 904 69 from by rw [eU3]; exact Xi_ne (by omega))
        have w40 : 0 ≤ Xi U3 904 8 ∧ Xi U3 904 8 ≤ 5010 := hHU3.c _ _
        have w41 : Xi U3 904 93 = Xi T1 904 93 := (show Xi U3 904 93 = Xi T1 904 93 from by rw [eU3]; exact Xi_ne (by omega))
        have w43 : Xi U3 904 94 = Xi T1 904 94 := (show Xi U3 904 94 = Xi T1 904 94 from by rw [eU3]; exact Xi_ne (by omega))
        refine l_callV rfl rfl rfl (t_mo_test__2 hHU3 n c 0 ⟨by omega, by omega⟩ (by first | assumption | exact (TK_FR hFU3 rfl (by assumption : TK S _))) (by first | assumption | exact (by assumption : AT U3 _ _)) (by first | assumption | exact (RNV_FR (FR_e eU3) rfl (by assumption : RNV T1 _))) (by first | assumption | omega) (by first | assumption | omega) (by first | assumption | omega) (by first | assumption | exact (BDA_FR (FR_e eU3) rfl (by assumption : BDA T1))) _) ?_
        rintro _ T4 ⟨hHT4, w54, rfl, w45, w46, w47, w48, w49, k26, w50, v26, w51, w52⟩
        have hFT4 : FR md_mo_tests__3 S T4 := FR.tr hFU3 w54 rfl
        show Rl _ _ _ _ _ [] _ _
        have V26 : Xi T4 904 65 = 0 → TVA T4 n (Xi T4 904 93) := fun q => ((E5 (by omega)).mv (KT.tr K21 k26 (by omega)) (by omega) (fun j => ((by assumption : FR md_mo_test U3 T4).cx 907 rfl j).1.trans (x21 j))).add (by omega) (by omega) (by rw [show (Xi T1 904 93).toNat = (Xi U3 904 93).toNat by omega]; exact v26 q)
        refine l_goto rfl rfl ?_
        have w55 : 0 ≤ Xi T4 904 65 ∧ Xi T4 904 65 ≤ 1 := hHT4.c _ _
        have w56 : 0 ≤ Xi T4 904 69 ∧ Xi T4 904 69 ≤ 2600 := hHT4.c _ _
        have w57 : 0 ≤ Xi T4 904 8 ∧ Xi T4 904 8 ≤ 5010 := hHT4.c _ _
        have w58 : 0 ≤ Xi T4 904 93 ∧ Xi T4 904 93 ≤ 1700 := hHT4.c _ _
        have w59 : Xi T4 904 94 = Xi T1 904 94 := (show Xi T4 904 94 = Xi U3 904 94 from w54.x _ _ rfl).trans ((show Xi U3 904 94 = Xi T1 904 94 from by rw [eU3]; exact Xi_ne (by omega)))
        exact Rl_weak (ih5 _ (by omega) T4 hHT4 hFT4  (by assumption) (by assumption) (by omega) (by omega) (by omega) (by omega) (by omega) (by first | exact V26 | exact V2) (by first | assumption | exact (by assumption : BDA T4)) (by omega) rfl) (And.intro rfl (True.intro))
  refine l_aload_n rfl rfl ?_
  refine l_iconst rfl ?_
  refine l_callV rfl rfl rfl (t_mo_test__2 hH n c 0 ⟨by omega, by omega⟩ (by first | assumption | exact (TK_FR hF rfl (by assumption : TK S _))) (by first | assumption | exact (by assumption : AT S _ _)) (by first | assumption | exact (by assumption : RNV S _)) (by first | assumption | omega) (by first | assumption | omega) (by first | assumption | omega) (by first | assumption | exact (by assumption : BDA S)) _) ?_
  rintro _ T5 ⟨hHT5, w75, rfl, w66, w67, w68, w69, w70, k2_, w71, v2_, w72, w73⟩
  have hFT5 : FR md_mo_tests__3 S T5 := FR.tr hF w75 rfl
  show Rl _ _ _ _ _ [] _ _
  have V2 : Xi T5 904 65 = 0 → TVA T5 n (Xi T5 904 93) := fun q i hi => by rw [show i = (Xi S 904 93).toNat by omega]; exact v2_ q
  have w76 : 0 ≤ Xi T5 904 65 ∧ Xi T5 904 65 ≤ 1 := hHT5.c _ _
  have w77 : 0 ≤ Xi T5 904 69 ∧ Xi T5 904 69 ≤ 2600 := hHT5.c _ _
  have w78 : 0 ≤ Xi T5 904 8 ∧ Xi T5 904 8 ≤ 5010 := hHT5.c _ _
  have w79 : 0 ≤ Xi T5 904 93 ∧ Xi T5 904 93 ≤ 1700 := hHT5.c _ _
  have w80 : Xi T5 904 94 = Xi S 904 94 := (show Xi T5 904 94 = Xi S 904 94 from w75.x _ _ rfl)
  have w81 : 0 ≤ Xi S 904 94 ∧ Xi S 904 94 ≤ 1700 := hH.c _ _
  exact Rl_weak (C5 _ T5 hHT5 hFT5  (by assumption) (by assumption) (by omega) (by omega) (by omega) (by omega) (by omega) (by first | exact V26 | exact V2) (by first | assumption | exact (by assumption : BDA T5)) (by omega) rfl) (And.intro rfl (True.intro))
def md_mo_partTwo__3 : List rec := [(904, 905, 8, 9), (904, 905, 65, 66), (904, 905, 66, 67), (904, 905, 69, 70), (904, 905, 78, 79), (904, 905, 93, 94), (904, 905, 94, 95), (904, 905, 99, 100), (904, 905, 100, 101), (904, 905, 101, 102), (950, 951, 0, 100000), (951, 952, 0, 100000), (952, 953, 0, 100000), (953, 954, 0, 100000), (954, 955, 0, 100000), (955, 956, 0, 100000), (956, 957, 0, 100000), (957, 958, 0, 100000), (958, 959, 0, 100000), (959, 960, 0, 100000), (960, 961, 0, 100000), (961, 962, 0, 100000), (962, 963, 0, 100000)]
abbrev Q_mo_partTwo__3 (S : sS) (n : Nat) (c : Nat) : pst := fun r S1 => HI S1 ∧ FR md_mo_partTwo__3 S S1 ∧ (r = none ∧ (AT S1 n c) ∧ (Xi S 904 8 ≤ Xi S1 904 8 ∧ Xi S1 904 8 ≤ n) ∧ (RNV S1 n) ∧ (Xi S 904 69 ≤ Xi S1 904 69) ∧ (Xi S1 904 65 = 0 → 2 ≤ Xi S1 904 69) ∧ (Xi S1 904 94 ≤ 1668) ∧ (Xi S1 904 65 = 0 → TVA S1 n (Xi S1 904 94)) ∧ (BDA S1) ∧ (1 ≤ Xi S1 904 94))
set_option maxRecDepth 100000 in
theorem t_mo_partTwo__3 {S : sS} (hH : HI S) (n : Nat) (c : Nat) (hT : TK S n) (hA : AT S n c) (hv : RNV S n) (hb : Xi S 904 65 = 0) (hk : Xi S 907 (Xi S 904 8).toNat = 135) (z1 : Xi S 904 93 = 0) (hBDA : BDA S) (d : Nat) : Mt lay0 (d + 8) m_mo_partTwo [.ref 904] S (Q_mo_partTwo__3 S n c) := by
  refine Mt_R rfl rfl ?_
  have hF : FR md_mo_partTwo__3 S S := FR.rf
  have w1 : 0 ≤ Xi S 904 65 ∧ Xi S 904 65 ≤ 1 := hH.c _ _
  have w2 : 0 ≤ Xi S 904 69 ∧ Xi S 904 69 ≤ 2600 := hH.c _ _
  have w3 : 0 ≤ Xi S 904 8 ∧ Xi S 904 8 ≤ 5010 := hH.c _ _
  have w4 : 0 ≤ Xi S 904 93 ∧ Xi S 904 93 ≤ 1700 := hH.c _ _
  have hn5 := hT.1
  have hat := hA
  have h8 : 0 ≤ Xi S 904 8 ∧ Xi S 904 8 ≤ 5010 := hH.c _ _
  have h69 : 0 ≤ Xi S 904 69 ∧ Xi S 904 69 ≤ 2600 := hH.c _ _
  have ha0 : Xi S 904 65 = 0 → Xi S 904 8 ≤ n := fun q => (hA q).1
  have ha3 : Xi S 904 65 = 0 → 2 * Xi S 904 69 ≤ Xi S 904 8 + 1 := fun q => (hA q).2.1
  clear hat
  have hx := ha0 hb
  refine l_aload_n rfl rfl ?_
  refine l_dup rfl rfl ?_
  refine l_gfi rfl rfl rfl rfl rfl ?_
  refine l_iconst rfl ?_
  refine l_iadd rfl ?_
  refine l_pfi rfl rfl rfl rfl ?_
  obtain ⟨U1, eU1⟩ : ∃ T : sS, T = uI S 904 8 (Int32.ofInt ((Xi S 904 8) + 1)) := ⟨_, rfl⟩
  rw [← eU1]
  have hHU1 : HI U1 := by rw [eU1]; exact HI_w hH (show 0 ≤ ((Xi S 904 8) + 1) by omega) (show ((Xi S 904 8) + 1) ≤ 5010 by omega)
  have hFU1 : FR md_mo_partTwo__3 S U1 := by rw [eU1]; exact FR.wI hF (mdf_i (r := (904, 905, 8, 9)) (List.mem_of_getElem? (i := 0) rfl) (inR_i (by omega) (by omega) (by omega) (by omega)))
  have w5 : Xi U1 904 8 = ((Xi S 904 8) + 1) := by rw [eU1]; exact Xi_same (by unfold rg; omega)
  have t7 : AT U1 n (c + 1) ∧ _ := (at_mv (S := S) (P := S) (TK_FR hF rfl (by assumption : TK S _)) (by first | assumption | exact (by assumption : AT S _ _)) (fun j => rfl) (fun j => rfl) (rfl) (rfl) (rfl) (rfl) eU1 (by omega) (by omega) (by omega) (by omega) (Or.inr ⟨rfl, by unfold K3; omega⟩))
  have a7 : AT U1 n (c + 1) := t7.1
  have l7 := t7.2
  refine l_aload_n rfl rfl ?_
  refine l_bipush rfl rfl ?_
  have w6 : Xi U1 904 65 = Xi S 904 65 := (show Xi U1 904 65 = Xi S 904 65 from by rw [eU1]; exact Xi_ne (by omega))
  have w10 : 0 ≤ Xi U1 904 8 ∧ Xi U1 904 8 ≤ 5010 := hHU1.c _ _
  refine l_callV rfl rfl rfl (t_mo_take__3 hHU1 n (c + 1) 58 ⟨by omega, by omega⟩ (by first | assumption | exact (TK_FR hFU1 rfl (by assumption : TK S _))) (by first | assumption | exact (by assumption : AT U1 _ _)) (by first | assumption | omega) (by first | assumption | exact (BDA_FR (FR_e eU1) rfl (by assumption : BDA S))) _) ?_
  rintro _ T2 ⟨hHT2, w21, rfl, w15, w16, w17, w18, w19⟩
  have hFT2 : FR md_mo_partTwo__3 S T2 := FR.tr hFU1 w21 rfl
  show Rl _ _ _ _ _ [] _ _
  refine l_aload_n rfl rfl ?_
  have w22 : 0 ≤ Xi T2 904 65 ∧ Xi T2 904 65 ≤ 1 := hHT2.c _ _
  have w25 : 0 ≤ Xi T2 904 8 ∧ Xi T2 904 8 ≤ 5010 := hHT2.c _ _
  refine l_callV rfl rfl rfl (t_mo_art__3 hHT2 n (c + 1) (by first | assumption | exact (TK_FR hFT2 rfl (by assumption : TK S _))) (by first | assumption | exact (by assumption : AT T2 _ _)) (by first | assumption | exact (by assumption : BDA T2)) _) ?_
  rintro _ T3 ⟨hHT3, w35, rfl, w30, w31, w32, w33⟩
  have hFT3 : FR md_mo_partTwo__3 S T3 := FR.tr hFT2 w35 rfl
  show Rl _ _ _ _ _ [] _ _
  refine l_aload_n rfl rfl ?_
  have w36 : 0 ≤ Xi T3 904 65 ∧ Xi T3 904 65 ≤ 1 := hHT3.c _ _
  have w37 : Xi T3 904 69 = Xi S 904 69 := (show Xi T3 904 69 = Xi T2 904 69 from w35.x _ _ rfl).trans ( (show Xi T2 904 69 = Xi U1 904 69 from w21.x _ _ rfl).trans ((show Xi U1 904 69 = Xi S 904 69 from by rw [eU1]; exact Xi_ne (by omega))))
  have w39 : 0 ≤ Xi T3 904 8 ∧ Xi T3 904 8 ≤ 5010 := hHT3.c _ _
  refine l_callV rfl rfl rfl (t_mo_run__2 hHT3 n (c + 1) (by first | assumption | exact (TK_FR hFT3 rfl (by assumption : TK S _))) (by first | assumption | exact (by assumption : AT T3 _ _)) (by first | assumption | exact (RNV_FR w35 rfl (RNV_FR w21 rfl (RNV_FR (FR_e eU1) rfl (by assumption : RNV S _))))) (by first | assumption | exact (by assumption : BDA T3)) _) ?_
  rintro _ T4 ⟨hHT4, w51, z50, rfl, w50, w44, w45, w46, w47, w48, w49⟩
  have hFT4 : FR md_mo_partTwo__3 S T4 := FR.tr hFT3 w51 rfl
  show Rl _ _ _ _ _ [iv z50] _ _
  refine l_pop rfl rfl ?_
  refine l_aload_n rfl rfl ?_
  refine l_bipush rfl rfl ?_
  have w52 : 0 ≤ Xi T4 904 65 ∧ Xi T4 904 65 ≤ 1 := hHT4.c _ _
  have w54 : 0 ≤ Xi T4 904 8 ∧ Xi T4 904 8 ≤ 5010 := hHT4.c _ _
  refine l_callV rfl rfl rfl (t_mo_take__3 hHT4 n (c + 1) 104 ⟨by omega, by omega⟩ (by first | assumption | exact (TK_FR hFT4 rfl (by assumption : TK S _))) (by first | assumption | exact (by assumption : AT T4 _ _)) (by first | assumption | omega) (by first | assumption | exact (by assumption : BDA T4)) _) ?_
  rintro _ T5 ⟨hHT5, w65, rfl, w59, w60, w61, w62, w63⟩
  have hFT5 : FR md_mo_partTwo__3 S T5 := FR.tr hFT4 w65 rfl
  show Rl _ _ _ _ _ [] _ _
  refine l_aload_n rfl rfl ?_
  have w66 : 0 ≤ Xi T5 904 65 ∧ Xi T5 904 65 ≤ 1 := hHT5.c _ _
  have w67 : Xi T5 904 69 = Xi T4 904 69 := (show Xi T5 904 69 = Xi T4 904 69 from w65.x _ _ rfl)
  have w68 : 0 ≤ Xi T4 904 69 ∧ Xi T4 904 69 ≤ 2600 := hHT4.c _ _
  have w69 : 0 ≤ Xi T5 904 8 ∧ Xi T5 904 8 ≤ 5010 := hHT5.c _ _
  refine l_callV rfl rfl rfl (t_mo_run__2 hHT5 n (c + 1) (by first | assumption | exact (TK_FR hFT5 rfl (by assumption : TK S _))) (by first | assumption | exact (by assumption : AT T5 _ _)) (by first | assumption | exact (RNV_FR w65 rfl (by assumption : RNV T4 _))) (by first | assumption | exact (by assumption : BDA T5)) _) ?_
  rintro _ T6 ⟨hHT6, w81, z80, rfl, w80, w74, w75, w76, w77, w78, w79⟩
  have hFT6 : FR md_mo_partTwo__3 S T6 := FR.tr hFT5 w81 rfl
  show Rl _ _ _ _ _ [iv z80] _ _
  refine l_pop rfl rfl ?_
  refine l_aload_n rfl rfl ?_
  refine l_sipush rfl rfl ?_
  have w82 : 0 ≤ Xi T6 904 65 ∧ Xi T6 904 65 ≤ 1 := hHT6.c _ _
  have w84 : 0 ≤ Xi T6 904 8 ∧ Xi T6 904 8 ≤ 5010 := hHT6.c _ _
  refine l_callV rfl rfl rfl (t_mo_take__3 hHT6 n (c + 1) 136 ⟨by omega, by omega⟩ (by first | assumption | exact (TK_FR hFT6 rfl (by assumption : TK S _))) (by first | assumption | exact (by assumption : AT T6 _ _)) (by first | assumption | omega) (by first | assumption | exact (by assumption : BDA T6)) _) ?_
  rintro _ T7 ⟨hHT7, w95, rfl, w89, w90, w91, w92, w93⟩
  have hFT7 : FR md_mo_partTwo__3 S T7 := FR.tr hFT6 w95 rfl
  show Rl _ _ _ _ _ [] _ _
  refine l_aload_n rfl rfl ?_
  have w96 : 0 ≤ Xi T7 904 65 ∧ Xi T7 904 65 ≤ 1 := hHT7.c _ _
  have w97 : Xi T7 904 69 = Xi T6 904 69 := (show Xi T7 904 69 = Xi T6 904 69 from w95.x _ _ rfl)
  have w98 : 0 ≤ Xi T6 904 69 ∧ Xi T6 904 69 ≤ 2600 := hHT6.c _ _
  have w99 : 0 ≤ Xi T7 904 8 ∧ Xi T7 904 8 ≤ 5010 := hHT7.c _ _
  have w100 : Xi T7 904 93 = Xi S 904 93 := (show Xi T7 904 93 = Xi T6 904 93 from w95.x _ _ rfl).trans ( (show Xi T6 904 93 = Xi T5 904 93 from w81.x _ _ rfl).trans ( (show Xi T5 904 93 = Xi T4 904 93 from w65.x _ _ rfl).trans ( (show Xi T4 904 93 = Xi T3 904 93 from w51.x _ _ rfl).trans ( (show Xi T3 904 93 = Xi T2 904 93 from w35.x _ _ rfl).trans ( (show Xi T2 904 93 = Xi U1 904 93 from w21.x _ _ rfl).trans ((show Xi U1 904 93 = Xi S 904 93 from by rw [eU1]; exact Xi_ne (by omega))))))))
  have w102 : Xi T7 904 94 = Xi S 904 94 := (show Xi T7 904 94 = Xi T6 904 94 from w95.x _ _ rfl).trans ( (show Xi T6 904 94 = Xi T5 904 94 from w81.x _ _ rfl).trans ( (show Xi T5 904 94 = Xi T4 904 94 from w65.x _ _ rfl).trans ( (show Xi T4 904 94 = Xi T3 904 94 from w51.x _ _ rfl).trans ( (show Xi T3 904 94 = Xi T2 904 94 from w35.x _ _ rfl).trans ( (show Xi T2 904 94 = Xi U1 904 94 from w21.x _ _ rfl).trans ((show Xi U1 904 94 = Xi S 904 94 from by rw [eU1]; exact Xi_ne (by omega))))))))
  have w103 : 0 ≤ Xi S 904 94 ∧ Xi S 904 94 ≤ 1700 := hH.c _ _
  refine l_callV rfl rfl rfl (t_mo_tests__3 hHT7 n (c + 1) (by first | assumption | exact (TK_FR hFT7 rfl (by assumption : TK S _))) (by first | assumption | exact (by assumption : AT T7 _ _)) (by first | assumption | exact (RNV_FR w95 rfl (by assumption : RNV T6 _))) (by first | assumption | omega) (by first | assumption | omega) (by first | assumption | omega) (by first | assumption | exact (by assumption : BDA T7)) _) ?_
  rintro _ T8 ⟨hHT8, w115, rfl, w104, w105, w106, w107, w108, w109, w110, w111, w112, w113⟩
  have hFT8 : FR md_mo_partTwo__3 S T8 := FR.tr hFT7 w115 rfl
  show Rl _ _ _ _ _ [] _ _
  have a44 : AT T8 n c := (by assumption : AT T8 n (c + 1 - 1))
  have T44 : Xi T8 904 65 = 0 → TVA T8 n (Xi T8 904 94) := fun q => by rw [(by omega : Xi T8 904 94 = Xi T8 904 93)]; exact (by assumption : Xi T8 904 65 = 0 → TVA T8 n (Xi T8 904 93)) q
  refine l_return rfl rfl ?_
  have w116 : 0 ≤ Xi T8 904 65 ∧ Xi T8 904 65 ≤ 1 := hHT8.c _ _
  have w117 : 0 ≤ Xi T8 904 69 ∧ Xi T8 904 69 ≤ 2600 := hHT8.c _ _
  have w118 : 0 ≤ Xi T8 904 8 ∧ Xi T8 904 8 ≤ 5010 := hHT8.c _ _
  have w120 : 0 ≤ Xi T8 904 94 ∧ Xi T8 904 94 ≤ 1700 := hHT8.c _ _
  exact ⟨hHT8, hFT8, rfl, (a44), (by omega), (by first | assumption | exact (by assumption : RNV T8 _)), (by omega), (by omega), (by omega), (T44), (by first | assumption | exact (by assumption : BDA T8)), (by omega)⟩
def md_mo_common__2 : List rec := [(904, 905, 8, 9), (904, 905, 65, 66), (904, 905, 66, 67), (904, 905, 69, 70), (904, 905, 70, 71), (904, 905, 71, 72), (904, 905, 72, 73), (904, 905, 73, 74), (904, 905, 74, 75), (904, 905, 75, 76), (904, 905, 76, 77), (904, 905, 77, 78), (904, 905, 78, 79), (904, 905, 79, 80), (904, 905, 80, 81), (950, 951, 0, 100000), (951, 952, 0, 100000)]
abbrev Q_mo_common__2 (S : sS) (n : Nat) (c : Nat) : pst := fun r S1 => HI S1 ∧ FR md_mo_common__2 S S1 ∧ (r = none ∧ (AT S1 n c) ∧ (Xi S 904 8 ≤ Xi S1 904 8 ∧ Xi S1 904 8 ≤ n + 2) ∧ (RNV S1 n) ∧ (Xi S1 904 65 = 0 → Xi S 904 65 = 0) ∧ (Xi S 904 69 ≤ Xi S1 904 69) ∧ (Xi S1 904 65 = 0 → 9 ≤ Xi S1 904 70 ∧ Xi S1 904 70 ≤ 20) ∧ (Xi S1 904 65 = 0 → SNQ S1 n) ∧ (Xi S1 904 65 = 0 → Xi S1 904 70 = 11 → -1 ≤ Xi S1 904 78) ∧ (BDA S1))
set_option maxRecDepth 100000 in
set_option maxHeartbeats 4000000 in
theorem c158_mo_common__2 {S : sS} (hH : HI S) (n : Nat) (c : Nat) (hT : TK S n) (hA : AT S n c) (hv : RNV S n) (hx : Xi S 904 8 ≤ n) (hb : Xi S 904 65 = 0) (hBDA : BDA S) (d : Nat) : ∀  (T1 : sS) (_ : HI T1) (_ : FR md_mo_common__2 S T1), (AT T1 n c) → (RNV T1 n) → (Xi S 904 8 ≤ Xi T1 904 8) → (Xi T1 904 8 ≤ n) → (Xi S 904 69 ≤ Xi T1 904 69) → (Xi T1 904 65 = 0 → Xi S 904 65 = 0) → (Xi T1 904 70 = 9) → (Xi T1 904 65 = 0 → Xi S 904 69 + 2 ≤ Xi T1 904 69) → (BDA T1) → Rl lay0 (d + 4) m_mo_common 158 [(0, .ref 904)] [] T1 (Q_mo_common__2 S n c) := by
  have hF : FR md_mo_common__2 S S := FR.rf
  have w1 : 0 ≤ Xi S 904 65 ∧ Xi S 904 65 ≤ 1 := hH.c _ _
  have w2 : 0 ≤ Xi S 904 69 ∧ Xi S 904 69 ≤ 2600 := hH.c _ _
  have w3 : 0 ≤ Xi S 904 70 ∧ Xi S 904 70 ≤ 20 := hH.c _ _
  have w4 : 0 ≤ Xi S 904 8 ∧ Xi S 904 8 ≤ 5010 := hH.c _ _
  have hn5 := hT.1
  have hat := hA
  have h8 : 0 ≤ Xi S 904 8 ∧ Xi S 904 8 ≤ 5010 := hH.c _ _
  have h69 : 0 ≤ Xi S 904 69 ∧ Xi S 904 69 ≤ 2600 := hH.c _ _
  have ha0 : Xi S 904 65 = 0 → Xi S 904 8 ≤ n := fun q => (hA q).1
  have ha3 : Xi S 904 65 = 0 → 2 * Xi S 904 69 ≤ Xi S 904 8 + 1 := fun q => (hA q).2.1
  clear hat
  intro T1 hHT1 hFT1 A158 V158 w5 w6 w7 w8 w9 c158 BDA_158
  have w10 : 0 ≤ Xi T1 904 65 ∧ Xi T1 904 65 ≤ 1 := hHT1.c _ _
  have w11 : 0 ≤ Xi T1 904 69 ∧ Xi T1 904 69 ≤ 2600 := hHT1.c _ _
  have w12 : 0 ≤ Xi T1 904 70 ∧ Xi T1 904 70 ≤ 20 := hHT1.c _ _
  have w13 : 0 ≤ Xi T1 904 8 ∧ Xi T1 904 8 ≤ 5010 := hHT1.c _ _
  refine l_aload_n rfl rfl ?_
  refine l_callV rfl rfl rfl (t_mo_be__3 hHT1 n c (by first | assumption | exact (TK_FR hFT1 rfl (by assumption : TK S _))) (by first | assumption | exact (by assumption : AT T1 _ _)) (by first | assumption | exact (by assumption : BDA T1)) _) ?_
  rintro _ T2 ⟨hHT2, w29, rfl, w24, w25, w26, w27⟩
  have hFT2 : FR md_mo_common__2 S T2 := FR.tr hFT1 w29 rfl
  show Rl _ _ _ _ _ [] _ _
  have w31 : 0 ≤ Xi T2 904 8 ∧ Xi T2 904 8 ≤ 5010 := hHT2.c _ _
  have w32 : 0 ≤ Xi T2 904 65 ∧ Xi T2 904 65 ≤ 1 := hHT2.c _ _
  have w33 : Xi T2 904 69 = Xi T1 904 69 := (show Xi T2 904 69 = Xi T1 904 69 from w29.x _ _ rfl)
  have w35 : Xi T2 904 93 = Xi T1 904 93 := (show Xi T2 904 93 = Xi T1 904 93 from w29.x _ _ rfl)
  have w36 : 0 ≤ Xi T1 904 93 ∧ Xi T1 904 93 ≤ 1700 := hHT1.c _ _
  have c159 : Xi T2 904 65 = 0 → Xi S 904 69 + 2 ≤ Xi T2 904 69 := by omega
  clear c158
  have w30 : Xi S 904 8 ≤ Xi T2 904 8 ∧ Xi T2 904 8 ≤ n ∧ Xi S 904 69 ≤ Xi T2 904 69 ∧ (Xi T2 904 65 = 0 → Xi S 904 65 = 0) := by omega
  clear w25 w26
  refine l_aload_n rfl rfl ?_
  have w50 : Xi T2 904 78 = Xi T1 904 78 := (show Xi T2 904 78 = Xi T1 904 78 from w29.x _ _ rfl)
  have w51 : -2 ≤ Xi T1 904 78 ∧ Xi T1 904 78 ≤ 5010 := hHT1.c _ _
  refine l_callV rfl rfl rfl (t_mo_what__3 hHT2 n c (by first | assumption | exact (TK_FR hFT2 rfl (by assumption : TK S _))) (by first | assumption | exact (by assumption : AT T2 _ _)) (by first | assumption | exact (RNV_FR w29 rfl (by assumption : RNV T1 _))) (by first | assumption | exact (by assumption : BDA T2)) _) ?_
  rintro _ T3 ⟨hHT3, w64, rfl, w55, w56, w57, w58, w59, w60, w61, w62⟩
  have hFT3 : FR md_mo_common__2 S T3 := FR.tr hFT2 w64 rfl
  show Rl _ _ _ _ _ [] _ _
  have w66 : 0 ≤ Xi T3 904 8 ∧ Xi T3 904 8 ≤ 5010 := hHT3.c _ _
  have w67 : 0 ≤ Xi T3 904 65 ∧ Xi T3 904 65 ≤ 1 := hHT3.c _ _
  have w68 : 0 ≤ Xi T3 904 69 ∧ Xi T3 904 69 ≤ 2600 := hHT3.c _ _
  have w69 : Xi T3 904 93 = Xi T1 904 93 := (show Xi T3 904 93 = Xi T2 904 93 from w64.x _ _ rfl).trans ((show Xi T2 904 93 = Xi T1 904 93 from w29.x _ _ rfl))
  have c163 : Xi T3 904 65 = 0 → Xi S 904 69 + 2 ≤ Xi T3 904 69 := by omega
  have W163 : Xi T3 904 65 = 0 → Xi T3 907 (Xi T3 904 78).toNat ≠ 4 → Xi T3 907 (Xi T3 904 78).toNat ≠ 5 → Xi S 904 69 + 3 ≤ Xi T3 904 69 := fun q a b => by have t := (by assumption : Xi T3 904 65 = 0 → Xi T2 907 (Xi T2 904 8).toNat ≠ 4 → Xi T2 907 (Xi T2 904 8).toNat ≠ 5 → _) q; rw [(hFT2.cx 907 rfl _).1, show Xi T2 904 8 = Xi T3 904 78 by omega, ← (hFT3.cx 907 rfl _).1] at t; have u := t a b; omega
  have L163 : Xi T3 904 65 = 0 → Xi T3 904 78 ≤ n := fun q => by have t := ((by assumption : AT T2 n c) (by omega)).1; omega
  clear c159
  have w65 : Xi S 904 8 ≤ Xi T3 904 8 ∧ Xi T3 904 8 ≤ n ∧ Xi S 904 69 ≤ Xi T3 904 69 ∧ (Xi T3 904 65 = 0 → Xi S 904 65 = 0) := by omega
  clear w56 w59 w60 w30
  refine l_goto rfl rfl ?_
  refine l_return rfl rfl ?_
  have w73 : Xi T3 904 70 = Xi T1 904 70 := (show Xi T3 904 70 = Xi T2 904 70 from w64.x _ _ rfl).trans ((show Xi T2 904 70 = Xi T1 904 70 from w29.x _ _ rfl))
  have w83 : -2 ≤ Xi T3 904 78 ∧ Xi T3 904 78 ≤ 5010 := hHT3.c _ _
  exact ⟨hHT3, hFT3, rfl, (by first | assumption | exact AT_bad (by omega)), (by omega), (by first | assumption | exact (by assumption : RNV T3 _)), (by omega), (by omega), (by omega), (by first | exact q109 | exact q186 | exact (fun _ => fun q => by unfold SNQ; refine ⟨fun q1 => absurd q1 (by omega), by omega, by omega, by omega, fun q9 => ⟨by omega, by omega, fun x y => by have t := W163 (by omega) x y; omega⟩, by omega, by omega, by omega, by omega, by omega⟩) W163 | exact fun q => absurd q (by omega)), (by omega), (by first | assumption | exact (by assumption : BDA T3))⟩
set_option maxRecDepth 100000 in
set_option maxHeartbeats 4000000 in
theorem c115_mo_common__2 {S : sS} (hH : HI S) (n : Nat) (c : Nat) (hT : TK S n) (hA : AT S n c) (hv : RNV S n) (hx : Xi S 904 8 ≤ n) (hb : Xi S 904 65 = 0) (hBDA : BDA S) (d : Nat) : (BDA S) → Rl lay0 (d + 4) m_mo_common 115 [(0, .ref 904)] [] S (Q_mo_common__2 S n c) := by
  have C158 := c158_mo_common__2 hH n c hT hA hv hx hb hBDA d 
  have hF : FR md_mo_common__2 S S := FR.rf
  have w1 : 0 ≤ Xi S 904 65 ∧ Xi S 904 65 ≤ 1 := hH.c _ _
  have w2 : 0 ≤ Xi S 904 69 ∧ Xi S 904 69 ≤ 2600 := hH.c _ _
  have w3 : 0 ≤ Xi S 904 70 ∧ Xi S 904 70 ≤ 20 := hH.c _ _
  have w4 : 0 ≤ Xi S 904 8 ∧ Xi S 904 8 ≤ 5010 := hH.c _ _
  have hn5 := hT.1
  have hat := hA
  have h8 : 0 ≤ Xi S 904 8 ∧ Xi S 904 8 ≤ 5010 := hH.c _ _
  have h69 : 0 ≤ Xi S 904 69 ∧ Xi S 904 69 ≤ 2600 := hH.c _ _
  have ha0 : Xi S 904 65 = 0 → Xi S 904 8 ≤ n := fun q => (hA q).1
  have ha3 : Xi S 904 65 = 0 → 2 * Xi S 904 69 ≤ Xi S 904 8 + 1 := fun q => (hA q).2.1
  clear hat
  intro BDA_115
  refine l_aload_n rfl rfl ?_
  refine l_aload_n rfl rfl ?_
  refine l_gfi rfl rfl rfl rfl rfl ?_
  have w90 : 0 ≤ Xi S 904 71 ∧ Xi S 904 71 ≤ 2600 := hH.c _ _
  have w91 : 0 ≤ Xi S 904 72 ∧ Xi S 904 72 ≤ 2600 := hH.c _ _
  have w92 : 0 ≤ Xi S 904 73 ∧ Xi S 904 73 ≤ 5 := hH.c _ _
  have w93 : 0 ≤ Xi S 904 74 ∧ Xi S 904 74 ≤ 2600 := hH.c _ _
  have w94 : -2 ≤ Xi S 904 78 ∧ Xi S 904 78 ≤ 5010 := hH.c _ _
  have w96 : 0 ≤ Xi S 904 93 ∧ Xi S 904 93 ≤ 1700 := hH.c _ _
  refine l_callV rfl rfl rfl (t_mo_beginsOf__2 hH n (Xi S 904 8) ⟨by omega, by omega⟩ (by first | assumption | exact (TK_FR hF rfl (by assumption : TK S _))) (by first | assumption | omega) _) ?_
  rintro _ _ ⟨rfl, z98, rfl, w98, w97⟩
  show Rl _ _ _ _ _ [iv z98] _ _
  refine l_if_eq rfl rfl (by unfold rg; omega) (fun w99 => ?_) (fun w100 => ?_)
  · refine l_aload_n rfl rfl ?_
    refine l_iconst rfl ?_
    refine l_callV rfl rfl rfl (t_mo_list__3 hH n c 1 ⟨by omega, by omega⟩ (by first | assumption | exact (TK_FR hF rfl (by assumption : TK S _))) (by first | assumption | exact (by assumption : AT S _ _)) (by first | assumption | exact (by assumption : RNV S _)) (by first | assumption | exact (by assumption : BDA S)) _) ?_
    rintro _ T4 ⟨hHT4, w120, rfl, w111, w112, w113, w114, w115, w116, w117, w118⟩
    have hFT4 : FR md_mo_common__2 S T4 := FR.tr hF w120 rfl
    show Rl _ _ _ _ _ [] _ _
    have w122 : 0 ≤ Xi T4 904 8 ∧ Xi T4 904 8 ≤ 5010 := hHT4.c _ _
    have w123 : 0 ≤ Xi T4 904 65 ∧ Xi T4 904 65 ≤ 1 := hHT4.c _ _
    have w124 : 0 ≤ Xi T4 904 69 ∧ Xi T4 904 69 ≤ 2600 := hHT4.c _ _
    have w125 : Xi T4 904 93 = Xi S 904 93 := (show Xi T4 904 93 = Xi S 904 93 from w120.x _ _ rfl)
    have f171 : Xi T4 904 71 + Xi T4 904 72 ≤ Xi T4 904 69 ∧ (Xi T4 904 65 = 0 → 1 ≤ Xi T4 904 72) := by omega
    have w121 : Xi S 904 8 ≤ Xi T4 904 8 ∧ Xi T4 904 8 ≤ n ∧ Xi S 904 69 ≤ Xi T4 904 69 ∧ (Xi T4 904 65 = 0 → Xi S 904 65 = 0) := by omega
    clear w112 w115 w116
    refine l_aload_n rfl rfl ?_
    have w131 : 0 ≤ Xi T4 904 71 ∧ Xi T4 904 71 ≤ 2600 := hHT4.c _ _
    have w132 : 0 ≤ Xi T4 904 72 ∧ Xi T4 904 72 ≤ 2600 := hHT4.c _ _
    refine l_callV rfl rfl rfl (t_mo_be__3 hHT4 n c (by first | assumption | exact (TK_FR hFT4 rfl (by assumption : TK S _))) (by first | assumption | exact (by assumption : AT T4 _ _)) (by first | assumption | exact (by assumption : BDA T4)) _) ?_
    rintro _ T5 ⟨hHT5, w147, rfl, w142, w143, w144, w145⟩
    have hFT5 : FR md_mo_common__2 S T5 := FR.tr hFT4 w147 rfl
    show Rl _ _ _ _ _ [] _ _
    have w149 : 0 ≤ Xi T5 904 8 ∧ Xi T5 904 8 ≤ 5010 := hHT5.c _ _
    have w150 : 0 ≤ Xi T5 904 65 ∧ Xi T5 904 65 ≤ 1 := hHT5.c _ _
    have w151 : Xi T5 904 69 = Xi T4 904 69 := (show Xi T5 904 69 = Xi T4 904 69 from w147.x _ _ rfl)
    have w153 : Xi T5 904 93 = Xi S 904 93 := (show Xi T5 904 93 = Xi T4 904 93 from w147.x _ _ rfl).trans ((show Xi T4 904 93 = Xi S 904 93 from w120.x _ _ rfl))
    have y175 : Xi T5 904 71 = Xi T4 904 71 ∧ Xi T5 904 72 = Xi T4 904 72 := ⟨(by assumption : FR md_mo_be T4 T5).x 904 71 rfl, (by assumption : FR md_mo_be T4 T5).x 904 72 rfl⟩
    have f175 : Xi T5 904 71 + Xi T5 904 72 ≤ Xi T5 904 69 ∧ (Xi T5 904 65 = 0 → 1 ≤ Xi T5 904 72) := by omega
    clear f171
    have w148 : Xi S 904 8 ≤ Xi T5 904 8 ∧ Xi T5 904 8 ≤ n ∧ Xi S 904 69 ≤ Xi T5 904 69 ∧ (Xi T5 904 65 = 0 → Xi S 904 65 = 0) := by omega
    clear w143 w144 w121
    refine l_aload_n rfl rfl ?_
    refine l_gfi rfl rfl rfl rfl rfl ?_
    have w155 : 0 ≤ (Xi T5 904 65) ∧ (Xi T5 904 65) ≤ 1 := hHT5.c _ _
    refine l_if_ne rfl rfl (by unfold rg; omega) (fun w156 => ?_) (fun w157 => ?_)
    · refine l_return rfl rfl ?_
      have w161 : Xi T5 904 70 = Xi S 904 70 := (show Xi T5 904 70 = Xi T4 904 70 from w147.x _ _ rfl).trans ((show Xi T4 904 70 = Xi S 904 70 from w120.x _ _ rfl))
      have w171 : Xi T5 904 78 = Xi S 904 78 := (show Xi T5 904 78 = Xi T4 904 78 from w147.x _ _ rfl).trans ((show Xi T4 904 78 = Xi S 904 78 from w120.x _ _ rfl))
      exact ⟨hHT5, hFT5, rfl, (by first | assumption | exact AT_bad (by omega)), (by omega), (by first | assumption | exact (RNV_FR w147 rfl (by assumption : RNV T4 _))), (by omega), (by omega), (by omega), (by first | exact q109 | exact q186 | exact (fun _ => fun q => by unfold SNQ; refine ⟨fun q1 => absurd q1 (by omega), by omega, by omega, by omega, fun q9 => ⟨by omega, by omega, fun x y => by have t := W163 (by omega) x y; omega⟩, by omega, by omega, by omega, by omega, by omega⟩) W163 | exact fun q => absurd q (by omega)), (by omega), (by first | assumption | exact (by assumption : BDA T5))⟩
    · refine l_aload_n rfl rfl ?_
      have w179 : Xi T5 904 70 = Xi S 904 70 := (show Xi T5 904 70 = Xi T4 904 70 from w147.x _ _ rfl).trans ((show Xi T4 904 70 = Xi S 904 70 from w120.x _ _ rfl))
      have w181 : Xi T5 904 71 = Xi T4 904 71 := (show Xi T5 904 71 = Xi T4 904 71 from w147.x _ _ rfl)
      have w183 : Xi T5 904 72 = Xi T4 904 72 := (show Xi T5 904 72 = Xi T4 904 72 from w147.x _ _ rfl)
      have w189 : Xi T5 904 78 = Xi S 904 78 := (show Xi T5 904 78 = Xi T4 904 78 from w147.x _ _ rfl).trans ((show Xi T4 904 78 = Xi S 904 78 from w120.x _ _ rfl))
      refine l_callV rfl rfl rfl (t_mo_rest__2 hHT5 n c (by first | assumption | exact (TK_FR hFT5 rfl (by assumption : TK S _))) (by first | assumption | exact (by assumption : AT T5 _ _)) (by first | assumption | exact (RNV_FR w147 rfl (by assumption : RNV T4 _))) (by first | assumption | omega) (by first | assumption | omega) (by first | assumption | exact (by assumption : BDA T5)) _) ?_
      rintro _ T6 ⟨hHT6, w203, rfl, w194, w195, w196, w197, w198, w199, q186, w200, w201⟩
      have hFT6 : FR md_mo_common__2 S T6 := FR.tr hFT5 w203 rfl
      show Rl _ _ _ _ _ [] _ _
      have w205 : 0 ≤ Xi T6 904 8 ∧ Xi T6 904 8 ≤ 5010 := hHT6.c _ _
      have w206 : 0 ≤ Xi T6 904 65 ∧ Xi T6 904 65 ≤ 1 := hHT6.c _ _
      have w207 : 0 ≤ Xi T6 904 69 ∧ Xi T6 904 69 ≤ 2600 := hHT6.c _ _
      have w208 : Xi T6 904 93 = Xi S 904 93 := (show Xi T6 904 93 = Xi T5 904 93 from w203.x _ _ rfl).trans ( (show Xi T5 904 93 = Xi T4 904 93 from w147.x _ _ rfl).trans ((show Xi T4 904 93 = Xi S 904 93 from w120.x _ _ rfl)))
      have w204 : Xi S 904 8 ≤ Xi T6 904 8 ∧ Xi T6 904 8 ≤ n ∧ Xi S 904 69 ≤ Xi T6 904 69 ∧ (Xi T6 904 65 = 0 → Xi S 904 65 = 0) := by omega
      clear w195 w197 w198 w148
      refine l_return rfl rfl ?_
      have w212 : 0 ≤ Xi T6 904 70 ∧ Xi T6 904 70 ≤ 20 := hHT6.c _ _
      have w219 : -2 ≤ Xi T6 904 78 ∧ Xi T6 904 78 ≤ 5010 := hHT6.c _ _
      exact ⟨hHT6, hFT6, rfl, (by first | assumption | exact AT_bad (by omega)), (by omega), (by first | assumption | exact (by assumption : RNV T6 _)), (by omega), (by omega), (by omega), (by first | exact q109 | exact q186 | exact (fun _ => fun q => by unfold SNQ; refine ⟨fun q1 => absurd q1 (by omega), by omega, by omega, by omega, fun q9 => ⟨by omega, by omega, fun x y => by have t := W163 (by omega) x y; omega⟩, by omega, by omega, by omega, by omega, by omega⟩) W163 | exact fun q => absurd q (by omega)), (by omega), (by first | assumption | exact (by assumption : BDA T6))⟩
  · refine l_aload_n rfl rfl ?_
    refine l_bipush rfl rfl ?_
    refine l_pfi rfl rfl rfl rfl ?_
    obtain ⟨U7, eU7⟩ : ∃ T : sS, T = uI S 904 70 (Int32.ofInt 9) := ⟨_, rfl⟩
    rw [← eU7]
    have hHU7 : HI U7 := by rw [eU7]; exact HI_w hH (show 0 ≤ 9 by omega) (show 9 ≤ 20 by omega)
    have hFU7 : FR md_mo_common__2 S U7 := by rw [eU7]; exact FR.wI hF (mdf_i (r := (904, 905, 70, 71)) (List.mem_of_getElem? (i := 4) rfl) (inR_i (by omega) (by omega) (by omega) (by omega)))
    have w223 : Xi U7 904 70 = 9 := by rw [eU7]; exact Xi_same (by unfold rg; omega)
    refine l_aload_n rfl rfl ?_
    refine l_dup rfl rfl ?_
    refine l_gfi rfl rfl rfl rfl rfl ?_
    have w224 : (Xi U7 904 8) = (Xi S 904 8) := (show Xi U7 904 8 = Xi S 904 8 from by rw [eU7]; exact Xi_ne (by omega))
    rw [w224]
    refine l_iconst rfl ?_
    refine l_iadd rfl ?_
    refine l_pfi rfl rfl rfl rfl ?_
    obtain ⟨U8, eU8⟩ : ∃ T : sS, T = uI U7 904 8 (Int32.ofInt ((Xi S 904 8) + 1)) := ⟨_, rfl⟩
    rw [← eU8]
    have hHU8 : HI U8 := by rw [eU8]; exact HI_w hHU7 (show 0 ≤ ((Xi S 904 8) + 1) by omega) (show ((Xi S 904 8) + 1) ≤ 5010 by omega)
    have hFU8 : FR md_mo_common__2 S U8 := by rw [eU8]; exact FR.wI hFU7 (mdf_i (r := (904, 905, 8, 9)) (List.mem_of_getElem? (i := 0) rfl) (inR_i (by omega) (by omega) (by omega) (by omega)))
    have w225 : Xi U8 904 8 = ((Xi S 904 8) + 1) := by rw [eU8]; exact Xi_same (by unfold rg; omega)
    have t139 : AT U8 n c ∧ _ := (at_mv (S := S) (P := U7) (TK_FR hF rfl (by assumption : TK S _)) (by first | assumption | exact (by assumption : AT S _ _)) (fun j => ((FR_e eU7).cx 907 rfl j).1) (fun j => ((FR_e eU7).cx 908 rfl j).1) ((show Xi U7 904 8 = Xi S 904 8 from by rw [eU7]; exact Xi_ne (by omega))) ((show Xi U7 904 65 = Xi S 904 65 from by rw [eU7]; exact Xi_ne (by omega))) ((show Xi U7 904 69 = Xi S 904 69 from by rw [eU7]; exact Xi_ne (by omega))) ((show Xi U7 904 93 = Xi S 904 93 from by rw [eU7]; exact Xi_ne (by omega))) eU8 (by omega) (by omega) (by omega) (by omega) (Or.inl rfl))
    have a139 : AT U8 n c := t139.1
    have l139 := t139.2
    refine l_aload_n rfl rfl ?_
    have w226 : Xi U8 904 65 = Xi S 904 65 := (show Xi U8 904 65 = Xi U7 904 65 from by rw [eU8]; exact Xi_ne (by omega)).trans ((show Xi U7 904 65 = Xi S 904 65 from by rw [eU7]; exact Xi_ne (by omega)))
    have w228 : Xi U8 904 69 = Xi S 904 69 := (show Xi U8 904 69 = Xi U7 904 69 from by rw [eU8]; exact Xi_ne (by omega)).trans ((show Xi U7 904 69 = Xi S 904 69 from by rw [eU7]; exact Xi_ne (by omega)))
    have w242 : 0 ≤ Xi U8 904 8 ∧ Xi U8 904 8 ≤ 5010 := hHU8.c _ _
    refine l_callV rfl rfl rfl (t_mo_run__2 hHU8 n c (by first | assumption | exact (TK_FR hFU8 rfl (by assumption : TK S _))) (by first | assumption | exact (by assumption : AT U8 _ _)) (by first | assumption | exact (RNV_FR (FR_e eU8) rfl (RNV_FR (FR_e eU7) rfl (by assumption : RNV S _)))) (by first | assumption | exact (BDA_FR (FR_e eU8) rfl (BDA_FR (FR_e eU7) rfl (by assumption : BDA S)))) _) ?_
    rintro _ T9 ⟨hHT9, w252, z251, rfl, w251, w245, w246, w247, w248, w249, w250⟩
    have hFT9 : FR md_mo_common__2 S T9 := FR.tr hFU8 w252 rfl
    show Rl _ _ _ _ _ [iv z251] _ _
    have w254 : 0 ≤ Xi T9 904 8 ∧ Xi T9 904 8 ≤ 5010 := hHT9.c _ _
    have w255 : 0 ≤ Xi T9 904 65 ∧ Xi T9 904 65 ≤ 1 := hHT9.c _ _
    have w256 : 0 ≤ Xi T9 904 69 ∧ Xi T9 904 69 ≤ 2600 := hHT9.c _ _
    have w257 : Xi T9 904 93 = Xi S 904 93 := (show Xi T9 904 93 = Xi U8 904 93 from w252.x _ _ rfl).trans ( (show Xi U8 904 93 = Xi U7 904 93 from by rw [eU8]; exact Xi_ne (by omega)).trans ((show Xi U7 904 93 = Xi S 904 93 from by rw [eU7]; exact Xi_ne (by omega))))
    have c143 : Xi T9 904 65 = 0 → Xi S 904 69 + 1 ≤ Xi T9 904 69 := by omega
    have w253 : Xi S 904 8 ≤ Xi T9 904 8 ∧ Xi T9 904 8 ≤ n ∧ Xi S 904 69 ≤ Xi T9 904 69 ∧ (Xi T9 904 65 = 0 → Xi S 904 65 = 0) := by omega
    clear w246 w248 w249
    refine l_pop rfl rfl ?_
    refine l_aload_n rfl rfl ?_
    refine l_bipush rfl rfl ?_
    refine l_callV rfl rfl rfl (t_mo_take__3 hHT9 n c 107 ⟨by omega, by omega⟩ (by first | assumption | exact (TK_FR hFT9 rfl (by assumption : TK S _))) (by first | assumption | exact (by assumption : AT T9 _ _)) (by first | assumption | omega) (by first | assumption | exact (by assumption : BDA T9)) _) ?_
    rintro _ T10 ⟨hHT10, w282, rfl, w276, w277, w278, w279, w280⟩
    have hFT10 : FR md_mo_common__2 S T10 := FR.tr hFT9 w282 rfl
    show Rl _ _ _ _ _ [] _ _
    have w284 : 0 ≤ Xi T10 904 8 ∧ Xi T10 904 8 ≤ 5010 := hHT10.c _ _
    have w285 : 0 ≤ Xi T10 904 65 ∧ Xi T10 904 65 ≤ 1 := hHT10.c _ _
    have w286 : Xi T10 904 69 = Xi T9 904 69 := (show Xi T10 904 69 = Xi T9 904 69 from w282.x _ _ rfl)
    have w288 : Xi T10 904 93 = Xi S 904 93 := (show Xi T10 904 93 = Xi T9 904 93 from w282.x _ _ rfl).trans ( (show Xi T9 904 93 = Xi U8 904 93 from w252.x _ _ rfl).trans ( (show Xi U8 904 93 = Xi U7 904 93 from by rw [eU8]; exact Xi_ne (by omega)).trans ((show Xi U7 904 93 = Xi S 904 93 from by rw [eU7]; exact Xi_ne (by omega)))))
    have c150 : Xi T10 904 65 = 0 → Xi S 904 69 + 1 ≤ Xi T10 904 69 := by omega
    clear c143
    have w283 : Xi S 904 8 ≤ Xi T10 904 8 ∧ Xi T10 904 8 ≤ n ∧ Xi S 904 69 ≤ Xi T10 904 69 ∧ (Xi T10 904 65 = 0 → Xi S 904 65 = 0) := by omega
    clear w277 w278 w279 w253
    refine l_aload_n rfl rfl ?_
    refine l_callV rfl rfl rfl (t_mo_name__2 hHT10 n c (by first | assumption | exact (TK_FR hFT10 rfl (by assumption : TK S _))) (by first | assumption | exact (by assumption : AT T10 _ _)) (by first | assumption | exact (RNV_FR w282 rfl (by assumption : RNV T9 _))) (by first | assumption | exact (by assumption : BDA T10)) _) ?_
    rintro _ T11 ⟨hHT11, w315, z314, rfl, w314, w308, w309, w310, w311, w312, w313⟩
    have hFT11 : FR md_mo_common__2 S T11 := FR.tr hFT10 w315 rfl
    show Rl _ _ _ _ _ [iv z314] _ _
    have w317 : 0 ≤ Xi T11 904 8 ∧ Xi T11 904 8 ≤ 5010 := hHT11.c _ _
    have w318 : 0 ≤ Xi T11 904 65 ∧ Xi T11 904 65 ≤ 1 := hHT11.c _ _
    have w319 : 0 ≤ Xi T11 904 69 ∧ Xi T11 904 69 ≤ 2600 := hHT11.c _ _
    have w320 : Xi T11 904 93 = Xi S 904 93 := (show Xi T11 904 93 = Xi T10 904 93 from w315.x _ _ rfl).trans ( (show Xi T10 904 93 = Xi T9 904 93 from w282.x _ _ rfl).trans ( (show Xi T9 904 93 = Xi U8 904 93 from w252.x _ _ rfl).trans ( (show Xi U8 904 93 = Xi U7 904 93 from by rw [eU8]; exact Xi_ne (by omega)).trans ((show Xi U7 904 93 = Xi S 904 93 from by rw [eU7]; exact Xi_ne (by omega))))))
    have c154 : Xi T11 904 65 = 0 → Xi S 904 69 + 2 ≤ Xi T11 904 69 := by omega
    clear c150
    have w316 : Xi S 904 8 ≤ Xi T11 904 8 ∧ Xi T11 904 8 ≤ n ∧ Xi S 904 69 ≤ Xi T11 904 69 ∧ (Xi T11 904 65 = 0 → Xi S 904 65 = 0) := by omega
    clear w309 w311 w312 w283
    refine l_pop rfl rfl ?_
    have w324 : Xi T11 904 70 = Xi U7 904 70 := (show Xi T11 904 70 = Xi T10 904 70 from w315.x _ _ rfl).trans ( (show Xi T10 904 70 = Xi T9 904 70 from w282.x _ _ rfl).trans ( (show Xi T9 904 70 = Xi U8 904 70 from w252.x _ _ rfl).trans ((show Xi U8 904 70 = Xi U7 904 70 from by rw [eU8]; exact Xi_ne (by omega)))))
    have w325 : 0 ≤ Xi U7 904 70 ∧ Xi U7 904 70 ≤ 20 := hHU7.c _ _
    have w326 : Xi T11 904 71 = Xi S 904 71 := (show Xi T11 904 71 = Xi T10 904 71 from w315.x _ _ rfl).trans ( (show Xi T10 904 71 = Xi T9 904 71 from w282.x _ _ rfl).trans ( (show Xi T9 904 71 = Xi U8 904 71 from w252.x _ _ rfl).trans ( (show Xi U8 904 71 = Xi U7 904 71 from by rw [eU8]; exact Xi_ne (by omega)).trans ((show Xi U7 904 71 = Xi S 904 71 from by rw [eU7]; exact Xi_ne (by omega))))))
    have w328 : Xi T11 904 72 = Xi S 904 72 := (show Xi T11 904 72 = Xi T10 904 72 from w315.x _ _ rfl).trans ( (show Xi T10 904 72 = Xi T9 904 72 from w282.x _ _ rfl).trans ( (show Xi T9 904 72 = Xi U8 904 72 from w252.x _ _ rfl).trans ( (show Xi U8 904 72 = Xi U7 904 72 from by rw [eU8]; exact Xi_ne (by omega)).trans ((show Xi U7 904 72 = Xi S 904 72 from by rw [eU7]; exact Xi_ne (by omega))))))
    have w330 : Xi T11 904 73 = Xi S 904 73 := (show Xi T11 904 73 = Xi T10 904 73 from w315.x _ _ rfl).trans ( (show Xi T10 904 73 = Xi T9 904 73 from w282.x _ _ rfl).trans ( (show Xi T9 904 73 = Xi U8 904 73 from w252.x _ _ rfl).trans ( (show Xi U8 904 73 = Xi U7 904 73 from by rw [eU8]; exact Xi_ne (by omega)).trans ((show Xi U7 904 73 = Xi S 904 73 from by rw [eU7]; exact Xi_ne (by omega))))))
    have w332 : Xi T11 904 74 = Xi S 904 74 := (show Xi T11 904 74 = Xi T10 904 74 from w315.x _ _ rfl).trans ( (show Xi T10 904 74 = Xi T9 904 74 from w282.x _ _ rfl).trans ( (show Xi T9 904 74 = Xi U8 904 74 from w252.x _ _ rfl).trans ( (show Xi U8 904 74 = Xi U7 904 74 from by rw [eU8]; exact Xi_ne (by omega)).trans ((show Xi U7 904 74 = Xi S 904 74 from by rw [eU7]; exact Xi_ne (by omega))))))
    have w334 : Xi T11 904 78 = Xi S 904 78 := (show Xi T11 904 78 = Xi T10 904 78 from w315.x _ _ rfl).trans ( (show Xi T10 904 78 = Xi T9 904 78 from w282.x _ _ rfl).trans ( (show Xi T9 904 78 = Xi U8 904 78 from w252.x _ _ rfl).trans ( (show Xi U8 904 78 = Xi U7 904 78 from by rw [eU8]; exact Xi_ne (by omega)).trans ((show Xi U7 904 78 = Xi S 904 78 from by rw [eU7]; exact Xi_ne (by omega))))))
    exact Rl_weak (C158 T11 hHT11 hFT11  (by first | assumption | exact (by assumption : AT T11 _ _)) (by first | assumption | exact (by assumption : RNV T11 _)) (by omega) (by omega) (by omega) (by omega) (by omega) (by first | exact c154 | omega) (by first | assumption | exact (by assumption : BDA T11))) (And.intro rfl (True.intro))
set_option maxRecDepth 100000 in
set_option maxHeartbeats 4000000 in
theorem c95_mo_common__2 {S : sS} (hH : HI S) (n : Nat) (c : Nat) (hT : TK S n) (hA : AT S n c) (hv : RNV S n) (hx : Xi S 904 8 ≤ n) (hb : Xi S 904 65 = 0) (hBDA : BDA S) (d : Nat) : ∀  (v1 : Int), (0 ≤ v1 ∧ v1 ≤ 126) → (BDA S) → Rl lay0 (d + 4) m_mo_common 95 [(0, .ref 904), (1, iv v1)] [] S (Q_mo_common__2 S n c) := by
  have C115 := c115_mo_common__2 hH n c hT hA hv hx hb hBDA d 
  have hF : FR md_mo_common__2 S S := FR.rf
  have w1 : 0 ≤ Xi S 904 65 ∧ Xi S 904 65 ≤ 1 := hH.c _ _
  have w2 : 0 ≤ Xi S 904 69 ∧ Xi S 904 69 ≤ 2600 := hH.c _ _
  have w3 : 0 ≤ Xi S 904 70 ∧ Xi S 904 70 ≤ 20 := hH.c _ _
  have w4 : 0 ≤ Xi S 904 8 ∧ Xi S 904 8 ≤ 5010 := hH.c _ _
  have hn5 := hT.1
  have hat := hA
  have h8 : 0 ≤ Xi S 904 8 ∧ Xi S 904 8 ≤ 5010 := hH.c _ _
  have h69 : 0 ≤ Xi S 904 69 ∧ Xi S 904 69 ≤ 2600 := hH.c _ _
  have ha0 : Xi S 904 65 = 0 → Xi S 904 8 ≤ n := fun q => (hA q).1
  have ha3 : Xi S 904 65 = 0 → 2 * Xi S 904 69 ≤ Xi S 904 8 + 1 := fun q => (hA q).2.1
  clear hat
  intro v1 w339 BDA_95
  refine l_iload_n rfl rfl ?_
  refine l_bipush rfl rfl ?_
  refine l_icmp_eq rfl rfl (by unfold rg; omega) (by unfold rg; omega) (fun w340 => ?_) (fun w341 => ?_)
  · have w342 : 0 ≤ Xi S 904 65 ∧ Xi S 904 65 ≤ 1 := hH.c _ _
    have w345 : 0 ≤ Xi S 904 71 ∧ Xi S 904 71 ≤ 2600 := hH.c _ _
    have w346 : 0 ≤ Xi S 904 72 ∧ Xi S 904 72 ≤ 2600 := hH.c _ _
    have w347 : 0 ≤ Xi S 904 73 ∧ Xi S 904 73 ≤ 5 := hH.c _ _
    have w348 : 0 ≤ Xi S 904 74 ∧ Xi S 904 74 ≤ 2600 := hH.c _ _
    have w349 : -2 ≤ Xi S 904 78 ∧ Xi S 904 78 ≤ 5010 := hH.c _ _
    have w351 : 0 ≤ Xi S 904 93 ∧ Xi S 904 93 ≤ 1700 := hH.c _ _
    exact Rl_weak (C115  (by first | assumption | exact (by assumption : BDA S))) (And.intro rfl (True.intro))
  · refine l_iload_n rfl rfl ?_
    refine l_bipush rfl rfl ?_
    refine l_icmp_eq rfl rfl (by unfold rg; omega) (by unfold rg; omega) (fun w352 => ?_) (fun w353 => ?_)
    · have w354 : 0 ≤ Xi S 904 65 ∧ Xi S 904 65 ≤ 1 := hH.c _ _
      have w357 : 0 ≤ Xi S 904 71 ∧ Xi S 904 71 ≤ 2600 := hH.c _ _
      have w358 : 0 ≤ Xi S 904 72 ∧ Xi S 904 72 ≤ 2600 := hH.c _ _
      have w359 : 0 ≤ Xi S 904 73 ∧ Xi S 904 73 ≤ 5 := hH.c _ _
      have w360 : 0 ≤ Xi S 904 74 ∧ Xi S 904 74 ≤ 2600 := hH.c _ _
      have w361 : -2 ≤ Xi S 904 78 ∧ Xi S 904 78 ≤ 5010 := hH.c _ _
      have w363 : 0 ≤ Xi S 904 93 ∧ Xi S 904 93 ≤ 1700 := hH.c _ _
      exact Rl_weak (C115  (by first | assumption | exact (by assumption : BDA S))) (And.intro rfl (True.intro))
    · refine l_aload_n rfl rfl ?_
      refine l_iload_n rfl rfl ?_
      refine l_callV rfl rfl rfl (t_mo_others__2 hH n c v1 ⟨by omega, by omega⟩ (by first | assumption | exact (TK_FR hF rfl (by assumption : TK S _))) (by first | assumption | exact (by assumption : AT S _ _)) (by first | assumption | exact (by assumption : RNV S _)) (by first | assumption | omega) (by first | assumption | exact (by assumption : BDA S)) _) ?_
      rintro _ T12 ⟨hHT12, w382, rfl, w374, w375, w376, w377, w378, w379, q109, w380⟩
      have hFT12 : FR md_mo_common__2 S T12 := FR.tr hF w382 rfl
      show Rl _ _ _ _ _ [] _ _
      have w384 : 0 ≤ Xi T12 904 8 ∧ Xi T12 904 8 ≤ 5010 := hHT12.c _ _
      have w385 : 0 ≤ Xi T12 904 65 ∧ Xi T12 904 65 ≤ 1 := hHT12.c _ _
      have w386 : 0 ≤ Xi T12 904 69 ∧ Xi T12 904 69 ≤ 2600 := hHT12.c _ _
      have w387 : Xi T12 904 93 = Xi S 904 93 := (show Xi T12 904 93 = Xi S 904 93 from w382.x _ _ rfl)
      have w388 : 0 ≤ Xi S 904 93 ∧ Xi S 904 93 ≤ 1700 := hH.c _ _
      have w383 : Xi S 904 8 ≤ Xi T12 904 8 ∧ Xi T12 904 8 ≤ n + 2 ∧ Xi S 904 69 ≤ Xi T12 904 69 ∧ (Xi T12 904 65 = 0 → Xi S 904 65 = 0) := by omega
      clear w375 w377 w378
      refine l_goto rfl rfl ?_
      refine l_return rfl rfl ?_
      have w391 : 0 ≤ Xi T12 904 70 ∧ Xi T12 904 70 ≤ 20 := hHT12.c _ _
      have w400 : Xi T12 904 78 = Xi S 904 78 := (show Xi T12 904 78 = Xi S 904 78 from w382.x _ _ rfl)
      have w401 : -2 ≤ Xi S 904 78 ∧ Xi S 904 78 ≤ 5010 := hH.c _ _
      exact ⟨hHT12, hFT12, rfl, (by first | assumption | exact AT_bad (by omega)), (by omega), (by first | assumption | exact (by assumption : RNV T12 _)), (by omega), (by omega), (by omega), (by first | exact q109 | exact q186 | exact (fun _ => fun q => by unfold SNQ; refine ⟨fun q1 => absurd q1 (by omega), by omega, by omega, by omega, fun q9 => ⟨by omega, by omega, fun x y => by have t := W163 (by omega) x y; omega⟩, by omega, by omega, by omega, by omega, by omega⟩) W163 | exact fun q => absurd q (by omega)), (by omega), (by first | assumption | exact (by assumption : BDA T12))⟩
set_option maxRecDepth 100000 in
set_option maxHeartbeats 4000000 in
theorem c12_mo_common__2 {S : sS} (hH : HI S) (n : Nat) (c : Nat) (hT : TK S n) (hA : AT S n c) (hv : RNV S n) (hx : Xi S 904 8 ≤ n) (hb : Xi S 904 65 = 0) (hBDA : BDA S) (d : Nat) : ∀ (n12 : Nat) (v1 : Int) (v3 : Int), (0 ≤ v1 ∧ v1 ≤ 126) → (0 ≤ v3 ∧ v3 ≤ 5001) → (Xi S 904 8 ≤ v3 ∧ v3 ≤ n) → (BDA S) → n12 = (5002 - v3).toNat → Rl lay0 (d + 4) m_mo_common 12 [(0, .ref 904), (1, iv v1), (3, iv v3)] [] S (Q_mo_common__2 S n c) := by
  have C95 := c95_mo_common__2 hH n c hT hA hv hx hb hBDA d 
  have hF : FR md_mo_common__2 S S := FR.rf
  have w1 : 0 ≤ Xi S 904 65 ∧ Xi S 904 65 ≤ 1 := hH.c _ _
  have w2 : 0 ≤ Xi S 904 69 ∧ Xi S 904 69 ≤ 2600 := hH.c _ _
  have w3 : 0 ≤ Xi S 904 70 ∧ Xi S 904 70 ≤ 20 := hH.c _ _
  have w4 : 0 ≤ Xi S 904 8 ∧ Xi S 904 8 ≤ 5010 := hH.c _ _
  have hn5 := hT.1
  have hat := hA
  have h8 : 0 ≤ Xi S 904 8 ∧ Xi S 904 8 ≤ 5010 := hH.c _ _
  have h69 : 0 ≤ Xi S 904 69 ∧ Xi S 904 69 ≤ 2600 := hH.c _ _
  have ha0 : Xi S 904 65 = 0 → Xi S 904 8 ≤ n := fun q => (hA q).1
  have ha3 : Xi S 904 65 = 0 → 2 * Xi S 904 69 ≤ Xi S 904 8 + 1 := fun q => (hA q).2.1
  clear hat
  intro n12
  induction n12 using Nat.strongRecOn with
  | ind n12 ih12 =>
    intro v1 v3 w405 w406 w407 BDA_12 hm12
    refine l_aload_n rfl rfl ?_
    refine l_gfr rfl rfl rfl rfl rfl (hH.r 904 4 907 rfl) ?_
    refine l_iload_n rfl rfl ?_
    refine l_iaload (n := 5002) rfl rfl (by omega) (by omega) (by unfold rg; omega) ?_
    have w408 : 0 ≤ (Xi S 907 ((v3).toNat)) ∧ (Xi S 907 ((v3).toNat)) ≤ 154 := hH.c _ _
    refine l_bipush rfl rfl ?_
    refine l_icmp_eq rfl rfl (by unfold rg; omega) (by unfold rg; omega) (fun w409 => ?_) (fun w410 => ?_)
    · have w411 : 0 ≤ Xi S 904 65 ∧ Xi S 904 65 ≤ 1 := hH.c _ _
      have w414 : 0 ≤ Xi S 904 71 ∧ Xi S 904 71 ≤ 2600 := hH.c _ _
      have w415 : 0 ≤ Xi S 904 72 ∧ Xi S 904 72 ≤ 2600 := hH.c _ _
      have w416 : 0 ≤ Xi S 904 73 ∧ Xi S 904 73 ≤ 5 := hH.c _ _
      have w417 : 0 ≤ Xi S 904 74 ∧ Xi S 904 74 ≤ 2600 := hH.c _ _
      have w418 : -2 ≤ Xi S 904 78 ∧ Xi S 904 78 ≤ 5010 := hH.c _ _
      have w420 : 0 ≤ Xi S 904 93 ∧ Xi S 904 93 ≤ 1700 := hH.c _ _
      exact Rl_weak (C95 (v1) (by omega) (by first | assumption | exact (by assumption : BDA S))) (And.intro rfl (And.intro rfl (True.intro)))
    · refine l_aload_n rfl rfl ?_
      refine l_gfr rfl rfl rfl rfl rfl (hH.r 904 4 907 rfl) ?_
      refine l_iload_n rfl rfl ?_
      refine l_iaload (n := 5002) rfl rfl (by omega) (by omega) (by unfold rg; omega) ?_
      have u28 : (Xi S 907 ((v3).toNat)) ≠ 1 → v3 < n := fun q => tk_lt hT (by omega) (by omega) q
      refine l_iconst rfl ?_
      refine l_icmp_eq rfl rfl (by unfold rg; omega) (by unfold rg; omega) (fun w421 => ?_) (fun w422 => ?_)
      · have w423 : 0 ≤ Xi S 904 65 ∧ Xi S 904 65 ≤ 1 := hH.c _ _
        have w426 : 0 ≤ Xi S 904 71 ∧ Xi S 904 71 ≤ 2600 := hH.c _ _
        have w427 : 0 ≤ Xi S 904 72 ∧ Xi S 904 72 ≤ 2600 := hH.c _ _
        have w428 : 0 ≤ Xi S 904 73 ∧ Xi S 904 73 ≤ 5 := hH.c _ _
        have w429 : 0 ≤ Xi S 904 74 ∧ Xi S 904 74 ≤ 2600 := hH.c _ _
        have w430 : -2 ≤ Xi S 904 78 ∧ Xi S 904 78 ≤ 5010 := hH.c _ _
        have w432 : 0 ≤ Xi S 904 93 ∧ Xi S 904 93 ≤ 1700 := hH.c _ _
        exact Rl_weak (C95 (v1) (by omega) (by first | assumption | exact (by assumption : BDA S))) (And.intro rfl (And.intro rfl (True.intro)))
      · refine l_iload_n rfl rfl ?_
        refine l_if_ne rfl rfl (by unfold rg; omega) (fun w433 => ?_) (fun w434 => ?_)
        · have w435 : 0 ≤ Xi S 904 65 ∧ Xi S 904 65 ≤ 1 := hH.c _ _
          have w438 : 0 ≤ Xi S 904 71 ∧ Xi S 904 71 ≤ 2600 := hH.c _ _
          have w439 : 0 ≤ Xi S 904 72 ∧ Xi S 904 72 ≤ 2600 := hH.c _ _
          have w440 : 0 ≤ Xi S 904 73 ∧ Xi S 904 73 ≤ 5 := hH.c _ _
          have w441 : 0 ≤ Xi S 904 74 ∧ Xi S 904 74 ≤ 2600 := hH.c _ _
          have w442 : -2 ≤ Xi S 904 78 ∧ Xi S 904 78 ≤ 5010 := hH.c _ _
          have w444 : 0 ≤ Xi S 904 93 ∧ Xi S 904 93 ≤ 1700 := hH.c _ _
          exact Rl_weak (C95 (v1) (by omega) (by first | assumption | exact (by assumption : BDA S))) (And.intro rfl (And.intro rfl (True.intro)))
        · refine l_aload_n rfl rfl ?_
          refine l_gfr rfl rfl rfl rfl rfl (hH.r 904 4 907 rfl) ?_
          refine l_iload_n rfl rfl ?_
          refine l_iaload (n := 5002) rfl rfl (by omega) (by omega) (by unfold rg; omega) ?_
          refine l_istore rfl rfl rfl ?_
          refine l_iload rfl rfl ?_
          refine l_bipush rfl rfl ?_
          refine l_icmp_eq rfl rfl (by unfold rg; omega) (by unfold rg; omega) (fun w445 => ?_) (fun w446 => ?_)
          · refine l_iload rfl rfl ?_
            refine l_goto rfl rfl ?_
            refine l_istore_n rfl rfl rfl ?_
            refine l_iload_n rfl rfl ?_
            refine l_istore_n rfl rfl rfl ?_
            refine l_iinc rfl rfl rfl rfl ?_
            refine l_goto rfl rfl ?_
            have w450 : 0 ≤ Xi S 904 71 ∧ Xi S 904 71 ≤ 2600 := hH.c _ _
            have w451 : 0 ≤ Xi S 904 72 ∧ Xi S 904 72 ≤ 2600 := hH.c _ _
            have w452 : 0 ≤ Xi S 904 73 ∧ Xi S 904 73 ≤ 5 := hH.c _ _
            have w453 : 0 ≤ Xi S 904 74 ∧ Xi S 904 74 ≤ 2600 := hH.c _ _
            have w454 : -2 ≤ Xi S 904 78 ∧ Xi S 904 78 ≤ 5010 := hH.c _ _
            have w456 : 0 ≤ Xi S 904 93 ∧ Xi S 904 93 ≤ 1700 := hH.c _ _
            exact Rl_weak (ih12 _ (by omega) ((Xi S 907 ((v3).toNat))) ((v3 + 1)) (by omega) (by omega) (by omega) (by first | assumption | exact (by assumption : BDA S)) rfl) (And.intro rfl (And.intro rfl (And.intro rfl (True.intro))))
          · refine l_iload rfl rfl ?_
            refine l_bipush rfl rfl ?_
            refine l_icmp_eq rfl rfl (by unfold rg; omega) (by unfold rg; omega) (fun w457 => ?_) (fun w458 => ?_)
            · refine l_iload rfl rfl ?_
              refine l_goto rfl rfl ?_
              refine l_istore_n rfl rfl rfl ?_
              refine l_iload_n rfl rfl ?_
              refine l_istore_n rfl rfl rfl ?_
              refine l_iinc rfl rfl rfl rfl ?_
              refine l_goto rfl rfl ?_
              have w462 : 0 ≤ Xi S 904 71 ∧ Xi S 904 71 ≤ 2600 := hH.c _ _
              have w463 : 0 ≤ Xi S 904 72 ∧ Xi S 904 72 ≤ 2600 := hH.c _ _
              have w464 : 0 ≤ Xi S 904 73 ∧ Xi S 904 73 ≤ 5 := hH.c _ _
              have w465 : 0 ≤ Xi S 904 74 ∧ Xi S 904 74 ≤ 2600 := hH.c _ _
              have w466 : -2 ≤ Xi S 904 78 ∧ Xi S 904 78 ≤ 5010 := hH.c _ _
              have w468 : 0 ≤ Xi S 904 93 ∧ Xi S 904 93 ≤ 1700 := hH.c _ _
              exact Rl_weak (ih12 _ (by omega) ((Xi S 907 ((v3).toNat))) ((v3 + 1)) (by omega) (by omega) (by omega) (by first | assumption | exact (by assumption : BDA S)) rfl) (And.intro rfl (And.intro rfl (And.intro rfl (True.intro))))
            · refine l_iload rfl rfl ?_
              refine l_bipush rfl rfl ?_
              refine l_icmp_eq rfl rfl (by unfold rg; omega) (by unfold rg; omega) (fun w469 => ?_) (fun w470 => ?_)
              · refine l_iload rfl rfl ?_
                refine l_goto rfl rfl ?_
                refine l_istore_n rfl rfl rfl ?_
                refine l_iload_n rfl rfl ?_
                refine l_istore_n rfl rfl rfl ?_
                refine l_iinc rfl rfl rfl rfl ?_
                refine l_goto rfl rfl ?_
                have w474 : 0 ≤ Xi S 904 71 ∧ Xi S 904 71 ≤ 2600 := hH.c _ _
                have w475 : 0 ≤ Xi S 904 72 ∧ Xi S 904 72 ≤ 2600 := hH.c _ _
                have w476 : 0 ≤ Xi S 904 73 ∧ Xi S 904 73 ≤ 5 := hH.c _ _
                have w477 : 0 ≤ Xi S 904 74 ∧ Xi S 904 74 ≤ 2600 := hH.c _ _
                have w478 : -2 ≤ Xi S 904 78 ∧ Xi S 904 78 ≤ 5010 := hH.c _ _
                have w480 : 0 ≤ Xi S 904 93 ∧ Xi S 904 93 ≤ 1700 := hH.c _ _
                exact Rl_weak (ih12 _ (by omega) ((Xi S 907 ((v3).toNat))) ((v3 + 1)) (by omega) (by omega) (by omega) (by first | assumption | exact (by assumption : BDA S)) rfl) (And.intro rfl (And.intro rfl (And.intro rfl (True.intro))))
              · refine l_iload rfl rfl ?_
                refine l_bipush rfl rfl ?_
                refine l_icmp_eq rfl rfl (by unfold rg; omega) (by unfold rg; omega) (fun w481 => ?_) (fun w482 => ?_)
                · refine l_iload rfl rfl ?_
                  refine l_goto rfl rfl ?_
                  refine l_istore_n rfl rfl rfl ?_
                  refine l_iload_n rfl rfl ?_
                  refine l_istore_n rfl rfl rfl ?_
                  refine l_iinc rfl rfl rfl rfl ?_
                  refine l_goto rfl rfl ?_
                  have w486 : 0 ≤ Xi S 904 71 ∧ Xi S 904 71 ≤ 2600 := hH.c _ _
                  have w487 : 0 ≤ Xi S 904 72 ∧ Xi S 904 72 ≤ 2600 := hH.c _ _
                  have w488 : 0 ≤ Xi S 904 73 ∧ Xi S 904 73 ≤ 5 := hH.c _ _
                  have w489 : 0 ≤ Xi S 904 74 ∧ Xi S 904 74 ≤ 2600 := hH.c _ _
                  have w490 : -2 ≤ Xi S 904 78 ∧ Xi S 904 78 ≤ 5010 := hH.c _ _
                  have w492 : 0 ≤ Xi S 904 93 ∧ Xi S 904 93 ≤ 1700 := hH.c _ _
                  exact Rl_weak (ih12 _ (by omega) ((Xi S 907 ((v3).toNat))) ((v3 + 1)) (by omega) (by omega) (by omega) (by first | assumption | exact (by assumption : BDA S)) rfl) (And.intro rfl (And.intro rfl (And.intro rfl (True.intro))))
                · refine l_iload rfl rfl ?_
                  refine l_bipush rfl rfl ?_
                  refine l_icmp_ne rfl rfl (by unfold rg; omega) (by unfold rg; omega) (fun w493 => ?_) (fun w494 => ?_)
                  · refine l_iconst rfl ?_
                    refine l_istore_n rfl rfl rfl ?_
                    refine l_iload_n rfl rfl ?_
                    refine l_istore_n rfl rfl rfl ?_
                    refine l_iinc rfl rfl rfl rfl ?_
                    refine l_goto rfl rfl ?_
                    have w498 : 0 ≤ Xi S 904 71 ∧ Xi S 904 71 ≤ 2600 := hH.c _ _
                    have w499 : 0 ≤ Xi S 904 72 ∧ Xi S 904 72 ≤ 2600 := hH.c _ _
                    have w500 : 0 ≤ Xi S 904 73 ∧ Xi S 904 73 ≤ 5 := hH.c _ _
                    have w501 : 0 ≤ Xi S 904 74 ∧ Xi S 904 74 ≤ 2600 := hH.c _ _
                    have w502 : -2 ≤ Xi S 904 78 ∧ Xi S 904 78 ≤ 5010 := hH.c _ _
                    have w504 : 0 ≤ Xi S 904 93 ∧ Xi S 904 93 ≤ 1700 := hH.c _ _
                    exact Rl_weak (ih12 _ (by omega) (0) ((v3 + 1)) (by omega) (by omega) (by omega) (by first | assumption | exact (by assumption : BDA S)) rfl) (And.intro rfl (And.intro rfl (And.intro rfl (True.intro))))
                  · refine l_iload rfl rfl ?_
                    refine l_goto rfl rfl ?_
                    refine l_istore_n rfl rfl rfl ?_
                    refine l_iload_n rfl rfl ?_
                    refine l_istore_n rfl rfl rfl ?_
                    refine l_iinc rfl rfl rfl rfl ?_
                    refine l_goto rfl rfl ?_
                    have w508 : 0 ≤ Xi S 904 71 ∧ Xi S 904 71 ≤ 2600 := hH.c _ _
                    have w509 : 0 ≤ Xi S 904 72 ∧ Xi S 904 72 ≤ 2600 := hH.c _ _
                    have w510 : 0 ≤ Xi S 904 73 ∧ Xi S 904 73 ≤ 5 := hH.c _ _
                    have w511 : 0 ≤ Xi S 904 74 ∧ Xi S 904 74 ≤ 2600 := hH.c _ _
                    have w512 : -2 ≤ Xi S 904 78 ∧ Xi S 904 78 ≤ 5010 := hH.c _ _
                    have w514 : 0 ≤ Xi S 904 93 ∧ Xi S 904 93 ≤ 1700 := hH.c _ _
                    exact Rl_weak (ih12 _ (by omega) ((Xi S 907 ((v3).toNat))) ((v3 + 1)) (by omega) (by omega) (by omega) (by first | assumption | exact (by assumption : BDA S)) rfl) (And.intro rfl (And.intro rfl (And.intro rfl (True.intro))))
set_option maxRecDepth 100000 in
set_option maxHeartbeats 4000000 in
theorem t_mo_common__2 {S : sS} (hH : HI S) (n : Nat) (c : Nat) (hT : TK S n) (hA : AT S n c) (hv : RNV S n) (hx : Xi S 904 8 ≤ n) (hb : Xi S 904 65 = 0) (hBDA : BDA S) (d : Nat) : Mt lay0 (d + 5) m_mo_common [.ref 904] S (Q_mo_common__2 S n c) := by
  refine Mt_R rfl rfl ?_
  have C158 := c158_mo_common__2 hH n c hT hA hv hx hb hBDA d 
  have C115 := c115_mo_common__2 hH n c hT hA hv hx hb hBDA d 
  have C95 := c95_mo_common__2 hH n c hT hA hv hx hb hBDA d 
  have C12 := c12_mo_common__2 hH n c hT hA hv hx hb hBDA d 
  have hF : FR md_mo_common__2 S S := FR.rf
  have w1 : 0 ≤ Xi S 904 65 ∧ Xi S 904 65 ≤ 1 := hH.c _ _
  have w2 : 0 ≤ Xi S 904 69 ∧ Xi S 904 69 ≤ 2600 := hH.c _ _
  have w3 : 0 ≤ Xi S 904 70 ∧ Xi S 904 70 ≤ 20 := hH.c _ _
  have w4 : 0 ≤ Xi S 904 8 ∧ Xi S 904 8 ≤ 5010 := hH.c _ _
  have hn5 := hT.1
  have hat := hA
  have h8 : 0 ≤ Xi S 904 8 ∧ Xi S 904 8 ≤ 5010 := hH.c _ _
  have h69 : 0 ≤ Xi S 904 69 ∧ Xi S 904 69 ≤ 2600 := hH.c _ _
  have ha0 : Xi S 904 65 = 0 → Xi S 904 8 ≤ n := fun q => (hA q).1
  have ha3 : Xi S 904 65 = 0 → 2 * Xi S 904 69 ≤ Xi S 904 8 + 1 := fun q => (hA q).2.1
  clear hat
  refine l_iconst rfl ?_
  refine l_istore_n rfl rfl rfl ?_
  refine l_aload_n rfl rfl ?_
  refine l_gfi rfl rfl rfl rfl rfl ?_
  refine l_istore_n rfl rfl rfl ?_
  refine l_aload_n rfl rfl ?_
  refine l_gfi rfl rfl rfl rfl rfl ?_
  refine l_istore_n rfl rfl rfl ?_
  have w518 : 0 ≤ Xi S 904 71 ∧ Xi S 904 71 ≤ 2600 := hH.c _ _
  have w519 : 0 ≤ Xi S 904 72 ∧ Xi S 904 72 ≤ 2600 := hH.c _ _
  have w520 : 0 ≤ Xi S 904 73 ∧ Xi S 904 73 ≤ 5 := hH.c _ _
  have w521 : 0 ≤ Xi S 904 74 ∧ Xi S 904 74 ≤ 2600 := hH.c _ _
  have w522 : -2 ≤ Xi S 904 78 ∧ Xi S 904 78 ≤ 5010 := hH.c _ _
  have w524 : 0 ≤ Xi S 904 93 ∧ Xi S 904 93 ≤ 1700 := hH.c _ _
  exact Rl_weak (C12 _ (0) ((Xi S 904 8)) (by omega) (by omega) (by omega) (by first | assumption | exact (by assumption : BDA S)) rfl) (And.intro rfl (And.intro rfl (And.intro rfl (True.intro))))
