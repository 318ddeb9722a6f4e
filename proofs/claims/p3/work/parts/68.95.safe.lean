/-! SAFETY of methods: printed by wip/safe (vc.py, decl.py) -/
def md_mo_phrases__3 : List rec := [(904, 905, 8, 9), (904, 905, 65, 66), (904, 905, 66, 67), (904, 905, 69, 70), (904, 905, 78, 79), (904, 905, 93, 94), (904, 905, 98, 99), (904, 905, 99, 100), (904, 905, 100, 101), (904, 905, 101, 102), (950, 951, 0, 100000), (951, 952, 0, 100000), (952, 953, 0, 100000), (953, 954, 0, 100000), (954, 955, 0, 100000), (955, 956, 0, 100000), (956, 957, 0, 100000), (957, 958, 0, 100000), (958, 959, 0, 100000), (959, 960, 0, 100000), (960, 961, 0, 100000), (961, 962, 0, 100000), (962, 963, 0, 100000), (963, 964, 0, 100000), (964, 965, 0, 100000), (965, 966, 0, 100000)]
abbrev Q_mo_phrases__3 (S : sS) (n : Nat) (c : Nat) : pst := fun r S1 => HI S1 ∧ FR md_mo_phrases__3 S S1 ∧ (r = none ∧ (AT S1 n c) ∧ (Xi S 904 8 ≤ Xi S1 904 8 ∧ (Xi S1 904 8 ≤ n ∨ Xi S1 904 8 = Xi S 904 8)) ∧ (RNV S1 n) ∧ (Xi S1 904 65 = 0 → Xi S 904 65 = 0) ∧ (Xi S 904 69 ≤ Xi S1 904 69) ∧ (Xi S1 904 65 = 0 → TVA S1 n (Xi S1 904 94)) ∧ (Xi S1 904 65 = 0 → PVA S1 n (Xi S1 904 98)) ∧ (Xi S1 904 65 = 0 → Xi S1 904 94 + Xi S1 904 98 ≤ Xi S1 904 93 ∧ Xi S1 904 93 ≤ 1666) ∧ (PF S1) ∧ (BDA S1))
set_option maxRecDepth 100000 in
theorem t_mo_phrases__3 {S : sS} (hH : HI S) (n : Nat) (c : Nat) (hT : TK S n) (hA : AT S n c) (hv : RNV S n) (hx : Xi S 904 8 ≤ n) (tc : Xi S 904 93 ≤ 1690) (p0 : Xi S 904 98 = 0) (hs : Xi S 904 94 ≤ Xi S 904 93) (tv : Xi S 904 65 = 0 → TVA S n (Xi S 904 94)) (hPF : PF S) (hBDA : BDA S) (d : Nat) : Mt lay0 (d + 8) m_mo_phrases [.ref 904] S (Q_mo_phrases__3 S n c) := by
  refine Mt_R rfl rfl ?_
  have hF : FR md_mo_phrases__3 S S := FR.rf
  have w1 : 0 ≤ Xi S 904 65 ∧ Xi S 904 65 ≤ 1 := hH.c _ _
  have w2 : 0 ≤ Xi S 904 69 ∧ Xi S 904 69 ≤ 2600 := hH.c _ _
  have w3 : 0 ≤ Xi S 904 8 ∧ Xi S 904 8 ≤ 5010 := hH.c _ _
  have w4 : 0 ≤ Xi S 904 93 ∧ Xi S 904 93 ≤ 1700 := hH.c _ _
  have w5 : 0 ≤ Xi S 904 94 ∧ Xi S 904 94 ≤ 1700 := hH.c _ _
  have w6 : 0 ≤ Xi S 904 98 ∧ Xi S 904 98 ≤ 1700 := hH.c _ _
  have hn5 := hT.1
  have hat := hA
  have h8 : 0 ≤ Xi S 904 8 ∧ Xi S 904 8 ≤ 5010 := hH.c _ _
  have h69 : 0 ≤ Xi S 904 69 ∧ Xi S 904 69 ≤ 2600 := hH.c _ _
  have ha0 : Xi S 904 65 = 0 → Xi S 904 8 ≤ n := fun q => (hA q).1
  have ha3 : Xi S 904 65 = 0 → 2 * Xi S 904 69 ≤ Xi S 904 8 + 1 := fun q => (hA q).2.1
  clear hat
  have C4 : ∀ (n4 : Nat) (T1 : sS) (_ : HI T1) (_ : FR md_mo_phrases__3 S T1), (AT T1 n c) → (RNV T1 n) → (Xi S 904 8 ≤ Xi T1 904 8) → (Xi T1 904 8 ≤ n) → (Xi T1 904 93 ≤ 1691) → (Xi T1 904 98 ≤ 1691) → (Xi S 904 69 ≤ Xi T1 904 69) → (Xi T1 904 65 = 0 → Xi S 904 65 = 0) → (Xi T1 904 65 = 0 → Xi T1 904 94 + Xi T1 904 98 ≤ Xi T1 904 93) → (Xi T1 904 65 = 0 → TVA T1 n (Xi T1 904 94)) → (Xi T1 904 65 = 0 → PVA T1 n (Xi T1 904 98)) → (PF T1) → (BDA T1) → n4 = (5002 - Xi T1 904 8).toNat → Rl lay0 (d + 7) m_mo_phrases 4 [(0, .ref 904)] [] T1 (Q_mo_phrases__3 S n c) := by
    intro n4
    induction n4 using Nat.strongRecOn with
    | ind n4 ih4 =>
      intro T1 hHT1 hFT1 A4 V4 w7 w8 w9 w10 w11 w12 w13 E4 G4 PF_4 BDA_4 hm4
      have w14 : Xi T1 904 94 = Xi S 904 94 := hFT1.x _ _ rfl
      have w15 : 0 ≤ Xi T1 904 65 ∧ Xi T1 904 65 ≤ 1 := hHT1.c _ _
      have w16 : 0 ≤ Xi T1 904 69 ∧ Xi T1 904 69 ≤ 2600 := hHT1.c _ _
      have w17 : 0 ≤ Xi T1 904 8 ∧ Xi T1 904 8 ≤ 5010 := hHT1.c _ _
      have w18 : 0 ≤ Xi T1 904 93 ∧ Xi T1 904 93 ≤ 1700 := hHT1.c _ _
      have w19 : 0 ≤ Xi T1 904 94 ∧ Xi T1 904 94 ≤ 1700 := hHT1.c _ _
      have w20 : 0 ≤ Xi T1 904 98 ∧ Xi T1 904 98 ≤ 1700 := hHT1.c _ _
      refine l_aload_n rfl rfl ?_
      refine l_bipush rfl rfl ?_
      have w21 : 0 ≤ Xi T1 904 65 ∧ Xi T1 904 65 ≤ 1 := hHT1.c _ _
      have w22 : 0 ≤ Xi T1 904 69 ∧ Xi T1 904 69 ≤ 2600 := hHT1.c _ _
      have w23 : 0 ≤ Xi T1 904 8 ∧ Xi T1 904 8 ≤ 5010 := hHT1.c _ _
      have w24 : 0 ≤ Xi T1 904 93 ∧ Xi T1 904 93 ≤ 1700 := hHT1.c _ _
      have w25 : 0 ≤ Xi T1 904 94 ∧ Xi T1 904 94 ≤ 1700 := hHT1.c _ _
      have w26 : 0 ≤ Xi T1 904 98 ∧ Xi T1 904 98 ≤ 1700 := hHT1.c _ _
      refine l_callV rfl rfl rfl (t_mo_isNext hHT1 n c 59 ⟨by omega, by omega⟩ (by first | assumption | exact (TK_FR hFT1 rfl (by assumption : TK S _))) (by first | assumption | exact (by assumption : AT T1 _ _)) _) ?_
      rintro _ _ ⟨rfl, z29, rfl, w29, w27, w28⟩
      show Rl _ _ _ _ _ [iv z29] _ _
      have j7 : z29 = 1 → Xi T1 904 65 = 0 ∧ Xi T1 907 (Xi T1 904 8).toNat = 59 := by assumption
      refine l_if_eq rfl rfl (by unfold rg; omega) (fun w30 => ?_) (fun w31 => ?_)
      · refine l_return rfl rfl ?_
        have w32 : 0 ≤ Xi T1 904 65 ∧ Xi T1 904 65 ≤ 1 := hHT1.c _ _
        have w33 : 0 ≤ Xi T1 904 69 ∧ Xi T1 904 69 ≤ 2600 := hHT1.c _ _
        have w34 : 0 ≤ Xi T1 904 8 ∧ Xi T1 904 8 ≤ 5010 := hHT1.c _ _
        have w35 : 0 ≤ Xi T1 904 93 ∧ Xi T1 904 93 ≤ 1700 := hHT1.c _ _
        have w36 : 0 ≤ Xi T1 904 94 ∧ Xi T1 904 94 ≤ 1700 := hHT1.c _ _
        have w37 : 0 ≤ Xi T1 904 98 ∧ Xi T1 904 98 ≤ 1700 := hHT1.c _ _
        exact ⟨hHT1, hFT1, rfl, (A4), (by omega), (V4), (by omega), (by omega), (E4), (G4), (fun q => by have t := at_tc A4 hHT1 q; omega), (by first | assumption | exact (by assumption : PF T1)), (by first | assumption | exact (by assumption : BDA T1))⟩
      · refine l_aload_n rfl rfl ?_
        refine l_dup rfl rfl ?_
        refine l_gfi rfl rfl rfl rfl rfl ?_
        refine l_iconst rfl ?_
        refine l_iadd rfl ?_
        refine l_pfi rfl rfl rfl rfl ?_
        obtain ⟨U2, eU2⟩ : ∃ T : sS, T = uI T1 904 8 (Int32.ofInt ((Xi T1 904 8) + 1)) := ⟨_, rfl⟩
        rw [← eU2]
        have hHU2 : HI U2 := by rw [eU2]; exact HI_w hHT1 (show 0 ≤ ((Xi T1 904 8) + 1) by omega) (show ((Xi T1 904 8) + 1) ≤ 5010 by omega)
        have hFU2 : FR md_mo_phrases__3 S U2 := by rw [eU2]; exact FR.wI hFT1 (mdf_i (r := (904, 905, 8, 9)) (List.mem_of_getElem? (i := 0) rfl) (inR_i (by omega) (by omega) (by omega) (by omega)))
        have w38 : Xi U2 904 8 = ((Xi T1 904 8) + 1) := by rw [eU2]; exact Xi_same (by unfold rg; omega)
        have t20 : AT U2 n c ∧ _ := at_mv (S := T1) (P := T1) (c2 := c) (TK_FR hFT1 rfl hT) A4 (fun _ => rfl) (fun _ => rfl) rfl rfl rfl rfl eU2 (by omega) (by omega) (by omega) (by omega) (Or.inl rfl)
        have a20 : AT U2 n c := t20.1
        have l20 := t20.2
        have b20 : Xi T1 904 93 ≤ 1666 := by have t := at_tc A4 hHT1 (by omega); omega
        have K20 : KT U2 T1 (Xi T1 904 93) := KT_FR (FR_e eU2) rfl KT.rf
        have Q20 : KP U2 T1 (Xi T1 904 98) := KP_FR (FR_e eU2) rfl KP.rf
        have x20 : ∀ j, Xi U2 907 j = Xi T1 907 j := fun j => by rw [eU2, Xi_ne (by omega)]
        have s20_94 : Xi U2 904 94 = Xi T1 904 94 := by rw [eU2, Xi_ne (by omega)]
        have s20_98 : Xi U2 904 98 = Xi T1 904 98 := by rw [eU2, Xi_ne (by omega)]
        have s20_69 : Xi U2 904 69 = Xi T1 904 69 := by rw [eU2, Xi_ne (by omega)]
        have s20_93 : Xi U2 904 93 = Xi T1 904 93 := by rw [eU2, Xi_ne (by omega)]
        refine l_aload_n rfl rfl ?_
        have w39 : Xi U2 904 65 = Xi T1 904 65 := (show Xi U2 904 65 = Xi T1 904 65 from by rw [eU2]; exact Xi_ne (by omega))
        have w40 : 0 ≤ Xi T1 904 65 ∧ Xi T1 904 65 ≤ 1 := hHT1.c _ _
        have w41 : Xi U2 904 69 = Xi T1 904 69 := (show Xi U2 904 69 = Xi T1 904 69 from by rw [eU2]; exact Xi_ne (by omega))
        have w42 : 0 ≤ Xi T1 904 69 ∧ Xi T1 904 69 ≤ 2600 := hHT1.c _ _
        have w43 : 0 ≤ Xi U2 904 8 ∧ Xi U2 904 8 ≤ 5010 := hHU2.c _ _
        have w44 : Xi U2 904 93 = Xi T1 904 93 := (show Xi U2 904 93 = Xi T1 904 93 from by rw [eU2]; exact Xi_ne (by omega))
        have w45 : 0 ≤ Xi T1 904 93 ∧ Xi T1 904 93 ≤ 1700 := hHT1.c _ _
        have w46 : Xi U2 904 94 = Xi T1 904 94 := (show Xi U2 904 94 = Xi T1 904 94 from by rw [eU2]; exact Xi_ne (by omega))
        have w47 : 0 ≤ Xi T1 904 94 ∧ Xi T1 904 94 ≤ 1700 := hHT1.c _ _
        have w48 : Xi U2 904 98 = Xi T1 904 98 := (show Xi U2 904 98 = Xi T1 904 98 from by rw [eU2]; exact Xi_ne (by omega))
        have w49 : 0 ≤ Xi T1 904 98 ∧ Xi T1 904 98 ≤ 1700 := hHT1.c _ _
        refine l_callV rfl rfl rfl (t_mo_phrase__3 hHU2 n c (by first | assumption | exact (TK_FR hFU2 rfl (by assumption : TK S _))) (by first | assumption | exact (by assumption : AT U2 _ _)) (by first | assumption | exact (RNV_FR (FR_e eU2) rfl (by assumption : RNV T1 _))) (by first | assumption | omega) (by first | assumption | omega) (by first | assumption | omega) (by first | assumption | exact (PF_FR (FR_e eU2) rfl (by assumption : PF T1))) (by first | assumption | exact (BDA_FR (FR_e eU2) rfl (by assumption : BDA T1))) _) ?_
        rintro _ T3 ⟨hHT3, w61, rfl, w50, w51, w52, w53, w54, k24, p24, w55, w56, w57, v24, w58, w59⟩
        have hFT3 : FR md_mo_phrases__3 S T3 := FR.tr hFU2 w61 rfl
        show Rl _ _ _ _ _ [] _ _
        have f24 : ∀ j, Xi T3 907 j = Xi T1 907 j := fun j => ((by assumption : FR md_mo_phrase U2 T3).cx 907 rfl j).1.trans (x20 j)
        have y24 : Xi T3 904 94 = Xi U2 904 94 := (by assumption : FR md_mo_phrase U2 T3).x 904 94 rfl
        have K24 : KT T3 T1 (Xi T1 904 93) := KT.tr K20 k24 (by omega)
        have V24 : Xi T3 904 65 = 0 → TVA T3 n (Xi T3 904 94) := fun q => by rw [y24, s20_94]; exact (E4 (by omega)).mv (fun i hi k a b => K24 i (by omega) k a b) (by omega) (f24)
        have Q24 : KP T3 T1 (Xi T1 904 98) := fun i hi => by have a := p24 i (by omega); have b := Q20 i hi; exact ⟨a.1.trans b.1, a.2.1.trans b.2.1, a.2.2.trans b.2.2⟩
        have P24 : Xi T3 904 65 = 0 → PVA T3 n (Xi T3 904 98) := fun q => ((G4 (by omega)).mv hHT1 K24 Q24 (by omega) (by omega) f24).add (by omega) (by omega) (by rw [show (Xi T1 904 98).toNat = (Xi U2 904 98).toNat by omega]; exact v24 q)
        refine l_goto rfl rfl ?_
        have w62 : 0 ≤ Xi T3 904 65 ∧ Xi T3 904 65 ≤ 1 := hHT3.c _ _
        have w63 : 0 ≤ Xi T3 904 69 ∧ Xi T3 904 69 ≤ 2600 := hHT3.c _ _
        have w64 : 0 ≤ Xi T3 904 8 ∧ Xi T3 904 8 ≤ 5010 := hHT3.c _ _
        have w65 : 0 ≤ Xi T3 904 93 ∧ Xi T3 904 93 ≤ 1700 := hHT3.c _ _
        have w66 : Xi T3 904 94 = Xi T1 904 94 := (show Xi T3 904 94 = Xi U2 904 94 from w61.x _ _ rfl).trans ((show Xi U2 904 94 = Xi T1 904 94 from by rw [eU2]; exact Xi_ne (by omega)))
        have w67 : 0 ≤ Xi T1 904 94 ∧ Xi T1 904 94 ≤ 1700 := hHT1.c _ _
        have w68 : 0 ≤ Xi T3 904 98 ∧ Xi T3 904 98 ≤ 1700 := hHT3.c _ _
        exact Rl_weak (ih4 _ (by omega) T3 hHT3 hFT3  (by assumption) (by assumption) (by omega) (by omega) (by omega) (by omega) (by omega) (by omega) (by omega) (by first | exact V24 | exact V1) (by first | exact P24 | exact P1) (by first | assumption | exact (by assumption : PF T3)) (by first | assumption | exact (by assumption : BDA T3)) rfl) (And.intro rfl (True.intro))
  refine l_aload_n rfl rfl ?_
  have w69 : 0 ≤ Xi S 904 65 ∧ Xi S 904 65 ≤ 1 := hH.c _ _
  have w70 : 0 ≤ Xi S 904 69 ∧ Xi S 904 69 ≤ 2600 := hH.c _ _
  have w71 : 0 ≤ Xi S 904 8 ∧ Xi S 904 8 ≤ 5010 := hH.c _ _
  have w72 : 0 ≤ Xi S 904 93 ∧ Xi S 904 93 ≤ 1700 := hH.c _ _
  have w73 : 0 ≤ Xi S 904 94 ∧ Xi S 904 94 ≤ 1700 := hH.c _ _
  have w74 : 0 ≤ Xi S 904 98 ∧ Xi S 904 98 ≤ 1700 := hH.c _ _
  refine l_callV rfl rfl rfl (t_mo_phrase__3 hH n c (by first | assumption | exact (TK_FR hF rfl (by assumption : TK S _))) (by first | assumption | exact (by assumption : AT S _ _)) (by first | assumption | exact (by assumption : RNV S _)) (by first | assumption | omega) (by first | assumption | omega) (by first | assumption | omega) (by first | assumption | exact (by assumption : PF S)) (by first | assumption | exact (by assumption : BDA S)) _) ?_
  rintro _ T4 ⟨hHT4, w86, rfl, w75, w76, w77, w78, w79, k1, p1, w80, w81, w82, v1_, w83, w84⟩
  have hFT4 : FR md_mo_phrases__3 S T4 := FR.tr hF w86 rfl
  show Rl _ _ _ _ _ [] _ _
  have y1 : Xi T4 904 94 = Xi S 904 94 := hFT4.x 904 94 rfl
  have V1 : Xi T4 904 65 = 0 → TVA T4 n (Xi T4 904 94) := fun q => by rw [y1]; exact (tv (by omega)).mv (fun i hi k a b => k1 i (by omega) k a b) (by omega) (fun j => (hFT4.cx 907 rfl j).1)
  have P1 : Xi T4 904 65 = 0 → PVA T4 n (Xi T4 904 98) := fun q i hi => by rw [show i = (Xi S 904 98).toNat by omega]; exact v1_ q
  have w87 : 0 ≤ Xi T4 904 65 ∧ Xi T4 904 65 ≤ 1 := hHT4.c _ _
  have w88 : 0 ≤ Xi T4 904 69 ∧ Xi T4 904 69 ≤ 2600 := hHT4.c _ _
  have w89 : 0 ≤ Xi T4 904 8 ∧ Xi T4 904 8 ≤ 5010 := hHT4.c _ _
  have w90 : 0 ≤ Xi T4 904 93 ∧ Xi T4 904 93 ≤ 1700 := hHT4.c _ _
  have w91 : Xi T4 904 94 = Xi S 904 94 := (show Xi T4 904 94 = Xi S 904 94 from w86.x _ _ rfl)
  have w92 : 0 ≤ Xi S 904 94 ∧ Xi S 904 94 ≤ 1700 := hH.c _ _
  have w93 : 0 ≤ Xi T4 904 98 ∧ Xi T4 904 98 ≤ 1700 := hHT4.c _ _
  exact Rl_weak (C4 _ T4 hHT4 hFT4  (by assumption) (by assumption) (by omega) (by omega) (by omega) (by omega) (by omega) (by omega) (by omega) (by first | exact V24 | exact V1) (by first | exact P24 | exact P1) (by first | assumption | exact (by assumption : PF T4)) (by first | assumption | exact (by assumption : BDA T4)) rfl) (And.intro rfl (True.intro))
def md_mo_rule__3 : List rec := [(904, 905, 8, 9), (904, 905, 65, 66), (904, 905, 66, 67), (904, 905, 69, 70), (904, 905, 70, 71), (904, 905, 78, 79), (904, 905, 93, 94), (904, 905, 94, 95), (904, 905, 98, 99), (904, 905, 99, 100), (904, 905, 100, 101), (904, 905, 101, 102), (904, 905, 102, 103), (904, 905, 103, 104), (950, 951, 0, 100000), (951, 952, 0, 100000), (952, 953, 0, 100000), (953, 954, 0, 100000), (954, 955, 0, 100000), (955, 956, 0, 100000), (956, 957, 0, 100000), (957, 958, 0, 100000), (958, 959, 0, 100000), (959, 960, 0, 100000), (960, 961, 0, 100000), (961, 962, 0, 100000), (962, 963, 0, 100000), (963, 964, 0, 100000), (964, 965, 0, 100000), (965, 966, 0, 100000)]
abbrev Q_mo_rule__3 (S : sS) (n : Nat) (c : Nat) (s : Int) : pst := fun r S1 => HI S1 ∧ FR md_mo_rule__3 S S1 ∧ (r = none ∧ (AT S1 n c) ∧ (Xi S 904 8 < Xi S1 904 8 ∧ Xi S1 904 8 ≤ n) ∧ (RNV S1 n) ∧ (Xi S 904 69 ≤ Xi S1 904 69) ∧ (Xi S1 904 70 = s) ∧ (Xi S1 904 65 = 0 → s ≠ 6 → Xi S1 904 102 < Xi S1 904 69 ∧ Xi S1 904 103 < Xi S1 904 69) ∧ (Xi S1 904 65 = 0 → TVA S1 n (Xi S1 904 94)) ∧ (Xi S1 904 65 = 0 → PVA S1 n (Xi S1 904 98)) ∧ (Xi S1 904 65 = 0 → Xi S1 904 94 + Xi S1 904 98 ≤ Xi S1 904 93 ∧ Xi S1 904 93 ≤ 1666) ∧ (PF S1) ∧ (BDA S1))
set_option maxRecDepth 100000 in
set_option maxHeartbeats 4000000 in
theorem t_mo_rule__3 {S : sS} (hH : HI S) (n : Nat) (c : Nat) (s : Int) (hs : 3 ≤ s ∧ s ≤ 6) (hT : TK S n) (hA : AT S n c) (hv : RNV S n) (hb : Xi S 904 65 = 0) (hk : Xi S 907 (Xi S 904 8).toNat ≠ 1) (z1 : Xi S 904 93 = 0) (z2 : Xi S 904 94 = 0) (z3 : Xi S 904 98 = 0) (hPF : PF S) (hBDA : BDA S) (d : Nat) : Mt lay0 (d + 9) m_mo_rule [.ref 904, iv s] S (Q_mo_rule__3 S n c s) := by
  refine Mt_R rfl rfl ?_
  have hF : FR md_mo_rule__3 S S := FR.rf
  have w1 : 0 ≤ Xi S 904 102 ∧ Xi S 904 102 ≤ 2600 := hH.c _ _
  have w2 : -1 ≤ Xi S 904 103 ∧ Xi S 904 103 ≤ 2600 := hH.c _ _
  have w3 : 0 ≤ Xi S 904 65 ∧ Xi S 904 65 ≤ 1 := hH.c _ _
  have w4 : 0 ≤ Xi S 904 69 ∧ Xi S 904 69 ≤ 2600 := hH.c _ _
  have w5 : 0 ≤ Xi S 904 70 ∧ Xi S 904 70 ≤ 20 := hH.c _ _
  have w6 : 0 ≤ Xi S 904 8 ∧ Xi S 904 8 ≤ 5010 := hH.c _ _
  have w7 : 0 ≤ Xi S 904 93 ∧ Xi S 904 93 ≤ 1700 := hH.c _ _
  have w8 : 0 ≤ Xi S 904 94 ∧ Xi S 904 94 ≤ 1700 := hH.c _ _
  have w9 : 0 ≤ Xi S 904 98 ∧ Xi S 904 98 ≤ 1700 := hH.c _ _
  have hn5 := hT.1
  have hat := hA
  have h8 : 0 ≤ Xi S 904 8 ∧ Xi S 904 8 ≤ 5010 := hH.c _ _
  have h69 : 0 ≤ Xi S 904 69 ∧ Xi S 904 69 ≤ 2600 := hH.c _ _
  have ha0 : Xi S 904 65 = 0 → Xi S 904 8 ≤ n := fun q => (hA q).1
  have ha3 : Xi S 904 65 = 0 → 2 * Xi S 904 69 ≤ Xi S 904 8 + 1 := fun q => (hA q).2.1
  clear hat
  have hx := ha0 hb
  have C83 : ∀  (T1 : sS) (_ : HI T1) (_ : FR md_mo_rule__3 S T1), (AT T1 n c) → (RNV T1 n) → (Xi S 904 8 < Xi T1 904 8) → (Xi T1 904 8 ≤ n) → (Xi S 904 69 ≤ Xi T1 904 69) → (Xi T1 904 93 = 0 ∧ Xi T1 904 94 = 0 ∧ Xi T1 904 98 = 0) → (Xi T1 904 70 = s) → (Xi T1 904 65 = 0 → s ≠ 6 → Xi T1 904 102 < Xi T1 904 69 ∧ Xi T1 904 103 < Xi T1 904 69) → (PF T1) → (BDA T1) → Rl lay0 (d + 8) m_mo_rule 83 [(0, .ref 904)] [] T1 (Q_mo_rule__3 S n c s) := by
    intro T1 hHT1 hFT1 A83 V83 w10 w11 w12 w13 w14 w15 PF_83 BDA_83
    have w16 : 0 ≤ Xi T1 904 102 ∧ Xi T1 904 102 ≤ 2600 := hHT1.c _ _
    have w17 : -1 ≤ Xi T1 904 103 ∧ Xi T1 904 103 ≤ 2600 := hHT1.c _ _
    have w18 : 0 ≤ Xi T1 904 65 ∧ Xi T1 904 65 ≤ 1 := hHT1.c _ _
    have w19 : 0 ≤ Xi T1 904 69 ∧ Xi T1 904 69 ≤ 2600 := hHT1.c _ _
    have w20 : 0 ≤ Xi T1 904 70 ∧ Xi T1 904 70 ≤ 20 := hHT1.c _ _
    have w21 : 0 ≤ Xi T1 904 8 ∧ Xi T1 904 8 ≤ 5010 := hHT1.c _ _
    have w22 : 0 ≤ Xi T1 904 93 ∧ Xi T1 904 93 ≤ 1700 := hHT1.c _ _
    have w23 : 0 ≤ Xi T1 904 94 ∧ Xi T1 904 94 ≤ 1700 := hHT1.c _ _
    have w24 : 0 ≤ Xi T1 904 98 ∧ Xi T1 904 98 ≤ 1700 := hHT1.c _ _
    have C107 : ∀  (T2 : sS) (_ : HI T2) (_ : FR md_mo_rule__3 S T2), (AT T2 n c) → (RNV T2 n) → (Xi S 904 8 < Xi T2 904 8) → (Xi T2 904 8 ≤ n) → (Xi S 904 69 ≤ Xi T2 904 69) → (Xi T2 904 93 ≤ 1668 ∧ Xi T2 904 94 = Xi T2 904 93 ∧ Xi T2 904 98 = 0) → (Xi T2 904 70 = s) → (Xi T2 904 65 = 0 → s ≠ 6 → Xi T2 904 102 < Xi T2 904 69 ∧ Xi T2 904 103 < Xi T2 904 69) → (Xi T2 904 65 = 0 → TVA T2 n (Xi T2 904 94)) → (PF T2) → (BDA T2) → Rl lay0 (d + 8) m_mo_rule 107 [(0, .ref 904)] [] T2 (Q_mo_rule__3 S n c s) := by
      intro T2 hHT2 hFT2 A107 V107 w25 w26 w27 w28 w29 w30 E107 PF_107 BDA_107
      have w31 : 0 ≤ Xi T2 904 102 ∧ Xi T2 904 102 ≤ 2600 := hHT2.c _ _
      have w32 : -1 ≤ Xi T2 904 103 ∧ Xi T2 904 103 ≤ 2600 := hHT2.c _ _
      have w33 : 0 ≤ Xi T2 904 65 ∧ Xi T2 904 65 ≤ 1 := hHT2.c _ _
      have w34 : 0 ≤ Xi T2 904 69 ∧ Xi T2 904 69 ≤ 2600 := hHT2.c _ _
      have w35 : 0 ≤ Xi T2 904 70 ∧ Xi T2 904 70 ≤ 20 := hHT2.c _ _
      have w36 : 0 ≤ Xi T2 904 8 ∧ Xi T2 904 8 ≤ 5010 := hHT2.c _ _
      have w37 : 0 ≤ Xi T2 904 93 ∧ Xi T2 904 93 ≤ 1700 := hHT2.c _ _
      have w38 : 0 ≤ Xi T2 904 94 ∧ Xi T2 904 94 ≤ 1700 := hHT2.c _ _
      have w39 : 0 ≤ Xi T2 904 98 ∧ Xi T2 904 98 ≤ 1700 := hHT2.c _ _
      refine l_aload_n rfl rfl ?_
      refine l_bipush rfl rfl ?_
      have w40 : 0 ≤ Xi T2 904 102 ∧ Xi T2 904 102 ≤ 2600 := hHT2.c _ _
      have w41 : -1 ≤ Xi T2 904 103 ∧ Xi T2 904 103 ≤ 2600 := hHT2.c _ _
      have w42 : 0 ≤ Xi T2 904 65 ∧ Xi T2 904 65 ≤ 1 := hHT2.c _ _
      have w43 : 0 ≤ Xi T2 904 69 ∧ Xi T2 904 69 ≤ 2600 := hHT2.c _ _
      have w44 : 0 ≤ Xi T2 904 70 ∧ Xi T2 904 70 ≤ 20 := hHT2.c _ _
      have w45 : 0 ≤ Xi T2 904 8 ∧ Xi T2 904 8 ≤ 5010 := hHT2.c _ _
      have w46 : 0 ≤ Xi T2 904 93 ∧ Xi T2 904 93 ≤ 1700 := hHT2.c _ _
      have w47 : 0 ≤ Xi T2 904 94 ∧ Xi T2 904 94 ≤ 1700 := hHT2.c _ _
      have w48 : 0 ≤ Xi T2 904 98 ∧ Xi T2 904 98 ≤ 1700 := hHT2.c _ _
      refine l_callV rfl rfl rfl (t_mo_take__3 hHT2 n c 58 ⟨by omega, by omega⟩ (by first | assumption | exact (TK_FR hFT2 rfl (by assumption : TK S _))) (by first | assumption | exact (by assumption : AT T2 _ _)) (by first | assumption | omega) (by first | assumption | exact (by assumption : BDA T2)) _) ?_
      rintro _ T3 ⟨hHT3, w55, rfl, w49, w50, w51, w52, w53⟩
      have hFT3 : FR md_mo_rule__3 S T3 := FR.tr hFT2 w55 rfl
      show Rl _ _ _ _ _ [] _ _
      have T110 : Xi T3 904 65 = 0 → TVA T3 n (Xi T3 904 94) := fun q => by rw [(by assumption : FR md_mo_take T2 T3).x 904 94 rfl]; exact (E107 (by omega)).mv (KT_FR (by assumption : FR md_mo_take T2 T3) rfl KT.rf) (by rw [(by assumption : FR md_mo_take T2 T3).x 904 69 rfl]; exact Int.le_refl _) (fun j => ((by assumption : FR md_mo_take T2 T3).cx 907 rfl j).1)
      refine l_aload_n rfl rfl ?_
      have w56 : Xi T3 904 102 = Xi T2 904 102 := (show Xi T3 904 102 = Xi T2 904 102 from w55.x _ _ rfl)
      have w57 : 0 ≤ Xi T2 904 102 ∧ Xi T2 904 102 ≤ 2600 := hHT2.c _ _
      have w58 : Xi T3 904 103 = Xi T2 904 103 := (show Xi T3 904 103 = Xi T2 904 103 from w55.x _ _ rfl)
      have w59 : -1 ≤ Xi T2 904 103 ∧ Xi T2 904 103 ≤ 2600 := hHT2.c _ _
      have w60 : 0 ≤ Xi T3 904 65 ∧ Xi T3 904 65 ≤ 1 := hHT3.c _ _
      have w61 : Xi T3 904 69 = Xi T2 904 69 := (show Xi T3 904 69 = Xi T2 904 69 from w55.x _ _ rfl)
      have w62 : 0 ≤ Xi T2 904 69 ∧ Xi T2 904 69 ≤ 2600 := hHT2.c _ _
      have w63 : Xi T3 904 70 = Xi T2 904 70 := (show Xi T3 904 70 = Xi T2 904 70 from w55.x _ _ rfl)
      have w64 : 0 ≤ Xi T2 904 70 ∧ Xi T2 904 70 ≤ 20 := hHT2.c _ _
      have w65 : 0 ≤ Xi T3 904 8 ∧ Xi T3 904 8 ≤ 5010 := hHT3.c _ _
      have w66 : Xi T3 904 93 = Xi T2 904 93 := (show Xi T3 904 93 = Xi T2 904 93 from w55.x _ _ rfl)
      have w67 : 0 ≤ Xi T2 904 93 ∧ Xi T2 904 93 ≤ 1700 := hHT2.c _ _
      have w68 : Xi T3 904 94 = Xi T2 904 94 := (show Xi T3 904 94 = Xi T2 904 94 from w55.x _ _ rfl)
      have w69 : 0 ≤ Xi T2 904 94 ∧ Xi T2 904 94 ≤ 1700 := hHT2.c _ _
      have w70 : Xi T3 904 98 = Xi T2 904 98 := (show Xi T3 904 98 = Xi T2 904 98 from w55.x _ _ rfl)
      have w71 : 0 ≤ Xi T2 904 98 ∧ Xi T2 904 98 ≤ 1700 := hHT2.c _ _
      refine l_callV rfl rfl rfl (t_mo_phrases__3 hHT3 n c (by first | assumption | exact (TK_FR hFT3 rfl (by assumption : TK S _))) (by first | assumption | exact (by assumption : AT T3 _ _)) (by first | assumption | exact (RNV_FR w55 rfl (by assumption : RNV T2 _))) (by first | assumption | omega) (by first | assumption | omega) (by first | assumption | omega) (by first | assumption | omega) (by first | assumption | omega) (by first | assumption | exact (PF_FR w55 rfl (by assumption : PF T2))) (by first | assumption | exact (by assumption : BDA T3)) _) ?_
      rintro _ T4 ⟨hHT4, w83, rfl, w72, w73, w74, w75, w76, w77, w78, w79, w80, w81⟩
      have hFT4 : FR md_mo_rule__3 S T4 := FR.tr hFT3 w83 rfl
      show Rl _ _ _ _ _ [] _ _
      refine l_return rfl rfl ?_
      have w84 : Xi T4 904 102 = Xi T2 904 102 := (show Xi T4 904 102 = Xi T3 904 102 from w83.x _ _ rfl).trans ((show Xi T3 904 102 = Xi T2 904 102 from w55.x _ _ rfl))
      have w85 : 0 ≤ Xi T2 904 102 ∧ Xi T2 904 102 ≤ 2600 := hHT2.c _ _
      have w86 : Xi T4 904 103 = Xi T2 904 103 := (show Xi T4 904 103 = Xi T3 904 103 from w83.x _ _ rfl).trans ((show Xi T3 904 103 = Xi T2 904 103 from w55.x _ _ rfl))
      have w87 : -1 ≤ Xi T2 904 103 ∧ Xi T2 904 103 ≤ 2600 := hHT2.c _ _
      have w88 : 0 ≤ Xi T4 904 65 ∧ Xi T4 904 65 ≤ 1 := hHT4.c _ _
      have w89 : 0 ≤ Xi T4 904 69 ∧ Xi T4 904 69 ≤ 2600 := hHT4.c _ _
      have w90 : Xi T4 904 70 = Xi T2 904 70 := (show Xi T4 904 70 = Xi T3 904 70 from w83.x _ _ rfl).trans ((show Xi T3 904 70 = Xi T2 904 70 from w55.x _ _ rfl))
      have w91 : 0 ≤ Xi T2 904 70 ∧ Xi T2 904 70 ≤ 20 := hHT2.c _ _
      have w92 : 0 ≤ Xi T4 904 8 ∧ Xi T4 904 8 ≤ 5010 := hHT4.c _ _
      have w93 : 0 ≤ Xi T4 904 93 ∧ Xi T4 904 93 ≤ 1700 := hHT4.c _ _
      have w94 : Xi T4 904 94 = Xi T2 904 94 := (show Xi T4 904 94 = Xi T3 904 94 from w83.x _ _ rfl).trans ((show Xi T3 904 94 = Xi T2 904 94 from w55.x _ _ rfl))
      have w95 : 0 ≤ Xi T2 904 94 ∧ Xi T2 904 94 ≤ 1700 := hHT2.c _ _
      have w96 : 0 ≤ Xi T4 904 98 ∧ Xi T4 904 98 ≤ 1700 := hHT4.c _ _
      exact ⟨hHT4, hFT4, rfl, (by first | assumption | exact (by assumption : AT T4 _ _)), (by omega), (by first | assumption | exact (by assumption : RNV T4 _)), (by omega), (by omega), (by omega), (by first | assumption | omega), (by first | assumption | omega), (by first | assumption | omega), (by first | assumption | exact (by assumption : PF T4)), (by first | assumption | exact (by assumption : BDA T4))⟩
    refine l_aload_n rfl rfl ?_
    refine l_sipush rfl rfl ?_
    have w97 : 0 ≤ Xi T1 904 102 ∧ Xi T1 904 102 ≤ 2600 := hHT1.c _ _
    have w98 : -1 ≤ Xi T1 904 103 ∧ Xi T1 904 103 ≤ 2600 := hHT1.c _ _
    have w99 : 0 ≤ Xi T1 904 65 ∧ Xi T1 904 65 ≤ 1 := hHT1.c _ _
    have w100 : 0 ≤ Xi T1 904 69 ∧ Xi T1 904 69 ≤ 2600 := hHT1.c _ _
    have w101 : 0 ≤ Xi T1 904 70 ∧ Xi T1 904 70 ≤ 20 := hHT1.c _ _
    have w102 : 0 ≤ Xi T1 904 8 ∧ Xi T1 904 8 ≤ 5010 := hHT1.c _ _
    have w103 : 0 ≤ Xi T1 904 93 ∧ Xi T1 904 93 ≤ 1700 := hHT1.c _ _
    have w104 : 0 ≤ Xi T1 904 94 ∧ Xi T1 904 94 ≤ 1700 := hHT1.c _ _
    have w105 : 0 ≤ Xi T1 904 98 ∧ Xi T1 904 98 ≤ 1700 := hHT1.c _ _
    refine l_callV rfl rfl rfl (t_mo_isNext hHT1 n c 137 ⟨by omega, by omega⟩ (by first | assumption | exact (TK_FR hFT1 rfl (by assumption : TK S _))) (by first | assumption | exact (by assumption : AT T1 _ _)) _) ?_
    rintro _ _ ⟨rfl, z108, rfl, w108, w106, w107⟩
    show Rl _ _ _ _ _ [iv z108] _ _
    have j87 : z108 = 1 → Xi T1 904 65 = 0 ∧ Xi T1 907 (Xi T1 904 8).toNat = 137 := by assumption
    refine l_if_eq rfl rfl (by unfold rg; omega) (fun w109 => ?_) (fun w110 => ?_)
    · have w111 : 0 ≤ Xi T1 904 102 ∧ Xi T1 904 102 ≤ 2600 := hHT1.c _ _
      have w112 : -1 ≤ Xi T1 904 103 ∧ Xi T1 904 103 ≤ 2600 := hHT1.c _ _
      have w113 : 0 ≤ Xi T1 904 65 ∧ Xi T1 904 65 ≤ 1 := hHT1.c _ _
      have w114 : 0 ≤ Xi T1 904 69 ∧ Xi T1 904 69 ≤ 2600 := hHT1.c _ _
      have w115 : 0 ≤ Xi T1 904 70 ∧ Xi T1 904 70 ≤ 20 := hHT1.c _ _
      have w116 : 0 ≤ Xi T1 904 8 ∧ Xi T1 904 8 ≤ 5010 := hHT1.c _ _
      have w117 : 0 ≤ Xi T1 904 93 ∧ Xi T1 904 93 ≤ 1700 := hHT1.c _ _
      have w118 : 0 ≤ Xi T1 904 94 ∧ Xi T1 904 94 ≤ 1700 := hHT1.c _ _
      have w119 : 0 ≤ Xi T1 904 98 ∧ Xi T1 904 98 ≤ 1700 := hHT1.c _ _
      exact Rl_weak (C107 T1 hHT1 hFT1  (by assumption) (by assumption) (by omega) (by omega) (by omega) (by omega) (by omega) (by omega) (by first | exact T104 | exact fun q i hi => absurd hi (by omega)) (by first | assumption | exact (by assumption : PF T1)) (by first | assumption | exact (by assumption : BDA T1))) (And.intro rfl (True.intro))
    · refine l_aload_n rfl rfl ?_
      refine l_dup rfl rfl ?_
      refine l_gfi rfl rfl rfl rfl rfl ?_
      refine l_iconst rfl ?_
      refine l_iadd rfl ?_
      refine l_pfi rfl rfl rfl rfl ?_
      obtain ⟨U5, eU5⟩ : ∃ T : sS, T = uI T1 904 8 (Int32.ofInt ((Xi T1 904 8) + 1)) := ⟨_, rfl⟩
      rw [← eU5]
      have hHU5 : HI U5 := by rw [eU5]; exact HI_w hHT1 (show 0 ≤ ((Xi T1 904 8) + 1) by omega) (show ((Xi T1 904 8) + 1) ≤ 5010 by omega)
      have hFU5 : FR md_mo_rule__3 S U5 := by rw [eU5]; exact FR.wI hFT1 (mdf_i (r := (904, 905, 8, 9)) (List.mem_of_getElem? (i := 0) rfl) (inR_i (by omega) (by omega) (by omega) (by omega)))
      have w120 : Xi U5 904 8 = ((Xi T1 904 8) + 1) := by rw [eU5]; exact Xi_same (by unfold rg; omega)
      have t100 : AT U5 n (c + 1) ∧ _ := at_mv (S := T1) (P := T1) (c2 := c + 1) (TK_FR hFT1 rfl hT) A83 (fun _ => rfl) (fun _ => rfl) rfl rfl rfl rfl eU5 (by omega) (by omega) (by omega) (by omega) (Or.inr ⟨rfl, by unfold K3; omega⟩)
      have a100 : AT U5 n (c + 1) := t100.1
      have l100 := t100.2
      refine l_aload_n rfl rfl ?_
      have w121 : Xi U5 904 102 = Xi T1 904 102 := (show Xi U5 904 102 = Xi T1 904 102 from by rw [eU5]; exact Xi_ne (by omega))
      have w122 : 0 ≤ Xi T1 904 102 ∧ Xi T1 904 102 ≤ 2600 := hHT1.c _ _
      have w123 : Xi U5 904 103 = Xi T1 904 103 := (show Xi U5 904 103 = Xi T1 904 103 from by rw [eU5]; exact Xi_ne (by omega))
      have w124 : -1 ≤ Xi T1 904 103 ∧ Xi T1 904 103 ≤ 2600 := hHT1.c _ _
      have w125 : Xi U5 904 65 = Xi T1 904 65 := (show Xi U5 904 65 = Xi T1 904 65 from by rw [eU5]; exact Xi_ne (by omega))
      have w126 : 0 ≤ Xi T1 904 65 ∧ Xi T1 904 65 ≤ 1 := hHT1.c _ _
      have w127 : Xi U5 904 69 = Xi T1 904 69 := (show Xi U5 904 69 = Xi T1 904 69 from by rw [eU5]; exact Xi_ne (by omega))
      have w128 : 0 ≤ Xi T1 904 69 ∧ Xi T1 904 69 ≤ 2600 := hHT1.c _ _
      have w129 : Xi U5 904 70 = Xi T1 904 70 := (show Xi U5 904 70 = Xi T1 904 70 from by rw [eU5]; exact Xi_ne (by omega))
      have w130 : 0 ≤ Xi T1 904 70 ∧ Xi T1 904 70 ≤ 20 := hHT1.c _ _
      have w131 : 0 ≤ Xi U5 904 8 ∧ Xi U5 904 8 ≤ 5010 := hHU5.c _ _
      have w132 : Xi U5 904 93 = Xi T1 904 93 := (show Xi U5 904 93 = Xi T1 904 93 from by rw [eU5]; exact Xi_ne (by omega))
      have w133 : 0 ≤ Xi T1 904 93 ∧ Xi T1 904 93 ≤ 1700 := hHT1.c _ _
      have w134 : Xi U5 904 94 = Xi T1 904 94 := (show Xi U5 904 94 = Xi T1 904 94 from by rw [eU5]; exact Xi_ne (by omega))
      have w135 : 0 ≤ Xi T1 904 94 ∧ Xi T1 904 94 ≤ 1700 := hHT1.c _ _
      have w136 : Xi U5 904 98 = Xi T1 904 98 := (show Xi U5 904 98 = Xi T1 904 98 from by rw [eU5]; exact Xi_ne (by omega))
      have w137 : 0 ≤ Xi T1 904 98 ∧ Xi T1 904 98 ≤ 1700 := hHT1.c _ _
      refine l_callV rfl rfl rfl (t_mo_tests__2 hHU5 n (c + 1) (by first | assumption | exact (TK_FR hFU5 rfl (by assumption : TK S _))) (by first | assumption | exact (by assumption : AT U5 _ _)) (by first | assumption | exact (RNV_FR (FR_e eU5) rfl (by assumption : RNV T1 _))) (by first | assumption | omega) (by first | assumption | omega) (by first | assumption | omega) (by first | assumption | exact (BDA_FR (FR_e eU5) rfl (by assumption : BDA T1))) _) ?_
      rintro _ T6 ⟨hHT6, w148, rfl, w138, w139, w140, w141, w142, w143, w144, w145, w146⟩
      have hFT6 : FR md_mo_rule__3 S T6 := FR.tr hFU5 w148 rfl
      show Rl _ _ _ _ _ [] _ _
      have a104 : AT T6 n c := (by assumption : AT T6 n (c + 1 - 1))
      have T104 : Xi T6 904 65 = 0 → TVA T6 n (Xi T6 904 94) := fun q => by rw [(by omega : Xi T6 904 94 = Xi T6 904 93)]; exact (by assumption : Xi T6 904 65 = 0 → TVA T6 n (Xi T6 904 93)) q
      have w149 : Xi T6 904 102 = Xi T1 904 102 := (show Xi T6 904 102 = Xi U5 904 102 from w148.x _ _ rfl).trans ((show Xi U5 904 102 = Xi T1 904 102 from by rw [eU5]; exact Xi_ne (by omega)))
      have w150 : 0 ≤ Xi T1 904 102 ∧ Xi T1 904 102 ≤ 2600 := hHT1.c _ _
      have w151 : Xi T6 904 103 = Xi T1 904 103 := (show Xi T6 904 103 = Xi U5 904 103 from w148.x _ _ rfl).trans ((show Xi U5 904 103 = Xi T1 904 103 from by rw [eU5]; exact Xi_ne (by omega)))
      have w152 : -1 ≤ Xi T1 904 103 ∧ Xi T1 904 103 ≤ 2600 := hHT1.c _ _
      have w153 : 0 ≤ Xi T6 904 65 ∧ Xi T6 904 65 ≤ 1 := hHT6.c _ _
      have w154 : 0 ≤ Xi T6 904 69 ∧ Xi T6 904 69 ≤ 2600 := hHT6.c _ _
      have w155 : Xi T6 904 70 = Xi T1 904 70 := (show Xi T6 904 70 = Xi U5 904 70 from w148.x _ _ rfl).trans ((show Xi U5 904 70 = Xi T1 904 70 from by rw [eU5]; exact Xi_ne (by omega)))
      have w156 : 0 ≤ Xi T1 904 70 ∧ Xi T1 904 70 ≤ 20 := hHT1.c _ _
      have w157 : 0 ≤ Xi T6 904 8 ∧ Xi T6 904 8 ≤ 5010 := hHT6.c _ _
      have w158 : 0 ≤ Xi T6 904 93 ∧ Xi T6 904 93 ≤ 1700 := hHT6.c _ _
      have w159 : 0 ≤ Xi T6 904 94 ∧ Xi T6 904 94 ≤ 1700 := hHT6.c _ _
      have w160 : Xi T6 904 98 = Xi T1 904 98 := (show Xi T6 904 98 = Xi U5 904 98 from w148.x _ _ rfl).trans ((show Xi U5 904 98 = Xi T1 904 98 from by rw [eU5]; exact Xi_ne (by omega)))
      have w161 : 0 ≤ Xi T1 904 98 ∧ Xi T1 904 98 ≤ 1700 := hHT1.c _ _
      exact Rl_weak (C107 T6 hHT6 hFT6  (by assumption) (by assumption) (by omega) (by omega) (by omega) (by omega) (by omega) (by omega) (by first | exact T104 | exact fun q i hi => absurd hi (by omega)) (by first | assumption | exact (PF_FR w148 rfl (PF_FR (FR_e eU5) rfl (by assumption : PF T1)))) (by first | assumption | exact (by assumption : BDA T6))) (And.intro rfl (True.intro))
  refine l_aload_n rfl rfl ?_
  refine l_iload_n rfl rfl ?_
  refine l_pfi rfl rfl rfl rfl ?_
  obtain ⟨U7, eU7⟩ : ∃ T : sS, T = uI S 904 70 (Int32.ofInt s) := ⟨_, rfl⟩
  rw [← eU7]
  have hHU7 : HI U7 := by rw [eU7]; exact HI_w hH (show 0 ≤ s by omega) (show s ≤ 20 by omega)
  have hFU7 : FR md_mo_rule__3 S U7 := by rw [eU7]; exact FR.wI hF (mdf_i (r := (904, 905, 70, 71)) (List.mem_of_getElem? (i := 4) rfl) (inR_i (by omega) (by omega) (by omega) (by omega)))
  have w162 : Xi U7 904 70 = s := by rw [eU7]; exact Xi_same (by unfold rg; omega)
  have s2_8 : Xi U7 904 8 = Xi S 904 8 := by rw [eU7, Xi_ne (by omega)]
  have s2_65 : Xi U7 904 65 = Xi S 904 65 := by rw [eU7, Xi_ne (by omega)]
  have s2_69 : Xi U7 904 69 = Xi S 904 69 := by rw [eU7, Xi_ne (by omega)]
  have s2_93 : Xi U7 904 93 = Xi S 904 93 := by rw [eU7, Xi_ne (by omega)]
  refine l_aload_n rfl rfl ?_
  refine l_dup rfl rfl ?_
  refine l_gfi rfl rfl rfl rfl rfl ?_
  have w163 : (Xi U7 904 8) = (Xi S 904 8) := (show Xi U7 904 8 = Xi S 904 8 from by rw [eU7]; exact Xi_ne (by omega))
  rw [w163]
  refine l_iconst rfl ?_
  refine l_iadd rfl ?_
  refine l_pfi rfl rfl rfl rfl ?_
  obtain ⟨U8, eU8⟩ : ∃ T : sS, T = uI U7 904 8 (Int32.ofInt ((Xi S 904 8) + 1)) := ⟨_, rfl⟩
  rw [← eU8]
  have hHU8 : HI U8 := by rw [eU8]; exact HI_w hHU7 (show 0 ≤ ((Xi S 904 8) + 1) by omega) (show ((Xi S 904 8) + 1) ≤ 5010 by omega)
  have hFU8 : FR md_mo_rule__3 S U8 := by rw [eU8]; exact FR.wI hFU7 (mdf_i (r := (904, 905, 8, 9)) (List.mem_of_getElem? (i := 0) rfl) (inR_i (by omega) (by omega) (by omega) (by omega)))
  have w164 : Xi U8 904 8 = ((Xi S 904 8) + 1) := by rw [eU8]; exact Xi_same (by unfold rg; omega)
  have t12 : AT U8 n c ∧ _ := at_mv hT hA (fun j => (hFU7.cx 907 rfl j).1) (fun j => (hFU7.cx 908 rfl j).1) (by omega) (by omega) (by omega) (by omega) eU8 (by omega) (by omega) (by omega) (by omega) (Or.inl rfl)
  have a12 : AT U8 n c := t12.1
  refine l_iload_n rfl rfl ?_
  refine l_iconst rfl ?_
  refine l_icmp_ne rfl rfl (by unfold rg; omega) (by unfold rg; omega) (fun w165 => ?_) (fun w166 => ?_)
  · refine l_iload_n rfl rfl ?_
    refine l_bipush rfl rfl ?_
    refine l_icmp_ne rfl rfl (by unfold rg; omega) (by unfold rg; omega) (fun w167 => ?_) (fun w168 => ?_)
    · refine l_aload_n rfl rfl ?_
      refine l_aload_n rfl rfl ?_
      have w169 : Xi U8 904 102 = Xi S 904 102 := (show Xi U8 904 102 = Xi U7 904 102 from by rw [eU8]; exact Xi_ne (by omega)).trans ((show Xi U7 904 102 = Xi S 904 102 from by rw [eU7]; exact Xi_ne (by omega)))
      have w170 : 0 ≤ Xi S 904 102 ∧ Xi S 904 102 ≤ 2600 := hH.c _ _
      have w171 : Xi U8 904 103 = Xi S 904 103 := (show Xi U8 904 103 = Xi U7 904 103 from by rw [eU8]; exact Xi_ne (by omega)).trans ((show Xi U7 904 103 = Xi S 904 103 from by rw [eU7]; exact Xi_ne (by omega)))
      have w172 : -1 ≤ Xi S 904 103 ∧ Xi S 904 103 ≤ 2600 := hH.c _ _
      have w173 : Xi U8 904 65 = Xi S 904 65 := (show Xi U8 904 65 = Xi U7 904 65 from by rw [eU8]; exact Xi_ne (by omega)).trans ((show Xi U7 904 65 = Xi S 904 65 from by rw [eU7]; exact Xi_ne (by omega)))
      have w174 : 0 ≤ Xi S 904 65 ∧ Xi S 904 65 ≤ 1 := hH.c _ _
      have w175 : Xi U8 904 69 = Xi S 904 69 := (show Xi U8 904 69 = Xi U7 904 69 from by rw [eU8]; exact Xi_ne (by omega)).trans ((show Xi U7 904 69 = Xi S 904 69 from by rw [eU7]; exact Xi_ne (by omega)))
      have w176 : 0 ≤ Xi S 904 69 ∧ Xi S 904 69 ≤ 2600 := hH.c _ _
      have w177 : Xi U8 904 70 = Xi U7 904 70 := (show Xi U8 904 70 = Xi U7 904 70 from by rw [eU8]; exact Xi_ne (by omega))
      have w178 : 0 ≤ Xi U7 904 70 ∧ Xi U7 904 70 ≤ 20 := hHU7.c _ _
      have w179 : 0 ≤ Xi U8 904 8 ∧ Xi U8 904 8 ≤ 5010 := hHU8.c _ _
      have w180 : Xi U8 904 93 = Xi S 904 93 := (show Xi U8 904 93 = Xi U7 904 93 from by rw [eU8]; exact Xi_ne (by omega)).trans ((show Xi U7 904 93 = Xi S 904 93 from by rw [eU7]; exact Xi_ne (by omega)))
      have w181 : 0 ≤ Xi S 904 93 ∧ Xi S 904 93 ≤ 1700 := hH.c _ _
      have w182 : Xi U8 904 94 = Xi S 904 94 := (show Xi U8 904 94 = Xi U7 904 94 from by rw [eU8]; exact Xi_ne (by omega)).trans ((show Xi U7 904 94 = Xi S 904 94 from by rw [eU7]; exact Xi_ne (by omega)))
      have w183 : 0 ≤ Xi S 904 94 ∧ Xi S 904 94 ≤ 1700 := hH.c _ _
      have w184 : Xi U8 904 98 = Xi S 904 98 := (show Xi U8 904 98 = Xi U7 904 98 from by rw [eU8]; exact Xi_ne (by omega)).trans ((show Xi U7 904 98 = Xi S 904 98 from by rw [eU7]; exact Xi_ne (by omega)))
      have w185 : 0 ≤ Xi S 904 98 ∧ Xi S 904 98 ≤ 1700 := hH.c _ _
      refine l_callV rfl rfl rfl (t_mo_run__2 hHU8 n c (by first | assumption | exact (TK_FR hFU8 rfl (by assumption : TK S _))) (by first | assumption | exact (by assumption : AT U8 _ _)) (by first | assumption | exact (RNV_FR (FR_e eU8) rfl (RNV_FR (FR_e eU7) rfl (by assumption : RNV S _)))) (by first | assumption | exact (BDA_FR (FR_e eU8) rfl (BDA_FR (FR_e eU7) rfl (by assumption : BDA S)))) _) ?_
      rintro _ T9 ⟨hHT9, w193, z192, rfl, w192, w186, w187, w188, w189, w190, w191⟩
      have hFT9 : FR md_mo_rule__3 S T9 := FR.tr hFU8 w193 rfl
      show Rl _ _ _ _ _ [iv z192, .ref 904] _ _
      refine l_pfi rfl rfl rfl rfl ?_
      obtain ⟨U10, eU10⟩ : ∃ T : sS, T = uI T9 904 102 (Int32.ofInt z192) := ⟨_, rfl⟩
      rw [← eU10]
      have hHU10 : HI U10 := by rw [eU10]; exact HI_w hHT9 (show 0 ≤ z192 by omega) (show z192 ≤ 2600 by omega)
      have hFU10 : FR md_mo_rule__3 S U10 := by rw [eU10]; exact FR.wI hFT9 (mdf_i (r := (904, 905, 102, 103)) (List.mem_of_getElem? (i := 12) rfl) (inR_i (by omega) (by omega) (by omega) (by omega)))
      have w194 : Xi U10 904 102 = z192 := by rw [eU10]; exact Xi_same (by unfold rg; omega)
      have a47 : AT U10 n c := AT_FR (FR_e eU10) rfl (by assumption)
      have v47 : RNV U10 n := RNV_FR (FR_e eU10) rfl (by assumption)
      have s47_8 : Xi U10 904 8 = Xi T9 904 8 := by rw [eU10, Xi_ne (by omega)]
      have s47_65 : Xi U10 904 65 = Xi T9 904 65 := by rw [eU10, Xi_ne (by omega)]
      have s47_69 : Xi U10 904 69 = Xi T9 904 69 := by rw [eU10, Xi_ne (by omega)]
      have s47_8 : Xi U10 904 8 = Xi T9 904 8 := by rw [eU10, Xi_ne (by omega)]
      refine l_aload_n rfl rfl ?_
      refine l_iconst rfl ?_
      refine l_pfi rfl rfl rfl rfl ?_
      obtain ⟨U11, eU11⟩ : ∃ T : sS, T = uI U10 904 103 (Int32.ofInt (-1)) := ⟨_, rfl⟩
      rw [← eU11]
      have hHU11 : HI U11 := by rw [eU11]; exact HI_w hHU10 (show -1 ≤ (-1) by omega) (show (-1) ≤ 2600 by omega)
      have hFU11 : FR md_mo_rule__3 S U11 := by rw [eU11]; exact FR.wI hFU10 (mdf_i (r := (904, 905, 103, 104)) (List.mem_of_getElem? (i := 13) rfl) (inR_i (by omega) (by omega) (by omega) (by omega)))
      have w195 : Xi U11 904 103 = (-1) := by rw [eU11]; exact Xi_same (by unfold rg; omega)
      have a52 : AT U11 n c := AT_FR (FR_e eU11) rfl a47
      refine l_aload_n rfl rfl ?_
      have w196 : Xi U11 904 102 = Xi U10 904 102 := (show Xi U11 904 102 = Xi U10 904 102 from by rw [eU11]; exact Xi_ne (by omega))
      have w197 : 0 ≤ Xi U10 904 102 ∧ Xi U10 904 102 ≤ 2600 := hHU10.c _ _
      have w198 : -1 ≤ Xi U11 904 103 ∧ Xi U11 904 103 ≤ 2600 := hHU11.c _ _
      have w199 : Xi U11 904 65 = Xi T9 904 65 := (show Xi U11 904 65 = Xi U10 904 65 from by rw [eU11]; exact Xi_ne (by omega)).trans ((show Xi U10 904 65 = Xi T9 904 65 from by rw [eU10]; exact Xi_ne (by omega)))
      have w200 : 0 ≤ Xi T9 904 65 ∧ Xi T9 904 65 ≤ 1 := hHT9.c _ _
      have w201 : Xi U11 904 69 = Xi T9 904 69 := (show Xi U11 904 69 = Xi U10 904 69 from by rw [eU11]; exact Xi_ne (by omega)).trans ((show Xi U10 904 69 = Xi T9 904 69 from by rw [eU10]; exact Xi_ne (by omega)))
      have w202 : 0 ≤ Xi T9 904 69 ∧ Xi T9 904 69 ≤ 2600 := hHT9.c _ _
      have w203 : Xi U11 904 70 = Xi U7 904 70 := (show Xi U11 904 70 = Xi U10 904 70 from by rw [eU11]; exact Xi_ne (by omega)).trans ( (show Xi U10 904 70 = Xi T9 904 70 from by rw [eU10]; exact Xi_ne (by omega)).trans ( (show Xi T9 904 70 = Xi U8 904 70 from w193.x _ _ rfl).trans ((show Xi U8 904 70 = Xi U7 904 70 from by rw [eU8]; exact Xi_ne (by omega)))))
      have w204 : 0 ≤ Xi U7 904 70 ∧ Xi U7 904 70 ≤ 20 := hHU7.c _ _
      have w205 : Xi U11 904 8 = Xi T9 904 8 := (show Xi U11 904 8 = Xi U10 904 8 from by rw [eU11]; exact Xi_ne (by omega)).trans ((show Xi U10 904 8 = Xi T9 904 8 from by rw [eU10]; exact Xi_ne (by omega)))
      have w206 : 0 ≤ Xi T9 904 8 ∧ Xi T9 904 8 ≤ 5010 := hHT9.c _ _
      have w207 : Xi U11 904 93 = Xi S 904 93 := (show Xi U11 904 93 = Xi U10 904 93 from by rw [eU11]; exact Xi_ne (by omega)).trans ( (show Xi U10 904 93 = Xi T9 904 93 from by rw [eU10]; exact Xi_ne (by omega)).trans ( (show Xi T9 904 93 = Xi U8 904 93 from w193.x _ _ rfl).trans ( (show Xi U8 904 93 = Xi U7 904 93 from by rw [eU8]; exact Xi_ne (by omega)).trans ((show Xi U7 904 93 = Xi S 904 93 from by rw [eU7]; exact Xi_ne (by omega))))))
      have w208 : 0 ≤ Xi S 904 93 ∧ Xi S 904 93 ≤ 1700 := hH.c _ _
      have w209 : Xi U11 904 94 = Xi S 904 94 := (show Xi U11 904 94 = Xi U10 904 94 from by rw [eU11]; exact Xi_ne (by omega)).trans ( (show Xi U10 904 94 = Xi T9 904 94 from by rw [eU10]; exact Xi_ne (by omega)).trans ( (show Xi T9 904 94 = Xi U8 904 94 from w193.x _ _ rfl).trans ( (show Xi U8 904 94 = Xi U7 904 94 from by rw [eU8]; exact Xi_ne (by omega)).trans ((show Xi U7 904 94 = Xi S 904 94 from by rw [eU7]; exact Xi_ne (by omega))))))
      have w210 : 0 ≤ Xi S 904 94 ∧ Xi S 904 94 ≤ 1700 := hH.c _ _
      have w211 : Xi U11 904 98 = Xi S 904 98 := (show Xi U11 904 98 = Xi U10 904 98 from by rw [eU11]; exact Xi_ne (by omega)).trans ( (show Xi U10 904 98 = Xi T9 904 98 from by rw [eU10]; exact Xi_ne (by omega)).trans ( (show Xi T9 904 98 = Xi U8 904 98 from w193.x _ _ rfl).trans ( (show Xi U8 904 98 = Xi U7 904 98 from by rw [eU8]; exact Xi_ne (by omega)).trans ((show Xi U7 904 98 = Xi S 904 98 from by rw [eU7]; exact Xi_ne (by omega))))))
      have w212 : 0 ≤ Xi S 904 98 ∧ Xi S 904 98 ≤ 1700 := hH.c _ _
      refine l_callV rfl rfl rfl (t_mo_look hHU11 n c (by first | assumption | exact (TK_FR hFU11 rfl (by assumption : TK S _))) (by first | assumption | exact (AT_FR (FR_e eU11) rfl (AT_FR (FR_e eU10) rfl (by assumption : AT T9 _ _)))) _) ?_
      rintro _ _ ⟨rfl, z214, rfl, w214, w213⟩
      show Rl _ _ _ _ _ [iv z214] _ _
      have l56 : z214 ≠ 1 → Xi U11 904 65 = 0 ∧ Xi U11 907 (Xi U11 904 8).toNat = z214 := by assumption
      have w215 : Xi U11 904 102 = Xi U10 904 102 := (show Xi U11 904 102 = Xi U10 904 102 from by rw [eU11]; exact Xi_ne (by omega))
      have w216 : 0 ≤ Xi U10 904 102 ∧ Xi U10 904 102 ≤ 2600 := hHU10.c _ _
      have w217 : -1 ≤ Xi U11 904 103 ∧ Xi U11 904 103 ≤ 2600 := hHU11.c _ _
      have w218 : Xi U11 904 65 = Xi T9 904 65 := (show Xi U11 904 65 = Xi U10 904 65 from by rw [eU11]; exact Xi_ne (by omega)).trans ((show Xi U10 904 65 = Xi T9 904 65 from by rw [eU10]; exact Xi_ne (by omega)))
      have w219 : 0 ≤ Xi T9 904 65 ∧ Xi T9 904 65 ≤ 1 := hHT9.c _ _
      have w220 : Xi U11 904 69 = Xi T9 904 69 := (show Xi U11 904 69 = Xi U10 904 69 from by rw [eU11]; exact Xi_ne (by omega)).trans ((show Xi U10 904 69 = Xi T9 904 69 from by rw [eU10]; exact Xi_ne (by omega)))
      have w221 : 0 ≤ Xi T9 904 69 ∧ Xi T9 904 69 ≤ 2600 := hHT9.c _ _
      have w222 : Xi U11 904 70 = Xi U7 904 70 := (show Xi U11 904 70 = Xi U10 904 70 from by rw [eU11]; exact Xi_ne (by omega)).trans ( (show Xi U10 904 70 = Xi T9 904 70 from by rw [eU10]; exact Xi_ne (by omega)).trans ( (show Xi T9 904 70 = Xi U8 904 70 from w193.x _ _ rfl).trans ((show Xi U8 904 70 = Xi U7 904 70 from by rw [eU8]; exact Xi_ne (by omega)))))
      have w223 : 0 ≤ Xi U7 904 70 ∧ Xi U7 904 70 ≤ 20 := hHU7.c _ _
      have w224 : Xi U11 904 8 = Xi T9 904 8 := (show Xi U11 904 8 = Xi U10 904 8 from by rw [eU11]; exact Xi_ne (by omega)).trans ((show Xi U10 904 8 = Xi T9 904 8 from by rw [eU10]; exact Xi_ne (by omega)))
      have w225 : 0 ≤ Xi T9 904 8 ∧ Xi T9 904 8 ≤ 5010 := hHT9.c _ _
      have w226 : Xi U11 904 93 = Xi S 904 93 := (show Xi U11 904 93 = Xi U10 904 93 from by rw [eU11]; exact Xi_ne (by omega)).trans ( (show Xi U10 904 93 = Xi T9 904 93 from by rw [eU10]; exact Xi_ne (by omega)).trans ( (show Xi T9 904 93 = Xi U8 904 93 from w193.x _ _ rfl).trans ( (show Xi U8 904 93 = Xi U7 904 93 from by rw [eU8]; exact Xi_ne (by omega)).trans ((show Xi U7 904 93 = Xi S 904 93 from by rw [eU7]; exact Xi_ne (by omega))))))
      have w227 : 0 ≤ Xi S 904 93 ∧ Xi S 904 93 ≤ 1700 := hH.c _ _
      have w228 : Xi U11 904 94 = Xi S 904 94 := (show Xi U11 904 94 = Xi U10 904 94 from by rw [eU11]; exact Xi_ne (by omega)).trans ( (show Xi U10 904 94 = Xi T9 904 94 from by rw [eU10]; exact Xi_ne (by omega)).trans ( (show Xi T9 904 94 = Xi U8 904 94 from w193.x _ _ rfl).trans ( (show Xi U8 904 94 = Xi U7 904 94 from by rw [eU8]; exact Xi_ne (by omega)).trans ((show Xi U7 904 94 = Xi S 904 94 from by rw [eU7]; exact Xi_ne (by omega))))))
      have w229 : 0 ≤ Xi S 904 94 ∧ Xi S 904 94 ≤ 1700 := hH.c _ _
      have w230 : Xi U11 904 98 = Xi S 904 98 := (show Xi U11 904 98 = Xi U10 904 98 from by rw [eU11]; exact Xi_ne (by omega)).trans ( (show Xi U10 904 98 = Xi T9 904 98 from by rw [eU10]; exact Xi_ne (by omega)).trans ( (show Xi T9 904 98 = Xi U8 904 98 from w193.x _ _ rfl).trans ( (show Xi U8 904 98 = Xi U7 904 98 from by rw [eU8]; exact Xi_ne (by omega)).trans ((show Xi U7 904 98 = Xi S 904 98 from by rw [eU7]; exact Xi_ne (by omega))))))
      have w231 : 0 ≤ Xi S 904 98 ∧ Xi S 904 98 ≤ 1700 := hH.c _ _
      refine l_callS rfl rfl (by decide) rfl (t_mo_isArt hHU11 z214 ⟨by omega, by omega⟩ _) ?_
      rintro _ _ ⟨rfl, z233, rfl, w233, w232⟩
      show Rl _ _ _ _ _ [iv z233] _ _
      refine l_if_eq rfl rfl (by unfold rg; omega) (fun w234 => ?_) (fun w235 => ?_)
      · have w236 : Xi U11 904 102 = Xi U10 904 102 := (show Xi U11 904 102 = Xi U10 904 102 from by rw [eU11]; exact Xi_ne (by omega))
        have w237 : 0 ≤ Xi U10 904 102 ∧ Xi U10 904 102 ≤ 2600 := hHU10.c _ _
        have w238 : -1 ≤ Xi U11 904 103 ∧ Xi U11 904 103 ≤ 2600 := hHU11.c _ _
        have w239 : Xi U11 904 65 = Xi T9 904 65 := (show Xi U11 904 65 = Xi U10 904 65 from by rw [eU11]; exact Xi_ne (by omega)).trans ((show Xi U10 904 65 = Xi T9 904 65 from by rw [eU10]; exact Xi_ne (by omega)))
        have w240 : 0 ≤ Xi T9 904 65 ∧ Xi T9 904 65 ≤ 1 := hHT9.c _ _
        have w241 : Xi U11 904 69 = Xi T9 904 69 := (show Xi U11 904 69 = Xi U10 904 69 from by rw [eU11]; exact Xi_ne (by omega)).trans ((show Xi U10 904 69 = Xi T9 904 69 from by rw [eU10]; exact Xi_ne (by omega)))
        have w242 : 0 ≤ Xi T9 904 69 ∧ Xi T9 904 69 ≤ 2600 := hHT9.c _ _
        have w243 : Xi U11 904 70 = Xi U7 904 70 := (show Xi U11 904 70 = Xi U10 904 70 from by rw [eU11]; exact Xi_ne (by omega)).trans ( (show Xi U10 904 70 = Xi T9 904 70 from by rw [eU10]; exact Xi_ne (by omega)).trans ( (show Xi T9 904 70 = Xi U8 904 70 from w193.x _ _ rfl).trans ((show Xi U8 904 70 = Xi U7 904 70 from by rw [eU8]; exact Xi_ne (by omega)))))
        have w244 : 0 ≤ Xi U7 904 70 ∧ Xi U7 904 70 ≤ 20 := hHU7.c _ _
        have w245 : Xi U11 904 8 = Xi T9 904 8 := (show Xi U11 904 8 = Xi U10 904 8 from by rw [eU11]; exact Xi_ne (by omega)).trans ((show Xi U10 904 8 = Xi T9 904 8 from by rw [eU10]; exact Xi_ne (by omega)))
        have w246 : 0 ≤ Xi T9 904 8 ∧ Xi T9 904 8 ≤ 5010 := hHT9.c _ _
        have w247 : Xi U11 904 93 = Xi S 904 93 := (show Xi U11 904 93 = Xi U10 904 93 from by rw [eU11]; exact Xi_ne (by omega)).trans ( (show Xi U10 904 93 = Xi T9 904 93 from by rw [eU10]; exact Xi_ne (by omega)).trans ( (show Xi T9 904 93 = Xi U8 904 93 from w193.x _ _ rfl).trans ( (show Xi U8 904 93 = Xi U7 904 93 from by rw [eU8]; exact Xi_ne (by omega)).trans ((show Xi U7 904 93 = Xi S 904 93 from by rw [eU7]; exact Xi_ne (by omega))))))
        have w248 : 0 ≤ Xi S 904 93 ∧ Xi S 904 93 ≤ 1700 := hH.c _ _
        have w249 : Xi U11 904 94 = Xi S 904 94 := (show Xi U11 904 94 = Xi U10 904 94 from by rw [eU11]; exact Xi_ne (by omega)).trans ( (show Xi U10 904 94 = Xi T9 904 94 from by rw [eU10]; exact Xi_ne (by omega)).trans ( (show Xi T9 904 94 = Xi U8 904 94 from w193.x _ _ rfl).trans ( (show Xi U8 904 94 = Xi U7 904 94 from by rw [eU8]; exact Xi_ne (by omega)).trans ((show Xi U7 904 94 = Xi S 904 94 from by rw [eU7]; exact Xi_ne (by omega))))))
        have w250 : 0 ≤ Xi S 904 94 ∧ Xi S 904 94 ≤ 1700 := hH.c _ _
        have w251 : Xi U11 904 98 = Xi S 904 98 := (show Xi U11 904 98 = Xi U10 904 98 from by rw [eU11]; exact Xi_ne (by omega)).trans ( (show Xi U10 904 98 = Xi T9 904 98 from by rw [eU10]; exact Xi_ne (by omega)).trans ( (show Xi T9 904 98 = Xi U8 904 98 from w193.x _ _ rfl).trans ( (show Xi U8 904 98 = Xi U7 904 98 from by rw [eU8]; exact Xi_ne (by omega)).trans ((show Xi U7 904 98 = Xi S 904 98 from by rw [eU7]; exact Xi_ne (by omega))))))
        have w252 : 0 ≤ Xi S 904 98 ∧ Xi S 904 98 ≤ 1700 := hH.c _ _
        exact Rl_weak (C83 U11 hHU11 hFU11  (by assumption) (by first | assumption | exact (RNV_FR (FR_e eU11) rfl (RNV_FR (FR_e eU10) rfl (by assumption : RNV T9 _)))) (by omega) (by omega) (by omega) (by omega) (by omega) (by omega) (by first | assumption | exact (PF_FR (FR_e eU11) rfl (PF_FR (FR_e eU10) rfl (PF_FR w193 rfl (PF_FR (FR_e eU8) rfl (PF_FR (FR_e eU7) rfl (by assumption : PF S))))))) (by first | assumption | exact (BDA_FR (FR_e eU11) rfl (BDA_FR (FR_e eU10) rfl (by assumption : BDA T9))))) (And.intro rfl (True.intro))
      · refine l_aload_n rfl rfl ?_
        refine l_dup rfl rfl ?_
        refine l_gfi rfl rfl rfl rfl rfl ?_
        have w253 : 0 ≤ (Xi U11 904 8) ∧ (Xi U11 904 8) ≤ 5010 := hHU11.c _ _
        refine l_iconst rfl ?_
        refine l_iadd rfl ?_
        refine l_pfi rfl rfl rfl rfl ?_
        obtain ⟨U12, eU12⟩ : ∃ T : sS, T = uI U11 904 8 (Int32.ofInt ((Xi U11 904 8) + 1)) := ⟨_, rfl⟩
        rw [← eU12]
        have hHU12 : HI U12 := by rw [eU12]; exact HI_w hHU11 (show 0 ≤ ((Xi U11 904 8) + 1) by omega) (show ((Xi U11 904 8) + 1) ≤ 5010 by omega)
        have hFU12 : FR md_mo_rule__3 S U12 := by rw [eU12]; exact FR.wI hFU11 (mdf_i (r := (904, 905, 8, 9)) (List.mem_of_getElem? (i := 0) rfl) (inR_i (by omega) (by omega) (by omega) (by omega)))
        have w254 : Xi U12 904 8 = ((Xi U11 904 8) + 1) := by rw [eU12]; exact Xi_same (by unfold rg; omega)
        have t72 : AT U12 n c ∧ _ := at_mv (S := U11) (P := U11) (c2 := c) (TK_FR hFU11 rfl hT) (by assumption) (fun _ => rfl) (fun _ => rfl) rfl rfl rfl rfl eU12 (by omega) (by omega) (by omega) (by omega) (Or.inl rfl)
        have a72 : AT U12 n c := t72.1
        have l72 := t72.2
        refine l_aload_n rfl rfl ?_
        refine l_aload_n rfl rfl ?_
        have w255 : Xi U12 904 102 = Xi U10 904 102 := (show Xi U12 904 102 = Xi U11 904 102 from by rw [eU12]; exact Xi_ne (by omega)).trans ((show Xi U11 904 102 = Xi U10 904 102 from by rw [eU11]; exact Xi_ne (by omega)))
        have w256 : 0 ≤ Xi U10 904 102 ∧ Xi U10 904 102 ≤ 2600 := hHU10.c _ _
        have w257 : Xi U12 904 103 = Xi U11 904 103 := (show Xi U12 904 103 = Xi U11 904 103 from by rw [eU12]; exact Xi_ne (by omega))
        have w258 : -1 ≤ Xi U11 904 103 ∧ Xi U11 904 103 ≤ 2600 := hHU11.c _ _
        have w259 : Xi U12 904 65 = Xi T9 904 65 := (show Xi U12 904 65 = Xi U11 904 65 from by rw [eU12]; exact Xi_ne (by omega)).trans ( (show Xi U11 904 65 = Xi U10 904 65 from by rw [eU11]; exact Xi_ne (by omega)).trans ((show Xi U10 904 65 = Xi T9 904 65 from by rw [eU10]; exact Xi_ne (by omega))))
        have w260 : 0 ≤ Xi T9 904 65 ∧ Xi T9 904 65 ≤ 1 := hHT9.c _ _
        have w261 : Xi U12 904 69 = Xi T9 904 69 := (show Xi U12 904 69 = Xi U11 904 69 from by rw [eU12]; exact Xi_ne (by omega)).trans ( (show Xi U11 904 69 = Xi U10 904 69 from by rw [eU11]; exact Xi_ne (by omega)).trans ((show Xi U10 904 69 = Xi T9 904 69 from by rw [eU10]; exact Xi_ne (by omega))))
        have w262 : 0 ≤ Xi T9 904 69 ∧ Xi T9 904 69 ≤ 2600 := hHT9.c _ _
        have w263 : Xi U12 904 70 = Xi U7 904 70 := (show Xi U12 904 70 = Xi U11 904 70 from by rw [eU12]; exact Xi_ne (by omega)).trans ( (show Xi U11 904 70 = Xi U10 904 70 from by rw [eU11]; exact Xi_ne (by omega)).trans ( (show Xi U10 904 70 = Xi T9 904 70 from by rw [eU10]; exact Xi_ne (by omega)).trans ( (show Xi T9 904 70 = Xi U8 904 70 from w193.x _ _ rfl).trans ((show Xi U8 904 70 = Xi U7 904 70 from by rw [eU8]; exact Xi_ne (by omega))))))
        have w264 : 0 ≤ Xi U7 904 70 ∧ Xi U7 904 70 ≤ 20 := hHU7.c _ _
        have w265 : 0 ≤ Xi U12 904 8 ∧ Xi U12 904 8 ≤ 5010 := hHU12.c _ _
        have w266 : Xi U12 904 93 = Xi S 904 93 := (show Xi U12 904 93 = Xi U11 904 93 from by rw [eU12]; exact Xi_ne (by omega)).trans ( (show Xi U11 904 93 = Xi U10 904 93 from by rw [eU11]; exact Xi_ne (by omega)).trans ( (show Xi U10 904 93 = Xi T9 904 93 from by rw [eU10]; exact Xi_ne (by omega)).trans ( (show Xi T9 904 93 = Xi U8 904 93 from w193.x _ _ rfl).trans ( (show Xi U8 904 93 = Xi U7 904 93 from by rw [eU8]; exact Xi_ne (by omega)).trans ((show Xi U7 904 93 = Xi S 904 93 from by rw [eU7]; exact Xi_ne (by omega)))))))
        have w267 : 0 ≤ Xi S 904 93 ∧ Xi S 904 93 ≤ 1700 := hH.c _ _
        have w268 : Xi U12 904 94 = Xi S 904 94 := (show Xi U12 904 94 = Xi U11 904 94 from by rw [eU12]; exact Xi_ne (by omega)).trans ( (show Xi U11 904 94 = Xi U10 904 94 from by rw [eU11]; exact Xi_ne (by omega)).trans ( (show Xi U10 904 94 = Xi T9 904 94 from by rw [eU10]; exact Xi_ne (by omega)).trans ( (show Xi T9 904 94 = Xi U8 904 94 from w193.x _ _ rfl).trans ( (show Xi U8 904 94 = Xi U7 904 94 from by rw [eU8]; exact Xi_ne (by omega)).trans ((show Xi U7 904 94 = Xi S 904 94 from by rw [eU7]; exact Xi_ne (by omega)))))))
        have w269 : 0 ≤ Xi S 904 94 ∧ Xi S 904 94 ≤ 1700 := hH.c _ _
        have w270 : Xi U12 904 98 = Xi S 904 98 := (show Xi U12 904 98 = Xi U11 904 98 from by rw [eU12]; exact Xi_ne (by omega)).trans ( (show Xi U11 904 98 = Xi U10 904 98 from by rw [eU11]; exact Xi_ne (by omega)).trans ( (show Xi U10 904 98 = Xi T9 904 98 from by rw [eU10]; exact Xi_ne (by omega)).trans ( (show Xi T9 904 98 = Xi U8 904 98 from w193.x _ _ rfl).trans ( (show Xi U8 904 98 = Xi U7 904 98 from by rw [eU8]; exact Xi_ne (by omega)).trans ((show Xi U7 904 98 = Xi S 904 98 from by rw [eU7]; exact Xi_ne (by omega)))))))
        have w271 : 0 ≤ Xi S 904 98 ∧ Xi S 904 98 ≤ 1700 := hH.c _ _
        refine l_callV rfl rfl rfl (t_mo_run__2 hHU12 n c (by first | assumption | exact (TK_FR hFU12 rfl (by assumption : TK S _))) (by first | assumption | exact (by assumption : AT U12 _ _)) (by first | assumption | exact (RNV_FR (FR_e eU12) rfl (RNV_FR (FR_e eU11) rfl (RNV_FR (FR_e eU10) rfl (by assumption : RNV T9 _))))) (by first | assumption | exact (BDA_FR (FR_e eU12) rfl (BDA_FR (FR_e eU11) rfl (BDA_FR (FR_e eU10) rfl (by assumption : BDA T9))))) _) ?_
        rintro _ T13 ⟨hHT13, w279, z278, rfl, w278, w272, w273, w274, w275, w276, w277⟩
        have hFT13 : FR md_mo_rule__3 S T13 := FR.tr hFU12 w279 rfl
        show Rl _ _ _ _ _ [iv z278, .ref 904] _ _
        refine l_pfi rfl rfl rfl rfl ?_
        obtain ⟨U14, eU14⟩ : ∃ T : sS, T = uI T13 904 103 (Int32.ofInt z278) := ⟨_, rfl⟩
        rw [← eU14]
        have hHU14 : HI U14 := by rw [eU14]; exact HI_w hHT13 (show -1 ≤ z278 by omega) (show z278 ≤ 2600 by omega)
        have hFU14 : FR md_mo_rule__3 S U14 := by rw [eU14]; exact FR.wI hFT13 (mdf_i (r := (904, 905, 103, 104)) (List.mem_of_getElem? (i := 13) rfl) (inR_i (by omega) (by omega) (by omega) (by omega)))
        have w280 : Xi U14 904 103 = z278 := by rw [eU14]; exact Xi_same (by unfold rg; omega)
        have a80 : AT U14 n c := AT_FR (FR_e eU14) rfl (by assumption)
        have w281 : Xi U14 904 102 = Xi U10 904 102 := (show Xi U14 904 102 = Xi T13 904 102 from by rw [eU14]; exact Xi_ne (by omega)).trans ( (show Xi T13 904 102 = Xi U12 904 102 from w279.x _ _ rfl).trans ( (show Xi U12 904 102 = Xi U11 904 102 from by rw [eU12]; exact Xi_ne (by omega)).trans ((show Xi U11 904 102 = Xi U10 904 102 from by rw [eU11]; exact Xi_ne (by omega)))))
        have w282 : 0 ≤ Xi U10 904 102 ∧ Xi U10 904 102 ≤ 2600 := hHU10.c _ _
        have w283 : -1 ≤ Xi U14 904 103 ∧ Xi U14 904 103 ≤ 2600 := hHU14.c _ _
        have w284 : Xi U14 904 65 = Xi T13 904 65 := (show Xi U14 904 65 = Xi T13 904 65 from by rw [eU14]; exact Xi_ne (by omega))
        have w285 : 0 ≤ Xi T13 904 65 ∧ Xi T13 904 65 ≤ 1 := hHT13.c _ _
        have w286 : Xi U14 904 69 = Xi T13 904 69 := (show Xi U14 904 69 = Xi T13 904 69 from by rw [eU14]; exact Xi_ne (by omega))
        have w287 : 0 ≤ Xi T13 904 69 ∧ Xi T13 904 69 ≤ 2600 := hHT13.c _ _
        have w288 : Xi U14 904 70 = Xi U7 904 70 := (show Xi U14 904 70 = Xi T13 904 70 from by rw [eU14]; exact Xi_ne (by omega)).trans ( (show Xi T13 904 70 = Xi U12 904 70 from w279.x _ _ rfl).trans ( (show Xi U12 904 70 = Xi U11 904 70 from by rw [eU12]; exact Xi_ne (by omega)).trans ( (show Xi U11 904 70 = Xi U10 904 70 from by rw [eU11]; exact Xi_ne (by omega)).trans ( (show Xi U10 904 70 = Xi T9 904 70 from by rw [eU10]; exact Xi_ne (by omega)).trans ( (show Xi T9 904 70 = Xi U8 904 70 from w193.x _ _ rfl).trans ((show Xi U8 904 70 = Xi U7 904 70 from by rw [eU8]; exact Xi_ne (by omega))))))))
        have w289 : 0 ≤ Xi U7 904 70 ∧ Xi U7 904 70 ≤ 20 := hHU7.c _ _
        have w290 : Xi U14 904 8 = Xi T13 904 8 := (show Xi U14 904 8 = Xi T13 904 8 from by rw [eU14]; exact Xi_ne (by omega))
        have w291 : 0 ≤ Xi T13 904 8 ∧ Xi T13 904 8 ≤ 5010 := hHT13.c _ _
        have w292 : Xi U14 904 93 = Xi S 904 93 := (show Xi U14 904 93 = Xi T13 904 93 from by rw [eU14]; exact Xi_ne (by omega)).trans ( (show Xi T13 904 93 = Xi U12 904 93 from w279.x _ _ rfl).trans ( (show Xi U12 904 93 = Xi U11 904 93 from by rw [eU12]; exact Xi_ne (by omega)).trans ( (show Xi U11 904 93 = Xi U10 904 93 from by rw [eU11]; exact Xi_ne (by omega)).trans ( (show Xi U10 904 93 = Xi T9 904 93 from by rw [eU10]; exact Xi_ne (by omega)).trans ( (show Xi T9 904 93 = Xi U8 904 93 from w193.x _ _ rfl).trans ( (show Xi U8 904 93 = Xi U7 904 93 from by rw [eU8]; exact Xi_ne (by omega)).trans ((show Xi U7 904 93 = Xi S 904 93 from by rw [eU7]; exact Xi_ne (by omega)))))))))
        have w293 : 0 ≤ Xi S 904 93 ∧ Xi S 904 93 ≤ 1700 := hH.c _ _
        have w294 : Xi U14 904 94 = Xi S 904 94 := (show Xi U14 904 94 = Xi T13 904 94 from by rw [eU14]; exact Xi_ne (by omega)).trans ( (show Xi T13 904 94 = Xi U12 904 94 from w279.x _ _ rfl).trans ( (show Xi U12 904 94 = Xi U11 904 94 from by rw [eU12]; exact Xi_ne (by omega)).trans ( (show Xi U11 904 94 = Xi U10 904 94 from by rw [eU11]; exact Xi_ne (by omega)).trans ( (show Xi U10 904 94 = Xi T9 904 94 from by rw [eU10]; exact Xi_ne (by omega)).trans ( (show Xi T9 904 94 = Xi U8 904 94 from w193.x _ _ rfl).trans ( (show Xi U8 904 94 = Xi U7 904 94 from by rw [eU8]; exact Xi_ne (by omega)).trans ((show Xi U7 904 94 = Xi S 904 94 from by rw [eU7]; exact Xi_ne (by omega)))))))))
        have w295 : 0 ≤ Xi S 904 94 ∧ Xi S 904 94 ≤ 1700 := hH.c _ _
        have w296 : Xi U14 904 98 = Xi S 904 98 := (show Xi U14 904 98 = Xi T13 904 98 from by rw [eU14]; exact Xi_ne (by omega)).trans ( (show Xi T13 904 98 = Xi U12 904 98 from w279.x _ _ rfl).trans ( (show Xi U12 904 98 = Xi U11 904 98 from by rw [eU12]; exact Xi_ne (by omega)).trans ( (show Xi U11 904 98 = Xi U10 904 98 from by rw [eU11]; exact Xi_ne (by omega)).trans ( (show Xi U10 904 98 = Xi T9 904 98 from by rw [eU10]; exact Xi_ne (by omega)).trans ( (show Xi T9 904 98 = Xi U8 904 98 from w193.x _ _ rfl).trans ( (show Xi U8 904 98 = Xi U7 904 98 from by rw [eU8]; exact Xi_ne (by omega)).trans ((show Xi U7 904 98 = Xi S 904 98 from by rw [eU7]; exact Xi_ne (by omega)))))))))
        have w297 : 0 ≤ Xi S 904 98 ∧ Xi S 904 98 ≤ 1700 := hH.c _ _
        exact Rl_weak (C83 U14 hHU14 hFU14  (by assumption) (by first | assumption | exact (RNV_FR (FR_e eU14) rfl (by assumption : RNV T13 _))) (by omega) (by omega) (by omega) (by omega) (by omega) (by omega) (by first | assumption | exact (PF_FR (FR_e eU14) rfl (PF_FR w279 rfl (PF_FR (FR_e eU12) rfl (PF_FR (FR_e eU11) rfl (PF_FR (FR_e eU10) rfl (PF_FR w193 rfl (PF_FR (FR_e eU8) rfl (PF_FR (FR_e eU7) rfl (by assumption : PF S)))))))))) (by first | assumption | exact (BDA_FR (FR_e eU14) rfl (by assumption : BDA T13)))) (And.intro rfl (True.intro))
    · refine l_aload_n rfl rfl ?_
      refine l_sipush rfl rfl ?_
      have w298 : Xi U8 904 102 = Xi S 904 102 := (show Xi U8 904 102 = Xi U7 904 102 from by rw [eU8]; exact Xi_ne (by omega)).trans ((show Xi U7 904 102 = Xi S 904 102 from by rw [eU7]; exact Xi_ne (by omega)))
      have w299 : 0 ≤ Xi S 904 102 ∧ Xi S 904 102 ≤ 2600 := hH.c _ _
      have w300 : Xi U8 904 103 = Xi S 904 103 := (show Xi U8 904 103 = Xi U7 904 103 from by rw [eU8]; exact Xi_ne (by omega)).trans ((show Xi U7 904 103 = Xi S 904 103 from by rw [eU7]; exact Xi_ne (by omega)))
      have w301 : -1 ≤ Xi S 904 103 ∧ Xi S 904 103 ≤ 2600 := hH.c _ _
      have w302 : Xi U8 904 65 = Xi S 904 65 := (show Xi U8 904 65 = Xi U7 904 65 from by rw [eU8]; exact Xi_ne (by omega)).trans ((show Xi U7 904 65 = Xi S 904 65 from by rw [eU7]; exact Xi_ne (by omega)))
      have w303 : 0 ≤ Xi S 904 65 ∧ Xi S 904 65 ≤ 1 := hH.c _ _
      have w304 : Xi U8 904 69 = Xi S 904 69 := (show Xi U8 904 69 = Xi U7 904 69 from by rw [eU8]; exact Xi_ne (by omega)).trans ((show Xi U7 904 69 = Xi S 904 69 from by rw [eU7]; exact Xi_ne (by omega)))
      have w305 : 0 ≤ Xi S 904 69 ∧ Xi S 904 69 ≤ 2600 := hH.c _ _
      have w306 : Xi U8 904 70 = Xi U7 904 70 := (show Xi U8 904 70 = Xi U7 904 70 from by rw [eU8]; exact Xi_ne (by omega))
      have w307 : 0 ≤ Xi U7 904 70 ∧ Xi U7 904 70 ≤ 20 := hHU7.c _ _
      have w308 : 0 ≤ Xi U8 904 8 ∧ Xi U8 904 8 ≤ 5010 := hHU8.c _ _
      have w309 : Xi U8 904 93 = Xi S 904 93 := (show Xi U8 904 93 = Xi U7 904 93 from by rw [eU8]; exact Xi_ne (by omega)).trans ((show Xi U7 904 93 = Xi S 904 93 from by rw [eU7]; exact Xi_ne (by omega)))
      have w310 : 0 ≤ Xi S 904 93 ∧ Xi S 904 93 ≤ 1700 := hH.c _ _
      have w311 : Xi U8 904 94 = Xi S 904 94 := (show Xi U8 904 94 = Xi U7 904 94 from by rw [eU8]; exact Xi_ne (by omega)).trans ((show Xi U7 904 94 = Xi S 904 94 from by rw [eU7]; exact Xi_ne (by omega)))
      have w312 : 0 ≤ Xi S 904 94 ∧ Xi S 904 94 ≤ 1700 := hH.c _ _
      have w313 : Xi U8 904 98 = Xi S 904 98 := (show Xi U8 904 98 = Xi U7 904 98 from by rw [eU8]; exact Xi_ne (by omega)).trans ((show Xi U7 904 98 = Xi S 904 98 from by rw [eU7]; exact Xi_ne (by omega)))
      have w314 : 0 ≤ Xi S 904 98 ∧ Xi S 904 98 ≤ 1700 := hH.c _ _
      refine l_callV rfl rfl rfl (t_mo_take__3 hHU8 n c 142 ⟨by omega, by omega⟩ (by first | assumption | exact (TK_FR hFU8 rfl (by assumption : TK S _))) (by first | assumption | exact (by assumption : AT U8 _ _)) (by first | assumption | omega) (by first | assumption | exact (BDA_FR (FR_e eU8) rfl (BDA_FR (FR_e eU7) rfl (by assumption : BDA S)))) _) ?_
      rintro _ T15 ⟨hHT15, w321, rfl, w315, w316, w317, w318, w319⟩
      have hFT15 : FR md_mo_rule__3 S T15 := FR.tr hFU8 w321 rfl
      show Rl _ _ _ _ _ [] _ _
      refine l_goto rfl rfl ?_
      have w322 : Xi T15 904 102 = Xi S 904 102 := (show Xi T15 904 102 = Xi U8 904 102 from w321.x _ _ rfl).trans ( (show Xi U8 904 102 = Xi U7 904 102 from by rw [eU8]; exact Xi_ne (by omega)).trans ((show Xi U7 904 102 = Xi S 904 102 from by rw [eU7]; exact Xi_ne (by omega))))
      have w323 : 0 ≤ Xi S 904 102 ∧ Xi S 904 102 ≤ 2600 := hH.c _ _
      have w324 : Xi T15 904 103 = Xi S 904 103 := (show Xi T15 904 103 = Xi U8 904 103 from w321.x _ _ rfl).trans ( (show Xi U8 904 103 = Xi U7 904 103 from by rw [eU8]; exact Xi_ne (by omega)).trans ((show Xi U7 904 103 = Xi S 904 103 from by rw [eU7]; exact Xi_ne (by omega))))
      have w325 : -1 ≤ Xi S 904 103 ∧ Xi S 904 103 ≤ 2600 := hH.c _ _
      have w326 : 0 ≤ Xi T15 904 65 ∧ Xi T15 904 65 ≤ 1 := hHT15.c _ _
      have w327 : Xi T15 904 69 = Xi S 904 69 := (show Xi T15 904 69 = Xi U8 904 69 from w321.x _ _ rfl).trans ( (show Xi U8 904 69 = Xi U7 904 69 from by rw [eU8]; exact Xi_ne (by omega)).trans ((show Xi U7 904 69 = Xi S 904 69 from by rw [eU7]; exact Xi_ne (by omega))))
      have w328 : 0 ≤ Xi S 904 69 ∧ Xi S 904 69 ≤ 2600 := hH.c _ _
      have w329 : Xi T15 904 70 = Xi U7 904 70 := (show Xi T15 904 70 = Xi U8 904 70 from w321.x _ _ rfl).trans ((show Xi U8 904 70 = Xi U7 904 70 from by rw [eU8]; exact Xi_ne (by omega)))
      have w330 : 0 ≤ Xi U7 904 70 ∧ Xi U7 904 70 ≤ 20 := hHU7.c _ _
      have w331 : 0 ≤ Xi T15 904 8 ∧ Xi T15 904 8 ≤ 5010 := hHT15.c _ _
      have w332 : Xi T15 904 93 = Xi S 904 93 := (show Xi T15 904 93 = Xi U8 904 93 from w321.x _ _ rfl).trans ( (show Xi U8 904 93 = Xi U7 904 93 from by rw [eU8]; exact Xi_ne (by omega)).trans ((show Xi U7 904 93 = Xi S 904 93 from by rw [eU7]; exact Xi_ne (by omega))))
      have w333 : 0 ≤ Xi S 904 93 ∧ Xi S 904 93 ≤ 1700 := hH.c _ _
      have w334 : Xi T15 904 94 = Xi S 904 94 := (show Xi T15 904 94 = Xi U8 904 94 from w321.x _ _ rfl).trans ( (show Xi U8 904 94 = Xi U7 904 94 from by rw [eU8]; exact Xi_ne (by omega)).trans ((show Xi U7 904 94 = Xi S 904 94 from by rw [eU7]; exact Xi_ne (by omega))))
      have w335 : 0 ≤ Xi S 904 94 ∧ Xi S 904 94 ≤ 1700 := hH.c _ _
      have w336 : Xi T15 904 98 = Xi S 904 98 := (show Xi T15 904 98 = Xi U8 904 98 from w321.x _ _ rfl).trans ( (show Xi U8 904 98 = Xi U7 904 98 from by rw [eU8]; exact Xi_ne (by omega)).trans ((show Xi U7 904 98 = Xi S 904 98 from by rw [eU7]; exact Xi_ne (by omega))))
      have w337 : 0 ≤ Xi S 904 98 ∧ Xi S 904 98 ≤ 1700 := hH.c _ _
      exact Rl_weak (C83 T15 hHT15 hFT15  (by assumption) (by first | assumption | exact (RNV_FR w321 rfl (RNV_FR (FR_e eU8) rfl (RNV_FR (FR_e eU7) rfl (by assumption : RNV S _))))) (by omega) (by omega) (by omega) (by omega) (by omega) (by omega) (by first | assumption | exact (PF_FR w321 rfl (PF_FR (FR_e eU8) rfl (PF_FR (FR_e eU7) rfl (by assumption : PF S))))) (by first | assumption | exact (by assumption : BDA T15))) (And.intro rfl (True.intro))
  · refine l_aload_n rfl rfl ?_
    refine l_bipush rfl rfl ?_
    have w338 : Xi U8 904 102 = Xi S 904 102 := (show Xi U8 904 102 = Xi U7 904 102 from by rw [eU8]; exact Xi_ne (by omega)).trans ((show Xi U7 904 102 = Xi S 904 102 from by rw [eU7]; exact Xi_ne (by omega)))
    have w339 : 0 ≤ Xi S 904 102 ∧ Xi S 904 102 ≤ 2600 := hH.c _ _
    have w340 : Xi U8 904 103 = Xi S 904 103 := (show Xi U8 904 103 = Xi U7 904 103 from by rw [eU8]; exact Xi_ne (by omega)).trans ((show Xi U7 904 103 = Xi S 904 103 from by rw [eU7]; exact Xi_ne (by omega)))
    have w341 : -1 ≤ Xi S 904 103 ∧ Xi S 904 103 ≤ 2600 := hH.c _ _
    have w342 : Xi U8 904 65 = Xi S 904 65 := (show Xi U8 904 65 = Xi U7 904 65 from by rw [eU8]; exact Xi_ne (by omega)).trans ((show Xi U7 904 65 = Xi S 904 65 from by rw [eU7]; exact Xi_ne (by omega)))
    have w343 : 0 ≤ Xi S 904 65 ∧ Xi S 904 65 ≤ 1 := hH.c _ _
    have w344 : Xi U8 904 69 = Xi S 904 69 := (show Xi U8 904 69 = Xi U7 904 69 from by rw [eU8]; exact Xi_ne (by omega)).trans ((show Xi U7 904 69 = Xi S 904 69 from by rw [eU7]; exact Xi_ne (by omega)))
    have w345 : 0 ≤ Xi S 904 69 ∧ Xi S 904 69 ≤ 2600 := hH.c _ _
    have w346 : Xi U8 904 70 = Xi U7 904 70 := (show Xi U8 904 70 = Xi U7 904 70 from by rw [eU8]; exact Xi_ne (by omega))
    have w347 : 0 ≤ Xi U7 904 70 ∧ Xi U7 904 70 ≤ 20 := hHU7.c _ _
    have w348 : 0 ≤ Xi U8 904 8 ∧ Xi U8 904 8 ≤ 5010 := hHU8.c _ _
    have w349 : Xi U8 904 93 = Xi S 904 93 := (show Xi U8 904 93 = Xi U7 904 93 from by rw [eU8]; exact Xi_ne (by omega)).trans ((show Xi U7 904 93 = Xi S 904 93 from by rw [eU7]; exact Xi_ne (by omega)))
    have w350 : 0 ≤ Xi S 904 93 ∧ Xi S 904 93 ≤ 1700 := hH.c _ _
    have w351 : Xi U8 904 94 = Xi S 904 94 := (show Xi U8 904 94 = Xi U7 904 94 from by rw [eU8]; exact Xi_ne (by omega)).trans ((show Xi U7 904 94 = Xi S 904 94 from by rw [eU7]; exact Xi_ne (by omega)))
    have w352 : 0 ≤ Xi S 904 94 ∧ Xi S 904 94 ≤ 1700 := hH.c _ _
    have w353 : Xi U8 904 98 = Xi S 904 98 := (show Xi U8 904 98 = Xi U7 904 98 from by rw [eU8]; exact Xi_ne (by omega)).trans ((show Xi U7 904 98 = Xi S 904 98 from by rw [eU7]; exact Xi_ne (by omega)))
    have w354 : 0 ≤ Xi S 904 98 ∧ Xi S 904 98 ≤ 1700 := hH.c _ _
    refine l_callV rfl rfl rfl (t_mo_take__3 hHU8 n c 107 ⟨by omega, by omega⟩ (by first | assumption | exact (TK_FR hFU8 rfl (by assumption : TK S _))) (by first | assumption | exact (by assumption : AT U8 _ _)) (by first | assumption | omega) (by first | assumption | exact (BDA_FR (FR_e eU8) rfl (BDA_FR (FR_e eU7) rfl (by assumption : BDA S)))) _) ?_
    rintro _ T16 ⟨hHT16, w361, rfl, w355, w356, w357, w358, w359⟩
    have hFT16 : FR md_mo_rule__3 S T16 := FR.tr hFU8 w361 rfl
    show Rl _ _ _ _ _ [] _ _
    refine l_iload_n rfl rfl ?_
    refine l_bipush rfl rfl ?_
    refine l_icmp_ne rfl rfl (by unfold rg; omega) (by unfold rg; omega) (fun w362 => ?_) (fun w363 => ?_)
    · refine l_aload_n rfl rfl ?_
      refine l_aload_n rfl rfl ?_
      have w364 : Xi T16 904 102 = Xi S 904 102 := (show Xi T16 904 102 = Xi U8 904 102 from w361.x _ _ rfl).trans ( (show Xi U8 904 102 = Xi U7 904 102 from by rw [eU8]; exact Xi_ne (by omega)).trans ((show Xi U7 904 102 = Xi S 904 102 from by rw [eU7]; exact Xi_ne (by omega))))
      have w365 : 0 ≤ Xi S 904 102 ∧ Xi S 904 102 ≤ 2600 := hH.c _ _
      have w366 : Xi T16 904 103 = Xi S 904 103 := (show Xi T16 904 103 = Xi U8 904 103 from w361.x _ _ rfl).trans ( (show Xi U8 904 103 = Xi U7 904 103 from by rw [eU8]; exact Xi_ne (by omega)).trans ((show Xi U7 904 103 = Xi S 904 103 from by rw [eU7]; exact Xi_ne (by omega))))
      have w367 : -1 ≤ Xi S 904 103 ∧ Xi S 904 103 ≤ 2600 := hH.c _ _
      have w368 : 0 ≤ Xi T16 904 65 ∧ Xi T16 904 65 ≤ 1 := hHT16.c _ _
      have w369 : Xi T16 904 69 = Xi S 904 69 := (show Xi T16 904 69 = Xi U8 904 69 from w361.x _ _ rfl).trans ( (show Xi U8 904 69 = Xi U7 904 69 from by rw [eU8]; exact Xi_ne (by omega)).trans ((show Xi U7 904 69 = Xi S 904 69 from by rw [eU7]; exact Xi_ne (by omega))))
      have w370 : 0 ≤ Xi S 904 69 ∧ Xi S 904 69 ≤ 2600 := hH.c _ _
      have w371 : Xi T16 904 70 = Xi U7 904 70 := (show Xi T16 904 70 = Xi U8 904 70 from w361.x _ _ rfl).trans ((show Xi U8 904 70 = Xi U7 904 70 from by rw [eU8]; exact Xi_ne (by omega)))
      have w372 : 0 ≤ Xi U7 904 70 ∧ Xi U7 904 70 ≤ 20 := hHU7.c _ _
      have w373 : 0 ≤ Xi T16 904 8 ∧ Xi T16 904 8 ≤ 5010 := hHT16.c _ _
      have w374 : Xi T16 904 93 = Xi S 904 93 := (show Xi T16 904 93 = Xi U8 904 93 from w361.x _ _ rfl).trans ( (show Xi U8 904 93 = Xi U7 904 93 from by rw [eU8]; exact Xi_ne (by omega)).trans ((show Xi U7 904 93 = Xi S 904 93 from by rw [eU7]; exact Xi_ne (by omega))))
      have w375 : 0 ≤ Xi S 904 93 ∧ Xi S 904 93 ≤ 1700 := hH.c _ _
      have w376 : Xi T16 904 94 = Xi S 904 94 := (show Xi T16 904 94 = Xi U8 904 94 from w361.x _ _ rfl).trans ( (show Xi U8 904 94 = Xi U7 904 94 from by rw [eU8]; exact Xi_ne (by omega)).trans ((show Xi U7 904 94 = Xi S 904 94 from by rw [eU7]; exact Xi_ne (by omega))))
      have w377 : 0 ≤ Xi S 904 94 ∧ Xi S 904 94 ≤ 1700 := hH.c _ _
      have w378 : Xi T16 904 98 = Xi S 904 98 := (show Xi T16 904 98 = Xi U8 904 98 from w361.x _ _ rfl).trans ( (show Xi U8 904 98 = Xi U7 904 98 from by rw [eU8]; exact Xi_ne (by omega)).trans ((show Xi U7 904 98 = Xi S 904 98 from by rw [eU7]; exact Xi_ne (by omega))))
      have w379 : 0 ≤ Xi S 904 98 ∧ Xi S 904 98 ≤ 1700 := hH.c _ _
      refine l_callV rfl rfl rfl (t_mo_run__2 hHT16 n c (by first | assumption | exact (TK_FR hFT16 rfl (by assumption : TK S _))) (by first | assumption | exact (by assumption : AT T16 _ _)) (by first | assumption | exact (RNV_FR w361 rfl (RNV_FR (FR_e eU8) rfl (RNV_FR (FR_e eU7) rfl (by assumption : RNV S _))))) (by first | assumption | exact (by assumption : BDA T16)) _) ?_
      rintro _ T17 ⟨hHT17, w387, z386, rfl, w386, w380, w381, w382, w383, w384, w385⟩
      have hFT17 : FR md_mo_rule__3 S T17 := FR.tr hFT16 w387 rfl
      show Rl _ _ _ _ _ [iv z386, .ref 904] _ _
      refine l_pfi rfl rfl rfl rfl ?_
      obtain ⟨U18, eU18⟩ : ∃ T : sS, T = uI T17 904 102 (Int32.ofInt z386) := ⟨_, rfl⟩
      rw [← eU18]
      have hHU18 : HI U18 := by rw [eU18]; exact HI_w hHT17 (show 0 ≤ z386 by omega) (show z386 ≤ 2600 by omega)
      have hFU18 : FR md_mo_rule__3 S U18 := by rw [eU18]; exact FR.wI hFT17 (mdf_i (r := (904, 905, 102, 103)) (List.mem_of_getElem? (i := 12) rfl) (inR_i (by omega) (by omega) (by omega) (by omega)))
      have w388 : Xi U18 904 102 = z386 := by rw [eU18]; exact Xi_same (by unfold rg; omega)
      have a47 : AT U18 n c := AT_FR (FR_e eU18) rfl (by assumption)
      have v47 : RNV U18 n := RNV_FR (FR_e eU18) rfl (by assumption)
      have s47_8 : Xi U18 904 8 = Xi T17 904 8 := by rw [eU18, Xi_ne (by omega)]
      have s47_65 : Xi U18 904 65 = Xi T17 904 65 := by rw [eU18, Xi_ne (by omega)]
      have s47_69 : Xi U18 904 69 = Xi T17 904 69 := by rw [eU18, Xi_ne (by omega)]
      have s47_8 : Xi U18 904 8 = Xi T17 904 8 := by rw [eU18, Xi_ne (by omega)]
      refine l_aload_n rfl rfl ?_
      refine l_iconst rfl ?_
      refine l_pfi rfl rfl rfl rfl ?_
      obtain ⟨U19, eU19⟩ : ∃ T : sS, T = uI U18 904 103 (Int32.ofInt (-1)) := ⟨_, rfl⟩
      rw [← eU19]
      have hHU19 : HI U19 := by rw [eU19]; exact HI_w hHU18 (show -1 ≤ (-1) by omega) (show (-1) ≤ 2600 by omega)
      have hFU19 : FR md_mo_rule__3 S U19 := by rw [eU19]; exact FR.wI hFU18 (mdf_i (r := (904, 905, 103, 104)) (List.mem_of_getElem? (i := 13) rfl) (inR_i (by omega) (by omega) (by omega) (by omega)))
      have w389 : Xi U19 904 103 = (-1) := by rw [eU19]; exact Xi_same (by unfold rg; omega)
      have a52 : AT U19 n c := AT_FR (FR_e eU19) rfl a47
      refine l_aload_n rfl rfl ?_
      have w390 : Xi U19 904 102 = Xi U18 904 102 := (show Xi U19 904 102 = Xi U18 904 102 from by rw [eU19]; exact Xi_ne (by omega))
      have w391 : 0 ≤ Xi U18 904 102 ∧ Xi U18 904 102 ≤ 2600 := hHU18.c _ _
      have w392 : -1 ≤ Xi U19 904 103 ∧ Xi U19 904 103 ≤ 2600 := hHU19.c _ _
      have w393 : Xi U19 904 65 = Xi T17 904 65 := (show Xi U19 904 65 = Xi U18 904 65 from by rw [eU19]; exact Xi_ne (by omega)).trans ((show Xi U18 904 65 = Xi T17 904 65 from by rw [eU18]; exact Xi_ne (by omega)))
      have w394 : 0 ≤ Xi T17 904 65 ∧ Xi T17 904 65 ≤ 1 := hHT17.c _ _
      have w395 : Xi U19 904 69 = Xi T17 904 69 := (show Xi U19 904 69 = Xi U18 904 69 from by rw [eU19]; exact Xi_ne (by omega)).trans ((show Xi U18 904 69 = Xi T17 904 69 from by rw [eU18]; exact Xi_ne (by omega)))
      have w396 : 0 ≤ Xi T17 904 69 ∧ Xi T17 904 69 ≤ 2600 := hHT17.c _ _
      have w397 : Xi U19 904 70 = Xi U7 904 70 := (show Xi U19 904 70 = Xi U18 904 70 from by rw [eU19]; exact Xi_ne (by omega)).trans ( (show Xi U18 904 70 = Xi T17 904 70 from by rw [eU18]; exact Xi_ne (by omega)).trans ( (show Xi T17 904 70 = Xi T16 904 70 from w387.x _ _ rfl).trans ( (show Xi T16 904 70 = Xi U8 904 70 from w361.x _ _ rfl).trans ((show Xi U8 904 70 = Xi U7 904 70 from by rw [eU8]; exact Xi_ne (by omega))))))
      have w398 : 0 ≤ Xi U7 904 70 ∧ Xi U7 904 70 ≤ 20 := hHU7.c _ _
      have w399 : Xi U19 904 8 = Xi T17 904 8 := (show Xi U19 904 8 = Xi U18 904 8 from by rw [eU19]; exact Xi_ne (by omega)).trans ((show Xi U18 904 8 = Xi T17 904 8 from by rw [eU18]; exact Xi_ne (by omega)))
      have w400 : 0 ≤ Xi T17 904 8 ∧ Xi T17 904 8 ≤ 5010 := hHT17.c _ _
      have w401 : Xi U19 904 93 = Xi S 904 93 := (show Xi U19 904 93 = Xi U18 904 93 from by rw [eU19]; exact Xi_ne (by omega)).trans ( (show Xi U18 904 93 = Xi T17 904 93 from by rw [eU18]; exact Xi_ne (by omega)).trans ( (show Xi T17 904 93 = Xi T16 904 93 from w387.x _ _ rfl).trans ( (show Xi T16 904 93 = Xi U8 904 93 from w361.x _ _ rfl).trans ( (show Xi U8 904 93 = Xi U7 904 93 from by rw [eU8]; exact Xi_ne (by omega)).trans ((show Xi U7 904 93 = Xi S 904 93 from by rw [eU7]; exact Xi_ne (by omega)))))))
      have w402 : 0 ≤ Xi S 904 93 ∧ Xi S 904 93 ≤ 1700 := hH.c _ _
      have w403 : Xi U19 904 94 = Xi S 904 94 := (show Xi U19 904 94 = Xi U18 904 94 from by rw [eU19]; exact Xi_ne (by omega)).trans ( (show Xi U18 904 94 = Xi T17 904 94 from by rw [eU18]; exact Xi_ne (by omega)).trans ( (show Xi T17 904 94 = Xi T16 904 94 from w387.x _ _ rfl).trans ( (show Xi T16 904 94 = Xi U8 904 94 from w361.x _ _ rfl).trans ( (show Xi U8 904 94 = Xi U7 904 94 from by rw [eU8]; exact Xi_ne (by omega)).trans ((show Xi U7 904 94 = Xi S 904 94 from by rw [eU7]; exact Xi_ne (by omega)))))))
      have w404 : 0 ≤ Xi S 904 94 ∧ Xi S 904 94 ≤ 1700 := hH.c _ _
      have w405 : Xi U19 904 98 = Xi S 904 98 := (show Xi U19 904 98 = Xi U18 904 98 from by rw [eU19]; exact Xi_ne (by omega)).trans ( (show Xi U18 904 98 = Xi T17 904 98 from by rw [eU18]; exact Xi_ne (by omega)).trans ( (show Xi T17 904 98 = Xi T16 904 98 from w387.x _ _ rfl).trans ( (show Xi T16 904 98 = Xi U8 904 98 from w361.x _ _ rfl).trans ( (show Xi U8 904 98 = Xi U7 904 98 from by rw [eU8]; exact Xi_ne (by omega)).trans ((show Xi U7 904 98 = Xi S 904 98 from by rw [eU7]; exact Xi_ne (by omega)))))))
      have w406 : 0 ≤ Xi S 904 98 ∧ Xi S 904 98 ≤ 1700 := hH.c _ _
      refine l_callV rfl rfl rfl (t_mo_look hHU19 n c (by first | assumption | exact (TK_FR hFU19 rfl (by assumption : TK S _))) (by first | assumption | exact (AT_FR (FR_e eU19) rfl (AT_FR (FR_e eU18) rfl (by assumption : AT T17 _ _)))) _) ?_
      rintro _ _ ⟨rfl, z408, rfl, w408, w407⟩
      show Rl _ _ _ _ _ [iv z408] _ _
      have l56 : z408 ≠ 1 → Xi U19 904 65 = 0 ∧ Xi U19 907 (Xi U19 904 8).toNat = z408 := by assumption
      have w409 : Xi U19 904 102 = Xi U18 904 102 := (show Xi U19 904 102 = Xi U18 904 102 from by rw [eU19]; exact Xi_ne (by omega))
      have w410 : 0 ≤ Xi U18 904 102 ∧ Xi U18 904 102 ≤ 2600 := hHU18.c _ _
      have w411 : -1 ≤ Xi U19 904 103 ∧ Xi U19 904 103 ≤ 2600 := hHU19.c _ _
      have w412 : Xi U19 904 65 = Xi T17 904 65 := (show Xi U19 904 65 = Xi U18 904 65 from by rw [eU19]; exact Xi_ne (by omega)).trans ((show Xi U18 904 65 = Xi T17 904 65 from by rw [eU18]; exact Xi_ne (by omega)))
      have w413 : 0 ≤ Xi T17 904 65 ∧ Xi T17 904 65 ≤ 1 := hHT17.c _ _
      have w414 : Xi U19 904 69 = Xi T17 904 69 := (show Xi U19 904 69 = Xi U18 904 69 from by rw [eU19]; exact Xi_ne (by omega)).trans ((show Xi U18 904 69 = Xi T17 904 69 from by rw [eU18]; exact Xi_ne (by omega)))
      have w415 : 0 ≤ Xi T17 904 69 ∧ Xi T17 904 69 ≤ 2600 := hHT17.c _ _
      have w416 : Xi U19 904 70 = Xi U7 904 70 := (show Xi U19 904 70 = Xi U18 904 70 from by rw [eU19]; exact Xi_ne (by omega)).trans ( (show Xi U18 904 70 = Xi T17 904 70 from by rw [eU18]; exact Xi_ne (by omega)).trans ( (show Xi T17 904 70 = Xi T16 904 70 from w387.x _ _ rfl).trans ( (show Xi T16 904 70 = Xi U8 904 70 from w361.x _ _ rfl).trans ((show Xi U8 904 70 = Xi U7 904 70 from by rw [eU8]; exact Xi_ne (by omega))))))
      have w417 : 0 ≤ Xi U7 904 70 ∧ Xi U7 904 70 ≤ 20 := hHU7.c _ _
      have w418 : Xi U19 904 8 = Xi T17 904 8 := (show Xi U19 904 8 = Xi U18 904 8 from by rw [eU19]; exact Xi_ne (by omega)).trans ((show Xi U18 904 8 = Xi T17 904 8 from by rw [eU18]; exact Xi_ne (by omega)))
      have w419 : 0 ≤ Xi T17 904 8 ∧ Xi T17 904 8 ≤ 5010 := hHT17.c _ _
      have w420 : Xi U19 904 93 = Xi S 904 93 := (show Xi U19 904 93 = Xi U18 904 93 from by rw [eU19]; exact Xi_ne (by omega)).trans ( (show Xi U18 904 93 = Xi T17 904 93 from by rw [eU18]; exact Xi_ne (by omega)).trans ( (show Xi T17 904 93 = Xi T16 904 93 from w387.x _ _ rfl).trans ( (show Xi T16 904 93 = Xi U8 904 93 from w361.x _ _ rfl).trans ( (show Xi U8 904 93 = Xi U7 904 93 from by rw [eU8]; exact Xi_ne (by omega)).trans ((show Xi U7 904 93 = Xi S 904 93 from by rw [eU7]; exact Xi_ne (by omega)))))))
      have w421 : 0 ≤ Xi S 904 93 ∧ Xi S 904 93 ≤ 1700 := hH.c _ _
      have w422 : Xi U19 904 94 = Xi S 904 94 := (show Xi U19 904 94 = Xi U18 904 94 from by rw [eU19]; exact Xi_ne (by omega)).trans ( (show Xi U18 904 94 = Xi T17 904 94 from by rw [eU18]; exact Xi_ne (by omega)).trans ( (show Xi T17 904 94 = Xi T16 904 94 from w387.x _ _ rfl).trans ( (show Xi T16 904 94 = Xi U8 904 94 from w361.x _ _ rfl).trans ( (show Xi U8 904 94 = Xi U7 904 94 from by rw [eU8]; exact Xi_ne (by omega)).trans ((show Xi U7 904 94 = Xi S 904 94 from by rw [eU7]; exact Xi_ne (by omega)))))))
      have w423 : 0 ≤ Xi S 904 94 ∧ Xi S 904 94 ≤ 1700 := hH.c _ _
      have w424 : Xi U19 904 98 = Xi S 904 98 := (show Xi U19 904 98 = Xi U18 904 98 from by rw [eU19]; exact Xi_ne (by omega)).trans ( (show Xi U18 904 98 = Xi T17 904 98 from by rw [eU18]; exact Xi_ne (by omega)).trans ( (show Xi T17 904 98 = Xi T16 904 98 from w387.x _ _ rfl).trans ( (show Xi T16 904 98 = Xi U8 904 98 from w361.x _ _ rfl).trans ( (show Xi U8 904 98 = Xi U7 904 98 from by rw [eU8]; exact Xi_ne (by omega)).trans ((show Xi U7 904 98 = Xi S 904 98 from by rw [eU7]; exact Xi_ne (by omega)))))))
      have w425 : 0 ≤ Xi S 904 98 ∧ Xi S 904 98 ≤ 1700 := hH.c _ _
      refine l_callS rfl rfl (by decide) rfl (t_mo_isArt hHU19 z408 ⟨by omega, by omega⟩ _) ?_
      rintro _ _ ⟨rfl, z427, rfl, w427, w426⟩
      show Rl _ _ _ _ _ [iv z427] _ _
      refine l_if_eq rfl rfl (by unfold rg; omega) (fun w428 => ?_) (fun w429 => ?_)
      · have w430 : Xi U19 904 102 = Xi U18 904 102 := (show Xi U19 904 102 = Xi U18 904 102 from by rw [eU19]; exact Xi_ne (by omega))
        have w431 : 0 ≤ Xi U18 904 102 ∧ Xi U18 904 102 ≤ 2600 := hHU18.c _ _
        have w432 : -1 ≤ Xi U19 904 103 ∧ Xi U19 904 103 ≤ 2600 := hHU19.c _ _
        have w433 : Xi U19 904 65 = Xi T17 904 65 := (show Xi U19 904 65 = Xi U18 904 65 from by rw [eU19]; exact Xi_ne (by omega)).trans ((show Xi U18 904 65 = Xi T17 904 65 from by rw [eU18]; exact Xi_ne (by omega)))
        have w434 : 0 ≤ Xi T17 904 65 ∧ Xi T17 904 65 ≤ 1 := hHT17.c _ _
        have w435 : Xi U19 904 69 = Xi T17 904 69 := (show Xi U19 904 69 = Xi U18 904 69 from by rw [eU19]; exact Xi_ne (by omega)).trans ((show Xi U18 904 69 = Xi T17 904 69 from by rw [eU18]; exact Xi_ne (by omega)))
        have w436 : 0 ≤ Xi T17 904 69 ∧ Xi T17 904 69 ≤ 2600 := hHT17.c _ _
        have w437 : Xi U19 904 70 = Xi U7 904 70 := (show Xi U19 904 70 = Xi U18 904 70 from by rw [eU19]; exact Xi_ne (by omega)).trans ( (show Xi U18 904 70 = Xi T17 904 70 from by rw [eU18]; exact Xi_ne (by omega)).trans ( (show Xi T17 904 70 = Xi T16 904 70 from w387.x _ _ rfl).trans ( (show Xi T16 904 70 = Xi U8 904 70 from w361.x _ _ rfl).trans ((show Xi U8 904 70 = Xi U7 904 70 from by rw [eU8]; exact Xi_ne (by omega))))))
        have w438 : 0 ≤ Xi U7 904 70 ∧ Xi U7 904 70 ≤ 20 := hHU7.c _ _
        have w439 : Xi U19 904 8 = Xi T17 904 8 := (show Xi U19 904 8 = Xi U18 904 8 from by rw [eU19]; exact Xi_ne (by omega)).trans ((show Xi U18 904 8 = Xi T17 904 8 from by rw [eU18]; exact Xi_ne (by omega)))
        have w440 : 0 ≤ Xi T17 904 8 ∧ Xi T17 904 8 ≤ 5010 := hHT17.c _ _
        have w441 : Xi U19 904 93 = Xi S 904 93 := (show Xi U19 904 93 = Xi U18 904 93 from by rw [eU19]; exact Xi_ne (by omega)).trans ( (show Xi U18 904 93 = Xi T17 904 93 from by rw [eU18]; exact Xi_ne (by omega)).trans ( (show Xi T17 904 93 = Xi T16 904 93 from w387.x _ _ rfl).trans ( (show Xi T16 904 93 = Xi U8 904 93 from w361.x _ _ rfl).trans ( (show Xi U8 904 93 = Xi U7 904 93 from by rw [eU8]; exact Xi_ne (by omega)).trans ((show Xi U7 904 93 = Xi S 904 93 from by rw [eU7]; exact Xi_ne (by omega)))))))
        have w442 : 0 ≤ Xi S 904 93 ∧ Xi S 904 93 ≤ 1700 := hH.c _ _
        have w443 : Xi U19 904 94 = Xi S 904 94 := (show Xi U19 904 94 = Xi U18 904 94 from by rw [eU19]; exact Xi_ne (by omega)).trans ( (show Xi U18 904 94 = Xi T17 904 94 from by rw [eU18]; exact Xi_ne (by omega)).trans ( (show Xi T17 904 94 = Xi T16 904 94 from w387.x _ _ rfl).trans ( (show Xi T16 904 94 = Xi U8 904 94 from w361.x _ _ rfl).trans ( (show Xi U8 904 94 = Xi U7 904 94 from by rw [eU8]; exact Xi_ne (by omega)).trans ((show Xi U7 904 94 = Xi S 904 94 from by rw [eU7]; exact Xi_ne (by omega)))))))
        have w444 : 0 ≤ Xi S 904 94 ∧ Xi S 904 94 ≤ 1700 := hH.c _ _
        have w445 : Xi U19 904 98 = Xi S 904 98 := (show Xi U19 904 98 = Xi U18 904 98 from by rw [eU19]; exact Xi_ne (by omega)).trans ( (show Xi U18 904 98 = Xi T17 904 98 from by rw [eU18]; exact Xi_ne (by omega)).trans ( (show Xi T17 904 98 = Xi T16 904 98 from w387.x _ _ rfl).trans ( (show Xi T16 904 98 = Xi U8 904 98 from w361.x _ _ rfl).trans ( (show Xi U8 904 98 = Xi U7 904 98 from by rw [eU8]; exact Xi_ne (by omega)).trans ((show Xi U7 904 98 = Xi S 904 98 from by rw [eU7]; exact Xi_ne (by omega)))))))
        have w446 : 0 ≤ Xi S 904 98 ∧ Xi S 904 98 ≤ 1700 := hH.c _ _
        exact Rl_weak (C83 U19 hHU19 hFU19  (by assumption) (by first | assumption | exact (RNV_FR (FR_e eU19) rfl (RNV_FR (FR_e eU18) rfl (by assumption : RNV T17 _)))) (by omega) (by omega) (by omega) (by omega) (by omega) (by omega) (by first | assumption | exact (PF_FR (FR_e eU19) rfl (PF_FR (FR_e eU18) rfl (PF_FR w387 rfl (PF_FR w361 rfl (PF_FR (FR_e eU8) rfl (PF_FR (FR_e eU7) rfl (by assumption : PF S)))))))) (by first | assumption | exact (BDA_FR (FR_e eU19) rfl (BDA_FR (FR_e eU18) rfl (by assumption : BDA T17))))) (And.intro rfl (True.intro))
      · refine l_aload_n rfl rfl ?_
        refine l_dup rfl rfl ?_
        refine l_gfi rfl rfl rfl rfl rfl ?_
        have w447 : 0 ≤ (Xi U19 904 8) ∧ (Xi U19 904 8) ≤ 5010 := hHU19.c _ _
        refine l_iconst rfl ?_
        refine l_iadd rfl ?_
        refine l_pfi rfl rfl rfl rfl ?_
        obtain ⟨U20, eU20⟩ : ∃ T : sS, T = uI U19 904 8 (Int32.ofInt ((Xi U19 904 8) + 1)) := ⟨_, rfl⟩
        rw [← eU20]
        have hHU20 : HI U20 := by rw [eU20]; exact HI_w hHU19 (show 0 ≤ ((Xi U19 904 8) + 1) by omega) (show ((Xi U19 904 8) + 1) ≤ 5010 by omega)
        have hFU20 : FR md_mo_rule__3 S U20 := by rw [eU20]; exact FR.wI hFU19 (mdf_i (r := (904, 905, 8, 9)) (List.mem_of_getElem? (i := 0) rfl) (inR_i (by omega) (by omega) (by omega) (by omega)))
        have w448 : Xi U20 904 8 = ((Xi U19 904 8) + 1) := by rw [eU20]; exact Xi_same (by unfold rg; omega)
        have t72 : AT U20 n c ∧ _ := at_mv (S := U19) (P := U19) (c2 := c) (TK_FR hFU19 rfl hT) (by assumption) (fun _ => rfl) (fun _ => rfl) rfl rfl rfl rfl eU20 (by omega) (by omega) (by omega) (by omega) (Or.inl rfl)
        have a72 : AT U20 n c := t72.1
        have l72 := t72.2
        refine l_aload_n rfl rfl ?_
        refine l_aload_n rfl rfl ?_
        have w449 : Xi U20 904 102 = Xi U18 904 102 := (show Xi U20 904 102 = Xi U19 904 102 from by rw [eU20]; exact Xi_ne (by omega)).trans ((show Xi U19 904 102 = Xi U18 904 102 from by rw [eU19]; exact Xi_ne (by omega)))
        have w450 : 0 ≤ Xi U18 904 102 ∧ Xi U18 904 102 ≤ 2600 := hHU18.c _ _
        have w451 : Xi U20 904 103 = Xi U19 904 103 := (show Xi U20 904 103 = Xi U19 904 103 from by rw [eU20]; exact Xi_ne (by omega))
        have w452 : -1 ≤ Xi U19 904 103 ∧ Xi U19 904 103 ≤ 2600 := hHU19.c _ _
        have w453 : Xi U20 904 65 = Xi T17 904 65 := (show Xi U20 904 65 = Xi U19 904 65 from by rw [eU20]; exact Xi_ne (by omega)).trans ( (show Xi U19 904 65 = Xi U18 904 65 from by rw [eU19]; exact Xi_ne (by omega)).trans ((show Xi U18 904 65 = Xi T17 904 65 from by rw [eU18]; exact Xi_ne (by omega))))
        have w454 : 0 ≤ Xi T17 904 65 ∧ Xi T17 904 65 ≤ 1 := hHT17.c _ _
        have w455 : Xi U20 904 69 = Xi T17 904 69 := (show Xi U20 904 69 = Xi U19 904 69 from by rw [eU20]; exact Xi_ne (by omega)).trans ( (show Xi U19 904 69 = Xi U18 904 69 from by rw [eU19]; exact Xi_ne (by omega)).trans ((show Xi U18 904 69 = Xi T17 904 69 from by rw [eU18]; exact Xi_ne (by omega))))
        have w456 : 0 ≤ Xi T17 904 69 ∧ Xi T17 904 69 ≤ 2600 := hHT17.c _ _
        have w457 : Xi U20 904 70 = Xi U7 904 70 := (show Xi U20 904 70 = Xi U19 904 70 from by rw [eU20]; exact Xi_ne (by omega)).trans ( (show Xi U19 904 70 = Xi U18 904 70 from by rw [eU19]; exact Xi_ne (by omega)).trans ( (show Xi U18 904 70 = Xi T17 904 70 from by rw [eU18]; exact Xi_ne (by omega)).trans ( (show Xi T17 904 70 = Xi T16 904 70 from w387.x _ _ rfl).trans ( (show Xi T16 904 70 = Xi U8 904 70 from w361.x _ _ rfl).trans ((show Xi U8 904 70 = Xi U7 904 70 from by rw [eU8]; exact Xi_ne (by omega)))))))
        have w458 : 0 ≤ Xi U7 904 70 ∧ Xi U7 904 70 ≤ 20 := hHU7.c _ _
        have w459 : 0 ≤ Xi U20 904 8 ∧ Xi U20 904 8 ≤ 5010 := hHU20.c _ _
        have w460 : Xi U20 904 93 = Xi S 904 93 := (show Xi U20 904 93 = Xi U19 904 93 from by rw [eU20]; exact Xi_ne (by omega)).trans ( (show Xi U19 904 93 = Xi U18 904 93 from by rw [eU19]; exact Xi_ne (by omega)).trans ( (show Xi U18 904 93 = Xi T17 904 93 from by rw [eU18]; exact Xi_ne (by omega)).trans ( (show Xi T17 904 93 = Xi T16 904 93 from w387.x _ _ rfl).trans ( (show Xi T16 904 93 = Xi U8 904 93 from w361.x _ _ rfl).trans ( (show Xi U8 904 93 = Xi U7 904 93 from by rw [eU8]; exact Xi_ne (by omega)).trans ((show Xi U7 904 93 = Xi S 904 93 from by rw [eU7]; exact Xi_ne (by omega))))))))
        have w461 : 0 ≤ Xi S 904 93 ∧ Xi S 904 93 ≤ 1700 := hH.c _ _
        have w462 : Xi U20 904 94 = Xi S 904 94 := (show Xi U20 904 94 = Xi U19 904 94 from by rw [eU20]; exact Xi_ne (by omega)).trans ( (show Xi U19 904 94 = Xi U18 904 94 from by rw [eU19]; exact Xi_ne (by omega)).trans ( (show Xi U18 904 94 = Xi T17 904 94 from by rw [eU18]; exact Xi_ne (by omega)).trans ( (show Xi T17 904 94 = Xi T16 904 94 from w387.x _ _ rfl).trans ( (show Xi T16 904 94 = Xi U8 904 94 from w361.x _ _ rfl).trans ( (show Xi U8 904 94 = Xi U7 904 94 from by rw [eU8]; exact Xi_ne (by omega)).trans ((show Xi U7 904 94 = Xi S 904 94 from by rw [eU7]; exact Xi_ne (by omega))))))))
        have w463 : 0 ≤ Xi S 904 94 ∧ Xi S 904 94 ≤ 1700 := hH.c _ _
        have w464 : Xi U20 904 98 = Xi S 904 98 := (show Xi U20 904 98 = Xi U19 904 98 from by rw [eU20]; exact Xi_ne (by omega)).trans ( (show Xi U19 904 98 = Xi U18 904 98 from by rw [eU19]; exact Xi_ne (by omega)).trans ( (show Xi U18 904 98 = Xi T17 904 98 from by rw [eU18]; exact Xi_ne (by omega)).trans ( (show Xi T17 904 98 = Xi T16 904 98 from w387.x _ _ rfl).trans ( (show Xi T16 904 98 = Xi U8 904 98 from w361.x _ _ rfl).trans ( (show Xi U8 904 98 = Xi U7 904 98 from by rw [eU8]; exact Xi_ne (by omega)).trans ((show Xi U7 904 98 = Xi S 904 98 from by rw [eU7]; exact Xi_ne (by omega))))))))
        have w465 : 0 ≤ Xi S 904 98 ∧ Xi S 904 98 ≤ 1700 := hH.c _ _
        refine l_callV rfl rfl rfl (t_mo_run__2 hHU20 n c (by first | assumption | exact (TK_FR hFU20 rfl (by assumption : TK S _))) (by first | assumption | exact (by assumption : AT U20 _ _)) (by first | assumption | exact (RNV_FR (FR_e eU20) rfl (RNV_FR (FR_e eU19) rfl (RNV_FR (FR_e eU18) rfl (by assumption : RNV T17 _))))) (by first | assumption | exact (BDA_FR (FR_e eU20) rfl (BDA_FR (FR_e eU19) rfl (BDA_FR (FR_e eU18) rfl (by assumption : BDA T17))))) _) ?_
        rintro _ T21 ⟨hHT21, w473, z472, rfl, w472, w466, w467, w468, w469, w470, w471⟩
        have hFT21 : FR md_mo_rule__3 S T21 := FR.tr hFU20 w473 rfl
        show Rl _ _ _ _ _ [iv z472, .ref 904] _ _
        refine l_pfi rfl rfl rfl rfl ?_
        obtain ⟨U22, eU22⟩ : ∃ T : sS, T = uI T21 904 103 (Int32.ofInt z472) := ⟨_, rfl⟩
        rw [← eU22]
        have hHU22 : HI U22 := by rw [eU22]; exact HI_w hHT21 (show -1 ≤ z472 by omega) (show z472 ≤ 2600 by omega)
        have hFU22 : FR md_mo_rule__3 S U22 := by rw [eU22]; exact FR.wI hFT21 (mdf_i (r := (904, 905, 103, 104)) (List.mem_of_getElem? (i := 13) rfl) (inR_i (by omega) (by omega) (by omega) (by omega)))
        have w474 : Xi U22 904 103 = z472 := by rw [eU22]; exact Xi_same (by unfold rg; omega)
        have a80 : AT U22 n c := AT_FR (FR_e eU22) rfl (by assumption)
        have w475 : Xi U22 904 102 = Xi U18 904 102 := (show Xi U22 904 102 = Xi T21 904 102 from by rw [eU22]; exact Xi_ne (by omega)).trans ( (show Xi T21 904 102 = Xi U20 904 102 from w473.x _ _ rfl).trans ( (show Xi U20 904 102 = Xi U19 904 102 from by rw [eU20]; exact Xi_ne (by omega)).trans ((show Xi U19 904 102 = Xi U18 904 102 from by rw [eU19]; exact Xi_ne (by omega)))))
        have w476 : 0 ≤ Xi U18 904 102 ∧ Xi U18 904 102 ≤ 2600 := hHU18.c _ _
        have w477 : -1 ≤ Xi U22 904 103 ∧ Xi U22 904 103 ≤ 2600 := hHU22.c _ _
        have w478 : Xi U22 904 65 = Xi T21 904 65 := (show Xi U22 904 65 = Xi T21 904 65 from by rw [eU22]; exact Xi_ne (by omega))
        have w479 : 0 ≤ Xi T21 904 65 ∧ Xi T21 904 65 ≤ 1 := hHT21.c _ _
        have w480 : Xi U22 904 69 = Xi T21 904 69 := (show Xi U22 904 69 = Xi T21 904 69 from by rw [eU22]; exact Xi_ne (by omega))
        have w481 : 0 ≤ Xi T21 904 69 ∧ Xi T21 904 69 ≤ 2600 := hHT21.c _ _
        have w482 : Xi U22 904 70 = Xi U7 904 70 := (show Xi U22 904 70 = Xi T21 904 70 from by rw [eU22]; exact Xi_ne (by omega)).trans ( (show Xi T21 904 70 = Xi U20 904 70 from w473.x _ _ rfl).trans ( (show Xi U20 904 70 = Xi U19 904 70 from by rw [eU20]; exact Xi_ne (by omega)).trans ( (show Xi U19 904 70 = Xi U18 904 70 from by rw [eU19]; exact Xi_ne (by omega)).trans ( (show Xi U18 904 70 = Xi T17 904 70 from by rw [eU18]; exact Xi_ne (by omega)).trans ( (show Xi T17 904 70 = Xi T16 904 70 from w387.x _ _ rfl).trans ( (show Xi T16 904 70 = Xi U8 904 70 from w361.x _ _ rfl).trans ((show Xi U8 904 70 = Xi U7 904 70 from by rw [eU8]; exact Xi_ne (by omega)))))))))
        have w483 : 0 ≤ Xi U7 904 70 ∧ Xi U7 904 70 ≤ 20 := hHU7.c _ _
        have w484 : Xi U22 904 8 = Xi T21 904 8 := (show Xi U22 904 8 = Xi T21 904 8 from by rw [eU22]; exact Xi_ne (by omega))
        have w485 : 0 ≤ Xi T21 904 8 ∧ Xi T21 904 8 ≤ 5010 := hHT21.c _ _
        have w486 : Xi U22 904 93 = Xi S 904 93 := (show Xi U22 904 93 = Xi T21 904 93 from by rw [eU22]; exact Xi_ne (by omega)).trans ( (show Xi T21 904 93 = Xi U20 904 93 from w473.x _ _ rfl).trans ( (show Xi U20 904 93 = Xi U19 904 93 from by rw [eU20]; exact Xi_ne (by omega)).trans ( (show Xi U19 904 93 = Xi U18 904 93 from by rw [eU19]; exact Xi_ne (by omega)).trans ( (show Xi U18 904 93 = Xi T17 904 93 from by rw [eU18]; exact Xi_ne (by omega)).trans ( (show Xi T17 904 93 = Xi T16 904 93 from w387.x _ _ rfl).trans ( (show Xi T16 904 93 = Xi U8 904 93 from w361.x _ _ rfl).trans ( (show Xi U8 904 93 = Xi U7 904 93 from by rw [eU8]; exact Xi_ne (by omega)).trans ((show Xi U7 904 93 = Xi S 904 93 from by rw [eU7]; exact Xi_ne (by omega))))))))))
        have w487 : 0 ≤ Xi S 904 93 ∧ Xi S 904 93 ≤ 1700 := hH.c _ _
        have w488 : Xi U22 904 94 = Xi S 904 94 := (show Xi U22 904 94 = Xi T21 904 94 from by rw [eU22]; exact Xi_ne (by omega)).trans ( (show Xi T21 904 94 = Xi U20 904 94 from w473.x _ _ rfl).trans ( (show Xi U20 904 94 = Xi U19 904 94 from by rw [eU20]; exact Xi_ne (by omega)).trans ( (show Xi U19 904 94 = Xi U18 904 94 from by rw [eU19]; exact Xi_ne (by omega)).trans ( (show Xi U18 904 94 = Xi T17 904 94 from by rw [eU18]; exact Xi_ne (by omega)).trans ( (show Xi T17 904 94 = Xi T16 904 94 from w387.x _ _ rfl).trans ( (show Xi T16 904 94 = Xi U8 904 94 from w361.x _ _ rfl).trans ( (show Xi U8 904 94 = Xi U7 904 94 from by rw [eU8]; exact Xi_ne (by omega)).trans ((show Xi U7 904 94 = Xi S 904 94 from by rw [eU7]; exact Xi_ne (by omega))))))))))
        have w489 : 0 ≤ Xi S 904 94 ∧ Xi S 904 94 ≤ 1700 := hH.c _ _
        have w490 : Xi U22 904 98 = Xi S 904 98 := (show Xi U22 904 98 = Xi T21 904 98 from by rw [eU22]; exact Xi_ne (by omega)).trans ( (show Xi T21 904 98 = Xi U20 904 98 from w473.x _ _ rfl).trans ( (show Xi U20 904 98 = Xi U19 904 98 from by rw [eU20]; exact Xi_ne (by omega)).trans ( (show Xi U19 904 98 = Xi U18 904 98 from by rw [eU19]; exact Xi_ne (by omega)).trans ( (show Xi U18 904 98 = Xi T17 904 98 from by rw [eU18]; exact Xi_ne (by omega)).trans ( (show Xi T17 904 98 = Xi T16 904 98 from w387.x _ _ rfl).trans ( (show Xi T16 904 98 = Xi U8 904 98 from w361.x _ _ rfl).trans ( (show Xi U8 904 98 = Xi U7 904 98 from by rw [eU8]; exact Xi_ne (by omega)).trans ((show Xi U7 904 98 = Xi S 904 98 from by rw [eU7]; exact Xi_ne (by omega))))))))))
        have w491 : 0 ≤ Xi S 904 98 ∧ Xi S 904 98 ≤ 1700 := hH.c _ _
        exact Rl_weak (C83 U22 hHU22 hFU22  (by assumption) (by first | assumption | exact (RNV_FR (FR_e eU22) rfl (by assumption : RNV T21 _))) (by omega) (by omega) (by omega) (by omega) (by omega) (by omega) (by first | assumption | exact (PF_FR (FR_e eU22) rfl (PF_FR w473 rfl (PF_FR (FR_e eU20) rfl (PF_FR (FR_e eU19) rfl (PF_FR (FR_e eU18) rfl (PF_FR w387 rfl (PF_FR w361 rfl (PF_FR (FR_e eU8) rfl (PF_FR (FR_e eU7) rfl (by assumption : PF S))))))))))) (by first | assumption | exact (BDA_FR (FR_e eU22) rfl (by assumption : BDA T21)))) (And.intro rfl (True.intro))
    · refine l_aload_n rfl rfl ?_
      refine l_sipush rfl rfl ?_
      have w492 : Xi T16 904 102 = Xi S 904 102 := (show Xi T16 904 102 = Xi U8 904 102 from w361.x _ _ rfl).trans ( (show Xi U8 904 102 = Xi U7 904 102 from by rw [eU8]; exact Xi_ne (by omega)).trans ((show Xi U7 904 102 = Xi S 904 102 from by rw [eU7]; exact Xi_ne (by omega))))
      have w493 : 0 ≤ Xi S 904 102 ∧ Xi S 904 102 ≤ 2600 := hH.c _ _
      have w494 : Xi T16 904 103 = Xi S 904 103 := (show Xi T16 904 103 = Xi U8 904 103 from w361.x _ _ rfl).trans ( (show Xi U8 904 103 = Xi U7 904 103 from by rw [eU8]; exact Xi_ne (by omega)).trans ((show Xi U7 904 103 = Xi S 904 103 from by rw [eU7]; exact Xi_ne (by omega))))
      have w495 : -1 ≤ Xi S 904 103 ∧ Xi S 904 103 ≤ 2600 := hH.c _ _
      have w496 : 0 ≤ Xi T16 904 65 ∧ Xi T16 904 65 ≤ 1 := hHT16.c _ _
      have w497 : Xi T16 904 69 = Xi S 904 69 := (show Xi T16 904 69 = Xi U8 904 69 from w361.x _ _ rfl).trans ( (show Xi U8 904 69 = Xi U7 904 69 from by rw [eU8]; exact Xi_ne (by omega)).trans ((show Xi U7 904 69 = Xi S 904 69 from by rw [eU7]; exact Xi_ne (by omega))))
      have w498 : 0 ≤ Xi S 904 69 ∧ Xi S 904 69 ≤ 2600 := hH.c _ _
      have w499 : Xi T16 904 70 = Xi U7 904 70 := (show Xi T16 904 70 = Xi U8 904 70 from w361.x _ _ rfl).trans ((show Xi U8 904 70 = Xi U7 904 70 from by rw [eU8]; exact Xi_ne (by omega)))
      have w500 : 0 ≤ Xi U7 904 70 ∧ Xi U7 904 70 ≤ 20 := hHU7.c _ _
      have w501 : 0 ≤ Xi T16 904 8 ∧ Xi T16 904 8 ≤ 5010 := hHT16.c _ _
      have w502 : Xi T16 904 93 = Xi S 904 93 := (show Xi T16 904 93 = Xi U8 904 93 from w361.x _ _ rfl).trans ( (show Xi U8 904 93 = Xi U7 904 93 from by rw [eU8]; exact Xi_ne (by omega)).trans ((show Xi U7 904 93 = Xi S 904 93 from by rw [eU7]; exact Xi_ne (by omega))))
      have w503 : 0 ≤ Xi S 904 93 ∧ Xi S 904 93 ≤ 1700 := hH.c _ _
      have w504 : Xi T16 904 94 = Xi S 904 94 := (show Xi T16 904 94 = Xi U8 904 94 from w361.x _ _ rfl).trans ( (show Xi U8 904 94 = Xi U7 904 94 from by rw [eU8]; exact Xi_ne (by omega)).trans ((show Xi U7 904 94 = Xi S 904 94 from by rw [eU7]; exact Xi_ne (by omega))))
      have w505 : 0 ≤ Xi S 904 94 ∧ Xi S 904 94 ≤ 1700 := hH.c _ _
      have w506 : Xi T16 904 98 = Xi S 904 98 := (show Xi T16 904 98 = Xi U8 904 98 from w361.x _ _ rfl).trans ( (show Xi U8 904 98 = Xi U7 904 98 from by rw [eU8]; exact Xi_ne (by omega)).trans ((show Xi U7 904 98 = Xi S 904 98 from by rw [eU7]; exact Xi_ne (by omega))))
      have w507 : 0 ≤ Xi S 904 98 ∧ Xi S 904 98 ≤ 1700 := hH.c _ _
      refine l_callV rfl rfl rfl (t_mo_take__3 hHT16 n c 142 ⟨by omega, by omega⟩ (by first | assumption | exact (TK_FR hFT16 rfl (by assumption : TK S _))) (by first | assumption | exact (by assumption : AT T16 _ _)) (by first | assumption | omega) (by first | assumption | exact (by assumption : BDA T16)) _) ?_
      rintro _ T23 ⟨hHT23, w514, rfl, w508, w509, w510, w511, w512⟩
      have hFT23 : FR md_mo_rule__3 S T23 := FR.tr hFT16 w514 rfl
      show Rl _ _ _ _ _ [] _ _
      refine l_goto rfl rfl ?_
      have w515 : Xi T23 904 102 = Xi S 904 102 := (show Xi T23 904 102 = Xi T16 904 102 from w514.x _ _ rfl).trans ( (show Xi T16 904 102 = Xi U8 904 102 from w361.x _ _ rfl).trans ( (show Xi U8 904 102 = Xi U7 904 102 from by rw [eU8]; exact Xi_ne (by omega)).trans ((show Xi U7 904 102 = Xi S 904 102 from by rw [eU7]; exact Xi_ne (by omega)))))
      have w516 : 0 ≤ Xi S 904 102 ∧ Xi S 904 102 ≤ 2600 := hH.c _ _
      have w517 : Xi T23 904 103 = Xi S 904 103 := (show Xi T23 904 103 = Xi T16 904 103 from w514.x _ _ rfl).trans ( (show Xi T16 904 103 = Xi U8 904 103 from w361.x _ _ rfl).trans ( (show Xi U8 904 103 = Xi U7 904 103 from by rw [eU8]; exact Xi_ne (by omega)).trans ((show Xi U7 904 103 = Xi S 904 103 from by rw [eU7]; exact Xi_ne (by omega)))))
      have w518 : -1 ≤ Xi S 904 103 ∧ Xi S 904 103 ≤ 2600 := hH.c _ _
      have w519 : 0 ≤ Xi T23 904 65 ∧ Xi T23 904 65 ≤ 1 := hHT23.c _ _
      have w520 : Xi T23 904 69 = Xi S 904 69 := (show Xi T23 904 69 = Xi T16 904 69 from w514.x _ _ rfl).trans ( (show Xi T16 904 69 = Xi U8 904 69 from w361.x _ _ rfl).trans ( (show Xi U8 904 69 = Xi U7 904 69 from by rw [eU8]; exact Xi_ne (by omega)).trans ((show Xi U7 904 69 = Xi S 904 69 from by rw [eU7]; exact Xi_ne (by omega)))))
      have w521 : 0 ≤ Xi S 904 69 ∧ Xi S 904 69 ≤ 2600 := hH.c _ _
      have w522 : Xi T23 904 70 = Xi U7 904 70 := (show Xi T23 904 70 = Xi T16 904 70 from w514.x _ _ rfl).trans ( (show Xi T16 904 70 = Xi U8 904 70 from w361.x _ _ rfl).trans ((show Xi U8 904 70 = Xi U7 904 70 from by rw [eU8]; exact Xi_ne (by omega))))
      have w523 : 0 ≤ Xi U7 904 70 ∧ Xi U7 904 70 ≤ 20 := hHU7.c _ _
      have w524 : 0 ≤ Xi T23 904 8 ∧ Xi T23 904 8 ≤ 5010 := hHT23.c _ _
      have w525 : Xi T23 904 93 = Xi S 904 93 := (show Xi T23 904 93 = Xi T16 904 93 from w514.x _ _ rfl).trans ( (show Xi T16 904 93 = Xi U8 904 93 from w361.x _ _ rfl).trans ( (show Xi U8 904 93 = Xi U7 904 93 from by rw [eU8]; exact Xi_ne (by omega)).trans ((show Xi U7 904 93 = Xi S 904 93 from by rw [eU7]; exact Xi_ne (by omega)))))
      have w526 : 0 ≤ Xi S 904 93 ∧ Xi S 904 93 ≤ 1700 := hH.c _ _
      have w527 : Xi T23 904 94 = Xi S 904 94 := (show Xi T23 904 94 = Xi T16 904 94 from w514.x _ _ rfl).trans ( (show Xi T16 904 94 = Xi U8 904 94 from w361.x _ _ rfl).trans ( (show Xi U8 904 94 = Xi U7 904 94 from by rw [eU8]; exact Xi_ne (by omega)).trans ((show Xi U7 904 94 = Xi S 904 94 from by rw [eU7]; exact Xi_ne (by omega)))))
      have w528 : 0 ≤ Xi S 904 94 ∧ Xi S 904 94 ≤ 1700 := hH.c _ _
      have w529 : Xi T23 904 98 = Xi S 904 98 := (show Xi T23 904 98 = Xi T16 904 98 from w514.x _ _ rfl).trans ( (show Xi T16 904 98 = Xi U8 904 98 from w361.x _ _ rfl).trans ( (show Xi U8 904 98 = Xi U7 904 98 from by rw [eU8]; exact Xi_ne (by omega)).trans ((show Xi U7 904 98 = Xi S 904 98 from by rw [eU7]; exact Xi_ne (by omega)))))
      have w530 : 0 ≤ Xi S 904 98 ∧ Xi S 904 98 ≤ 1700 := hH.c _ _
      exact Rl_weak (C83 T23 hHT23 hFT23  (by assumption) (by first | assumption | exact (RNV_FR w514 rfl (RNV_FR w361 rfl (RNV_FR (FR_e eU8) rfl (RNV_FR (FR_e eU7) rfl (by assumption : RNV S _)))))) (by omega) (by omega) (by omega) (by omega) (by omega) (by omega) (by first | assumption | exact (PF_FR w514 rfl (PF_FR w361 rfl (PF_FR (FR_e eU8) rfl (PF_FR (FR_e eU7) rfl (by assumption : PF S)))))) (by first | assumption | exact (by assumption : BDA T23))) (And.intro rfl (True.intro))

