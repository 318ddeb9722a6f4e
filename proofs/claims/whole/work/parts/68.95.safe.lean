/-! SAFETY of methods: printed by wip/safe (vc.py, decl.py) -/
def md_mo_phrases__3 : List rec := [(904, 905, 8, 9), (904, 905, 65, 66), (904, 905, 66, 67), (904, 905, 69, 70), (904, 905, 78, 79), (904, 905, 93, 94), (904, 905, 98, 99), (904, 905, 99, 100), (904, 905, 100, 101), (904, 905, 101, 102), (950, 951, 0, 100000), (951, 952, 0, 100000), (952, 953, 0, 100000), (953, 954, 0, 100000), (954, 955, 0, 100000), (955, 956, 0, 100000), (956, 957, 0, 100000), (957, 958, 0, 100000), (958, 959, 0, 100000), (959, 960, 0, 100000), (960, 961, 0, 100000), (961, 962, 0, 100000), (962, 963, 0, 100000), (963, 964, 0, 100000), (964, 965, 0, 100000), (965, 966, 0, 100000)]
abbrev Q_mo_phrases__3 (S : sS) (n : Nat) (c : Nat) : pst := fun r S1 => HI S1 ∧ FR md_mo_phrases__3 S S1 ∧ (r = none ∧ (AT S1 n c) ∧ (Xi S 904 8 ≤ Xi S1 904 8 ∧ (Xi S1 904 8 ≤ n ∨ Xi S1 904 8 = Xi S 904 8)) ∧ (RNV S1 n) ∧ (Xi S1 904 65 = 0 → Xi S 904 65 = 0) ∧ (Xi S 904 69 ≤ Xi S1 904 69) ∧ (Xi S1 904 65 = 0 → TVA S1 n (Xi S1 904 94)) ∧ (Xi S1 904 65 = 0 → PVA S1 n (Xi S1 904 98)) ∧ (Xi S1 904 65 = 0 → Xi S1 904 94 + Xi S1 904 98 ≤ Xi S1 904 93 ∧ Xi S1 904 93 ≤ 1666) ∧ (PF S1) ∧ (BDA S1))
set_option maxRecDepth 100000 in
theorem t_mo_phrases__3 {S : sS} (hH : HI S) (n : Nat) (c : Nat) (hT : TK S n) (hA : AT S n c) (hv : RNV S n) (hx : Xi S 904 8 ≤ n) (tc : Xi S 904 93 ≤ 1690) (p0 : Xi S 904 98 = 0) (hs : Xi S 904 94 ≤ Xi S 904 93) (tv : Xi S 904 65 = 0 → TVA S n (Xi S 904 94)) (hPF : PF S) (hBDA : BDA S) (d : Nat) : Mt lay0 (d + 8) m_mo_phrases [.ref 904] S (Q_mo_phrases__3 S n c) := by
  refine Mt_R rfl rfl ?_
  have hF : FR md_mo_phrases__3 S S := FR.rf
  have w1 : 0 ≤ Xi S 904 65 ∧ Xi S 904 65 ≤ 1 := hH.c _ _
  have w2 : 0 ≤ Xi S 904 69 ∧ Xi S 904 69 ≤ 2600 := hH.c _ _
  have w3 : 0 ≤ Xi S 904 8 ∧ Xi S 904 8 ≤ 5010 := hH.c _ _
  have w4 : 0 ≤ Xi S 904 93 ∧ Xi S 904 93 ≤ 1700 := hH.c _ _
  have w5 : 0 ≤ Xi S 904 94 ∧ Xi S 904 94 ≤ 1700 := hH.c _ _
  have w6 : 0 ≤ Xi S 904 98 ∧ Xi S 904 98 ≤ 1700 := hH.c _ _
  have hn5 := hT.1
  have hat := hA
  have h8 : 0 ≤ Xi S 904 8 ∧ Xi S 904 8 ≤ 5010 := hH.c _ _
  have h69 : 0 ≤ Xi S 904 69 ∧ Xi S 904 69 ≤ 2600 := hH.c _ _
  have ha0 : Xi S 904 65 = 0 → Xi S 904 8 ≤ n := fun q => (hA q).1
  have ha3 : Xi S 904 65 = 0 → 2 * Xi S 904 69 ≤ Xi S 904 8 + 1 := fun q => (hA q).2.1
  clear hat
  have C4 : ∀ (n4 : Nat) (T1 : sS) (_ : HI T1) (_ : FR md_mo_phrases__3 S T1), (AT T1 n c) → (RNV T1 n) → (Xi S 904 8 ≤ Xi T1 904 8) → (Xi T1 904 8 ≤ n) → (Xi T1 904 93 ≤ 1691) → (Xi T1 904 98 ≤ 1691) → (Xi S 904 69 ≤ Xi T1 904 69) → (Xi T1 904 65 = 0 → Xi S 904 65 = 0) → (Xi T1 904 65 = 0 → Xi T1 904 94 + Xi T1 904 98 ≤ Xi T1 904 93) → (Xi T1 904 65 = 0 → TVA T1 n (Xi T1 904 94)) → (Xi T1 904 65 = 0 → PVA T1 n (Xi T1 904 98)) → (PF T1) → (BDA T1) → n4 = (5002 - Xi T1 904 8).toNat → Rl lay0 (d + 7) m_mo_phrases 4 [(0, .ref 904)] [] T1 (Q_mo_phrases__3 S n c) := by
    intro n4
    induction n4 using Nat.strongRecOn with
    | ind n4 ih4 =>
      intro T1 hHT1 hFT1 A4 V4 w7 w8 w9 w10 w11 w12 w13 E4 G4 PF_4 BDA_4 hm4
      have w14 : Xi T1 904 94 = Xi S 904 94 := hFT1.x _ _ rfl
      have w15 : 0 ≤ Xi T1 904 65 ∧ Xi T1 904 65 ≤ 1 := hHT1.c _ _
      have w16 : 0 ≤ Xi T1 904 69 ∧ Xi T1 904 69 ≤ 2600 := hHT1.c _ _
      have w17 : 0 ≤ Xi T1 904 8 ∧ Xi T1 904 8 ≤ 5010 := hHT1.c _ _
      have w18 : 0 ≤ Xi T1 904 93 ∧ Xi T1 904 93 ≤ 1700 := hHT1.c _ _
      have w19 : 0 ≤ Xi T1 904 94 ∧ Xi T1 904 94 ≤ 1700 := hHT1.c _ _
      have w20 : 0 ≤ Xi T1 904 98 ∧ Xi T1 904 98 ≤ 1700 := hHT1.c _ _
      refine l_aload_n rfl rfl ?_
      refine l_bipush rfl rfl ?_
      refine l_callV rfl rfl rfl (t_mo_isNext hHT1 n c 59 ⟨by omega, by omega⟩ (by first | assumption | exact (TK_FR hFT1 rfl (by assumption : TK S _))) (by first | assumption | exact (by assumption : AT T1 _ _)) _) ?_
      rintro _ _ ⟨rfl, z29, rfl, w29, w27, w28⟩
      show Rl _ _ _ _ _ [iv z29] _ _
      have j7 : z29 = 1 → Xi T1 904 65 = 0 ∧ Xi T1 907 (Xi T1 904 8).toNat = 59 := by assumption
      refine l_if_eq rfl rfl (by unfold rg; omega) (fun w30 => ?_) (fun w31 => ?_)
      · refine l_return rfl rfl ?_
        exact ⟨hHT1, hFT1, rfl, (A4), (by omega), (V4), (by omega), (by omega), (E4), (G4), (fun q => by have t := at_tc A4 hHT1 q; omega), (by first | assumption | exact (by assumption : PF T1)), (by first | assumption | exact (by assumption : BDA T1))⟩
      · refine l_aload_n rfl rfl ?_
        refine l_dup rfl rfl ?_
        refine l_gfi rfl rfl rfl rfl rfl ?_
        refine l_iconst rfl ?_
        refine l_iadd rfl ?_
        refine l_pfi rfl rfl rfl rfl ?_
        obtain ⟨U2, eU2⟩ : ∃ T : sS, T = uI T1 904 8 (Int32.ofInt ((Xi T1 904 8) + 1)) := ⟨_, rfl⟩
        rw [← eU2]
        have hHU2 : HI U2 := by rw [eU2]; exact HI_w hHT1 (show 0 ≤ ((Xi T1 904 8) + 1) by omega) (show ((Xi T1 904 8) + 1) ≤ 5010 by omega)
        have hFU2 : FR md_mo_phrases__3 S U2 := by rw [eU2]; exact FR.wI hFT1 (mdf_i (r := (904, 905, 8, 9)) (List.mem_of_getElem? (i := 0) rfl) (inR_i (by omega) (by omega) (by omega) (by omega)))
        have w38 : Xi U2 904 8 = ((Xi T1 904 8) + 1) := by rw [eU2]; exact Xi_same (by unfold rg; omega)
        have t20 : AT U2 n c ∧ _ := at_mv (S := T1) (P := T1) (c2 := c) (TK_FR hFT1 rfl hT) A4 (fun _ => rfl) (fun _ => rfl) rfl rfl rfl rfl eU2 (by omega) (by omega) (by omega) (by omega) (Or.inl rfl)
        have a20 : AT U2 n c := t20.1
        have l20 := t20.2
        have b20 : Xi T1 904 93 ≤ 1666 := by have t := at_tc A4 hHT1 (by omega); omega
        have K20 : KT U2 T1 (Xi T1 904 93) := KT_FR (FR_e eU2) rfl KT.rf
        have Q20 : KP U2 T1 (Xi T1 904 98) := KP_FR (FR_e eU2) rfl KP.rf
        have x20 : ∀ j, Xi U2 907 j = Xi T1 907 j := fun j => by rw [eU2, Xi_ne (by omega)]
        have s20_94 : Xi U2 904 94 = Xi T1 904 94 := by rw [eU2, Xi_ne (by omega)]
        have s20_98 : Xi U2 904 98 = Xi T1 904 98 := by rw [eU2, Xi_ne (by omega)]
        have s20_69 : Xi U2 904 69 = Xi T1 904 69 := by rw [eU2, Xi_ne (by omega)]
        have s20_93 : Xi U2 904 93 = Xi T1 904 93 := by rw [eU2, Xi_ne (by omega)]
        refine l_aload_n rfl rfl ?_
        have w39 : Xi U2 904 65 = Xi T1 904 65 := (show Xi U2 904 65 = Xi T1 904 65 from by rw [eU2]; exact Xi_ne (by omega))
        have w41 : Xi U2 904 69 = Xi T1 904 69 := (show Xi U2 904 69 = Xi T1 904 69 from by rw [eU2]; exact Xi_ne (by omega))
        have w43 : 0 ≤ Xi U2 904 8 ∧ Xi U2 904 8 ≤ 5010 := hHU2.c _ _
        have w44 : Xi U2 904 93 = Xi T1 904 93 := (show Xi U2 904 93 = Xi T1 904 93 from by rw [eU2]; exact Xi_ne (by omega))
        have w46 : Xi U2 904 94 = Xi T1 904 94 := (show Xi U2 904 94 = Xi T1 904 94 from by rw [eU2]; exact Xi_ne (by omega))
        have w48 : Xi U2 904 98 = Xi T1 904 98 := (show Xi U2 904 98 = Xi T1 904 98 from by rw [eU2]; exact Xi_ne (by omega))
        refine l_callV rfl rfl rfl (t_mo_phrase__3 hHU2 n c (by first | assumption | exact (TK_FR hFU2 rfl (by assumption : TK S _))) (by first | assumption | exact (by assumption : AT U2 _ _)) (by first | assumption | exact (RNV_FR (FR_e eU2) rfl (by assumption : RNV T1 _))) (by first | assumption | omega) (by first | assumption | omega) (by first | assumption | omega) (by first | assumption | exact (PF_FR (FR_e eU2) rfl (by assumption : PF T1))) (by first | assumption | exact (BDA_FR (FR_e eU2) rfl (by assumption : BDA T1))) _) ?_
        rintro _ T3 ⟨hHT3, w61, rfl, w50, w51, w52, w53, w54, k24, p24, w55, w56, w57, v24, w58, w59⟩
        have hFT3 : FR md_mo_phrases__3 S T3 := FR.tr hFU2 w61 rfl
        show Rl _ _ _ _ _ [] _ _
        have f24 : ∀ j, Xi T3 907 j = Xi T1 907 j := fun j => ((by assumption : FR md_mo_phrase U2 T3).cx 907 rfl j).1.trans (x20 j)
        have y24 : Xi T3 904 94 = Xi U2 904 94 := (by assumption : FR md_mo_phrase U2 T3).x 904 94 rfl
        have K24 : KT T3 T1 (Xi T1 904 93) := KT.tr K20 k24 (by omega)
        have V24 : Xi T3 904 65 = 0 → TVA T3 n (Xi T3 904 94) := fun q => by rw [y24, s20_94]; exact (E4 (by omega)).mv (fun i hi k a b => K24 i (by omega) k a b) (by omega) (f24)
        have Q24 : KP T3 T1 (Xi T1 904 98) := fun i hi => by have a := p24 i (by omega); have b := Q20 i hi; exact ⟨a.1.trans b.1, a.2.1.trans b.2.1, a.2.2.trans b.2.2⟩
        have P24 : Xi T3 904 65 = 0 → PVA T3 n (Xi T3 904 98) := fun q => ((G4 (by omega)).mv hHT1 K24 Q24 (by omega) (by omega) f24).add (by omega) (by omega) (by rw [show (Xi T1 904 98).toNat = (Xi U2 904 98).toNat by omega]; exact v24 q)
        refine l_goto rfl rfl ?_
        have w62 : 0 ≤ Xi T3 904 65 ∧ Xi T3 904 65 ≤ 1 := hHT3.c _ _
        have w63 : 0 ≤ Xi T3 904 69 ∧ Xi T3 904 69 ≤ 2600 := hHT3.c _ _
        have w64 : 0 ≤ Xi T3 904 8 ∧ Xi T3 904 8 ≤ 5010 := hHT3.c _ _
        have w65 : 0 ≤ Xi T3 904 93 ∧ Xi T3 904 93 ≤ 1700 := hHT3.c _ _
        have w66 : Xi T3 904 94 = Xi T1 904 94 := (show Xi T3 904 94 = Xi U2 904 94 from w61.x _ _ rfl).trans ((show Xi U2 904 94 = Xi T1 904 94 from by rw [eU2]; exact Xi_ne (by omega)))
        have w68 : 0 ≤ Xi T3 904 98 ∧ Xi T3 904 98 ≤ 1700 := hHT3.c _ _
        exact Rl_weak (ih4 _ (by omega) T3 hHT3 hFT3  (by assumption) (by assumption) (by omega) (by omega) (by omega) (by omega) (by omega) (by omega) (by omega) (by first | exact V24 | exact V1) (by first | exact P24 | exact P1) (by first | assumption | exact (by assumption : PF T3)) (by first | assumption | exact (by assumption : BDA T3)) rfl) (And.intro rfl (True.intro))
  refine l_aload_n rfl rfl ?_
  refine l_callV rfl rfl rfl (t_mo_phrase__3 hH n c (by first | assumption | exact (TK_FR hF rfl (by assumption : TK S _))) (by first | assumption | exact (by assumption : AT S _ _)) (by first | assumption | exact (by assumption : RNV S _)) (by first | assumption | omega) (by first | assumption | omega) (by first | assumption | omega) (by first | assumption | exact (by assumption : PF S)) (by first | assumption | exact (by assumption : BDA S)) _) ?_
  rintro _ T4 ⟨hHT4, w86, rfl, w75, w76, w77, w78, w79, k1, p1, w80, w81, w82, v1_, w83, w84⟩
  have hFT4 : FR md_mo_phrases__3 S T4 := FR.tr hF w86 rfl
  show Rl _ _ _ _ _ [] _ _
  have y1 : Xi T4 904 94 = Xi S 904 94 := hFT4.x 904 94 rfl
  have V1 : Xi T4 904 65 = 0 → TVA T4 n (Xi T4 904 94) := fun q => by rw [y1]; exact (tv (by omega)).mv (fun i hi k a b => k1 i (by omega) k a b) (by omega) (fun j => (hFT4.cx 907 rfl j).1)
  have P1 : Xi T4 904 65 = 0 → PVA T4 n (Xi T4 904 98) := fun q i hi => by rw [show i = (Xi S 904 98).toNat by omega]; exact v1_ q
  have w87 : 0 ≤ Xi T4 904 65 ∧ Xi T4 904 65 ≤ 1 := hHT4.c _ _
  have w88 : 0 ≤ Xi T4 904 69 ∧ Xi T4 904 69 ≤ 2600 := hHT4.c _ _
  have w89 : 0 ≤ Xi T4 904 8 ∧ Xi T4 904 8 ≤ 5010 := hHT4.c _ _
  have w90 : 0 ≤ Xi T4 904 93 ∧ Xi T4 904 93 ≤ 1700 := hHT4.c _ _
  have w91 : Xi T4 904 94 = Xi S 904 94 := (show Xi T4 904 94 = Xi S 904 94 from w86.x _ _ rfl)
  have w93 : 0 ≤ Xi T4 904 98 ∧ Xi T4 904 98 ≤ 1700 := hHT4.c _ _
  exact Rl_weak (C4 _ T4 hHT4 hFT4  (by assumption) (by assumption) (by omega) (by omega) (by omega) (by omega) (by omega) (by omega) (by omega) (by first | exact V24 | exact V1) (by first | exact P24 | exact P1) (by first | assumption | exact (by assumption : PF T4)) (by first | assumption | exact (by assumption : BDA T4)) rfl) (And.intro rfl (True.intro))
def md_mo_rule__3 : List rec := [(904, 905, 8, 9), (904, 905, 65, 66), (904, 905, 66, 67), (904, 905, 69, 70), (904, 905, 70, 71), (904, 905, 78, 79), (904, 905, 93, 94), (904, 905, 94, 95), (904, 905, 98, 99), (904, 905, 99, 100), (904, 905, 100, 101), (904, 905, 101, 102), (904, 905, 102, 103), (904, 905, 103, 104), (950, 951, 0, 100000), (951, 952, 0, 100000), (952, 953, 0, 100000), (953, 954, 0, 100000), (954, 955, 0, 100000), (955, 956, 0, 100000), (956, 957, 0, 100000), (957, 958, 0, 100000), (958, 959, 0, 100000), (959, 960, 0, 100000), (960, 961, 0, 100000), (961, 962, 0, 100000), (962, 963, 0, 100000), (963, 964, 0, 100000), (964, 965, 0, 100000), (965, 966, 0, 100000)]
abbrev Q_mo_rule__3 (S : sS) (n : Nat) (c : Nat) (s : Int) : pst := fun r S1 => HI S1 ∧ FR md_mo_rule__3 S S1 ∧ (r = none ∧ (AT S1 n c) ∧ (Xi S 904 8 < Xi S1 904 8 ∧ Xi S1 904 8 ≤ n) ∧ (RNV S1 n) ∧ (Xi S 904 69 ≤ Xi S1 904 69) ∧ (Xi S1 904 70 = s) ∧ (Xi S1 904 65 = 0 → s ≠ 6 → Xi S1 904 102 < Xi S1 904 69 ∧ Xi S1 904 103 < Xi S1 904 69) ∧ (Xi S1 904 65 = 0 → TVA S1 n (Xi S1 904 94)) ∧ (Xi S1 904 65 = 0 → PVA S1 n (Xi S1 904 98)) ∧ (Xi S1 904 65 = 0 → Xi S1 904 94 + Xi S1 904 98 ≤ Xi S1 904 93 ∧ Xi S1 904 93 ≤ 1666) ∧ (PF S1) ∧ (BDA S1))
set_option maxRecDepth 100000 in
set_option maxHeartbeats 4000000 in
theorem c107_mo_rule__3 {S : sS} (hH : HI S) (n : Nat) (c : Nat) (s : Int) (hs : 3 ≤ s ∧ s ≤ 6) (hT : TK S n) (hA : AT S n c) (hv : RNV S n) (hb : Xi S 904 65 = 0) (hk : Xi S 907 (Xi S 904 8).toNat ≠ 1) (z1 : Xi S 904 93 = 0) (z2 : Xi S 904 94 = 0) (z3 : Xi S 904 98 = 0) (hPF : PF S) (hBDA : BDA S) (d : Nat) : ∀  (T1 : sS) (_ : HI T1) (_ : FR md_mo_rule__3 S T1), (AT T1 n c) → (RNV T1 n) → (Xi S 904 8 < Xi T1 904 8) → (Xi T1 904 8 ≤ n) → (Xi S 904 69 ≤ Xi T1 904 69) → (Xi T1 904 93 ≤ 1668 ∧ Xi T1 904 94 = Xi T1 904 93 ∧ Xi T1 904 98 = 0) → (Xi T1 904 70 = s) → (Xi T1 904 65 = 0 → s ≠ 6 → Xi T1 904 102 < Xi T1 904 69 ∧ Xi T1 904 103 < Xi T1 904 69) → (Xi T1 904 65 = 0 → TVA T1 n (Xi T1 904 94)) → (PF T1) → (BDA T1) → Rl lay0 (d + 8) m_mo_rule 107 [(0, .ref 904)] [] T1 (Q_mo_rule__3 S n c s) := by
  have hF : FR md_mo_rule__3 S S := FR.rf
  have w1 : 0 ≤ Xi S 904 102 ∧ Xi S 904 102 ≤ 2600 := hH.c _ _
  have w2 : -1 ≤ Xi S 904 103 ∧ Xi S 904 103 ≤ 2600 := hH.c _ _
  have w3 : 0 ≤ Xi S 904 65 ∧ Xi S 904 65 ≤ 1 := hH.c _ _
  have w4 : 0 ≤ Xi S 904 69 ∧ Xi S 904 69 ≤ 2600 := hH.c _ _
  have w5 : 0 ≤ Xi S 904 70 ∧ Xi S 904 70 ≤ 20 := hH.c _ _
  have w6 : 0 ≤ Xi S 904 8 ∧ Xi S 904 8 ≤ 5010 := hH.c _ _
  have w7 : 0 ≤ Xi S 904 93 ∧ Xi S 904 93 ≤ 1700 := hH.c _ _
  have w8 : 0 ≤ Xi S 904 94 ∧ Xi S 904 94 ≤ 1700 := hH.c _ _
  have w9 : 0 ≤ Xi S 904 98 ∧ Xi S 904 98 ≤ 1700 := hH.c _ _
  have hn5 := hT.1
  have hat := hA
  have h8 : 0 ≤ Xi S 904 8 ∧ Xi S 904 8 ≤ 5010 := hH.c _ _
  have h69 : 0 ≤ Xi S 904 69 ∧ Xi S 904 69 ≤ 2600 := hH.c _ _
  have ha0 : Xi S 904 65 = 0 → Xi S 904 8 ≤ n := fun q => (hA q).1
  have ha3 : Xi S 904 65 = 0 → 2 * Xi S 904 69 ≤ Xi S 904 8 + 1 := fun q => (hA q).2.1
  clear hat
  have hx := ha0 hb
  intro T1 hHT1 hFT1 A107 V107 w10 w11 w12 w13 w14 w15 E107 PF_107 BDA_107
  have w16 : 0 ≤ Xi T1 904 102 ∧ Xi T1 904 102 ≤ 2600 := hHT1.c _ _
  have w17 : -1 ≤ Xi T1 904 103 ∧ Xi T1 904 103 ≤ 2600 := hHT1.c _ _
  have w18 : 0 ≤ Xi T1 904 65 ∧ Xi T1 904 65 ≤ 1 := hHT1.c _ _
  have w19 : 0 ≤ Xi T1 904 69 ∧ Xi T1 904 69 ≤ 2600 := hHT1.c _ _
  have w20 : 0 ≤ Xi T1 904 70 ∧ Xi T1 904 70 ≤ 20 := hHT1.c _ _
  have w21 : 0 ≤ Xi T1 904 8 ∧ Xi T1 904 8 ≤ 5010 := hHT1.c _ _
  have w22 : 0 ≤ Xi T1 904 93 ∧ Xi T1 904 93 ≤ 1700 := hHT1.c _ _
  have w23 : 0 ≤ Xi T1 904 94 ∧ Xi T1 904 94 ≤ 1700 := hHT1.c _ _
  have w24 : 0 ≤ Xi T1 904 98 ∧ Xi T1 904 98 ≤ 1700 := hHT1.c _ _
  refine l_aload_n rfl rfl ?_
  refine l_bipush rfl rfl ?_
  refine l_callV rfl rfl rfl (t_mo_take__3 hHT1 n c 58 ⟨by omega, by omega⟩ (by first | assumption | exact (TK_FR hFT1 rfl (by assumption : TK S _))) (by first | assumption | exact (by assumption : AT T1 _ _)) (by first | assumption | omega) (by first | assumption | exact (by assumption : BDA T1)) _) ?_
  rintro _ T2 ⟨hHT2, w40, rfl, w34, w35, w36, w37, w38⟩
  have hFT2 : FR md_mo_rule__3 S T2 := FR.tr hFT1 w40 rfl
  show Rl _ _ _ _ _ [] _ _
  have T110 : Xi T2 904 65 = 0 → TVA T2 n (Xi T2 904 94) := fun q => by rw [(by assumption : FR md_mo_take T1 T2).x 904 94 rfl]; exact (E107 (by omega)).mv (KT_FR (by assumption : FR md_mo_take T1 T2) rfl KT.rf) (by rw [(by assumption : FR md_mo_take T1 T2).x 904 69 rfl]; exact Int.le_refl _) (fun j => ((by assumption : FR md_mo_take T1 T2).cx 907 rfl j).1)
  refine l_aload_n rfl rfl ?_
  have w45 : 0 ≤ Xi T2 904 65 ∧ Xi T2 904 65 ≤ 1 := hHT2.c _ _
  have w46 : Xi T2 904 69 = Xi T1 904 69 := (show Xi T2 904 69 = Xi T1 904 69 from w40.x _ _ rfl)
  have w50 : 0 ≤ Xi T2 904 8 ∧ Xi T2 904 8 ≤ 5010 := hHT2.c _ _
  have w51 : Xi T2 904 93 = Xi T1 904 93 := (show Xi T2 904 93 = Xi T1 904 93 from w40.x _ _ rfl)
  have w53 : Xi T2 904 94 = Xi T1 904 94 := (show Xi T2 904 94 = Xi T1 904 94 from w40.x _ _ rfl)
  have w55 : Xi T2 904 98 = Xi T1 904 98 := (show Xi T2 904 98 = Xi T1 904 98 from w40.x _ _ rfl)
  refine l_callV rfl rfl rfl (t_mo_phrases__3 hHT2 n c (by first | assumption | exact (TK_FR hFT2 rfl (by assumption : TK S _))) (by first | assumption | exact (by assumption : AT T2 _ _)) (by first | assumption | exact (RNV_FR w40 rfl (by assumption : RNV T1 _))) (by first | assumption | omega) (by first | assumption | omega) (by first | assumption | omega) (by first | assumption | omega) (by first | assumption | omega) (by first | assumption | exact (PF_FR w40 rfl (by assumption : PF T1))) (by first | assumption | exact (by assumption : BDA T2)) _) ?_
  rintro _ T3 ⟨hHT3, w68, rfl, w57, w58, w59, w60, w61, w62, w63, w64, w65, w66⟩
  have hFT3 : FR md_mo_rule__3 S T3 := FR.tr hFT2 w68 rfl
  show Rl _ _ _ _ _ [] _ _
  refine l_return rfl rfl ?_
  have w69 : Xi T3 904 102 = Xi T1 904 102 := (show Xi T3 904 102 = Xi T2 904 102 from w68.x _ _ rfl).trans ((show Xi T2 904 102 = Xi T1 904 102 from w40.x _ _ rfl))
  have w71 : Xi T3 904 103 = Xi T1 904 103 := (show Xi T3 904 103 = Xi T2 904 103 from w68.x _ _ rfl).trans ((show Xi T2 904 103 = Xi T1 904 103 from w40.x _ _ rfl))
  have w73 : 0 ≤ Xi T3 904 65 ∧ Xi T3 904 65 ≤ 1 := hHT3.c _ _
  have w74 : 0 ≤ Xi T3 904 69 ∧ Xi T3 904 69 ≤ 2600 := hHT3.c _ _
  have w75 : Xi T3 904 70 = Xi T1 904 70 := (show Xi T3 904 70 = Xi T2 904 70 from w68.x _ _ rfl).trans ((show Xi T2 904 70 = Xi T1 904 70 from w40.x _ _ rfl))
  have w77 : 0 ≤ Xi T3 904 8 ∧ Xi T3 904 8 ≤ 5010 := hHT3.c _ _
  have w78 : 0 ≤ Xi T3 904 93 ∧ Xi T3 904 93 ≤ 1700 := hHT3.c _ _
  have w79 : Xi T3 904 94 = Xi T1 904 94 := (show Xi T3 904 94 = Xi T2 904 94 from w68.x _ _ rfl).trans ((show Xi T2 904 94 = Xi T1 904 94 from w40.x _ _ rfl))
  have w81 : 0 ≤ Xi T3 904 98 ∧ Xi T3 904 98 ≤ 1700 := hHT3.c _ _
  exact ⟨hHT3, hFT3, rfl, (by first | assumption | exact (by assumption : AT T3 _ _)), (by omega), (by first | assumption | exact (by assumption : RNV T3 _)), (by omega), (by omega), (by omega), (by first | assumption | omega), (by first | assumption | omega), (by first | assumption | omega), (by first | assumption | exact (by assumption : PF T3)), (by first | assumption | exact (by assumption : BDA T3))⟩
set_option maxRecDepth 100000 in
set_option maxHeartbeats 4000000 in
theorem c83_mo_rule__3 {S : sS} (hH : HI S) (n : Nat) (c : Nat) (s : Int) (hs : 3 ≤ s ∧ s ≤ 6) (hT : TK S n) (hA : AT S n c) (hv : RNV S n) (hb : Xi S 904 65 = 0) (hk : Xi S 907 (Xi S 904 8).toNat ≠ 1) (z1 : Xi S 904 93 = 0) (z2 : Xi S 904 94 = 0) (z3 : Xi S 904 98 = 0) (hPF : PF S) (hBDA : BDA S) (d : Nat) : ∀  (T4 : sS) (_ : HI T4) (_ : FR md_mo_rule__3 S T4), (AT T4 n c) → (RNV T4 n) → (Xi S 904 8 < Xi T4 904 8) → (Xi T4 904 8 ≤ n) → (Xi S 904 69 ≤ Xi T4 904 69) → (Xi T4 904 93 = 0 ∧ Xi T4 904 94 = 0 ∧ Xi T4 904 98 = 0) → (Xi T4 904 70 = s) → (Xi T4 904 65 = 0 → s ≠ 6 → Xi T4 904 102 < Xi T4 904 69 ∧ Xi T4 904 103 < Xi T4 904 69) → (PF T4) → (BDA T4) → Rl lay0 (d + 8) m_mo_rule 83 [(0, .ref 904)] [] T4 (Q_mo_rule__3 S n c s) := by
  have C107 := c107_mo_rule__3 hH n c s hs hT hA hv hb hk z1 z2 z3 hPF hBDA d 
  have hF : FR md_mo_rule__3 S S := FR.rf
  have w1 : 0 ≤ Xi S 904 102 ∧ Xi S 904 102 ≤ 2600 := hH.c _ _
  have w2 : -1 ≤ Xi S 904 103 ∧ Xi S 904 103 ≤ 2600 := hH.c _ _
  have w3 : 0 ≤ Xi S 904 65 ∧ Xi S 904 65 ≤ 1 := hH.c _ _
  have w4 : 0 ≤ Xi S 904 69 ∧ Xi S 904 69 ≤ 2600 := hH.c _ _
  have w5 : 0 ≤ Xi S 904 70 ∧ Xi S 904 70 ≤ 20 := hH.c _ _
  have w6 : 0 ≤ Xi S 904 8 ∧ Xi S 904 8 ≤ 5010 := hH.c _ _
  have w7 : 0 ≤ Xi S 904 93 ∧ Xi S 904 93 ≤ 1700 := hH.c _ _
  have w8 : 0 ≤ Xi S 904 94 ∧ Xi S 904 94 ≤ 1700 := hH.c _ _
  have w9 : 0 ≤ Xi S 904 98 ∧ Xi S 904 98 ≤ 1700 := hH.c _ _
  have hn5 := hT.1
  have hat := hA
  have h8 : 0 ≤ Xi S 904 8 ∧ Xi S 904 8 ≤ 5010 := hH.c _ _
  have h69 : 0 ≤ Xi S 904 69 ∧ Xi S 904 69 ≤ 2600 := hH.c _ _
  have ha0 : Xi S 904 65 = 0 → Xi S 904 8 ≤ n := fun q => (hA q).1
  have ha3 : Xi S 904 65 = 0 → 2 * Xi S 904 69 ≤ Xi S 904 8 + 1 := fun q => (hA q).2.1
  clear hat
  have hx := ha0 hb
  intro T4 hHT4 hFT4 A83 V83 w82 w83 w84 w85 w86 w87 PF_83 BDA_83
  have w88 : 0 ≤ Xi T4 904 102 ∧ Xi T4 904 102 ≤ 2600 := hHT4.c _ _
  have w89 : -1 ≤ Xi T4 904 103 ∧ Xi T4 904 103 ≤ 2600 := hHT4.c _ _
  have w90 : 0 ≤ Xi T4 904 65 ∧ Xi T4 904 65 ≤ 1 := hHT4.c _ _
  have w91 : 0 ≤ Xi T4 904 69 ∧ Xi T4 904 69 ≤ 2600 := hHT4.c _ _
  have w92 : 0 ≤ Xi T4 904 70 ∧ Xi T4 904 70 ≤ 20 := hHT4.c _ _
  have w93 : 0 ≤ Xi T4 904 8 ∧ Xi T4 904 8 ≤ 5010 := hHT4.c _ _
  have w94 : 0 ≤ Xi T4 904 93 ∧ Xi T4 904 93 ≤ 1700 := hHT4.c _ _
  have w95 : 0 ≤ Xi T4 904 94 ∧ Xi T4 904 94 ≤ 1700 := hHT4.c _ _
  have w96 : 0 ≤ Xi T4 904 98 ∧ Xi T4 904 98 ≤ 1700 := hHT4.c _ _
  refine l_aload_n rfl rfl ?_
  refine l_sipush rfl rfl ?_
  refine l_callV rfl rfl rfl (t_mo_isNext hHT4 n c 137 ⟨by omega, by omega⟩ (by first | assumption | exact (TK_FR hFT4 rfl (by assumption : TK S _))) (by first | assumption | exact (by assumption : AT T4 _ _)) _) ?_
  rintro _ _ ⟨rfl, z108, rfl, w108, w106, w107⟩
  show Rl _ _ _ _ _ [iv z108] _ _
  have j87 : z108 = 1 → Xi T4 904 65 = 0 ∧ Xi T4 907 (Xi T4 904 8).toNat = 137 := by assumption
  refine l_if_eq rfl rfl (by unfold rg; omega) (fun w109 => ?_) (fun w110 => ?_)
  · have w111 : 0 ≤ Xi T4 904 102 ∧ Xi T4 904 102 ≤ 2600 := hHT4.c _ _
    exact Rl_weak (C107 T4 hHT4 hFT4  (by assumption) (by assumption) (by omega) (by omega) (by omega) (by omega) (by omega) (by omega) (by first | exact T104 | exact fun q i hi => absurd hi (by omega)) (by first | assumption | exact (by assumption : PF T4)) (by first | assumption | exact (by assumption : BDA T4))) (And.intro rfl (True.intro))
  · refine l_aload_n rfl rfl ?_
    refine l_dup rfl rfl ?_
    refine l_gfi rfl rfl rfl rfl rfl ?_
    refine l_iconst rfl ?_
    refine l_iadd rfl ?_
    refine l_pfi rfl rfl rfl rfl ?_
    obtain ⟨U5, eU5⟩ : ∃ T : sS, T = uI T4 904 8 (Int32.ofInt ((Xi T4 904 8) + 1)) := ⟨_, rfl⟩
    rw [← eU5]
    have hHU5 : HI U5 := by rw [eU5]; exact HI_w hHT4 (show 0 ≤ ((Xi T4 904 8) + 1) by omega) (show ((Xi T4 904 8) + 1) ≤ 5010 by omega)
    have hFU5 : FR md_mo_rule__3 S U5 := by rw [eU5]; exact FR.wI hFT4 (mdf_i (r := (904, 905, 8, 9)) (List.mem_of_getElem? (i := 0) rfl) (inR_i (by omega) (by omega) (by omega) (by omega)))
    have w120 : Xi U5 904 8 = ((Xi T4 904 8) + 1) := by rw [eU5]; exact Xi_same (by unfold rg; omega)
    have t100 : AT U5 n (c + 1) ∧ _ := at_mv (S := T4) (P := T4) (c2 := c + 1) (TK_FR hFT4 rfl hT) A83 (fun _ => rfl) (fun _ => rfl) rfl rfl rfl rfl eU5 (by omega) (by omega) (by omega) (by omega) (Or.inr ⟨rfl, by unfold K3; omega⟩)
    have a100 : AT U5 n (c + 1) := t100.1
    have l100 := t100.2
    refine l_aload_n rfl rfl ?_
    have w125 : Xi U5 904 65 = Xi T4 904 65 := (show Xi U5 904 65 = Xi T4 904 65 from by rw [eU5]; exact Xi_ne (by omega))
    have w127 : Xi U5 904 69 = Xi T4 904 69 := (show Xi U5 904 69 = Xi T4 904 69 from by rw [eU5]; exact Xi_ne (by omega))
    have w131 : 0 ≤ Xi U5 904 8 ∧ Xi U5 904 8 ≤ 5010 := hHU5.c _ _
    have w132 : Xi U5 904 93 = Xi T4 904 93 := (show Xi U5 904 93 = Xi T4 904 93 from by rw [eU5]; exact Xi_ne (by omega))
    have w134 : Xi U5 904 94 = Xi T4 904 94 := (show Xi U5 904 94 = Xi T4 904 94 from by rw [eU5]; exact Xi_ne (by omega))
    refine l_callV rfl rfl rfl (t_mo_tests__2 hHU5 n (c + 1) (by first | assumption | exact (TK_FR hFU5 rfl (by assumption : TK S _))) (by first | assumption | exact (by assumption : AT U5 _ _)) (by first | assumption | exact (RNV_FR (FR_e eU5) rfl (by assumption : RNV T4 _))) (by first | assumption | omega) (by first | assumption | omega) (by first | assumption | omega) (by first | assumption | exact (BDA_FR (FR_e eU5) rfl (by assumption : BDA T4))) _) ?_
    rintro _ T6 ⟨hHT6, w148, rfl, w138, w139, w140, w141, w142, w143, w144, w145, w146⟩
    have hFT6 : FR md_mo_rule__3 S T6 := FR.tr hFU5 w148 rfl
    show Rl _ _ _ _ _ [] _ _
    have a104 : AT T6 n c := (by assumption : AT T6 n (c + 1 - 1))
    have T104 : Xi T6 904 65 = 0 → TVA T6 n (Xi T6 904 94) := fun q => by rw [(by omega : Xi T6 904 94 = Xi T6 904 93)]; exact (by assumption : Xi T6 904 65 = 0 → TVA T6 n (Xi T6 904 93)) q
    have w149 : Xi T6 904 102 = Xi T4 904 102 := (show Xi T6 904 102 = Xi U5 904 102 from w148.x _ _ rfl).trans ((show Xi U5 904 102 = Xi T4 904 102 from by rw [eU5]; exact Xi_ne (by omega)))
    have w151 : Xi T6 904 103 = Xi T4 904 103 := (show Xi T6 904 103 = Xi U5 904 103 from w148.x _ _ rfl).trans ((show Xi U5 904 103 = Xi T4 904 103 from by rw [eU5]; exact Xi_ne (by omega)))
    have w153 : 0 ≤ Xi T6 904 65 ∧ Xi T6 904 65 ≤ 1 := hHT6.c _ _
    have w154 : 0 ≤ Xi T6 904 69 ∧ Xi T6 904 69 ≤ 2600 := hHT6.c _ _
    have w155 : Xi T6 904 70 = Xi T4 904 70 := (show Xi T6 904 70 = Xi U5 904 70 from w148.x _ _ rfl).trans ((show Xi U5 904 70 = Xi T4 904 70 from by rw [eU5]; exact Xi_ne (by omega)))
    have w157 : 0 ≤ Xi T6 904 8 ∧ Xi T6 904 8 ≤ 5010 := hHT6.c _ _
    have w158 : 0 ≤ Xi T6 904 93 ∧ Xi T6 904 93 ≤ 1700 := hHT6.c _ _
    have w159 : 0 ≤ Xi T6 904 94 ∧ Xi T6 904 94 ≤ 1700 := hHT6.c _ _
    have w160 : Xi T6 904 98 = Xi T4 904 98 := (show Xi T6 904 98 = Xi U5 904 98 from w148.x _ _ rfl).trans ((show Xi U5 904 98 = Xi T4 904 98 from by rw [eU5]; exact Xi_ne (by omega)))
    exact Rl_weak (C107 T6 hHT6 hFT6  (by assumption) (by assumption) (by omega) (by omega) (by omega) (by omega) (by omega) (by omega) (by first | exact T104 | exact fun q i hi => absurd hi (by omega)) (by first | assumption | exact (PF_FR w148 rfl (PF_FR (FR_e eU5) rfl (by assumption : PF T4)))) (by first | assumption | exact (by assumption : BDA T6))) (And.intro rfl (True.intro))
set_option maxRecDepth 100000 in
set_option maxHeartbeats 4000000 in
theorem t_mo_rule__3 {S : sS} (hH : HI S) (n : Nat) (c : Nat) (s : Int) (hs : 3 ≤ s ∧ s ≤ 6) (hT : TK S n) (hA : AT S n c) (hv : RNV S n) (hb : Xi S 904 65 = 0) (hk : Xi S 907 (Xi S 904 8).toNat ≠ 1) (z1 : Xi S 904 93 = 0) (z2 : Xi S 904 94 = 0) (z3 : Xi S 904 98 = 0) (hPF : PF S) (hBDA : BDA S) (d : Nat) : Mt lay0 (d + 9) m_mo_rule [.ref 904, iv s] S (Q_mo_rule__3 S n c s) := by
  refine Mt_R rfl rfl ?_
  have C107 := c107_mo_rule__3 hH n c s hs hT hA hv hb hk z1 z2 z3 hPF hBDA d 
  have C83 := c83_mo_rule__3 hH n c s hs hT hA hv hb hk z1 z2 z3 hPF hBDA d 
  have hF : FR md_mo_rule__3 S S := FR.rf
  have w1 : 0 ≤ Xi S 904 102 ∧ Xi S 904 102 ≤ 2600 := hH.c _ _
  have w2 : -1 ≤ Xi S 904 103 ∧ Xi S 904 103 ≤ 2600 := hH.c _ _
  have w3 : 0 ≤ Xi S 904 65 ∧ Xi S 904 65 ≤ 1 := hH.c _ _
  have w4 : 0 ≤ Xi S 904 69 ∧ Xi S 904 69 ≤ 2600 := hH.c _ _
  have w5 : 0 ≤ Xi S 904 70 ∧ Xi S 904 70 ≤ 20 := hH.c _ _
  have w6 : 0 ≤ Xi S 904 8 ∧ Xi S 904 8 ≤ 5010 := hH.c _ _
  have w7 : 0 ≤ Xi S 904 93 ∧ Xi S 904 93 ≤ 1700 := hH.c _ _
  have w8 : 0 ≤ Xi S 904 94 ∧ Xi S 904 94 ≤ 1700 := hH.c _ _
  have w9 : 0 ≤ Xi S 904 98 ∧ Xi S 904 98 ≤ 1700 := hH.c _ _
  have hn5 := hT.1
  have hat := hA
  have h8 : 0 ≤ Xi S 904 8 ∧ Xi S 904 8 ≤ 5010 := hH.c _ _
  have h69 : 0 ≤ Xi S 904 69 ∧ Xi S 904 69 ≤ 2600 := hH.c _ _
  have ha0 : Xi S 904 65 = 0 → Xi S 904 8 ≤ n := fun q => (hA q).1
  have ha3 : Xi S 904 65 = 0 → 2 * Xi S 904 69 ≤ Xi S 904 8 + 1 := fun q => (hA q).2.1
  clear hat
  have hx := ha0 hb
  refine l_aload_n rfl rfl ?_
  refine l_iload_n rfl rfl ?_
  refine l_pfi rfl rfl rfl rfl ?_
  obtain ⟨U7, eU7⟩ : ∃ T : sS, T = uI S 904 70 (Int32.ofInt s) := ⟨_, rfl⟩
  rw [← eU7]
  have hHU7 : HI U7 := by rw [eU7]; exact HI_w hH (show 0 ≤ s by omega) (show s ≤ 20 by omega)
  have hFU7 : FR md_mo_rule__3 S U7 := by rw [eU7]; exact FR.wI hF (mdf_i (r := (904, 905, 70, 71)) (List.mem_of_getElem? (i := 4) rfl) (inR_i (by omega) (by omega) (by omega) (by omega)))
  have w162 : Xi U7 904 70 = s := by rw [eU7]; exact Xi_same (by unfold rg; omega)
  have s2_8 : Xi U7 904 8 = Xi S 904 8 := by rw [eU7, Xi_ne (by omega)]
  have s2_65 : Xi U7 904 65 = Xi S 904 65 := by rw [eU7, Xi_ne (by omega)]
  have s2_69 : Xi U7 904 69 = Xi S 904 69 := by rw [eU7, Xi_ne (by omega)]
  have s2_93 : Xi U7 904 93 = Xi S 904 93 := by rw [eU7, Xi_ne (by omega)]
  refine l_aload_n rfl rfl ?_
  refine l_dup rfl rfl ?_
  refine l_gfi rfl rfl rfl rfl rfl ?_
  have w163 : (Xi U7 904 8) = (Xi S 904 8) := (show Xi U7 904 8 = Xi S 904 8 from by rw [eU7]; exact Xi_ne (by omega))
  rw [w163]
  refine l_iconst rfl ?_
  refine l_iadd rfl ?_
  refine l_pfi rfl rfl rfl rfl ?_
  obtain ⟨U8, eU8⟩ : ∃ T : sS, T = uI U7 904 8 (Int32.ofInt ((Xi S 904 8) + 1)) := ⟨_, rfl⟩
  rw [← eU8]
  have hHU8 : HI U8 := by rw [eU8]; exact HI_w hHU7 (show 0 ≤ ((Xi S 904 8) + 1) by omega) (show ((Xi S 904 8) + 1) ≤ 5010 by omega)
  have hFU8 : FR md_mo_rule__3 S U8 := by rw [eU8]; exact FR.wI hFU7 (mdf_i (r := (904, 905, 8, 9)) (List.mem_of_getElem? (i := 0) rfl) (inR_i (by omega) (by omega) (by omega) (by omega)))
  have w164 : Xi U8 904 8 = ((Xi S 904 8) + 1) := by rw [eU8]; exact Xi_same (by unfold rg; omega)
  have t12 : AT U8 n c ∧ _ := at_mv hT hA (fun j => (hFU7.cx 907 rfl j).1) (fun j => (hFU7.cx 908 rfl j).1) (by omega) (by omega) (by omega) (by omega) eU8 (by omega) (by omega) (by omega) (by omega) (Or.inl rfl)
  have a12 : AT U8 n c := t12.1
  refine l_iload_n rfl rfl ?_
  refine l_iconst rfl ?_
  refine l_icmp_ne rfl rfl (by unfold rg; omega) (by unfold rg; omega) (fun w165 => ?_) (fun w166 => ?_)
  · refine l_iload_n rfl rfl ?_
    refine l_bipush rfl rfl ?_
    refine l_icmp_ne rfl rfl (by unfold rg; omega) (by unfold rg; omega) (fun w167 => ?_) (fun w168 => ?_)
    · refine l_aload_n rfl rfl ?_
      refine l_aload_n rfl rfl ?_
      have w169 : Xi U8 904 102 = Xi S 904 102 := (show Xi U8 904 102 = Xi U7 904 102 from by rw [eU8]; exact Xi_ne (by omega)).trans ((show Xi U7 904 102 = Xi S 904 102 from by rw [eU7]; exact Xi_ne (by omega)))
      have w171 : Xi U8 904 103 = Xi S 904 103 := (show Xi U8 904 103 = Xi U7 904 103 from by rw [eU8]; exact Xi_ne (by omega)).trans ((show Xi U7 904 103 = Xi S 904 103 from by rw [eU7]; exact Xi_ne (by omega)))
      have w173 : Xi U8 904 65 = Xi S 904 65 := (show Xi U8 904 65 = Xi U7 904 65 from by rw [eU8]; exact Xi_ne (by omega)).trans ((show Xi U7 904 65 = Xi S 904 65 from by rw [eU7]; exact Xi_ne (by omega)))
      have w175 : Xi U8 904 69 = Xi S 904 69 := (show Xi U8 904 69 = Xi U7 904 69 from by rw [eU8]; exact Xi_ne (by omega)).trans ((show Xi U7 904 69 = Xi S 904 69 from by rw [eU7]; exact Xi_ne (by omega)))
      have w177 : Xi U8 904 70 = Xi U7 904 70 := (show Xi U8 904 70 = Xi U7 904 70 from by rw [eU8]; exact Xi_ne (by omega))
      have w178 : 0 ≤ Xi U7 904 70 ∧ Xi U7 904 70 ≤ 20 := hHU7.c _ _
      have w179 : 0 ≤ Xi U8 904 8 ∧ Xi U8 904 8 ≤ 5010 := hHU8.c _ _
      have w180 : Xi U8 904 93 = Xi S 904 93 := (show Xi U8 904 93 = Xi U7 904 93 from by rw [eU8]; exact Xi_ne (by omega)).trans ((show Xi U7 904 93 = Xi S 904 93 from by rw [eU7]; exact Xi_ne (by omega)))
      have w182 : Xi U8 904 94 = Xi S 904 94 := (show Xi U8 904 94 = Xi U7 904 94 from by rw [eU8]; exact Xi_ne (by omega)).trans ((show Xi U7 904 94 = Xi S 904 94 from by rw [eU7]; exact Xi_ne (by omega)))
      have w184 : Xi U8 904 98 = Xi S 904 98 := (show Xi U8 904 98 = Xi U7 904 98 from by rw [eU8]; exact Xi_ne (by omega)).trans ((show Xi U7 904 98 = Xi S 904 98 from by rw [eU7]; exact Xi_ne (by omega)))
      refine l_callV rfl rfl rfl (t_mo_run__2 hHU8 n c (by first | assumption | exact (TK_FR hFU8 rfl (by assumption : TK S _))) (by first | assumption | exact (by assumption : AT U8 _ _)) (by first | assumption | exact (RNV_FR (FR_e eU8) rfl (RNV_FR (FR_e eU7) rfl (by assumption : RNV S _)))) (by first | assumption | exact (BDA_FR (FR_e eU8) rfl (BDA_FR (FR_e eU7) rfl (by assumption : BDA S)))) _) ?_
      rintro _ T9 ⟨hHT9, w193, z192, rfl, w192, w186, w187, w188, w189, w190, w191⟩
      have hFT9 : FR md_mo_rule__3 S T9 := FR.tr hFU8 w193 rfl
      show Rl _ _ _ _ _ [iv z192, .ref 904] _ _
      refine l_pfi rfl rfl rfl rfl ?_
      obtain ⟨U10, eU10⟩ : ∃ T : sS, T = uI T9 904 102 (Int32.ofInt z192) := ⟨_, rfl⟩
      rw [← eU10]
      have hHU10 : HI U10 := by rw [eU10]; exact HI_w hHT9 (show 0 ≤ z192 by omega) (show z192 ≤ 2600 by omega)
      have hFU10 : FR md_mo_rule__3 S U10 := by rw [eU10]; exact FR.wI hFT9 (mdf_i (r := (904, 905, 102, 103)) (List.mem_of_getElem? (i := 12) rfl) (inR_i (by omega) (by omega) (by omega) (by omega)))
      have w194 : Xi U10 904 102 = z192 := by rw [eU10]; exact Xi_same (by unfold rg; omega)
      have a47 : AT U10 n c := AT_FR (FR_e eU10) rfl (by assumption)
      have v47 : RNV U10 n := RNV_FR (FR_e eU10) rfl (by assumption)
      have s47_8 : Xi U10 904 8 = Xi T9 904 8 := by rw [eU10, Xi_ne (by omega)]
      have s47_65 : Xi U10 904 65 = Xi T9 904 65 := by rw [eU10, Xi_ne (by omega)]
      have s47_69 : Xi U10 904 69 = Xi T9 904 69 := by rw [eU10, Xi_ne (by omega)]
      have s47_8 : Xi U10 904 8 = Xi T9 904 8 := by rw [eU10, Xi_ne (by omega)]
      refine l_aload_n rfl rfl ?_
      refine l_iconst rfl ?_
      refine l_pfi rfl rfl rfl rfl ?_
      obtain ⟨U11, eU11⟩ : ∃ T : sS, T = uI U10 904 103 (Int32.ofInt (-1)) := ⟨_, rfl⟩
      rw [← eU11]
      have hHU11 : HI U11 := by rw [eU11]; exact HI_w hHU10 (show -1 ≤ (-1) by omega) (show (-1) ≤ 2600 by omega)
      have hFU11 : FR md_mo_rule__3 S U11 := by rw [eU11]; exact FR.wI hFU10 (mdf_i (r := (904, 905, 103, 104)) (List.mem_of_getElem? (i := 13) rfl) (inR_i (by omega) (by omega) (by omega) (by omega)))
      have w195 : Xi U11 904 103 = (-1) := by rw [eU11]; exact Xi_same (by unfold rg; omega)
      have a52 : AT U11 n c := AT_FR (FR_e eU11) rfl a47
      refine l_aload_n rfl rfl ?_
      have w196 : Xi U11 904 102 = Xi U10 904 102 := (show Xi U11 904 102 = Xi U10 904 102 from by rw [eU11]; exact Xi_ne (by omega))
      have w197 : 0 ≤ Xi U10 904 102 ∧ Xi U10 904 102 ≤ 2600 := hHU10.c _ _
      have w198 : -1 ≤ Xi U11 904 103 ∧ Xi U11 904 103 ≤ 2600 := hHU11.c _ _
      have w199 : Xi U11 904 65 = Xi T9 904 65 := (show Xi U11 904 65 = Xi U10 904 65 from by rw [eU11]; exact Xi_ne (by omega)).trans ((show Xi U10 904 65 = Xi T9 904 65 from by rw [eU10]; exact Xi_ne (by omega)))
      have w200 : 0 ≤ Xi T9 904 65 ∧ Xi T9 904 65 ≤ 1 := hHT9.c _ _
      have w201 : Xi U11 904 69 = Xi T9 904 69 := (show Xi U11 904 69 = Xi U10 904 69 from by rw [eU11]; exact Xi_ne (by omega)).trans ((show Xi U10 904 69 = Xi T9 904 69 from by rw [eU10]; exact Xi_ne (by omega)))
      have w202 : 0 ≤ Xi T9 904 69 ∧ Xi T9 904 69 ≤ 2600 := hHT9.c _ _
      have w203 : Xi U11 904 70 = Xi U7 904 70 := (show Xi U11 904 70 = Xi U10 904 70 from by rw [eU11]; exact Xi_ne (by omega)).trans ( (show Xi U10 904 70 = Xi T9 904 70 from by rw [eU10]; exact Xi_ne (by omega)).trans ( (show Xi T9 904 70 = Xi U8 904 70 from w193.x _ _ rfl).trans ((show Xi U8 904 70 = Xi U7 904 70 from by rw [eU8]; exact Xi_ne (by omega)))))
      have w205 : Xi U11 904 8 = Xi T9 904 8 := (show Xi U11 904 8 = Xi U10 904 8 from by rw [eU11]; exact Xi_ne (by omega)).trans ((show Xi U10 904 8 = Xi T9 904 8 from by rw [eU10]; exact Xi_ne (by omega)))
      have w206 : 0 ≤ Xi T9 904 8 ∧ Xi T9 904 8 ≤ 5010 := hHT9.c _ _
      have w207 : Xi U11 904 93 = Xi S 904 93 := (show Xi U11 904 93 = Xi U10 904 93 from by rw [eU11]; exact Xi_ne (by omega)).trans ( (show Xi U10 904 93 = Xi T9 904 93 from by rw [eU10]; exact Xi_ne (by omega)).trans ( (show Xi T9 904 93 = Xi U8 904 93 from w193.x _ _ rfl).trans ( (show Xi U8 904 93 = Xi U7 904 93 from by rw [eU8]; exact Xi_ne (by omega)).trans ((show Xi U7 904 93 = Xi S 904 93 from by rw [eU7]; exact Xi_ne (by omega))))))
      have w209 : Xi U11 904 94 = Xi S 904 94 := (show Xi U11 904 94 = Xi U10 904 94 from by rw [eU11]; exact Xi_ne (by omega)).trans ( (show Xi U10 904 94 = Xi T9 904 94 from by rw [eU10]; exact Xi_ne (by omega)).trans ( (show Xi T9 904 94 = Xi U8 904 94 from w193.x _ _ rfl).trans ( (show Xi U8 904 94 = Xi U7 904 94 from by rw [eU8]; exact Xi_ne (by omega)).trans ((show Xi U7 904 94 = Xi S 904 94 from by rw [eU7]; exact Xi_ne (by omega))))))
      have w211 : Xi U11 904 98 = Xi S 904 98 := (show Xi U11 904 98 = Xi U10 904 98 from by rw [eU11]; exact Xi_ne (by omega)).trans ( (show Xi U10 904 98 = Xi T9 904 98 from by rw [eU10]; exact Xi_ne (by omega)).trans ( (show Xi T9 904 98 = Xi U8 904 98 from w193.x _ _ rfl).trans ( (show Xi U8 904 98 = Xi U7 904 98 from by rw [eU8]; exact Xi_ne (by omega)).trans ((show Xi U7 904 98 = Xi S 904 98 from by rw [eU7]; exact Xi_ne (by omega))))))
      refine l_callV rfl rfl rfl (t_mo_look hHU11 n c (by first | assumption | exact (TK_FR hFU11 rfl (by assumption : TK S _))) (by first | assumption | exact (AT_FR (FR_e eU11) rfl (AT_FR (FR_e eU10) rfl (by assumption : AT T9 _ _)))) _) ?_
      rintro _ _ ⟨rfl, z214, rfl, w214, w213⟩
      show Rl _ _ _ _ _ [iv z214] _ _
      have l56 : z214 ≠ 1 → Xi U11 904 65 = 0 ∧ Xi U11 907 (Xi U11 904 8).toNat = z214 := by assumption
      refine l_callS rfl rfl (by decide) rfl (t_mo_isArt hHU11 z214 ⟨by omega, by omega⟩ _) ?_
      rintro _ _ ⟨rfl, z233, rfl, w233, w232⟩
      show Rl _ _ _ _ _ [iv z233] _ _
      refine l_if_eq rfl rfl (by unfold rg; omega) (fun w234 => ?_) (fun w235 => ?_)
      · have w236 : Xi U11 904 102 = Xi U10 904 102 := (show Xi U11 904 102 = Xi U10 904 102 from by rw [eU11]; exact Xi_ne (by omega))
        exact Rl_weak (C83 U11 hHU11 hFU11  (by assumption) (by first | assumption | exact (RNV_FR (FR_e eU11) rfl (RNV_FR (FR_e eU10) rfl (by assumption : RNV T9 _)))) (by omega) (by omega) (by omega) (by omega) (by omega) (by omega) (by first | assumption | exact (PF_FR (FR_e eU11) rfl (PF_FR (FR_e eU10) rfl (PF_FR w193 rfl (PF_FR (FR_e eU8) rfl (PF_FR (FR_e eU7) rfl (by assumption : PF S))))))) (by first | assumption | exact (BDA_FR (FR_e eU11) rfl (BDA_FR (FR_e eU10) rfl (by assumption : BDA T9))))) (And.intro rfl (True.intro))
      · refine l_aload_n rfl rfl ?_
        refine l_dup rfl rfl ?_
        refine l_gfi rfl rfl rfl rfl rfl ?_
        have w253 : 0 ≤ (Xi U11 904 8) ∧ (Xi U11 904 8) ≤ 5010 := hHU11.c _ _
        refine l_iconst rfl ?_
        refine l_iadd rfl ?_
        refine l_pfi rfl rfl rfl rfl ?_
        obtain ⟨U12, eU12⟩ : ∃ T : sS, T = uI U11 904 8 (Int32.ofInt ((Xi U11 904 8) + 1)) := ⟨_, rfl⟩
        rw [← eU12]
        have hHU12 : HI U12 := by rw [eU12]; exact HI_w hHU11 (show 0 ≤ ((Xi U11 904 8) + 1) by omega) (show ((Xi U11 904 8) + 1) ≤ 5010 by omega)
        have hFU12 : FR md_mo_rule__3 S U12 := by rw [eU12]; exact FR.wI hFU11 (mdf_i (r := (904, 905, 8, 9)) (List.mem_of_getElem? (i := 0) rfl) (inR_i (by omega) (by omega) (by omega) (by omega)))
        have w254 : Xi U12 904 8 = ((Xi U11 904 8) + 1) := by rw [eU12]; exact Xi_same (by unfold rg; omega)
        have t72 : AT U12 n c ∧ _ := at_mv (S := U11) (P := U11) (c2 := c) (TK_FR hFU11 rfl hT) (by assumption) (fun _ => rfl) (fun _ => rfl) rfl rfl rfl rfl eU12 (by omega) (by omega) (by omega) (by omega) (Or.inl rfl)
        have a72 : AT U12 n c := t72.1
        have l72 := t72.2
        refine l_aload_n rfl rfl ?_
        refine l_aload_n rfl rfl ?_
        have w259 : Xi U12 904 65 = Xi T9 904 65 := (show Xi U12 904 65 = Xi U11 904 65 from by rw [eU12]; exact Xi_ne (by omega)).trans ( (show Xi U11 904 65 = Xi U10 904 65 from by rw [eU11]; exact Xi_ne (by omega)).trans ((show Xi U10 904 65 = Xi T9 904 65 from by rw [eU10]; exact Xi_ne (by omega))))
        have w261 : Xi U12 904 69 = Xi T9 904 69 := (show Xi U12 904 69 = Xi U11 904 69 from by rw [eU12]; exact Xi_ne (by omega)).trans ( (show Xi U11 904 69 = Xi U10 904 69 from by rw [eU11]; exact Xi_ne (by omega)).trans ((show Xi U10 904 69 = Xi T9 904 69 from by rw [eU10]; exact Xi_ne (by omega))))
        have w265 : 0 ≤ Xi U12 904 8 ∧ Xi U12 904 8 ≤ 5010 := hHU12.c _ _
        refine l_callV rfl rfl rfl (t_mo_run__2 hHU12 n c (by first | assumption | exact (TK_FR hFU12 rfl (by assumption : TK S _))) (by first | assumption | exact (by assumption : AT U12 _ _)) (by first | assumption | exact (RNV_FR (FR_e eU12) rfl (RNV_FR (FR_e eU11) rfl (RNV_FR (FR_e eU10) rfl (by assumption : RNV T9 _))))) (by first | assumption | exact (BDA_FR (FR_e eU12) rfl (BDA_FR (FR_e eU11) rfl (BDA_FR (FR_e eU10) rfl (by assumption : BDA T9))))) _) ?_
        rintro _ T13 ⟨hHT13, w279, z278, rfl, w278, w272, w273, w274, w275, w276, w277⟩
        have hFT13 : FR md_mo_rule__3 S T13 := FR.tr hFU12 w279 rfl
        show Rl _ _ _ _ _ [iv z278, .ref 904] _ _
        refine l_pfi rfl rfl rfl rfl ?_
        obtain ⟨U14, eU14⟩ : ∃ T : sS, T = uI T13 904 103 (Int32.ofInt z278) := ⟨_, rfl⟩
        rw [← eU14]
        have hHU14 : HI U14 := by rw [eU14]; exact HI_w hHT13 (show -1 ≤ z278 by omega) (show z278 ≤ 2600 by omega)
        have hFU14 : FR md_mo_rule__3 S U14 := by rw [eU14]; exact FR.wI hFT13 (mdf_i (r := (904, 905, 103, 104)) (List.mem_of_getElem? (i := 13) rfl) (inR_i (by omega) (by omega) (by omega) (by omega)))
        have w280 : Xi U14 904 103 = z278 := by rw [eU14]; exact Xi_same (by unfold rg; omega)
        have a80 : AT U14 n c := AT_FR (FR_e eU14) rfl (by assumption)
        have w281 : Xi U14 904 102 = Xi U10 904 102 := (show Xi U14 904 102 = Xi T13 904 102 from by rw [eU14]; exact Xi_ne (by omega)).trans ( (show Xi T13 904 102 = Xi U12 904 102 from w279.x _ _ rfl).trans ( (show Xi U12 904 102 = Xi U11 904 102 from by rw [eU12]; exact Xi_ne (by omega)).trans ((show Xi U11 904 102 = Xi U10 904 102 from by rw [eU11]; exact Xi_ne (by omega)))))
        have w283 : -1 ≤ Xi U14 904 103 ∧ Xi U14 904 103 ≤ 2600 := hHU14.c _ _
        have w284 : Xi U14 904 65 = Xi T13 904 65 := (show Xi U14 904 65 = Xi T13 904 65 from by rw [eU14]; exact Xi_ne (by omega))
        have w285 : 0 ≤ Xi T13 904 65 ∧ Xi T13 904 65 ≤ 1 := hHT13.c _ _
        have w286 : Xi U14 904 69 = Xi T13 904 69 := (show Xi U14 904 69 = Xi T13 904 69 from by rw [eU14]; exact Xi_ne (by omega))
        have w287 : 0 ≤ Xi T13 904 69 ∧ Xi T13 904 69 ≤ 2600 := hHT13.c _ _
        have w288 : Xi U14 904 70 = Xi U7 904 70 := (show Xi U14 904 70 = Xi T13 904 70 from by rw [eU14]; exact Xi_ne (by omega)).trans ( (show Xi T13 904 70 = Xi U12 904 70 from w279.x _ _ rfl).trans ( (show Xi U12 904 70 = Xi U11 904 70 from by rw [eU12]; exact Xi_ne (by omega)).trans ( (show Xi U11 904 70 = Xi U10 904 70 from by rw [eU11]; exact Xi_ne (by omega)).trans ( (show Xi U10 904 70 = Xi T9 904 70 from by rw [eU10]; exact Xi_ne (by omega)).trans ( (show Xi T9 904 70 = Xi U8 904 70 from w193.x _ _ rfl).trans ((show Xi U8 904 70 = Xi U7 904 70 from by rw [eU8]; exact Xi_ne (by omega))))))))
        have w290 : Xi U14 904 8 = Xi T13 904 8 := (show Xi U14 904 8 = Xi T13 904 8 from by rw [eU14]; exact Xi_ne (by omega))
        have w291 : 0 ≤ Xi T13 904 8 ∧ Xi T13 904 8 ≤ 5010 := hHT13.c _ _
        have w292 : Xi U14 904 93 = Xi S 904 93 := (show Xi U14 904 93 = Xi T13 904 93 from by rw [eU14]; exact Xi_ne (by omega)).trans ( (show Xi T13 904 93 = Xi U12 904 93 from w279.x _ _ rfl).trans ( (show Xi U12 904 93 = Xi U11 904 93 from by rw [eU12]; exact Xi_ne (by omega)).trans ( (show Xi U11 904 93 = Xi U10 904 93 from by rw [eU11]; exact Xi_ne (by omega)).trans ( (show Xi U10 904 93 = Xi T9 904 93 from by rw [eU10]; exact Xi_ne (by omega)).trans ( (show Xi T9 904 93 = Xi U8 904 93 from w193.x _ _ rfl).trans ( (show Xi U8 904 93 = Xi U7 904 93 from by rw [eU8]; exact Xi_ne (by omega)).trans ((show Xi U7 904 93 = Xi S 904 93 from by rw [eU7]; exact Xi_ne (by omega)))))))))
        have w294 : Xi U14 904 94 = Xi S 904 94 := (show Xi U14 904 94 = Xi T13 904 94 from by rw [eU14]; exact Xi_ne (by omega)).trans ( (show Xi T13 904 94 = Xi U12 904 94 from w279.x _ _ rfl).trans ( (show Xi U12 904 94 = Xi U11 904 94 from by rw [eU12]; exact Xi_ne (by omega)).trans ( (show Xi U11 904 94 = Xi U10 904 94 from by rw [eU11]; exact Xi_ne (by omega)).trans ( (show Xi U10 904 94 = Xi T9 904 94 from by rw [eU10]; exact Xi_ne (by omega)).trans ( (show Xi T9 904 94 = Xi U8 904 94 from w193.x _ _ rfl).trans ( (show Xi U8 904 94 = Xi U7 904 94 from by rw [eU8]; exact Xi_ne (by omega)).trans ((show Xi U7 904 94 = Xi S 904 94 from by rw [eU7]; exact Xi_ne (by omega)))))))))
        have w296 : Xi U14 904 98 = Xi S 904 98 := (show Xi U14 904 98 = Xi T13 904 98 from by rw [eU14]; exact Xi_ne (by omega)).trans ( (show Xi T13 904 98 = Xi U12 904 98 from w279.x _ _ rfl).trans ( (show Xi U12 904 98 = Xi U11 904 98 from by rw [eU12]; exact Xi_ne (by omega)).trans ( (show Xi U11 904 98 = Xi U10 904 98 from by rw [eU11]; exact Xi_ne (by omega)).trans ( (show Xi U10 904 98 = Xi T9 904 98 from by rw [eU10]; exact Xi_ne (by omega)).trans ( (show Xi T9 904 98 = Xi U8 904 98 from w193.x _ _ rfl).trans ( (show Xi U8 904 98 = Xi U7 904 98 from by rw [eU8]; exact Xi_ne (by omega)).trans ((show Xi U7 904 98 = Xi S 904 98 from by rw [eU7]; exact Xi_ne (by omega)))))))))
        exact Rl_weak (C83 U14 hHU14 hFU14  (by assumption) (by first | assumption | exact (RNV_FR (FR_e eU14) rfl (by assumption : RNV T13 _))) (by omega) (by omega) (by omega) (by omega) (by omega) (by omega) (by first | assumption | exact (PF_FR (FR_e eU14) rfl (PF_FR w279 rfl (PF_FR (FR_e eU12) rfl (PF_FR (FR_e eU11) rfl (PF_FR (FR_e eU10) rfl (PF_FR w193 rfl (PF_FR (FR_e eU8) rfl (PF_FR (FR_e eU7) rfl (by assumption : PF S)))))))))) (by first | assumption | exact (BDA_FR (FR_e eU14) rfl (by assumption : BDA T13)))) (And.intro rfl (True.intro))
    · refine l_aload_n rfl rfl ?_
      refine l_sipush rfl rfl ?_
      have w302 : Xi U8 904 65 = Xi S 904 65 := (show Xi U8 904 65 = Xi U7 904 65 from by rw [eU8]; exact Xi_ne (by omega)).trans ((show Xi U7 904 65 = Xi S 904 65 from by rw [eU7]; exact Xi_ne (by omega)))
      have w308 : 0 ≤ Xi U8 904 8 ∧ Xi U8 904 8 ≤ 5010 := hHU8.c _ _
      refine l_callV rfl rfl rfl (t_mo_take__3 hHU8 n c 142 ⟨by omega, by omega⟩ (by first | assumption | exact (TK_FR hFU8 rfl (by assumption : TK S _))) (by first | assumption | exact (by assumption : AT U8 _ _)) (by first | assumption | omega) (by first | assumption | exact (BDA_FR (FR_e eU8) rfl (BDA_FR (FR_e eU7) rfl (by assumption : BDA S)))) _) ?_
      rintro _ T15 ⟨hHT15, w321, rfl, w315, w316, w317, w318, w319⟩
      have hFT15 : FR md_mo_rule__3 S T15 := FR.tr hFU8 w321 rfl
      show Rl _ _ _ _ _ [] _ _
      refine l_goto rfl rfl ?_
      have w322 : Xi T15 904 102 = Xi S 904 102 := (show Xi T15 904 102 = Xi U8 904 102 from w321.x _ _ rfl).trans ( (show Xi U8 904 102 = Xi U7 904 102 from by rw [eU8]; exact Xi_ne (by omega)).trans ((show Xi U7 904 102 = Xi S 904 102 from by rw [eU7]; exact Xi_ne (by omega))))
      have w324 : Xi T15 904 103 = Xi S 904 103 := (show Xi T15 904 103 = Xi U8 904 103 from w321.x _ _ rfl).trans ( (show Xi U8 904 103 = Xi U7 904 103 from by rw [eU8]; exact Xi_ne (by omega)).trans ((show Xi U7 904 103 = Xi S 904 103 from by rw [eU7]; exact Xi_ne (by omega))))
      have w326 : 0 ≤ Xi T15 904 65 ∧ Xi T15 904 65 ≤ 1 := hHT15.c _ _
      have w327 : Xi T15 904 69 = Xi S 904 69 := (show Xi T15 904 69 = Xi U8 904 69 from w321.x _ _ rfl).trans ( (show Xi U8 904 69 = Xi U7 904 69 from by rw [eU8]; exact Xi_ne (by omega)).trans ((show Xi U7 904 69 = Xi S 904 69 from by rw [eU7]; exact Xi_ne (by omega))))
      have w329 : Xi T15 904 70 = Xi U7 904 70 := (show Xi T15 904 70 = Xi U8 904 70 from w321.x _ _ rfl).trans ((show Xi U8 904 70 = Xi U7 904 70 from by rw [eU8]; exact Xi_ne (by omega)))
      have w330 : 0 ≤ Xi U7 904 70 ∧ Xi U7 904 70 ≤ 20 := hHU7.c _ _
      have w331 : 0 ≤ Xi T15 904 8 ∧ Xi T15 904 8 ≤ 5010 := hHT15.c _ _
      have w332 : Xi T15 904 93 = Xi S 904 93 := (show Xi T15 904 93 = Xi U8 904 93 from w321.x _ _ rfl).trans ( (show Xi U8 904 93 = Xi U7 904 93 from by rw [eU8]; exact Xi_ne (by omega)).trans ((show Xi U7 904 93 = Xi S 904 93 from by rw [eU7]; exact Xi_ne (by omega))))
      have w334 : Xi T15 904 94 = Xi S 904 94 := (show Xi T15 904 94 = Xi U8 904 94 from w321.x _ _ rfl).trans ( (show Xi U8 904 94 = Xi U7 904 94 from by rw [eU8]; exact Xi_ne (by omega)).trans ((show Xi U7 904 94 = Xi S 904 94 from by rw [eU7]; exact Xi_ne (by omega))))
      have w336 : Xi T15 904 98 = Xi S 904 98 := (show Xi T15 904 98 = Xi U8 904 98 from w321.x _ _ rfl).trans ( (show Xi U8 904 98 = Xi U7 904 98 from by rw [eU8]; exact Xi_ne (by omega)).trans ((show Xi U7 904 98 = Xi S 904 98 from by rw [eU7]; exact Xi_ne (by omega))))
      exact Rl_weak (C83 T15 hHT15 hFT15  (by assumption) (by first | assumption | exact (RNV_FR w321 rfl (RNV_FR (FR_e eU8) rfl (RNV_FR (FR_e eU7) rfl (by assumption : RNV S _))))) (by omega) (by omega) (by omega) (by omega) (by omega) (by omega) (by first | assumption | exact (PF_FR w321 rfl (PF_FR (FR_e eU8) rfl (PF_FR (FR_e eU7) rfl (by assumption : PF S))))) (by first | assumption | exact (by assumption : BDA T15))) (And.intro rfl (True.intro))
  · refine l_aload_n rfl rfl ?_
    refine l_bipush rfl rfl ?_
    have w338 : Xi U8 904 102 = Xi S 904 102 := (show Xi U8 904 102 = Xi U7 904 102 from by rw [eU8]; exact Xi_ne (by omega)).trans ((show Xi U7 904 102 = Xi S 904 102 from by rw [eU7]; exact Xi_ne (by omega)))
    have w340 : Xi U8 904 103 = Xi S 904 103 := (show Xi U8 904 103 = Xi U7 904 103 from by rw [eU8]; exact Xi_ne (by omega)).trans ((show Xi U7 904 103 = Xi S 904 103 from by rw [eU7]; exact Xi_ne (by omega)))
    have w342 : Xi U8 904 65 = Xi S 904 65 := (show Xi U8 904 65 = Xi U7 904 65 from by rw [eU8]; exact Xi_ne (by omega)).trans ((show Xi U7 904 65 = Xi S 904 65 from by rw [eU7]; exact Xi_ne (by omega)))
    have w344 : Xi U8 904 69 = Xi S 904 69 := (show Xi U8 904 69 = Xi U7 904 69 from by rw [eU8]; exact Xi_ne (by omega)).trans ((show Xi U7 904 69 = Xi S 904 69 from by rw [eU7]; exact Xi_ne (by omega)))
    have w346 : Xi U8 904 70 = Xi U7 904 70 := (show Xi U8 904 70 = Xi U7 904 70 from by rw [eU8]; exact Xi_ne (by omega))
    have w347 : 0 ≤ Xi U7 904 70 ∧ Xi U7 904 70 ≤ 20 := hHU7.c _ _
    have w348 : 0 ≤ Xi U8 904 8 ∧ Xi U8 904 8 ≤ 5010 := hHU8.c _ _
    have w349 : Xi U8 904 93 = Xi S 904 93 := (show Xi U8 904 93 = Xi U7 904 93 from by rw [eU8]; exact Xi_ne (by omega)).trans ((show Xi U7 904 93 = Xi S 904 93 from by rw [eU7]; exact Xi_ne (by omega)))
    have w351 : Xi U8 904 94 = Xi S 904 94 := (show Xi U8 904 94 = Xi U7 904 94 from by rw [eU8]; exact Xi_ne (by omega)).trans ((show Xi U7 904 94 = Xi S 904 94 from by rw [eU7]; exact Xi_ne (by omega)))
    have w353 : Xi U8 904 98 = Xi S 904 98 := (show Xi U8 904 98 = Xi U7 904 98 from by rw [eU8]; exact Xi_ne (by omega)).trans ((show Xi U7 904 98 = Xi S 904 98 from by rw [eU7]; exact Xi_ne (by omega)))
    refine l_callV rfl rfl rfl (t_mo_take__3 hHU8 n c 107 ⟨by omega, by omega⟩ (by first | assumption | exact (TK_FR hFU8 rfl (by assumption : TK S _))) (by first | assumption | exact (by assumption : AT U8 _ _)) (by first | assumption | omega) (by first | assumption | exact (BDA_FR (FR_e eU8) rfl (BDA_FR (FR_e eU7) rfl (by assumption : BDA S)))) _) ?_
    rintro _ T16 ⟨hHT16, w361, rfl, w355, w356, w357, w358, w359⟩
    have hFT16 : FR md_mo_rule__3 S T16 := FR.tr hFU8 w361 rfl
    show Rl _ _ _ _ _ [] _ _
    refine l_iload_n rfl rfl ?_
    refine l_bipush rfl rfl ?_
    refine l_icmp_ne rfl rfl (by unfold rg; omega) (by unfold rg; omega) (fun w362 => ?_) (fun w363 => ?_)
    · refine l_aload_n rfl rfl ?_
      refine l_aload_n rfl rfl ?_
      have w364 : Xi T16 904 102 = Xi S 904 102 := (show Xi T16 904 102 = Xi U8 904 102 from w361.x _ _ rfl).trans ( (show Xi U8 904 102 = Xi U7 904 102 from by rw [eU8]; exact Xi_ne (by omega)).trans ((show Xi U7 904 102 = Xi S 904 102 from by rw [eU7]; exact Xi_ne (by omega))))
      have w366 : Xi T16 904 103 = Xi S 904 103 := (show Xi T16 904 103 = Xi U8 904 103 from w361.x _ _ rfl).trans ( (show Xi U8 904 103 = Xi U7 904 103 from by rw [eU8]; exact Xi_ne (by omega)).trans ((show Xi U7 904 103 = Xi S 904 103 from by rw [eU7]; exact Xi_ne (by omega))))
      have w368 : 0 ≤ Xi T16 904 65 ∧ Xi T16 904 65 ≤ 1 := hHT16.c _ _
      have w369 : Xi T16 904 69 = Xi S 904 69 := (show Xi T16 904 69 = Xi U8 904 69 from w361.x _ _ rfl).trans ( (show Xi U8 904 69 = Xi U7 904 69 from by rw [eU8]; exact Xi_ne (by omega)).trans ((show Xi U7 904 69 = Xi S 904 69 from by rw [eU7]; exact Xi_ne (by omega))))
      have w371 : Xi T16 904 70 = Xi U7 904 70 := (show Xi T16 904 70 = Xi U8 904 70 from w361.x _ _ rfl).trans ((show Xi U8 904 70 = Xi U7 904 70 from by rw [eU8]; exact Xi_ne (by omega)))
      have w373 : 0 ≤ Xi T16 904 8 ∧ Xi T16 904 8 ≤ 5010 := hHT16.c _ _
      have w374 : Xi T16 904 93 = Xi S 904 93 := (show Xi T16 904 93 = Xi U8 904 93 from w361.x _ _ rfl).trans ( (show Xi U8 904 93 = Xi U7 904 93 from by rw [eU8]; exact Xi_ne (by omega)).trans ((show Xi U7 904 93 = Xi S 904 93 from by rw [eU7]; exact Xi_ne (by omega))))
      have w376 : Xi T16 904 94 = Xi S 904 94 := (show Xi T16 904 94 = Xi U8 904 94 from w361.x _ _ rfl).trans ( (show Xi U8 904 94 = Xi U7 904 94 from by rw [eU8]; exact Xi_ne (by omega)).trans ((show Xi U7 904 94 = Xi S 904 94 from by rw [eU7]; exact Xi_ne (by omega))))
      have w378 : Xi T16 904 98 = Xi S 904 98 := (show Xi T16 904 98 = Xi U8 904 98 from w361.x _ _ rfl).trans ( (show Xi U8 904 98 = Xi U7 904 98 from by rw [eU8]; exact Xi_ne (by omega)).trans ((show Xi U7 904 98 = Xi S 904 98 from by rw [eU7]; exact Xi_ne (by omega))))
      refine l_callV rfl rfl rfl (t_mo_run__2 hHT16 n c (by first | assumption | exact (TK_FR hFT16 rfl (by assumption : TK S _))) (by first | assumption | exact (by assumption : AT T16 _ _)) (by first | assumption | exact (RNV_FR w361 rfl (RNV_FR (FR_e eU8) rfl (RNV_FR (FR_e eU7) rfl (by assumption : RNV S _))))) (by first | assumption | exact (by assumption : BDA T16)) _) ?_
      rintro _ T17 ⟨hHT17, w387, z386, rfl, w386, w380, w381, w382, w383, w384, w385⟩
      have hFT17 : FR md_mo_rule__3 S T17 := FR.tr hFT16 w387 rfl
      show Rl _ _ _ _ _ [iv z386, .ref 904] _ _
      refine l_pfi rfl rfl rfl rfl ?_
      obtain ⟨U18, eU18⟩ : ∃ T : sS, T = uI T17 904 102 (Int32.ofInt z386) := ⟨_, rfl⟩
      rw [← eU18]
      have hHU18 : HI U18 := by rw [eU18]; exact HI_w hHT17 (show 0 ≤ z386 by omega) (show z386 ≤ 2600 by omega)
      have hFU18 : FR md_mo_rule__3 S U18 := by rw [eU18]; exact FR.wI hFT17 (mdf_i (r := (904, 905, 102, 103)) (List.mem_of_getElem? (i := 12) rfl) (inR_i (by omega) (by omega) (by omega) (by omega)))
      have w388 : Xi U18 904 102 = z386 := by rw [eU18]; exact Xi_same (by unfold rg; omega)
      have a47 : AT U18 n c := AT_FR (FR_e eU18) rfl (by assumption)
      have v47 : RNV U18 n := RNV_FR (FR_e eU18) rfl (by assumption)
      have s47_8 : Xi U18 904 8 = Xi T17 904 8 := by rw [eU18, Xi_ne (by omega)]
      have s47_65 : Xi U18 904 65 = Xi T17 904 65 := by rw [eU18, Xi_ne (by omega)]
      have s47_69 : Xi U18 904 69 = Xi T17 904 69 := by rw [eU18, Xi_ne (by omega)]
      have s47_8 : Xi U18 904 8 = Xi T17 904 8 := by rw [eU18, Xi_ne (by omega)]
      refine l_aload_n rfl rfl ?_
      refine l_iconst rfl ?_
      refine l_pfi rfl rfl rfl rfl ?_
      obtain ⟨U19, eU19⟩ : ∃ T : sS, T = uI U18 904 103 (Int32.ofInt (-1)) := ⟨_, rfl⟩
      rw [← eU19]
      have hHU19 : HI U19 := by rw [eU19]; exact HI_w hHU18 (show -1 ≤ (-1) by omega) (show (-1) ≤ 2600 by omega)
      have hFU19 : FR md_mo_rule__3 S U19 := by rw [eU19]; exact FR.wI hFU18 (mdf_i (r := (904, 905, 103, 104)) (List.mem_of_getElem? (i := 13) rfl) (inR_i (by omega) (by omega) (by omega) (by omega)))
      have w389 : Xi U19 904 103 = (-1) := by rw [eU19]; exact Xi_same (by unfold rg; omega)
      have a52 : AT U19 n c := AT_FR (FR_e eU19) rfl a47
      refine l_aload_n rfl rfl ?_
      have w390 : Xi U19 904 102 = Xi U18 904 102 := (show Xi U19 904 102 = Xi U18 904 102 from by rw [eU19]; exact Xi_ne (by omega))
      have w391 : 0 ≤ Xi U18 904 102 ∧ Xi U18 904 102 ≤ 2600 := hHU18.c _ _
      have w392 : -1 ≤ Xi U19 904 103 ∧ Xi U19 904 103 ≤ 2600 := hHU19.c _ _
      have w393 : Xi U19 904 65 = Xi T17 904 65 := (show Xi U19 904 65 = Xi U18 904 65 from by rw [eU19]; exact Xi_ne (by omega)).trans ((show Xi U18 904 65 = Xi T17 904 65 from by rw [eU18]; exact Xi_ne (by omega)))
      have w394 : 0 ≤ Xi T17 904 65 ∧ Xi T17 904 65 ≤ 1 := hHT17.c _ _
      have w395 : Xi U19 904 69 = Xi T17 904 69 := (show Xi U19 904 69 = Xi U18 904 69 from by rw [eU19]; exact Xi_ne (by omega)).trans ((show Xi U18 904 69 = Xi T17 904 69 from by rw [eU18]; exact Xi_ne (by omega)))
      have w396 : 0 ≤ Xi T17 904 69 ∧ Xi T17 904 69 ≤ 2600 := hHT17.c _ _
      have w397 : Xi U19 904 70 = Xi U7 904 70 := (show Xi U19 904 70 = Xi U18 904 70 from by rw [eU19]; exact Xi_ne (by omega)).trans ( (show Xi U18 904 70 = Xi T17 904 70 from by rw [eU18]; exact Xi_ne (by omega)).trans ( (show Xi T17 904 70 = Xi T16 904 70 from w387.x _ _ rfl).trans ( (show Xi T16 904 70 = Xi U8 904 70 from w361.x _ _ rfl).trans ((show Xi U8 904 70 = Xi U7 904 70 from by rw [eU8]; exact Xi_ne (by omega))))))
      have w399 : Xi U19 904 8 = Xi T17 904 8 := (show Xi U19 904 8 = Xi U18 904 8 from by rw [eU19]; exact Xi_ne (by omega)).trans ((show Xi U18 904 8 = Xi T17 904 8 from by rw [eU18]; exact Xi_ne (by omega)))
      have w400 : 0 ≤ Xi T17 904 8 ∧ Xi T17 904 8 ≤ 5010 := hHT17.c _ _
      have w401 : Xi U19 904 93 = Xi S 904 93 := (show Xi U19 904 93 = Xi U18 904 93 from by rw [eU19]; exact Xi_ne (by omega)).trans ( (show Xi U18 904 93 = Xi T17 904 93 from by rw [eU18]; exact Xi_ne (by omega)).trans ( (show Xi T17 904 93 = Xi T16 904 93 from w387.x _ _ rfl).trans ( (show Xi T16 904 93 = Xi U8 904 93 from w361.x _ _ rfl).trans ( (show Xi U8 904 93 = Xi U7 904 93 from by rw [eU8]; exact Xi_ne (by omega)).trans ((show Xi U7 904 93 = Xi S 904 93 from by rw [eU7]; exact Xi_ne (by omega)))))))
      have w403 : Xi U19 904 94 = Xi S 904 94 := (show Xi U19 904 94 = Xi U18 904 94 from by rw [eU19]; exact Xi_ne (by omega)).trans ( (show Xi U18 904 94 = Xi T17 904 94 from by rw [eU18]; exact Xi_ne (by omega)).trans ( (show Xi T17 904 94 = Xi T16 904 94 from w387.x _ _ rfl).trans ( (show Xi T16 904 94 = Xi U8 904 94 from w361.x _ _ rfl).trans ( (show Xi U8 904 94 = Xi U7 904 94 from by rw [eU8]; exact Xi_ne (by omega)).trans ((show Xi U7 904 94 = Xi S 904 94 from by rw [eU7]; exact Xi_ne (by omega)))))))
      have w405 : Xi U19 904 98 = Xi S 904 98 := (show Xi U19 904 98 = Xi U18 904 98 from by rw [eU19]; exact Xi_ne (by omega)).trans ( (show Xi U18 904 98 = Xi T17 904 98 from by rw [eU18]; exact Xi_ne (by omega)).trans ( (show Xi T17 904 98 = Xi T16 904 98 from w387.x _ _ rfl).trans ( (show Xi T16 904 98 = Xi U8 904 98 from w361.x _ _ rfl).trans ( (show Xi U8 904 98 = Xi U7 904 98 from by rw [eU8]; exact Xi_ne (by omega)).trans ((show Xi U7 904 98 = Xi S 904 98 from by rw [eU7]; exact Xi_ne (by omega)))))))
      refine l_callV rfl rfl rfl (t_mo_look hHU19 n c (by first | assumption | exact (TK_FR hFU19 rfl (by assumption : TK S _))) (by first | assumption | exact (AT_FR (FR_e eU19) rfl (AT_FR (FR_e eU18) rfl (by assumption : AT T17 _ _)))) _) ?_
      rintro _ _ ⟨rfl, z408, rfl, w408, w407⟩
      show Rl _ _ _ _ _ [iv z408] _ _
      have l56 : z408 ≠ 1 → Xi U19 904 65 = 0 ∧ Xi U19 907 (Xi U19 904 8).toNat = z408 := by assumption
      refine l_callS rfl rfl (by decide) rfl (t_mo_isArt hHU19 z408 ⟨by omega, by omega⟩ _) ?_
      rintro _ _ ⟨rfl, z427, rfl, w427, w426⟩
      show Rl _ _ _ _ _ [iv z427] _ _
      refine l_if_eq rfl rfl (by unfold rg; omega) (fun w428 => ?_) (fun w429 => ?_)
      · have w430 : Xi U19 904 102 = Xi U18 904 102 := (show Xi U19 904 102 = Xi U18 904 102 from by rw [eU19]; exact Xi_ne (by omega))
        exact Rl_weak (C83 U19 hHU19 hFU19  (by assumption) (by first | assumption | exact (RNV_FR (FR_e eU19) rfl (RNV_FR (FR_e eU18) rfl (by assumption : RNV T17 _)))) (by omega) (by omega) (by omega) (by omega) (by omega) (by omega) (by first | assumption | exact (PF_FR (FR_e eU19) rfl (PF_FR (FR_e eU18) rfl (PF_FR w387 rfl (PF_FR w361 rfl (PF_FR (FR_e eU8) rfl (PF_FR (FR_e eU7) rfl (by assumption : PF S)))))))) (by first | assumption | exact (BDA_FR (FR_e eU19) rfl (BDA_FR (FR_e eU18) rfl (by assumption : BDA T17))))) (And.intro rfl (True.intro))
      · refine l_aload_n rfl rfl ?_
        refine l_dup rfl rfl ?_
        refine l_gfi rfl rfl rfl rfl rfl ?_
        have w447 : 0 ≤ (Xi U19 904 8) ∧ (Xi U19 904 8) ≤ 5010 := hHU19.c _ _
        refine l_iconst rfl ?_
        refine l_iadd rfl ?_
        refine l_pfi rfl rfl rfl rfl ?_
        obtain ⟨U20, eU20⟩ : ∃ T : sS, T = uI U19 904 8 (Int32.ofInt ((Xi U19 904 8) + 1)) := ⟨_, rfl⟩
        rw [← eU20]
        have hHU20 : HI U20 := by rw [eU20]; exact HI_w hHU19 (show 0 ≤ ((Xi U19 904 8) + 1) by omega) (show ((Xi U19 904 8) + 1) ≤ 5010 by omega)
        have hFU20 : FR md_mo_rule__3 S U20 := by rw [eU20]; exact FR.wI hFU19 (mdf_i (r := (904, 905, 8, 9)) (List.mem_of_getElem? (i := 0) rfl) (inR_i (by omega) (by omega) (by omega) (by omega)))
        have w448 : Xi U20 904 8 = ((Xi U19 904 8) + 1) := by rw [eU20]; exact Xi_same (by unfold rg; omega)
        have t72 : AT U20 n c ∧ _ := at_mv (S := U19) (P := U19) (c2 := c) (TK_FR hFU19 rfl hT) (by assumption) (fun _ => rfl) (fun _ => rfl) rfl rfl rfl rfl eU20 (by omega) (by omega) (by omega) (by omega) (Or.inl rfl)
        have a72 : AT U20 n c := t72.1
        have l72 := t72.2
        refine l_aload_n rfl rfl ?_
        refine l_aload_n rfl rfl ?_
        have w453 : Xi U20 904 65 = Xi T17 904 65 := (show Xi U20 904 65 = Xi U19 904 65 from by rw [eU20]; exact Xi_ne (by omega)).trans ( (show Xi U19 904 65 = Xi U18 904 65 from by rw [eU19]; exact Xi_ne (by omega)).trans ((show Xi U18 904 65 = Xi T17 904 65 from by rw [eU18]; exact Xi_ne (by omega))))
        have w455 : Xi U20 904 69 = Xi T17 904 69 := (show Xi U20 904 69 = Xi U19 904 69 from by rw [eU20]; exact Xi_ne (by omega)).trans ( (show Xi U19 904 69 = Xi U18 904 69 from by rw [eU19]; exact Xi_ne (by omega)).trans ((show Xi U18 904 69 = Xi T17 904 69 from by rw [eU18]; exact Xi_ne (by omega))))
        have w459 : 0 ≤ Xi U20 904 8 ∧ Xi U20 904 8 ≤ 5010 := hHU20.c _ _
        refine l_callV rfl rfl rfl (t_mo_run__2 hHU20 n c (by first | assumption | exact (TK_FR hFU20 rfl (by assumption : TK S _))) (by first | assumption | exact (by assumption : AT U20 _ _)) (by first | assumption | exact (RNV_FR (FR_e eU20) rfl (RNV_FR (FR_e eU19) rfl (RNV_FR (FR_e eU18) rfl (by assumption : RNV T17 _))))) (by first | assumption | exact (BDA_FR (FR_e eU20) rfl (BDA_FR (FR_e eU19) rfl (BDA_FR (FR_e eU18) rfl (by assumption : BDA T17))))) _) ?_
        rintro _ T21 ⟨hHT21, w473, z472, rfl, w472, w466, w467, w468, w469, w470, w471⟩
        have hFT21 : FR md_mo_rule__3 S T21 := FR.tr hFU20 w473 rfl
        show Rl _ _ _ _ _ [iv z472, .ref 904] _ _
        refine l_pfi rfl rfl rfl rfl ?_
        obtain ⟨U22, eU22⟩ : ∃ T : sS, T = uI T21 904 103 (Int32.ofInt z472) := ⟨_, rfl⟩
        rw [← eU22]
        have hHU22 : HI U22 := by rw [eU22]; exact HI_w hHT21 (show -1 ≤ z472 by omega) (show z472 ≤ 2600 by omega)
        have hFU22 : FR md_mo_rule__3 S U22 := by rw [eU22]; exact FR.wI hFT21 (mdf_i (r := (904, 905, 103, 104)) (List.mem_of_getElem? (i := 13) rfl) (inR_i (by omega) (by omega) (by omega) (by omega)))
        have w474 : Xi U22 904 103 = z472 := by rw [eU22]; exact Xi_same (by unfold rg; omega)
        have a80 : AT U22 n c := AT_FR (FR_e eU22) rfl (by assumption)
        have w475 : Xi U22 904 102 = Xi U18 904 102 := (show Xi U22 904 102 = Xi T21 904 102 from by rw [eU22]; exact Xi_ne (by omega)).trans ( (show Xi T21 904 102 = Xi U20 904 102 from w473.x _ _ rfl).trans ( (show Xi U20 904 102 = Xi U19 904 102 from by rw [eU20]; exact Xi_ne (by omega)).trans ((show Xi U19 904 102 = Xi U18 904 102 from by rw [eU19]; exact Xi_ne (by omega)))))
        have w477 : -1 ≤ Xi U22 904 103 ∧ Xi U22 904 103 ≤ 2600 := hHU22.c _ _
        have w478 : Xi U22 904 65 = Xi T21 904 65 := (show Xi U22 904 65 = Xi T21 904 65 from by rw [eU22]; exact Xi_ne (by omega))
        have w479 : 0 ≤ Xi T21 904 65 ∧ Xi T21 904 65 ≤ 1 := hHT21.c _ _
        have w480 : Xi U22 904 69 = Xi T21 904 69 := (show Xi U22 904 69 = Xi T21 904 69 from by rw [eU22]; exact Xi_ne (by omega))
        have w481 : 0 ≤ Xi T21 904 69 ∧ Xi T21 904 69 ≤ 2600 := hHT21.c _ _
        have w482 : Xi U22 904 70 = Xi U7 904 70 := (show Xi U22 904 70 = Xi T21 904 70 from by rw [eU22]; exact Xi_ne (by omega)).trans ( (show Xi T21 904 70 = Xi U20 904 70 from w473.x _ _ rfl).trans ( (show Xi U20 904 70 = Xi U19 904 70 from by rw [eU20]; exact Xi_ne (by omega)).trans ( (show Xi U19 904 70 = Xi U18 904 70 from by rw [eU19]; exact Xi_ne (by omega)).trans ( (show Xi U18 904 70 = Xi T17 904 70 from by rw [eU18]; exact Xi_ne (by omega)).trans ( (show Xi T17 904 70 = Xi T16 904 70 from w387.x _ _ rfl).trans ( (show Xi T16 904 70 = Xi U8 904 70 from w361.x _ _ rfl).trans ((show Xi U8 904 70 = Xi U7 904 70 from by rw [eU8]; exact Xi_ne (by omega)))))))))
        have w484 : Xi U22 904 8 = Xi T21 904 8 := (show Xi U22 904 8 = Xi T21 904 8 from by rw [eU22]; exact Xi_ne (by omega))
        have w485 : 0 ≤ Xi T21 904 8 ∧ Xi T21 904 8 ≤ 5010 := hHT21.c _ _
        have w486 : Xi U22 904 93 = Xi S 904 93 := (show Xi U22 904 93 = Xi T21 904 93 from by rw [eU22]; exact Xi_ne (by omega)).trans ( (show Xi T21 904 93 = Xi U20 904 93 from w473.x _ _ rfl).trans ( (show Xi U20 904 93 = Xi U19 904 93 from by rw [eU20]; exact Xi_ne (by omega)).trans ( (show Xi U19 904 93 = Xi U18 904 93 from by rw [eU19]; exact Xi_ne (by omega)).trans ( (show Xi U18 904 93 = Xi T17 904 93 from by rw [eU18]; exact Xi_ne (by omega)).trans ( (show Xi T17 904 93 = Xi T16 904 93 from w387.x _ _ rfl).trans ( (show Xi T16 904 93 = Xi U8 904 93 from w361.x _ _ rfl).trans ( (show Xi U8 904 93 = Xi U7 904 93 from by rw [eU8]; exact Xi_ne (by omega)).trans ((show Xi U7 904 93 = Xi S 904 93 from by rw [eU7]; exact Xi_ne (by omega))))))))))
        have w488 : Xi U22 904 94 = Xi S 904 94 := (show Xi U22 904 94 = Xi T21 904 94 from by rw [eU22]; exact Xi_ne (by omega)).trans ( (show Xi T21 904 94 = Xi U20 904 94 from w473.x _ _ rfl).trans ( (show Xi U20 904 94 = Xi U19 904 94 from by rw [eU20]; exact Xi_ne (by omega)).trans ( (show Xi U19 904 94 = Xi U18 904 94 from by rw [eU19]; exact Xi_ne (by omega)).trans ( (show Xi U18 904 94 = Xi T17 904 94 from by rw [eU18]; exact Xi_ne (by omega)).trans ( (show Xi T17 904 94 = Xi T16 904 94 from w387.x _ _ rfl).trans ( (show Xi T16 904 94 = Xi U8 904 94 from w361.x _ _ rfl).trans ( (show Xi U8 904 94 = Xi U7 904 94 from by rw [eU8]; exact Xi_ne (by omega)).trans ((show Xi U7 904 94 = Xi S 904 94 from by rw [eU7]; exact Xi_ne (by omega))))))))))
        have w490 : Xi U22 904 98 = Xi S 904 98 := (show Xi U22 904 98 = Xi T21 904 98 from by rw [eU22]; exact Xi_ne (by omega)).trans ( (show Xi T21 904 98 = Xi U20 904 98 from w473.x _ _ rfl).trans ( (show Xi U20 904 98 = Xi U19 904 98 from by rw [eU20]; exact Xi_ne (by omega)).trans ( (show Xi U19 904 98 = Xi U18 904 98 from by rw [eU19]; exact Xi_ne (by omega)).trans ( (show Xi U18 904 98 = Xi T17 904 98 from by rw [eU18]; exact Xi_ne (by omega)).trans ( (show Xi T17 904 98 = Xi T16 904 98 from w387.x _ _ rfl).trans ( (show Xi T16 904 98 = Xi U8 904 98 from w361.x _ _ rfl).trans ( (show Xi U8 904 98 = Xi U7 904 98 from by rw [eU8]; exact Xi_ne (by omega)).trans ((show Xi U7 904 98 = Xi S 904 98 from by rw [eU7]; exact Xi_ne (by omega))))))))))
        exact Rl_weak (C83 U22 hHU22 hFU22  (by assumption) (by first | assumption | exact (RNV_FR (FR_e eU22) rfl (by assumption : RNV T21 _))) (by omega) (by omega) (by omega) (by omega) (by omega) (by omega) (by first | assumption | exact (PF_FR (FR_e eU22) rfl (PF_FR w473 rfl (PF_FR (FR_e eU20) rfl (PF_FR (FR_e eU19) rfl (PF_FR (FR_e eU18) rfl (PF_FR w387 rfl (PF_FR w361 rfl (PF_FR (FR_e eU8) rfl (PF_FR (FR_e eU7) rfl (by assumption : PF S))))))))))) (by first | assumption | exact (BDA_FR (FR_e eU22) rfl (by assumption : BDA T21)))) (And.intro rfl (True.intro))
    · refine l_aload_n rfl rfl ?_
      refine l_sipush rfl rfl ?_
      have w496 : 0 ≤ Xi T16 904 65 ∧ Xi T16 904 65 ≤ 1 := hHT16.c _ _
      have w501 : 0 ≤ Xi T16 904 8 ∧ Xi T16 904 8 ≤ 5010 := hHT16.c _ _
      refine l_callV rfl rfl rfl (t_mo_take__3 hHT16 n c 142 ⟨by omega, by omega⟩ (by first | assumption | exact (TK_FR hFT16 rfl (by assumption : TK S _))) (by first | assumption | exact (by assumption : AT T16 _ _)) (by first | assumption | omega) (by first | assumption | exact (by assumption : BDA T16)) _) ?_
      rintro _ T23 ⟨hHT23, w514, rfl, w508, w509, w510, w511, w512⟩
      have hFT23 : FR md_mo_rule__3 S T23 := FR.tr hFT16 w514 rfl
      show Rl _ _ _ _ _ [] _ _
      refine l_goto rfl rfl ?_
      have w515 : Xi T23 904 102 = Xi S 904 102 := (show Xi T23 904 102 = Xi T16 904 102 from w514.x _ _ rfl).trans ( (show Xi T16 904 102 = Xi U8 904 102 from w361.x _ _ rfl).trans ( (show Xi U8 904 102 = Xi U7 904 102 from by rw [eU8]; exact Xi_ne (by omega)).trans ((show Xi U7 904 102 = Xi S 904 102 from by rw [eU7]; exact Xi_ne (by omega)))))
      have w517 : Xi T23 904 103 = Xi S 904 103 := (show Xi T23 904 103 = Xi T16 904 103 from w514.x _ _ rfl).trans ( (show Xi T16 904 103 = Xi U8 904 103 from w361.x _ _ rfl).trans ( (show Xi U8 904 103 = Xi U7 904 103 from by rw [eU8]; exact Xi_ne (by omega)).trans ((show Xi U7 904 103 = Xi S 904 103 from by rw [eU7]; exact Xi_ne (by omega)))))
      have w519 : 0 ≤ Xi T23 904 65 ∧ Xi T23 904 65 ≤ 1 := hHT23.c _ _
      have w520 : Xi T23 904 69 = Xi S 904 69 := (show Xi T23 904 69 = Xi T16 904 69 from w514.x _ _ rfl).trans ( (show Xi T16 904 69 = Xi U8 904 69 from w361.x _ _ rfl).trans ( (show Xi U8 904 69 = Xi U7 904 69 from by rw [eU8]; exact Xi_ne (by omega)).trans ((show Xi U7 904 69 = Xi S 904 69 from by rw [eU7]; exact Xi_ne (by omega)))))
      have w522 : Xi T23 904 70 = Xi U7 904 70 := (show Xi T23 904 70 = Xi T16 904 70 from w514.x _ _ rfl).trans ( (show Xi T16 904 70 = Xi U8 904 70 from w361.x _ _ rfl).trans ((show Xi U8 904 70 = Xi U7 904 70 from by rw [eU8]; exact Xi_ne (by omega))))
      have w524 : 0 ≤ Xi T23 904 8 ∧ Xi T23 904 8 ≤ 5010 := hHT23.c _ _
      have w525 : Xi T23 904 93 = Xi S 904 93 := (show Xi T23 904 93 = Xi T16 904 93 from w514.x _ _ rfl).trans ( (show Xi T16 904 93 = Xi U8 904 93 from w361.x _ _ rfl).trans ( (show Xi U8 904 93 = Xi U7 904 93 from by rw [eU8]; exact Xi_ne (by omega)).trans ((show Xi U7 904 93 = Xi S 904 93 from by rw [eU7]; exact Xi_ne (by omega)))))
      have w527 : Xi T23 904 94 = Xi S 904 94 := (show Xi T23 904 94 = Xi T16 904 94 from w514.x _ _ rfl).trans ( (show Xi T16 904 94 = Xi U8 904 94 from w361.x _ _ rfl).trans ( (show Xi U8 904 94 = Xi U7 904 94 from by rw [eU8]; exact Xi_ne (by omega)).trans ((show Xi U7 904 94 = Xi S 904 94 from by rw [eU7]; exact Xi_ne (by omega)))))
      have w529 : Xi T23 904 98 = Xi S 904 98 := (show Xi T23 904 98 = Xi T16 904 98 from w514.x _ _ rfl).trans ( (show Xi T16 904 98 = Xi U8 904 98 from w361.x _ _ rfl).trans ( (show Xi U8 904 98 = Xi U7 904 98 from by rw [eU8]; exact Xi_ne (by omega)).trans ((show Xi U7 904 98 = Xi S 904 98 from by rw [eU7]; exact Xi_ne (by omega)))))
      exact Rl_weak (C83 T23 hHT23 hFT23  (by assumption) (by first | assumption | exact (RNV_FR w514 rfl (RNV_FR w361 rfl (RNV_FR (FR_e eU8) rfl (RNV_FR (FR_e eU7) rfl (by assumption : RNV S _)))))) (by omega) (by omega) (by omega) (by omega) (by omega) (by omega) (by first | assumption | exact (PF_FR w514 rfl (PF_FR w361 rfl (PF_FR (FR_e eU8) rfl (PF_FR (FR_e eU7) rfl (by assumption : PF S)))))) (by first | assumption | exact (by assumption : BDA T23))) (And.intro rfl (True.intro))
/-! SAFETY of methods: printed by wip/safe (vc.py, decl.py) -/
def md_mo_others__2 : List rec := [(904, 905, 8, 9), (904, 905, 65, 66), (904, 905, 66, 67), (904, 905, 69, 70), (904, 905, 70, 71), (904, 905, 79, 80), (904, 905, 80, 81), (950, 951, 0, 100000), (951, 952, 0, 100000)]
abbrev Q_mo_others__2 (S : sS) (n : Nat) (c : Nat) (tells : Int) : pst := fun r S1 => HI S1 ∧ FR md_mo_others__2 S S1 ∧ (r = none ∧ (AT S1 n c) ∧ (Xi S 904 8 ≤ Xi S1 904 8 ∧ Xi S1 904 8 ≤ n + 2) ∧ (RNV S1 n) ∧ (Xi S1 904 65 = 0 → Xi S 904 65 = 0) ∧ (Xi S 904 69 ≤ Xi S1 904 69) ∧ (17 ≤ Xi S1 904 70 ∧ Xi S1 904 70 ≤ 20) ∧ (Xi S1 904 65 = 0 → SNQ S1 n) ∧ (BDA S1))
set_option maxRecDepth 100000 in
set_option maxHeartbeats 4000000 in
theorem c32_mo_others__2 {S : sS} (hH : HI S) (n : Nat) (c : Nat) (tells : Int) (htells : 0 ≤ tells ∧ tells ≤ 154) (hT : TK S n) (hA : AT S n c) (hv : RNV S n) (hx : Xi S 904 8 ≤ n) (hBDA : BDA S) (d : Nat) : ∀  (T1 : sS) (_ : HI T1) (_ : FR md_mo_others__2 S T1), (AT T1 n c) → (RNV T1 n) → (Xi S 904 8 ≤ Xi T1 904 8) → (Xi T1 904 8 ≤ n) → (Xi S 904 69 ≤ Xi T1 904 69) → (Xi T1 904 65 = 0 → Xi S 904 65 = 0) → (Xi T1 904 70 = 17) → (Xi T1 904 65 = 0 → Xi S 904 69 + 2 ≤ Xi T1 904 69) → (BDA T1) → Rl lay0 (d + 3) m_mo_others 32 [(0, .ref 904)] [] T1 (Q_mo_others__2 S n c tells) := by
  have hF : FR md_mo_others__2 S S := FR.rf
  have w1 : 0 ≤ Xi S 904 65 ∧ Xi S 904 65 ≤ 1 := hH.c _ _
  have w2 : 0 ≤ Xi S 904 69 ∧ Xi S 904 69 ≤ 2600 := hH.c _ _
  have w3 : 0 ≤ Xi S 904 70 ∧ Xi S 904 70 ≤ 20 := hH.c _ _
  have w4 : 0 ≤ Xi S 904 8 ∧ Xi S 904 8 ≤ 5010 := hH.c _ _
  have hn5 := hT.1
  have hat := hA
  have h8 : 0 ≤ Xi S 904 8 ∧ Xi S 904 8 ≤ 5010 := hH.c _ _
  have h69 : 0 ≤ Xi S 904 69 ∧ Xi S 904 69 ≤ 2600 := hH.c _ _
  have ha0 : Xi S 904 65 = 0 → Xi S 904 8 ≤ n := fun q => (hA q).1
  have ha3 : Xi S 904 65 = 0 → 2 * Xi S 904 69 ≤ Xi S 904 8 + 1 := fun q => (hA q).2.1
  clear hat
  intro T1 hHT1 hFT1 A32 V32 w5 w6 w7 w8 w9 c32 BDA_32
  have w10 : 0 ≤ Xi T1 904 65 ∧ Xi T1 904 65 ≤ 1 := hHT1.c _ _
  have w11 : 0 ≤ Xi T1 904 69 ∧ Xi T1 904 69 ≤ 2600 := hHT1.c _ _
  have w12 : 0 ≤ Xi T1 904 70 ∧ Xi T1 904 70 ≤ 20 := hHT1.c _ _
  have w13 : 0 ≤ Xi T1 904 8 ∧ Xi T1 904 8 ≤ 5010 := hHT1.c _ _
  refine l_aload_n rfl rfl ?_
  refine l_bipush rfl rfl ?_
  refine l_callV rfl rfl rfl (t_mo_take__3 hHT1 n c 117 ⟨by omega, by omega⟩ (by first | assumption | exact (TK_FR hFT1 rfl (by assumption : TK S _))) (by first | assumption | exact (by assumption : AT T1 _ _)) (by first | assumption | omega) (by first | assumption | exact (by assumption : BDA T1)) _) ?_
  rintro _ T2 ⟨hHT2, w25, rfl, w19, w20, w21, w22, w23⟩
  have hFT2 : FR md_mo_others__2 S T2 := FR.tr hFT1 w25 rfl
  show Rl _ _ _ _ _ [] _ _
  have w27 : 0 ≤ Xi T2 904 8 ∧ Xi T2 904 8 ≤ 5010 := hHT2.c _ _
  have w28 : 0 ≤ Xi T2 904 65 ∧ Xi T2 904 65 ≤ 1 := hHT2.c _ _
  have w29 : Xi T2 904 69 = Xi T1 904 69 := (show Xi T2 904 69 = Xi T1 904 69 from w25.x _ _ rfl)
  have w31 : Xi T2 904 93 = Xi T1 904 93 := (show Xi T2 904 93 = Xi T1 904 93 from w25.x _ _ rfl)
  have w32 : 0 ≤ Xi T1 904 93 ∧ Xi T1 904 93 ≤ 1700 := hHT1.c _ _
  have c35 : Xi T2 904 65 = 0 → Xi S 904 69 + 2 ≤ Xi T2 904 69 := by omega
  clear c32
  have w26 : Xi S 904 8 ≤ Xi T2 904 8 ∧ Xi T2 904 8 ≤ n ∧ Xi S 904 69 ≤ Xi T2 904 69 ∧ (Xi T2 904 65 = 0 → Xi S 904 65 = 0) := by omega
  clear w20 w21 w22
  refine l_aload_n rfl rfl ?_
  refine l_callV rfl rfl rfl (t_mo_run__2 hHT2 n c (by first | assumption | exact (TK_FR hFT2 rfl (by assumption : TK S _))) (by first | assumption | exact (by assumption : AT T2 _ _)) (by first | assumption | exact (RNV_FR w25 rfl (by assumption : RNV T1 _))) (by first | assumption | exact (by assumption : BDA T2)) _) ?_
  rintro _ T3 ⟨hHT3, w48, z47, rfl, w47, w41, w42, w43, w44, w45, w46⟩
  have hFT3 : FR md_mo_others__2 S T3 := FR.tr hFT2 w48 rfl
  show Rl _ _ _ _ _ [iv z47] _ _
  have w50 : 0 ≤ Xi T3 904 8 ∧ Xi T3 904 8 ≤ 5010 := hHT3.c _ _
  have w51 : 0 ≤ Xi T3 904 65 ∧ Xi T3 904 65 ≤ 1 := hHT3.c _ _
  have w52 : 0 ≤ Xi T3 904 69 ∧ Xi T3 904 69 ≤ 2600 := hHT3.c _ _
  have w53 : Xi T3 904 93 = Xi T1 904 93 := (show Xi T3 904 93 = Xi T2 904 93 from w48.x _ _ rfl).trans ((show Xi T2 904 93 = Xi T1 904 93 from w25.x _ _ rfl))
  have c39 : Xi T3 904 65 = 0 → Xi S 904 69 + 3 ≤ Xi T3 904 69 := by omega
  clear c35
  have w49 : Xi S 904 8 ≤ Xi T3 904 8 ∧ Xi T3 904 8 ≤ n ∧ Xi S 904 69 ≤ Xi T3 904 69 ∧ (Xi T3 904 65 = 0 → Xi S 904 65 = 0) := by omega
  clear w42 w44 w45 w26
  refine l_pop rfl rfl ?_
  refine l_goto rfl rfl ?_
  refine l_return rfl rfl ?_
  have w57 : Xi T3 904 70 = Xi T1 904 70 := (show Xi T3 904 70 = Xi T2 904 70 from w48.x _ _ rfl).trans ((show Xi T2 904 70 = Xi T1 904 70 from w25.x _ _ rfl))
  exact ⟨hHT3, hFT3, rfl, (by first | assumption | exact AT_bad (by omega)), (by omega), (by first | assumption | exact (by assumption : RNV T3 _)), (by omega), (by omega), (by omega), (fun q => by unfold SNQ; refine ⟨fun q1 => absurd q1 (by omega), by omega, by omega, by omega, fun q9 => absurd q9 (by omega), by omega, by omega, by omega, by omega, by omega⟩), (by first | assumption | exact (by assumption : BDA T3))⟩
set_option maxRecDepth 100000 in
set_option maxHeartbeats 4000000 in
theorem c75_mo_others__2 {S : sS} (hH : HI S) (n : Nat) (c : Nat) (tells : Int) (htells : 0 ≤ tells ∧ tells ≤ 154) (hT : TK S n) (hA : AT S n c) (hv : RNV S n) (hx : Xi S 904 8 ≤ n) (hBDA : BDA S) (d : Nat) : ∀  (T4 : sS) (_ : HI T4) (_ : FR md_mo_others__2 S T4), (AT T4 n c) → (RNV T4 n) → (Xi S 904 8 ≤ Xi T4 904 8) → (Xi T4 904 8 ≤ n) → (Xi S 904 69 ≤ Xi T4 904 69) → (Xi T4 904 65 = 0 → Xi S 904 65 = 0) → (Xi T4 904 70 = 18) → (Xi T4 904 65 = 0 → Xi S 904 69 + 1 ≤ Xi T4 904 69) → (BDA T4) → Rl lay0 (d + 3) m_mo_others 75 [(0, .ref 904)] [] T4 (Q_mo_others__2 S n c tells) := by
  have hF : FR md_mo_others__2 S S := FR.rf
  have w1 : 0 ≤ Xi S 904 65 ∧ Xi S 904 65 ≤ 1 := hH.c _ _
  have w2 : 0 ≤ Xi S 904 69 ∧ Xi S 904 69 ≤ 2600 := hH.c _ _
  have w3 : 0 ≤ Xi S 904 70 ∧ Xi S 904 70 ≤ 20 := hH.c _ _
  have w4 : 0 ≤ Xi S 904 8 ∧ Xi S 904 8 ≤ 5010 := hH.c _ _
  have hn5 := hT.1
  have hat := hA
  have h8 : 0 ≤ Xi S 904 8 ∧ Xi S 904 8 ≤ 5010 := hH.c _ _
  have h69 : 0 ≤ Xi S 904 69 ∧ Xi S 904 69 ≤ 2600 := hH.c _ _
  have ha0 : Xi S 904 65 = 0 → Xi S 904 8 ≤ n := fun q => (hA q).1
  have ha3 : Xi S 904 65 = 0 → 2 * Xi S 904 69 ≤ Xi S 904 8 + 1 := fun q => (hA q).2.1
  clear hat
  intro T4 hHT4 hFT4 A75 V75 w62 w63 w64 w65 w66 c75 BDA_75
  have w67 : 0 ≤ Xi T4 904 65 ∧ Xi T4 904 65 ≤ 1 := hHT4.c _ _
  have w68 : 0 ≤ Xi T4 904 69 ∧ Xi T4 904 69 ≤ 2600 := hHT4.c _ _
  have w69 : 0 ≤ Xi T4 904 70 ∧ Xi T4 904 70 ≤ 20 := hHT4.c _ _
  have w70 : 0 ≤ Xi T4 904 8 ∧ Xi T4 904 8 ≤ 5010 := hHT4.c _ _
  refine l_aload_n rfl rfl ?_
  refine l_callV rfl rfl rfl (t_mo_run__2 hHT4 n c (by first | assumption | exact (TK_FR hFT4 rfl (by assumption : TK S _))) (by first | assumption | exact (by assumption : AT T4 _ _)) (by first | assumption | exact (by assumption : RNV T4 _)) (by first | assumption | exact (by assumption : BDA T4)) _) ?_
  rintro _ T5 ⟨hHT5, w83, z82, rfl, w82, w76, w77, w78, w79, w80, w81⟩
  have hFT5 : FR md_mo_others__2 S T5 := FR.tr hFT4 w83 rfl
  show Rl _ _ _ _ _ [iv z82] _ _
  have w85 : 0 ≤ Xi T5 904 8 ∧ Xi T5 904 8 ≤ 5010 := hHT5.c _ _
  have w86 : 0 ≤ Xi T5 904 65 ∧ Xi T5 904 65 ≤ 1 := hHT5.c _ _
  have w87 : 0 ≤ Xi T5 904 69 ∧ Xi T5 904 69 ≤ 2600 := hHT5.c _ _
  have w88 : Xi T5 904 93 = Xi T4 904 93 := (show Xi T5 904 93 = Xi T4 904 93 from w83.x _ _ rfl)
  have w89 : 0 ≤ Xi T4 904 93 ∧ Xi T4 904 93 ≤ 1700 := hHT4.c _ _
  have c76 : Xi T5 904 65 = 0 → Xi S 904 69 + 2 ≤ Xi T5 904 69 := by omega
  clear c75
  have w84 : Xi S 904 8 ≤ Xi T5 904 8 ∧ Xi T5 904 8 ≤ n ∧ Xi S 904 69 ≤ Xi T5 904 69 ∧ (Xi T5 904 65 = 0 → Xi S 904 65 = 0) := by omega
  clear w77 w79 w80
  refine l_pop rfl rfl ?_
  refine l_aload_n rfl rfl ?_
  refine l_bipush rfl rfl ?_
  refine l_callV rfl rfl rfl (t_mo_take__3 hHT5 n c 115 ⟨by omega, by omega⟩ (by first | assumption | exact (TK_FR hFT5 rfl (by assumption : TK S _))) (by first | assumption | exact (by assumption : AT T5 _ _)) (by first | assumption | omega) (by first | assumption | exact (by assumption : BDA T5)) _) ?_
  rintro _ T6 ⟨hHT6, w103, rfl, w97, w98, w99, w100, w101⟩
  have hFT6 : FR md_mo_others__2 S T6 := FR.tr hFT5 w103 rfl
  show Rl _ _ _ _ _ [] _ _
  have w105 : 0 ≤ Xi T6 904 8 ∧ Xi T6 904 8 ≤ 5010 := hHT6.c _ _
  have w106 : 0 ≤ Xi T6 904 65 ∧ Xi T6 904 65 ≤ 1 := hHT6.c _ _
  have w107 : Xi T6 904 69 = Xi T5 904 69 := (show Xi T6 904 69 = Xi T5 904 69 from w103.x _ _ rfl)
  have w109 : Xi T6 904 93 = Xi T4 904 93 := (show Xi T6 904 93 = Xi T5 904 93 from w103.x _ _ rfl).trans ((show Xi T5 904 93 = Xi T4 904 93 from w83.x _ _ rfl))
  have c83 : Xi T6 904 65 = 0 → Xi S 904 69 + 2 ≤ Xi T6 904 69 := by omega
  clear c76
  have w104 : Xi S 904 8 ≤ Xi T6 904 8 ∧ Xi T6 904 8 ≤ n ∧ Xi S 904 69 ≤ Xi T6 904 69 ∧ (Xi T6 904 65 = 0 → Xi S 904 65 = 0) := by omega
  clear w98 w99 w100 w84
  refine l_aload_n rfl rfl ?_
  refine l_callV rfl rfl rfl (t_mo_run__2 hHT6 n c (by first | assumption | exact (TK_FR hFT6 rfl (by assumption : TK S _))) (by first | assumption | exact (by assumption : AT T6 _ _)) (by first | assumption | exact (RNV_FR w103 rfl (by assumption : RNV T5 _))) (by first | assumption | exact (by assumption : BDA T6)) _) ?_
  rintro _ T7 ⟨hHT7, w126, z125, rfl, w125, w119, w120, w121, w122, w123, w124⟩
  have hFT7 : FR md_mo_others__2 S T7 := FR.tr hFT6 w126 rfl
  show Rl _ _ _ _ _ [iv z125] _ _
  have w128 : 0 ≤ Xi T7 904 8 ∧ Xi T7 904 8 ≤ 5010 := hHT7.c _ _
  have w129 : 0 ≤ Xi T7 904 65 ∧ Xi T7 904 65 ≤ 1 := hHT7.c _ _
  have w130 : 0 ≤ Xi T7 904 69 ∧ Xi T7 904 69 ≤ 2600 := hHT7.c _ _
  have w131 : Xi T7 904 93 = Xi T4 904 93 := (show Xi T7 904 93 = Xi T6 904 93 from w126.x _ _ rfl).trans ( (show Xi T6 904 93 = Xi T5 904 93 from w103.x _ _ rfl).trans ((show Xi T5 904 93 = Xi T4 904 93 from w83.x _ _ rfl)))
  have c87 : Xi T7 904 65 = 0 → Xi S 904 69 + 3 ≤ Xi T7 904 69 := by omega
  clear c83
  have w127 : Xi S 904 8 ≤ Xi T7 904 8 ∧ Xi T7 904 8 ≤ n ∧ Xi S 904 69 ≤ Xi T7 904 69 ∧ (Xi T7 904 65 = 0 → Xi S 904 65 = 0) := by omega
  clear w120 w122 w123 w104
  refine l_pop rfl rfl ?_
  refine l_goto rfl rfl ?_
  refine l_return rfl rfl ?_
  have w135 : Xi T7 904 70 = Xi T4 904 70 := (show Xi T7 904 70 = Xi T6 904 70 from w126.x _ _ rfl).trans ( (show Xi T6 904 70 = Xi T5 904 70 from w103.x _ _ rfl).trans ((show Xi T5 904 70 = Xi T4 904 70 from w83.x _ _ rfl)))
  exact ⟨hHT7, hFT7, rfl, (by first | assumption | exact AT_bad (by omega)), (by omega), (by first | assumption | exact (by assumption : RNV T7 _)), (by omega), (by omega), (by omega), (fun q => by unfold SNQ; refine ⟨fun q1 => absurd q1 (by omega), by omega, by omega, by omega, fun q9 => absurd q9 (by omega), by omega, by omega, by omega, by omega, by omega⟩), (by first | assumption | exact (by assumption : BDA T7))⟩
set_option maxRecDepth 100000 in
set_option maxHeartbeats 4000000 in
theorem c125_mo_others__2 {S : sS} (hH : HI S) (n : Nat) (c : Nat) (tells : Int) (htells : 0 ≤ tells ∧ tells ≤ 154) (hT : TK S n) (hA : AT S n c) (hv : RNV S n) (hx : Xi S 904 8 ≤ n) (hBDA : BDA S) (d : Nat) : ∀  (T8 : sS) (_ : HI T8) (_ : FR md_mo_others__2 S T8), (AT T8 n c) → (RNV T8 n) → (Xi S 904 8 ≤ Xi T8 904 8) → (Xi T8 904 8 ≤ n + 1) → (Xi S 904 69 ≤ Xi T8 904 69) → (Xi T8 904 65 = 0 → Xi S 904 65 = 0) → (Xi T8 904 70 = 19) → (Xi T8 904 65 = 0 → Xi S 904 69 + 1 ≤ Xi T8 904 69) → (BDA T8) → Rl lay0 (d + 3) m_mo_others 125 [(0, .ref 904)] [] T8 (Q_mo_others__2 S n c tells) := by
  have hF : FR md_mo_others__2 S S := FR.rf
  have w1 : 0 ≤ Xi S 904 65 ∧ Xi S 904 65 ≤ 1 := hH.c _ _
  have w2 : 0 ≤ Xi S 904 69 ∧ Xi S 904 69 ≤ 2600 := hH.c _ _
  have w3 : 0 ≤ Xi S 904 70 ∧ Xi S 904 70 ≤ 20 := hH.c _ _
  have w4 : 0 ≤ Xi S 904 8 ∧ Xi S 904 8 ≤ 5010 := hH.c _ _
  have hn5 := hT.1
  have hat := hA
  have h8 : 0 ≤ Xi S 904 8 ∧ Xi S 904 8 ≤ 5010 := hH.c _ _
  have h69 : 0 ≤ Xi S 904 69 ∧ Xi S 904 69 ≤ 2600 := hH.c _ _
  have ha0 : Xi S 904 65 = 0 → Xi S 904 8 ≤ n := fun q => (hA q).1
  have ha3 : Xi S 904 65 = 0 → 2 * Xi S 904 69 ≤ Xi S 904 8 + 1 := fun q => (hA q).2.1
  clear hat
  intro T8 hHT8 hFT8 A125 V125 w140 w141 w142 w143 w144 c125 BDA_125
  have w145 : 0 ≤ Xi T8 904 65 ∧ Xi T8 904 65 ≤ 1 := hHT8.c _ _
  have w146 : 0 ≤ Xi T8 904 69 ∧ Xi T8 904 69 ≤ 2600 := hHT8.c _ _
  have w147 : 0 ≤ Xi T8 904 70 ∧ Xi T8 904 70 ≤ 20 := hHT8.c _ _
  have w148 : 0 ≤ Xi T8 904 8 ∧ Xi T8 904 8 ≤ 5010 := hHT8.c _ _
  refine l_aload_n rfl rfl ?_
  refine l_callV rfl rfl rfl (t_mo_run__2 hHT8 n c (by first | assumption | exact (TK_FR hFT8 rfl (by assumption : TK S _))) (by first | assumption | exact (by assumption : AT T8 _ _)) (by first | assumption | exact (by assumption : RNV T8 _)) (by first | assumption | exact (by assumption : BDA T8)) _) ?_
  rintro _ T9 ⟨hHT9, w161, z160, rfl, w160, w154, w155, w156, w157, w158, w159⟩
  have hFT9 : FR md_mo_others__2 S T9 := FR.tr hFT8 w161 rfl
  show Rl _ _ _ _ _ [iv z160] _ _
  have w163 : 0 ≤ Xi T9 904 8 ∧ Xi T9 904 8 ≤ 5010 := hHT9.c _ _
  have w164 : 0 ≤ Xi T9 904 65 ∧ Xi T9 904 65 ≤ 1 := hHT9.c _ _
  have w165 : 0 ≤ Xi T9 904 69 ∧ Xi T9 904 69 ≤ 2600 := hHT9.c _ _
  have w166 : Xi T9 904 93 = Xi T8 904 93 := (show Xi T9 904 93 = Xi T8 904 93 from w161.x _ _ rfl)
  have w167 : 0 ≤ Xi T8 904 93 ∧ Xi T8 904 93 ≤ 1700 := hHT8.c _ _
  have c126 : Xi T9 904 65 = 0 → Xi S 904 69 + 2 ≤ Xi T9 904 69 := by omega
  clear c125
  have w162 : Xi S 904 8 ≤ Xi T9 904 8 ∧ Xi T9 904 8 ≤ n + 1 ∧ Xi S 904 69 ≤ Xi T9 904 69 ∧ (Xi T9 904 65 = 0 → Xi S 904 65 = 0) := by omega
  clear w155 w157 w158
  refine l_pop rfl rfl ?_
  refine l_aload_n rfl rfl ?_
  refine l_bipush rfl rfl ?_
  refine l_callV rfl rfl rfl (t_mo_take__3 hHT9 n c 111 ⟨by omega, by omega⟩ (by first | assumption | exact (TK_FR hFT9 rfl (by assumption : TK S _))) (by first | assumption | exact (by assumption : AT T9 _ _)) (by first | assumption | omega) (by first | assumption | exact (by assumption : BDA T9)) _) ?_
  rintro _ T10 ⟨hHT10, w181, rfl, w175, w176, w177, w178, w179⟩
  have hFT10 : FR md_mo_others__2 S T10 := FR.tr hFT9 w181 rfl
  show Rl _ _ _ _ _ [] _ _
  have w183 : 0 ≤ Xi T10 904 8 ∧ Xi T10 904 8 ≤ 5010 := hHT10.c _ _
  have w184 : 0 ≤ Xi T10 904 65 ∧ Xi T10 904 65 ≤ 1 := hHT10.c _ _
  have w185 : Xi T10 904 69 = Xi T9 904 69 := (show Xi T10 904 69 = Xi T9 904 69 from w181.x _ _ rfl)
  have w187 : Xi T10 904 93 = Xi T8 904 93 := (show Xi T10 904 93 = Xi T9 904 93 from w181.x _ _ rfl).trans ((show Xi T9 904 93 = Xi T8 904 93 from w161.x _ _ rfl))
  have c133 : Xi T10 904 65 = 0 → Xi S 904 69 + 2 ≤ Xi T10 904 69 := by omega
  clear c126
  have w182 : Xi S 904 8 ≤ Xi T10 904 8 ∧ Xi T10 904 8 ≤ n + 1 ∧ Xi S 904 69 ≤ Xi T10 904 69 ∧ (Xi T10 904 65 = 0 → Xi S 904 65 = 0) := by omega
  clear w176 w177 w178 w162
  refine l_aload_n rfl rfl ?_
  refine l_aload_n rfl rfl ?_
  refine l_callV rfl rfl rfl (t_mo_oneOrVarious__3 hHT10 n c (by first | assumption | exact (TK_FR hFT10 rfl (by assumption : TK S _))) (by first | assumption | exact (by assumption : AT T10 _ _)) (by first | assumption | omega) (by first | assumption | exact (by assumption : BDA T10)) _) ?_
  rintro _ T11 ⟨hHT11, w202, z201, rfl, w201, w197, w198, w199, w200⟩
  have hFT11 : FR md_mo_others__2 S T11 := FR.tr hFT10 w202 rfl
  show Rl _ _ _ _ _ [iv z201, .ref 904] _ _
  have w204 : 0 ≤ Xi T11 904 8 ∧ Xi T11 904 8 ≤ 5010 := hHT11.c _ _
  have w205 : 0 ≤ Xi T11 904 65 ∧ Xi T11 904 65 ≤ 1 := hHT11.c _ _
  have w206 : Xi T11 904 69 = Xi T9 904 69 := (show Xi T11 904 69 = Xi T10 904 69 from w202.x _ _ rfl).trans ((show Xi T10 904 69 = Xi T9 904 69 from w181.x _ _ rfl))
  have w208 : Xi T11 904 93 = Xi T8 904 93 := (show Xi T11 904 93 = Xi T10 904 93 from w202.x _ _ rfl).trans ( (show Xi T10 904 93 = Xi T9 904 93 from w181.x _ _ rfl).trans ((show Xi T9 904 93 = Xi T8 904 93 from w161.x _ _ rfl)))
  have c138 : Xi T11 904 65 = 0 → Xi S 904 69 + 2 ≤ Xi T11 904 69 := by omega
  clear c133
  have w203 : Xi S 904 8 ≤ Xi T11 904 8 ∧ Xi T11 904 8 ≤ n + 2 ∧ Xi S 904 69 ≤ Xi T11 904 69 ∧ (Xi T11 904 65 = 0 → Xi S 904 65 = 0) := by omega
  clear w198 w199 w182
  refine l_pfz rfl rfl rfl rfl (by omega) ?_
  obtain ⟨U12, eU12⟩ : ∃ T : sS, T = uI T11 904 80 (Int32.ofInt z201) := ⟨_, rfl⟩
  rw [← eU12]
  have hHU12 : HI U12 := by rw [eU12]; exact HI_w hHT11 (show 0 ≤ z201 by omega) (show z201 ≤ 1 by omega)
  have hFU12 : FR md_mo_others__2 S U12 := by rw [eU12]; exact FR.wI hFT11 (mdf_i (r := (904, 905, 80, 81)) (List.mem_of_getElem? (i := 6) rfl) (inR_i (by omega) (by omega) (by omega) (by omega)))
  have w210 : Xi U12 904 80 = z201 := by rw [eU12]; exact Xi_same (by unfold rg; omega)
  refine l_aload_n rfl rfl ?_
  have w211 : Xi U12 904 65 = Xi T11 904 65 := (show Xi U12 904 65 = Xi T11 904 65 from by rw [eU12]; exact Xi_ne (by omega))
  have w213 : Xi U12 904 69 = Xi T9 904 69 := (show Xi U12 904 69 = Xi T11 904 69 from by rw [eU12]; exact Xi_ne (by omega)).trans ( (show Xi T11 904 69 = Xi T10 904 69 from w202.x _ _ rfl).trans ((show Xi T10 904 69 = Xi T9 904 69 from w181.x _ _ rfl)))
  have w217 : Xi U12 904 8 = Xi T11 904 8 := (show Xi U12 904 8 = Xi T11 904 8 from by rw [eU12]; exact Xi_ne (by omega))
  refine l_callV rfl rfl rfl (t_mo_run__2 hHU12 n c (by first | assumption | exact (TK_FR hFU12 rfl (by assumption : TK S _))) (by first | assumption | exact (AT_FR (FR_e eU12) rfl (by assumption : AT T11 _ _))) (by first | assumption | exact (RNV_FR (FR_e eU12) rfl (RNV_FR w202 rfl (RNV_FR w181 rfl (by assumption : RNV T9 _))))) (by first | assumption | exact (BDA_FR (FR_e eU12) rfl (by assumption : BDA T11))) _) ?_
  rintro _ T13 ⟨hHT13, w228, z227, rfl, w227, w221, w222, w223, w224, w225, w226⟩
  have hFT13 : FR md_mo_others__2 S T13 := FR.tr hFU12 w228 rfl
  show Rl _ _ _ _ _ [iv z227] _ _
  have w230 : 0 ≤ Xi T13 904 8 ∧ Xi T13 904 8 ≤ 5010 := hHT13.c _ _
  have w231 : 0 ≤ Xi T13 904 65 ∧ Xi T13 904 65 ≤ 1 := hHT13.c _ _
  have w232 : 0 ≤ Xi T13 904 69 ∧ Xi T13 904 69 ≤ 2600 := hHT13.c _ _
  have w233 : Xi T13 904 93 = Xi T8 904 93 := (show Xi T13 904 93 = Xi U12 904 93 from w228.x _ _ rfl).trans ( (show Xi U12 904 93 = Xi T11 904 93 from by rw [eU12]; exact Xi_ne (by omega)).trans ( (show Xi T11 904 93 = Xi T10 904 93 from w202.x _ _ rfl).trans ( (show Xi T10 904 93 = Xi T9 904 93 from w181.x _ _ rfl).trans ((show Xi T9 904 93 = Xi T8 904 93 from w161.x _ _ rfl)))))
  have c145 : Xi T13 904 65 = 0 → Xi S 904 69 + 3 ≤ Xi T13 904 69 := by omega
  clear c138
  have w229 : Xi S 904 8 ≤ Xi T13 904 8 ∧ Xi T13 904 8 ≤ n + 2 ∧ Xi S 904 69 ≤ Xi T13 904 69 ∧ (Xi T13 904 65 = 0 → Xi S 904 65 = 0) := by omega
  clear w222 w224 w225 w203
  refine l_pop rfl rfl ?_
  refine l_goto rfl rfl ?_
  refine l_return rfl rfl ?_
  have w237 : Xi T13 904 70 = Xi T8 904 70 := (show Xi T13 904 70 = Xi U12 904 70 from w228.x _ _ rfl).trans ( (show Xi U12 904 70 = Xi T11 904 70 from by rw [eU12]; exact Xi_ne (by omega)).trans ( (show Xi T11 904 70 = Xi T10 904 70 from w202.x _ _ rfl).trans ( (show Xi T10 904 70 = Xi T9 904 70 from w181.x _ _ rfl).trans ((show Xi T9 904 70 = Xi T8 904 70 from w161.x _ _ rfl)))))
  exact ⟨hHT13, hFT13, rfl, (by first | assumption | exact AT_bad (by omega)), (by omega), (by first | assumption | exact (by assumption : RNV T13 _)), (by omega), (by omega), (by omega), (fun q => by unfold SNQ; refine ⟨fun q1 => absurd q1 (by omega), by omega, by omega, by omega, fun q9 => absurd q9 (by omega), by omega, by omega, by omega, by omega, by omega⟩), (by first | assumption | exact (by assumption : BDA T13))⟩
set_option maxRecDepth 100000 in
set_option maxHeartbeats 4000000 in
theorem c168_mo_others__2 {S : sS} (hH : HI S) (n : Nat) (c : Nat) (tells : Int) (htells : 0 ≤ tells ∧ tells ≤ 154) (hT : TK S n) (hA : AT S n c) (hv : RNV S n) (hx : Xi S 904 8 ≤ n) (hBDA : BDA S) (d : Nat) : ∀ (n168 : Nat) (T14 : sS) (_ : HI T14) (_ : FR md_mo_others__2 S T14) (v2 : Int) (v3 : Int), (0 ≤ v2 ∧ v2 ≤ 5010) → (0 ≤ v3 ∧ v3 ≤ 154) → (AT T14 n c) → (RNV T14 n) → (v3 ≠ 1 → Xi T14 904 65 = 0 ∧ Xi T14 907 (Xi T14 904 8).toNat = v3) → (Xi T14 904 65 = Xi S 904 65) → (Xi T14 904 69 = Xi S 904 69) → (Xi S 904 8 ≤ Xi T14 904 8 ∧ Xi T14 904 8 ≤ n) → (Xi T14 904 70 = 20) → (BDA T14) → n168 = (5002 - Xi T14 904 8).toNat → Rl lay0 (d + 3) m_mo_others 168 [(0, .ref 904), (2, iv v2), (3, iv v3)] [] T14 (Q_mo_others__2 S n c tells) := by
  have hF : FR md_mo_others__2 S S := FR.rf
  have w1 : 0 ≤ Xi S 904 65 ∧ Xi S 904 65 ≤ 1 := hH.c _ _
  have w2 : 0 ≤ Xi S 904 69 ∧ Xi S 904 69 ≤ 2600 := hH.c _ _
  have w3 : 0 ≤ Xi S 904 70 ∧ Xi S 904 70 ≤ 20 := hH.c _ _
  have w4 : 0 ≤ Xi S 904 8 ∧ Xi S 904 8 ≤ 5010 := hH.c _ _
  have hn5 := hT.1
  have hat := hA
  have h8 : 0 ≤ Xi S 904 8 ∧ Xi S 904 8 ≤ 5010 := hH.c _ _
  have h69 : 0 ≤ Xi S 904 69 ∧ Xi S 904 69 ≤ 2600 := hH.c _ _
  have ha0 : Xi S 904 65 = 0 → Xi S 904 8 ≤ n := fun q => (hA q).1
  have ha3 : Xi S 904 65 = 0 → 2 * Xi S 904 69 ≤ Xi S 904 8 + 1 := fun q => (hA q).2.1
  clear hat
  intro n168
  induction n168 using Nat.strongRecOn with
  | ind n168 ih168 =>
    intro T14 hHT14 hFT14 v2 v3 w242 w243 A168 V168 w244 w245 w246 w247 w248 BDA_168 hm168
    have w249 : 0 ≤ Xi T14 904 65 ∧ Xi T14 904 65 ≤ 1 := hHT14.c _ _
    have w250 : 0 ≤ Xi T14 904 69 ∧ Xi T14 904 69 ≤ 2600 := hHT14.c _ _
    have w251 : 0 ≤ Xi T14 904 70 ∧ Xi T14 904 70 ≤ 20 := hHT14.c _ _
    have w252 : 0 ≤ Xi T14 904 8 ∧ Xi T14 904 8 ≤ 5010 := hHT14.c _ _
    refine l_iload_n rfl rfl ?_
    refine l_iconst rfl ?_
    refine l_icmp_eq rfl rfl (by unfold rg; omega) (by unfold rg; omega) (fun w253 => ?_) (fun w254 => ?_)
    · refine l_aload_n rfl rfl ?_
      refine l_dup rfl rfl ?_
      refine l_gfi rfl rfl rfl rfl rfl ?_
      refine l_iconst rfl ?_
      refine l_iadd rfl ?_
      refine l_pfi rfl rfl rfl rfl ?_
      obtain ⟨U15, eU15⟩ : ∃ T : sS, T = uI T14 904 8 (Int32.ofInt ((Xi T14 904 8) + 1)) := ⟨_, rfl⟩
      rw [← eU15]
      have hHU15 : HI U15 := by rw [eU15]; exact HI_w hHT14 (show 0 ≤ ((Xi T14 904 8) + 1) by omega) (show ((Xi T14 904 8) + 1) ≤ 5010 by omega)
      have hFU15 : FR md_mo_others__2 S U15 := by rw [eU15]; exact FR.wI hFT14 (mdf_i (r := (904, 905, 8, 9)) (List.mem_of_getElem? (i := 0) rfl) (inR_i (by omega) (by omega) (by omega) (by omega)))
      have w255 : Xi U15 904 8 = ((Xi T14 904 8) + 1) := by rw [eU15]; exact Xi_same (by unfold rg; omega)
      have t199 : AT U15 n c ∧ _ := (at_mv (S := T14) (P := T14) (TK_FR hFT14 rfl (by assumption : TK S _)) (by first | assumption | exact (by assumption : AT T14 _ _)) (fun j => rfl) (fun j => rfl) (rfl) (rfl) (rfl) (rfl) eU15 (by omega) (by omega) (by omega) (by omega) (Or.inl rfl))
      have a199 : AT U15 n c := t199.1
      have l199 := t199.2
      refine l_aload_n rfl rfl ?_
      have w256 : Xi U15 904 65 = Xi T14 904 65 := (show Xi U15 904 65 = Xi T14 904 65 from by rw [eU15]; exact Xi_ne (by omega))
      have w262 : 0 ≤ Xi U15 904 8 ∧ Xi U15 904 8 ≤ 5010 := hHU15.c _ _
      refine l_callV rfl rfl rfl (t_mo_look hHU15 n c (by first | assumption | exact (TK_FR hFU15 rfl (by assumption : TK S _))) (by first | assumption | exact (by assumption : AT U15 _ _)) _) ?_
      rintro _ _ ⟨rfl, z266, rfl, w266, w265⟩
      show Rl _ _ _ _ _ [iv z266] _ _
      have l203 : z266 ≠ 1 → Xi U15 904 65 = 0 ∧ Xi U15 907 (Xi U15 904 8).toNat = z266 := by assumption
      refine l_istore_n rfl rfl rfl ?_
      refine l_goto rfl rfl ?_
      have w269 : Xi U15 904 69 = Xi T14 904 69 := (show Xi U15 904 69 = Xi T14 904 69 from by rw [eU15]; exact Xi_ne (by omega))
      have w271 : Xi U15 904 70 = Xi T14 904 70 := (show Xi U15 904 70 = Xi T14 904 70 from by rw [eU15]; exact Xi_ne (by omega))
      have w274 : Xi U15 904 93 = Xi T14 904 93 := (show Xi U15 904 93 = Xi T14 904 93 from by rw [eU15]; exact Xi_ne (by omega))
      have w275 : 0 ≤ Xi T14 904 93 ∧ Xi T14 904 93 ≤ 1700 := hHT14.c _ _
      exact Rl_weak (ih168 _ (by omega) U15 hHU15 hFU15 (v2) (z266) (by omega) (by omega) (by first | assumption | exact (by assumption : AT U15 _ _)) (by first | assumption | exact (RNV_FR (FR_e eU15) rfl (by assumption : RNV T14 _))) (by omega) (by omega) (by omega) (by omega) (by omega) (by first | assumption | exact (BDA_FR (FR_e eU15) rfl (by assumption : BDA T14))) rfl) (And.intro rfl (And.intro rfl (And.intro rfl (True.intro))))
    · refine l_iload_n rfl rfl ?_
      have w280 : 0 ≤ Xi T14 904 93 ∧ Xi T14 904 93 ≤ 1700 := hHT14.c _ _
      refine l_callS rfl rfl (by decide) rfl (t_mo_isArt hHT14 v3 ⟨by omega, by omega⟩ _) ?_
      rintro _ _ ⟨rfl, z282, rfl, w282, w281⟩
      show Rl _ _ _ _ _ [iv z282] _ _
      refine l_if_ne rfl rfl (by unfold rg; omega) (fun w283 => ?_) (fun w284 => ?_)
      · refine l_aload_n rfl rfl ?_
        refine l_dup rfl rfl ?_
        refine l_gfi rfl rfl rfl rfl rfl ?_
        refine l_iconst rfl ?_
        refine l_iadd rfl ?_
        refine l_pfi rfl rfl rfl rfl ?_
        obtain ⟨U16, eU16⟩ : ∃ T : sS, T = uI T14 904 8 (Int32.ofInt ((Xi T14 904 8) + 1)) := ⟨_, rfl⟩
        rw [← eU16]
        have hHU16 : HI U16 := by rw [eU16]; exact HI_w hHT14 (show 0 ≤ ((Xi T14 904 8) + 1) by omega) (show ((Xi T14 904 8) + 1) ≤ 5010 by omega)
        have hFU16 : FR md_mo_others__2 S U16 := by rw [eU16]; exact FR.wI hFT14 (mdf_i (r := (904, 905, 8, 9)) (List.mem_of_getElem? (i := 0) rfl) (inR_i (by omega) (by omega) (by omega) (by omega)))
        have w285 : Xi U16 904 8 = ((Xi T14 904 8) + 1) := by rw [eU16]; exact Xi_same (by unfold rg; omega)
        have t199 : AT U16 n c ∧ _ := (at_mv (S := T14) (P := T14) (TK_FR hFT14 rfl (by assumption : TK S _)) (by first | assumption | exact (by assumption : AT T14 _ _)) (fun j => rfl) (fun j => rfl) (rfl) (rfl) (rfl) (rfl) eU16 (by omega) (by omega) (by omega) (by omega) (Or.inl rfl))
        have a199 : AT U16 n c := t199.1
        have l199 := t199.2
        refine l_aload_n rfl rfl ?_
        have w286 : Xi U16 904 65 = Xi T14 904 65 := (show Xi U16 904 65 = Xi T14 904 65 from by rw [eU16]; exact Xi_ne (by omega))
        have w292 : 0 ≤ Xi U16 904 8 ∧ Xi U16 904 8 ≤ 5010 := hHU16.c _ _
        refine l_callV rfl rfl rfl (t_mo_look hHU16 n c (by first | assumption | exact (TK_FR hFU16 rfl (by assumption : TK S _))) (by first | assumption | exact (by assumption : AT U16 _ _)) _) ?_
        rintro _ _ ⟨rfl, z296, rfl, w296, w295⟩
        show Rl _ _ _ _ _ [iv z296] _ _
        have l203 : z296 ≠ 1 → Xi U16 904 65 = 0 ∧ Xi U16 907 (Xi U16 904 8).toNat = z296 := by assumption
        refine l_istore_n rfl rfl rfl ?_
        refine l_goto rfl rfl ?_
        have w299 : Xi U16 904 69 = Xi T14 904 69 := (show Xi U16 904 69 = Xi T14 904 69 from by rw [eU16]; exact Xi_ne (by omega))
        have w301 : Xi U16 904 70 = Xi T14 904 70 := (show Xi U16 904 70 = Xi T14 904 70 from by rw [eU16]; exact Xi_ne (by omega))
        have w304 : Xi U16 904 93 = Xi T14 904 93 := (show Xi U16 904 93 = Xi T14 904 93 from by rw [eU16]; exact Xi_ne (by omega))
        exact Rl_weak (ih168 _ (by omega) U16 hHU16 hFU16 (v2) (z296) (by omega) (by omega) (by first | assumption | exact (by assumption : AT U16 _ _)) (by first | assumption | exact (RNV_FR (FR_e eU16) rfl (by assumption : RNV T14 _))) (by omega) (by omega) (by omega) (by omega) (by omega) (by first | assumption | exact (BDA_FR (FR_e eU16) rfl (by assumption : BDA T14))) rfl) (And.intro rfl (And.intro rfl (And.intro rfl (True.intro))))
      · refine l_iload_n rfl rfl ?_
        refine l_bipush rfl rfl ?_
        refine l_icmp_eq rfl rfl (by unfold rg; omega) (by unfold rg; omega) (fun w306 => ?_) (fun w307 => ?_)
        · refine l_aload_n rfl rfl ?_
          refine l_dup rfl rfl ?_
          refine l_gfi rfl rfl rfl rfl rfl ?_
          refine l_iconst rfl ?_
          refine l_iadd rfl ?_
          refine l_pfi rfl rfl rfl rfl ?_
          obtain ⟨U17, eU17⟩ : ∃ T : sS, T = uI T14 904 8 (Int32.ofInt ((Xi T14 904 8) + 1)) := ⟨_, rfl⟩
          rw [← eU17]
          have hHU17 : HI U17 := by rw [eU17]; exact HI_w hHT14 (show 0 ≤ ((Xi T14 904 8) + 1) by omega) (show ((Xi T14 904 8) + 1) ≤ 5010 by omega)
          have hFU17 : FR md_mo_others__2 S U17 := by rw [eU17]; exact FR.wI hFT14 (mdf_i (r := (904, 905, 8, 9)) (List.mem_of_getElem? (i := 0) rfl) (inR_i (by omega) (by omega) (by omega) (by omega)))
          have w308 : Xi U17 904 8 = ((Xi T14 904 8) + 1) := by rw [eU17]; exact Xi_same (by unfold rg; omega)
          have t199 : AT U17 n c ∧ _ := (at_mv (S := T14) (P := T14) (TK_FR hFT14 rfl (by assumption : TK S _)) (by first | assumption | exact (by assumption : AT T14 _ _)) (fun j => rfl) (fun j => rfl) (rfl) (rfl) (rfl) (rfl) eU17 (by omega) (by omega) (by omega) (by omega) (Or.inl rfl))
          have a199 : AT U17 n c := t199.1
          have l199 := t199.2
          refine l_aload_n rfl rfl ?_
          have w309 : Xi U17 904 65 = Xi T14 904 65 := (show Xi U17 904 65 = Xi T14 904 65 from by rw [eU17]; exact Xi_ne (by omega))
          have w315 : 0 ≤ Xi U17 904 8 ∧ Xi U17 904 8 ≤ 5010 := hHU17.c _ _
          refine l_callV rfl rfl rfl (t_mo_look hHU17 n c (by first | assumption | exact (TK_FR hFU17 rfl (by assumption : TK S _))) (by first | assumption | exact (by assumption : AT U17 _ _)) _) ?_
          rintro _ _ ⟨rfl, z319, rfl, w319, w318⟩
          show Rl _ _ _ _ _ [iv z319] _ _
          have l203 : z319 ≠ 1 → Xi U17 904 65 = 0 ∧ Xi U17 907 (Xi U17 904 8).toNat = z319 := by assumption
          refine l_istore_n rfl rfl rfl ?_
          refine l_goto rfl rfl ?_
          have w322 : Xi U17 904 69 = Xi T14 904 69 := (show Xi U17 904 69 = Xi T14 904 69 from by rw [eU17]; exact Xi_ne (by omega))
          have w324 : Xi U17 904 70 = Xi T14 904 70 := (show Xi U17 904 70 = Xi T14 904 70 from by rw [eU17]; exact Xi_ne (by omega))
          have w327 : Xi U17 904 93 = Xi T14 904 93 := (show Xi U17 904 93 = Xi T14 904 93 from by rw [eU17]; exact Xi_ne (by omega))
          exact Rl_weak (ih168 _ (by omega) U17 hHU17 hFU17 (v2) (z319) (by omega) (by omega) (by first | assumption | exact (by assumption : AT U17 _ _)) (by first | assumption | exact (RNV_FR (FR_e eU17) rfl (by assumption : RNV T14 _))) (by omega) (by omega) (by omega) (by omega) (by omega) (by first | assumption | exact (BDA_FR (FR_e eU17) rfl (by assumption : BDA T14))) rfl) (And.intro rfl (And.intro rfl (And.intro rfl (True.intro))))
        · refine l_iload_n rfl rfl ?_
          refine l_bipush rfl rfl ?_
          refine l_icmp_ne rfl rfl (by unfold rg; omega) (by unfold rg; omega) (fun w329 => ?_) (fun w330 => ?_)
          · refine l_aload_n rfl rfl ?_
            refine l_gfi rfl rfl rfl rfl rfl ?_
            refine l_iload_n rfl rfl ?_
            refine l_icmp_ne rfl rfl (by unfold rg; omega) (by unfold rg; omega) (fun w331 => ?_) (fun w332 => ?_)
            · refine l_return rfl rfl ?_
              exact ⟨hHT14, hFT14, rfl, (by first | assumption | exact AT_bad (by omega)), (by omega), (by first | assumption | exact (by assumption : RNV T14 _)), (by omega), (by omega), (by omega), (fun q => by unfold SNQ; refine ⟨fun q1 => absurd q1 (by omega), by omega, by omega, by omega, fun q9 => absurd q9 (by omega), by omega, by omega, by omega, by omega, by omega⟩), (by first | assumption | exact (by assumption : BDA T14))⟩
            · refine l_aload_n rfl rfl ?_
              refine l_callV rfl rfl rfl (t_mo_odd__2 hHT14 (by first | assumption | exact (by assumption : BDA T14)) (by first | omega | exact fun q => (by have t := ((by assumption : AT T14 _ _) q).1; have u := hT.1; omega)) _) ?_
              rintro _ T18 ⟨hHT18, w347, rfl, w343, w344, w345⟩
              have hFT18 : FR md_mo_others__2 S T18 := FR.tr hFT14 w347 rfl
              show Rl _ _ _ _ _ [] _ _
              have w349 : Xi T18 904 8 = Xi T14 904 8 := (show Xi T18 904 8 = Xi T14 904 8 from w347.x _ _ rfl)
              have w351 : 0 ≤ Xi T18 904 65 ∧ Xi T18 904 65 ≤ 1 := hHT18.c _ _
              have w352 : Xi T18 904 69 = Xi T14 904 69 := (show Xi T18 904 69 = Xi T14 904 69 from w347.x _ _ rfl)
              have w354 : Xi T18 904 93 = Xi T14 904 93 := (show Xi T18 904 93 = Xi T14 904 93 from w347.x _ _ rfl)
              have w348 : Xi S 904 8 ≤ Xi T18 904 8 ∧ Xi T18 904 8 ≤ n ∧ Xi S 904 69 ≤ Xi T18 904 69 ∧ (Xi T18 904 65 = 0 → Xi S 904 65 = 0) := by omega
              clear w344
              refine l_return rfl rfl ?_
              have w359 : Xi T18 904 70 = Xi T14 904 70 := (show Xi T18 904 70 = Xi T14 904 70 from w347.x _ _ rfl)
              exact ⟨hHT18, hFT18, rfl, (by first | assumption | exact AT_bad (by omega)), (by omega), (by first | assumption | exact (RNV_FR w347 rfl (by assumption : RNV T14 _))), (by omega), (by omega), (by omega), (fun q => by unfold SNQ; refine ⟨fun q1 => absurd q1 (by omega), by omega, by omega, by omega, fun q9 => absurd q9 (by omega), by omega, by omega, by omega, by omega, by omega⟩), (by first | assumption | exact (by assumption : BDA T18))⟩
          · refine l_aload_n rfl rfl ?_
            refine l_dup rfl rfl ?_
            refine l_gfi rfl rfl rfl rfl rfl ?_
            refine l_iconst rfl ?_
            refine l_iadd rfl ?_
            refine l_pfi rfl rfl rfl rfl ?_
            obtain ⟨U19, eU19⟩ : ∃ T : sS, T = uI T14 904 8 (Int32.ofInt ((Xi T14 904 8) + 1)) := ⟨_, rfl⟩
            rw [← eU19]
            have hHU19 : HI U19 := by rw [eU19]; exact HI_w hHT14 (show 0 ≤ ((Xi T14 904 8) + 1) by omega) (show ((Xi T14 904 8) + 1) ≤ 5010 by omega)
            have hFU19 : FR md_mo_others__2 S U19 := by rw [eU19]; exact FR.wI hFT14 (mdf_i (r := (904, 905, 8, 9)) (List.mem_of_getElem? (i := 0) rfl) (inR_i (by omega) (by omega) (by omega) (by omega)))
            have w365 : Xi U19 904 8 = ((Xi T14 904 8) + 1) := by rw [eU19]; exact Xi_same (by unfold rg; omega)
            have t199 : AT U19 n c ∧ _ := (at_mv (S := T14) (P := T14) (TK_FR hFT14 rfl (by assumption : TK S _)) (by first | assumption | exact (by assumption : AT T14 _ _)) (fun j => rfl) (fun j => rfl) (rfl) (rfl) (rfl) (rfl) eU19 (by omega) (by omega) (by omega) (by omega) (Or.inl rfl))
            have a199 : AT U19 n c := t199.1
            have l199 := t199.2
            refine l_aload_n rfl rfl ?_
            have w366 : Xi U19 904 65 = Xi T14 904 65 := (show Xi U19 904 65 = Xi T14 904 65 from by rw [eU19]; exact Xi_ne (by omega))
            have w372 : 0 ≤ Xi U19 904 8 ∧ Xi U19 904 8 ≤ 5010 := hHU19.c _ _
            refine l_callV rfl rfl rfl (t_mo_look hHU19 n c (by first | assumption | exact (TK_FR hFU19 rfl (by assumption : TK S _))) (by first | assumption | exact (by assumption : AT U19 _ _)) _) ?_
            rintro _ _ ⟨rfl, z376, rfl, w376, w375⟩
            show Rl _ _ _ _ _ [iv z376] _ _
            have l203 : z376 ≠ 1 → Xi U19 904 65 = 0 ∧ Xi U19 907 (Xi U19 904 8).toNat = z376 := by assumption
            refine l_istore_n rfl rfl rfl ?_
            refine l_goto rfl rfl ?_
            have w379 : Xi U19 904 69 = Xi T14 904 69 := (show Xi U19 904 69 = Xi T14 904 69 from by rw [eU19]; exact Xi_ne (by omega))
            have w381 : Xi U19 904 70 = Xi T14 904 70 := (show Xi U19 904 70 = Xi T14 904 70 from by rw [eU19]; exact Xi_ne (by omega))
            have w384 : Xi U19 904 93 = Xi T14 904 93 := (show Xi U19 904 93 = Xi T14 904 93 from by rw [eU19]; exact Xi_ne (by omega))
            exact Rl_weak (ih168 _ (by omega) U19 hHU19 hFU19 (v2) (z376) (by omega) (by omega) (by first | assumption | exact (by assumption : AT U19 _ _)) (by first | assumption | exact (RNV_FR (FR_e eU19) rfl (by assumption : RNV T14 _))) (by omega) (by omega) (by omega) (by omega) (by omega) (by first | assumption | exact (BDA_FR (FR_e eU19) rfl (by assumption : BDA T14))) rfl) (And.intro rfl (And.intro rfl (And.intro rfl (True.intro))))
set_option maxRecDepth 100000 in
set_option maxHeartbeats 4000000 in
theorem t_mo_others__2 {S : sS} (hH : HI S) (n : Nat) (c : Nat) (tells : Int) (htells : 0 ≤ tells ∧ tells ≤ 154) (hT : TK S n) (hA : AT S n c) (hv : RNV S n) (hx : Xi S 904 8 ≤ n) (hBDA : BDA S) (d : Nat) : Mt lay0 (d + 4) m_mo_others [.ref 904, iv tells] S (Q_mo_others__2 S n c tells) := by
  refine Mt_R rfl rfl ?_
  have C32 := c32_mo_others__2 hH n c tells htells hT hA hv hx hBDA d 
  have C75 := c75_mo_others__2 hH n c tells htells hT hA hv hx hBDA d 
  have C125 := c125_mo_others__2 hH n c tells htells hT hA hv hx hBDA d 
  have C168 := c168_mo_others__2 hH n c tells htells hT hA hv hx hBDA d 
  have hF : FR md_mo_others__2 S S := FR.rf
  have w1 : 0 ≤ Xi S 904 65 ∧ Xi S 904 65 ≤ 1 := hH.c _ _
  have w2 : 0 ≤ Xi S 904 69 ∧ Xi S 904 69 ≤ 2600 := hH.c _ _
  have w3 : 0 ≤ Xi S 904 70 ∧ Xi S 904 70 ≤ 20 := hH.c _ _
  have w4 : 0 ≤ Xi S 904 8 ∧ Xi S 904 8 ≤ 5010 := hH.c _ _
  have hn5 := hT.1
  have hat := hA
  have h8 : 0 ≤ Xi S 904 8 ∧ Xi S 904 8 ≤ 5010 := hH.c _ _
  have h69 : 0 ≤ Xi S 904 69 ∧ Xi S 904 69 ≤ 2600 := hH.c _ _
  have ha0 : Xi S 904 65 = 0 → Xi S 904 8 ≤ n := fun q => (hA q).1
  have ha3 : Xi S 904 65 = 0 → 2 * Xi S 904 69 ≤ Xi S 904 8 + 1 := fun q => (hA q).2.1
  clear hat
  refine l_iload_n rfl rfl ?_
  refine l_bipush rfl rfl ?_
  refine l_icmp_ne rfl rfl (by unfold rg; omega) (by unfold rg; omega) (fun w386 => ?_) (fun w387 => ?_)
  · refine l_iload_n rfl rfl ?_
    refine l_bipush rfl rfl ?_
    refine l_icmp_ne rfl rfl (by unfold rg; omega) (by unfold rg; omega) (fun w388 => ?_) (fun w389 => ?_)
    · refine l_iload_n rfl rfl ?_
      refine l_bipush rfl rfl ?_
      refine l_icmp_ne rfl rfl (by unfold rg; omega) (by unfold rg; omega) (fun w390 => ?_) (fun w391 => ?_)
      · refine l_aload_n rfl rfl ?_
        refine l_bipush rfl rfl ?_
        refine l_pfi rfl rfl rfl rfl ?_
        obtain ⟨U20, eU20⟩ : ∃ T : sS, T = uI S 904 70 (Int32.ofInt 20) := ⟨_, rfl⟩
        rw [← eU20]
        have hHU20 : HI U20 := by rw [eU20]; exact HI_w hH (show 0 ≤ 20 by omega) (show 20 ≤ 20 by omega)
        have hFU20 : FR md_mo_others__2 S U20 := by rw [eU20]; exact FR.wI hF (mdf_i (r := (904, 905, 70, 71)) (List.mem_of_getElem? (i := 4) rfl) (inR_i (by omega) (by omega) (by omega) (by omega)))
        have w392 : Xi U20 904 70 = 20 := by rw [eU20]; exact Xi_same (by unfold rg; omega)
        refine l_aload_n rfl rfl ?_
        refine l_gfi rfl rfl rfl rfl rfl ?_
        have w393 : (Xi U20 904 8) = (Xi S 904 8) := (show Xi U20 904 8 = Xi S 904 8 from by rw [eU20]; exact Xi_ne (by omega))
        rw [w393]
        refine l_istore_n rfl rfl rfl ?_
        refine l_aload_n rfl rfl ?_
        have w394 : Xi U20 904 65 = Xi S 904 65 := (show Xi U20 904 65 = Xi S 904 65 from by rw [eU20]; exact Xi_ne (by omega))
        have w399 : Xi U20 904 8 = Xi S 904 8 := (show Xi U20 904 8 = Xi S 904 8 from by rw [eU20]; exact Xi_ne (by omega))
        refine l_callV rfl rfl rfl (t_mo_look hHU20 n c (by first | assumption | exact (TK_FR hFU20 rfl (by assumption : TK S _))) (by first | assumption | exact (AT_FR (FR_e eU20) rfl (by assumption : AT S _ _))) _) ?_
        rintro _ _ ⟨rfl, z404, rfl, w404, w403⟩
        show Rl _ _ _ _ _ [iv z404] _ _
        have l164 : z404 ≠ 1 → Xi U20 904 65 = 0 ∧ Xi U20 907 (Xi U20 904 8).toNat = z404 := by assumption
        refine l_istore_n rfl rfl rfl ?_
        have w407 : Xi U20 904 69 = Xi S 904 69 := (show Xi U20 904 69 = Xi S 904 69 from by rw [eU20]; exact Xi_ne (by omega))
        have w409 : 0 ≤ Xi U20 904 70 ∧ Xi U20 904 70 ≤ 20 := hHU20.c _ _
        have w412 : Xi U20 904 93 = Xi S 904 93 := (show Xi U20 904 93 = Xi S 904 93 from by rw [eU20]; exact Xi_ne (by omega))
        have w413 : 0 ≤ Xi S 904 93 ∧ Xi S 904 93 ≤ 1700 := hH.c _ _
        exact Rl_weak (C168 _ U20 hHU20 hFU20 ((Xi S 904 8)) (z404) (by omega) (by omega) (by first | assumption | exact (AT_FR (FR_e eU20) rfl (by assumption : AT S _ _))) (by first | assumption | exact (RNV_FR (FR_e eU20) rfl (by assumption : RNV S _))) (by omega) (by omega) (by omega) (by omega) (by omega) (by first | assumption | exact (BDA_FR (FR_e eU20) rfl (by assumption : BDA S))) rfl) (And.intro rfl (And.intro rfl (And.intro rfl (True.intro))))
      · refine l_aload_n rfl rfl ?_
        refine l_bipush rfl rfl ?_
        refine l_pfi rfl rfl rfl rfl ?_
        obtain ⟨U21, eU21⟩ : ∃ T : sS, T = uI S 904 70 (Int32.ofInt 19) := ⟨_, rfl⟩
        rw [← eU21]
        have hHU21 : HI U21 := by rw [eU21]; exact HI_w hH (show 0 ≤ 19 by omega) (show 19 ≤ 20 by omega)
        have hFU21 : FR md_mo_others__2 S U21 := by rw [eU21]; exact FR.wI hF (mdf_i (r := (904, 905, 70, 71)) (List.mem_of_getElem? (i := 4) rfl) (inR_i (by omega) (by omega) (by omega) (by omega)))
        have w414 : Xi U21 904 70 = 19 := by rw [eU21]; exact Xi_same (by unfold rg; omega)
        refine l_aload_n rfl rfl ?_
        have w415 : Xi U21 904 65 = Xi S 904 65 := (show Xi U21 904 65 = Xi S 904 65 from by rw [eU21]; exact Xi_ne (by omega))
        have w417 : Xi U21 904 69 = Xi S 904 69 := (show Xi U21 904 69 = Xi S 904 69 from by rw [eU21]; exact Xi_ne (by omega))
        have w420 : Xi U21 904 8 = Xi S 904 8 := (show Xi U21 904 8 = Xi S 904 8 from by rw [eU21]; exact Xi_ne (by omega))
        refine l_callV rfl rfl rfl (t_mo_name__2 hHU21 n c (by first | assumption | exact (TK_FR hFU21 rfl (by assumption : TK S _))) (by first | assumption | exact (AT_FR (FR_e eU21) rfl (by assumption : AT S _ _))) (by first | assumption | exact (RNV_FR (FR_e eU21) rfl (by assumption : RNV S _))) (by first | assumption | exact (BDA_FR (FR_e eU21) rfl (by assumption : BDA S))) _) ?_
        rintro _ T22 ⟨hHT22, w431, z430, rfl, w430, w424, w425, w426, w427, w428, w429⟩
        have hFT22 : FR md_mo_others__2 S T22 := FR.tr hFU21 w431 rfl
        show Rl _ _ _ _ _ [iv z430] _ _
        have w433 : 0 ≤ Xi T22 904 8 ∧ Xi T22 904 8 ≤ 5010 := hHT22.c _ _
        have w434 : 0 ≤ Xi T22 904 65 ∧ Xi T22 904 65 ≤ 1 := hHT22.c _ _
        have w435 : 0 ≤ Xi T22 904 69 ∧ Xi T22 904 69 ≤ 2600 := hHT22.c _ _
        have w436 : Xi T22 904 93 = Xi S 904 93 := (show Xi T22 904 93 = Xi U21 904 93 from w431.x _ _ rfl).trans ((show Xi U21 904 93 = Xi S 904 93 from by rw [eU21]; exact Xi_ne (by omega)))
        have w437 : 0 ≤ Xi S 904 93 ∧ Xi S 904 93 ≤ 1700 := hH.c _ _
        have c107 : Xi T22 904 65 = 0 → Xi S 904 69 + 1 ≤ Xi T22 904 69 := by omega
        have w432 : Xi S 904 8 ≤ Xi T22 904 8 ∧ Xi T22 904 8 ≤ n ∧ Xi S 904 69 ≤ Xi T22 904 69 ∧ (Xi T22 904 65 = 0 → Xi S 904 65 = 0) := by omega
        clear w425 w427 w428
        refine l_pop rfl rfl ?_
        refine l_aload_n rfl rfl ?_
        refine l_bipush rfl rfl ?_
        refine l_callV rfl rfl rfl (t_mo_take__3 hHT22 n c 121 ⟨by omega, by omega⟩ (by first | assumption | exact (TK_FR hFT22 rfl (by assumption : TK S _))) (by first | assumption | exact (by assumption : AT T22 _ _)) (by first | assumption | omega) (by first | assumption | exact (by assumption : BDA T22)) _) ?_
        rintro _ T23 ⟨hHT23, w451, rfl, w445, w446, w447, w448, w449⟩
        have hFT23 : FR md_mo_others__2 S T23 := FR.tr hFT22 w451 rfl
        show Rl _ _ _ _ _ [] _ _
        have w453 : 0 ≤ Xi T23 904 8 ∧ Xi T23 904 8 ≤ 5010 := hHT23.c _ _
        have w454 : 0 ≤ Xi T23 904 65 ∧ Xi T23 904 65 ≤ 1 := hHT23.c _ _
        have w455 : Xi T23 904 69 = Xi T22 904 69 := (show Xi T23 904 69 = Xi T22 904 69 from w451.x _ _ rfl)
        have w457 : Xi T23 904 93 = Xi S 904 93 := (show Xi T23 904 93 = Xi T22 904 93 from w451.x _ _ rfl).trans ( (show Xi T22 904 93 = Xi U21 904 93 from w431.x _ _ rfl).trans ((show Xi U21 904 93 = Xi S 904 93 from by rw [eU21]; exact Xi_ne (by omega))))
        have c114 : Xi T23 904 65 = 0 → Xi S 904 69 + 1 ≤ Xi T23 904 69 := by omega
        clear c107
        have w452 : Xi S 904 8 ≤ Xi T23 904 8 ∧ Xi T23 904 8 ≤ n ∧ Xi S 904 69 ≤ Xi T23 904 69 ∧ (Xi T23 904 65 = 0 → Xi S 904 65 = 0) := by omega
        clear w446 w447 w448 w432
        refine l_aload_n rfl rfl ?_
        refine l_aload_n rfl rfl ?_
        refine l_callV rfl rfl rfl (t_mo_oneOrVarious__3 hHT23 n c (by first | assumption | exact (TK_FR hFT23 rfl (by assumption : TK S _))) (by first | assumption | exact (by assumption : AT T23 _ _)) (by first | assumption | omega) (by first | assumption | exact (by assumption : BDA T23)) _) ?_
        rintro _ T24 ⟨hHT24, w472, z471, rfl, w471, w467, w468, w469, w470⟩
        have hFT24 : FR md_mo_others__2 S T24 := FR.tr hFT23 w472 rfl
        show Rl _ _ _ _ _ [iv z471, .ref 904] _ _
        have w474 : 0 ≤ Xi T24 904 8 ∧ Xi T24 904 8 ≤ 5010 := hHT24.c _ _
        have w475 : 0 ≤ Xi T24 904 65 ∧ Xi T24 904 65 ≤ 1 := hHT24.c _ _
        have w476 : Xi T24 904 69 = Xi T22 904 69 := (show Xi T24 904 69 = Xi T23 904 69 from w472.x _ _ rfl).trans ((show Xi T23 904 69 = Xi T22 904 69 from w451.x _ _ rfl))
        have w478 : Xi T24 904 93 = Xi S 904 93 := (show Xi T24 904 93 = Xi T23 904 93 from w472.x _ _ rfl).trans ( (show Xi T23 904 93 = Xi T22 904 93 from w451.x _ _ rfl).trans ( (show Xi T22 904 93 = Xi U21 904 93 from w431.x _ _ rfl).trans ((show Xi U21 904 93 = Xi S 904 93 from by rw [eU21]; exact Xi_ne (by omega)))))
        have c119 : Xi T24 904 65 = 0 → Xi S 904 69 + 1 ≤ Xi T24 904 69 := by omega
        clear c114
        have w473 : Xi S 904 8 ≤ Xi T24 904 8 ∧ Xi T24 904 8 ≤ n + 1 ∧ Xi S 904 69 ≤ Xi T24 904 69 ∧ (Xi T24 904 65 = 0 → Xi S 904 65 = 0) := by omega
        clear w468 w469 w452
        refine l_pfz rfl rfl rfl rfl (by omega) ?_
        obtain ⟨U25, eU25⟩ : ∃ T : sS, T = uI T24 904 79 (Int32.ofInt z471) := ⟨_, rfl⟩
        rw [← eU25]
        have hHU25 : HI U25 := by rw [eU25]; exact HI_w hHT24 (show 0 ≤ z471 by omega) (show z471 ≤ 1 by omega)
        have hFU25 : FR md_mo_others__2 S U25 := by rw [eU25]; exact FR.wI hFT24 (mdf_i (r := (904, 905, 79, 80)) (List.mem_of_getElem? (i := 5) rfl) (inR_i (by omega) (by omega) (by omega) (by omega)))
        have w480 : Xi U25 904 79 = z471 := by rw [eU25]; exact Xi_same (by unfold rg; omega)
        have w481 : Xi U25 904 65 = Xi T24 904 65 := (show Xi U25 904 65 = Xi T24 904 65 from by rw [eU25]; exact Xi_ne (by omega))
        have w483 : Xi U25 904 69 = Xi T22 904 69 := (show Xi U25 904 69 = Xi T24 904 69 from by rw [eU25]; exact Xi_ne (by omega)).trans ( (show Xi T24 904 69 = Xi T23 904 69 from w472.x _ _ rfl).trans ((show Xi T23 904 69 = Xi T22 904 69 from w451.x _ _ rfl)))
        have w485 : Xi U25 904 70 = Xi U21 904 70 := (show Xi U25 904 70 = Xi T24 904 70 from by rw [eU25]; exact Xi_ne (by omega)).trans ( (show Xi T24 904 70 = Xi T23 904 70 from w472.x _ _ rfl).trans ( (show Xi T23 904 70 = Xi T22 904 70 from w451.x _ _ rfl).trans ((show Xi T22 904 70 = Xi U21 904 70 from w431.x _ _ rfl))))
        have w486 : 0 ≤ Xi U21 904 70 ∧ Xi U21 904 70 ≤ 20 := hHU21.c _ _
        have w487 : Xi U25 904 8 = Xi T24 904 8 := (show Xi U25 904 8 = Xi T24 904 8 from by rw [eU25]; exact Xi_ne (by omega))
        have w489 : Xi U25 904 93 = Xi S 904 93 := (show Xi U25 904 93 = Xi T24 904 93 from by rw [eU25]; exact Xi_ne (by omega)).trans ( (show Xi T24 904 93 = Xi T23 904 93 from w472.x _ _ rfl).trans ( (show Xi T23 904 93 = Xi T22 904 93 from w451.x _ _ rfl).trans ( (show Xi T22 904 93 = Xi U21 904 93 from w431.x _ _ rfl).trans ((show Xi U21 904 93 = Xi S 904 93 from by rw [eU21]; exact Xi_ne (by omega))))))
        exact Rl_weak (C125 U25 hHU25 hFU25  (by first | assumption | exact (AT_FR (FR_e eU25) rfl (by assumption : AT T24 _ _))) (by first | assumption | exact (RNV_FR (FR_e eU25) rfl (RNV_FR w472 rfl (RNV_FR w451 rfl (by assumption : RNV T22 _))))) (by omega) (by omega) (by omega) (by omega) (by omega) (by first | exact c119 | omega) (by first | assumption | exact (BDA_FR (FR_e eU25) rfl (by assumption : BDA T24)))) (And.intro rfl (True.intro))
    · refine l_aload_n rfl rfl ?_
      refine l_bipush rfl rfl ?_
      refine l_pfi rfl rfl rfl rfl ?_
      obtain ⟨U26, eU26⟩ : ∃ T : sS, T = uI S 904 70 (Int32.ofInt 18) := ⟨_, rfl⟩
      rw [← eU26]
      have hHU26 : HI U26 := by rw [eU26]; exact HI_w hH (show 0 ≤ 18 by omega) (show 18 ≤ 20 by omega)
      have hFU26 : FR md_mo_others__2 S U26 := by rw [eU26]; exact FR.wI hF (mdf_i (r := (904, 905, 70, 71)) (List.mem_of_getElem? (i := 4) rfl) (inR_i (by omega) (by omega) (by omega) (by omega)))
      have w491 : Xi U26 904 70 = 18 := by rw [eU26]; exact Xi_same (by unfold rg; omega)
      refine l_aload_n rfl rfl ?_
      have w492 : Xi U26 904 65 = Xi S 904 65 := (show Xi U26 904 65 = Xi S 904 65 from by rw [eU26]; exact Xi_ne (by omega))
      have w494 : Xi U26 904 69 = Xi S 904 69 := (show Xi U26 904 69 = Xi S 904 69 from by rw [eU26]; exact Xi_ne (by omega))
      have w497 : Xi U26 904 8 = Xi S 904 8 := (show Xi U26 904 8 = Xi S 904 8 from by rw [eU26]; exact Xi_ne (by omega))
      refine l_callV rfl rfl rfl (t_mo_name__2 hHU26 n c (by first | assumption | exact (TK_FR hFU26 rfl (by assumption : TK S _))) (by first | assumption | exact (AT_FR (FR_e eU26) rfl (by assumption : AT S _ _))) (by first | assumption | exact (RNV_FR (FR_e eU26) rfl (by assumption : RNV S _))) (by first | assumption | exact (BDA_FR (FR_e eU26) rfl (by assumption : BDA S))) _) ?_
      rintro _ T27 ⟨hHT27, w508, z507, rfl, w507, w501, w502, w503, w504, w505, w506⟩
      have hFT27 : FR md_mo_others__2 S T27 := FR.tr hFU26 w508 rfl
      show Rl _ _ _ _ _ [iv z507] _ _
      have w510 : 0 ≤ Xi T27 904 8 ∧ Xi T27 904 8 ≤ 5010 := hHT27.c _ _
      have w511 : 0 ≤ Xi T27 904 65 ∧ Xi T27 904 65 ≤ 1 := hHT27.c _ _
      have w512 : 0 ≤ Xi T27 904 69 ∧ Xi T27 904 69 ≤ 2600 := hHT27.c _ _
      have w513 : Xi T27 904 93 = Xi S 904 93 := (show Xi T27 904 93 = Xi U26 904 93 from w508.x _ _ rfl).trans ((show Xi U26 904 93 = Xi S 904 93 from by rw [eU26]; exact Xi_ne (by omega)))
      have w514 : 0 ≤ Xi S 904 93 ∧ Xi S 904 93 ≤ 1700 := hH.c _ _
      have c59 : Xi T27 904 65 = 0 → Xi S 904 69 + 1 ≤ Xi T27 904 69 := by omega
      have w509 : Xi S 904 8 ≤ Xi T27 904 8 ∧ Xi T27 904 8 ≤ n ∧ Xi S 904 69 ≤ Xi T27 904 69 ∧ (Xi T27 904 65 = 0 → Xi S 904 65 = 0) := by omega
      clear w502 w504 w505
      refine l_pop rfl rfl ?_
      refine l_aload_n rfl rfl ?_
      refine l_bipush rfl rfl ?_
      refine l_callV rfl rfl rfl (t_mo_take__3 hHT27 n c 113 ⟨by omega, by omega⟩ (by first | assumption | exact (TK_FR hFT27 rfl (by assumption : TK S _))) (by first | assumption | exact (by assumption : AT T27 _ _)) (by first | assumption | omega) (by first | assumption | exact (by assumption : BDA T27)) _) ?_
      rintro _ T28 ⟨hHT28, w528, rfl, w522, w523, w524, w525, w526⟩
      have hFT28 : FR md_mo_others__2 S T28 := FR.tr hFT27 w528 rfl
      show Rl _ _ _ _ _ [] _ _
      have w530 : 0 ≤ Xi T28 904 8 ∧ Xi T28 904 8 ≤ 5010 := hHT28.c _ _
      have w531 : 0 ≤ Xi T28 904 65 ∧ Xi T28 904 65 ≤ 1 := hHT28.c _ _
      have w532 : Xi T28 904 69 = Xi T27 904 69 := (show Xi T28 904 69 = Xi T27 904 69 from w528.x _ _ rfl)
      have w534 : Xi T28 904 93 = Xi S 904 93 := (show Xi T28 904 93 = Xi T27 904 93 from w528.x _ _ rfl).trans ( (show Xi T27 904 93 = Xi U26 904 93 from w508.x _ _ rfl).trans ((show Xi U26 904 93 = Xi S 904 93 from by rw [eU26]; exact Xi_ne (by omega))))
      have c66 : Xi T28 904 65 = 0 → Xi S 904 69 + 1 ≤ Xi T28 904 69 := by omega
      clear c59
      have w529 : Xi S 904 8 ≤ Xi T28 904 8 ∧ Xi T28 904 8 ≤ n ∧ Xi S 904 69 ≤ Xi T28 904 69 ∧ (Xi T28 904 65 = 0 → Xi S 904 65 = 0) := by omega
      clear w523 w524 w525 w509
      refine l_aload_n rfl rfl ?_
      refine l_bipush rfl rfl ?_
      refine l_callV rfl rfl rfl (t_mo_take__3 hHT28 n c 114 ⟨by omega, by omega⟩ (by first | assumption | exact (TK_FR hFT28 rfl (by assumption : TK S _))) (by first | assumption | exact (by assumption : AT T28 _ _)) (by first | assumption | omega) (by first | assumption | exact (by assumption : BDA T28)) _) ?_
      rintro _ T29 ⟨hHT29, w550, rfl, w544, w545, w546, w547, w548⟩
      have hFT29 : FR md_mo_others__2 S T29 := FR.tr hFT28 w550 rfl
      show Rl _ _ _ _ _ [] _ _
      have w552 : 0 ≤ Xi T29 904 8 ∧ Xi T29 904 8 ≤ 5010 := hHT29.c _ _
      have w553 : 0 ≤ Xi T29 904 65 ∧ Xi T29 904 65 ≤ 1 := hHT29.c _ _
      have w554 : Xi T29 904 69 = Xi T27 904 69 := (show Xi T29 904 69 = Xi T28 904 69 from w550.x _ _ rfl).trans ((show Xi T28 904 69 = Xi T27 904 69 from w528.x _ _ rfl))
      have w556 : Xi T29 904 93 = Xi S 904 93 := (show Xi T29 904 93 = Xi T28 904 93 from w550.x _ _ rfl).trans ( (show Xi T28 904 93 = Xi T27 904 93 from w528.x _ _ rfl).trans ( (show Xi T27 904 93 = Xi U26 904 93 from w508.x _ _ rfl).trans ((show Xi U26 904 93 = Xi S 904 93 from by rw [eU26]; exact Xi_ne (by omega)))))
      have c72 : Xi T29 904 65 = 0 → Xi S 904 69 + 1 ≤ Xi T29 904 69 := by omega
      clear c66
      have w551 : Xi S 904 8 ≤ Xi T29 904 8 ∧ Xi T29 904 8 ≤ n ∧ Xi S 904 69 ≤ Xi T29 904 69 ∧ (Xi T29 904 65 = 0 → Xi S 904 65 = 0) := by omega
      clear w545 w546 w547 w529
      have w561 : Xi T29 904 70 = Xi U26 904 70 := (show Xi T29 904 70 = Xi T28 904 70 from w550.x _ _ rfl).trans ( (show Xi T28 904 70 = Xi T27 904 70 from w528.x _ _ rfl).trans ((show Xi T27 904 70 = Xi U26 904 70 from w508.x _ _ rfl)))
      have w562 : 0 ≤ Xi U26 904 70 ∧ Xi U26 904 70 ≤ 20 := hHU26.c _ _
      exact Rl_weak (C75 T29 hHT29 hFT29  (by first | assumption | exact (by assumption : AT T29 _ _)) (by first | assumption | exact (RNV_FR w550 rfl (RNV_FR w528 rfl (by assumption : RNV T27 _)))) (by omega) (by omega) (by omega) (by omega) (by omega) (by first | exact c72 | omega) (by first | assumption | exact (by assumption : BDA T29))) (And.intro rfl (True.intro))
  · refine l_aload_n rfl rfl ?_
    refine l_bipush rfl rfl ?_
    refine l_pfi rfl rfl rfl rfl ?_
    obtain ⟨U30, eU30⟩ : ∃ T : sS, T = uI S 904 70 (Int32.ofInt 17) := ⟨_, rfl⟩
    rw [← eU30]
    have hHU30 : HI U30 := by rw [eU30]; exact HI_w hH (show 0 ≤ 17 by omega) (show 17 ≤ 20 by omega)
    have hFU30 : FR md_mo_others__2 S U30 := by rw [eU30]; exact FR.wI hF (mdf_i (r := (904, 905, 70, 71)) (List.mem_of_getElem? (i := 4) rfl) (inR_i (by omega) (by omega) (by omega) (by omega)))
    have w566 : Xi U30 904 70 = 17 := by rw [eU30]; exact Xi_same (by unfold rg; omega)
    refine l_aload_n rfl rfl ?_
    have w567 : Xi U30 904 65 = Xi S 904 65 := (show Xi U30 904 65 = Xi S 904 65 from by rw [eU30]; exact Xi_ne (by omega))
    have w569 : Xi U30 904 69 = Xi S 904 69 := (show Xi U30 904 69 = Xi S 904 69 from by rw [eU30]; exact Xi_ne (by omega))
    have w572 : Xi U30 904 8 = Xi S 904 8 := (show Xi U30 904 8 = Xi S 904 8 from by rw [eU30]; exact Xi_ne (by omega))
    refine l_callV rfl rfl rfl (t_mo_name__2 hHU30 n c (by first | assumption | exact (TK_FR hFU30 rfl (by assumption : TK S _))) (by first | assumption | exact (AT_FR (FR_e eU30) rfl (by assumption : AT S _ _))) (by first | assumption | exact (RNV_FR (FR_e eU30) rfl (by assumption : RNV S _))) (by first | assumption | exact (BDA_FR (FR_e eU30) rfl (by assumption : BDA S))) _) ?_
    rintro _ T31 ⟨hHT31, w583, z582, rfl, w582, w576, w577, w578, w579, w580, w581⟩
    have hFT31 : FR md_mo_others__2 S T31 := FR.tr hFU30 w583 rfl
    show Rl _ _ _ _ _ [iv z582] _ _
    have w585 : 0 ≤ Xi T31 904 8 ∧ Xi T31 904 8 ≤ 5010 := hHT31.c _ _
    have w586 : 0 ≤ Xi T31 904 65 ∧ Xi T31 904 65 ≤ 1 := hHT31.c _ _
    have w587 : 0 ≤ Xi T31 904 69 ∧ Xi T31 904 69 ≤ 2600 := hHT31.c _ _
    have w588 : Xi T31 904 93 = Xi S 904 93 := (show Xi T31 904 93 = Xi U30 904 93 from w583.x _ _ rfl).trans ((show Xi U30 904 93 = Xi S 904 93 from by rw [eU30]; exact Xi_ne (by omega)))
    have w589 : 0 ≤ Xi S 904 93 ∧ Xi S 904 93 ≤ 1700 := hH.c _ _
    have c13 : Xi T31 904 65 = 0 → Xi S 904 69 + 1 ≤ Xi T31 904 69 := by omega
    have w584 : Xi S 904 8 ≤ Xi T31 904 8 ∧ Xi T31 904 8 ≤ n ∧ Xi S 904 69 ≤ Xi T31 904 69 ∧ (Xi T31 904 65 = 0 → Xi S 904 65 = 0) := by omega
    clear w577 w579 w580
    refine l_pop rfl rfl ?_
    refine l_aload_n rfl rfl ?_
    refine l_bipush rfl rfl ?_
    refine l_callV rfl rfl rfl (t_mo_take__3 hHT31 n c 112 ⟨by omega, by omega⟩ (by first | assumption | exact (TK_FR hFT31 rfl (by assumption : TK S _))) (by first | assumption | exact (by assumption : AT T31 _ _)) (by first | assumption | omega) (by first | assumption | exact (by assumption : BDA T31)) _) ?_
    rintro _ T32 ⟨hHT32, w603, rfl, w597, w598, w599, w600, w601⟩
    have hFT32 : FR md_mo_others__2 S T32 := FR.tr hFT31 w603 rfl
    show Rl _ _ _ _ _ [] _ _
    have w605 : 0 ≤ Xi T32 904 8 ∧ Xi T32 904 8 ≤ 5010 := hHT32.c _ _
    have w606 : 0 ≤ Xi T32 904 65 ∧ Xi T32 904 65 ≤ 1 := hHT32.c _ _
    have w607 : Xi T32 904 69 = Xi T31 904 69 := (show Xi T32 904 69 = Xi T31 904 69 from w603.x _ _ rfl)
    have w609 : Xi T32 904 93 = Xi S 904 93 := (show Xi T32 904 93 = Xi T31 904 93 from w603.x _ _ rfl).trans ( (show Xi T31 904 93 = Xi U30 904 93 from w583.x _ _ rfl).trans ((show Xi U30 904 93 = Xi S 904 93 from by rw [eU30]; exact Xi_ne (by omega))))
    have c20 : Xi T32 904 65 = 0 → Xi S 904 69 + 1 ≤ Xi T32 904 69 := by omega
    clear c13
    have w604 : Xi S 904 8 ≤ Xi T32 904 8 ∧ Xi T32 904 8 ≤ n ∧ Xi S 904 69 ≤ Xi T32 904 69 ∧ (Xi T32 904 65 = 0 → Xi S 904 65 = 0) := by omega
    clear w598 w599 w600 w584
    refine l_aload_n rfl rfl ?_
    refine l_callV rfl rfl rfl (t_mo_art__3 hHT32 n c (by first | assumption | exact (TK_FR hFT32 rfl (by assumption : TK S _))) (by first | assumption | exact (by assumption : AT T32 _ _)) (by first | assumption | exact (by assumption : BDA T32)) _) ?_
    rintro _ T33 ⟨hHT33, w624, rfl, w619, w620, w621, w622⟩
    have hFT33 : FR md_mo_others__2 S T33 := FR.tr hFT32 w624 rfl
    show Rl _ _ _ _ _ [] _ _
    have w626 : 0 ≤ Xi T33 904 8 ∧ Xi T33 904 8 ≤ 5010 := hHT33.c _ _
    have w627 : 0 ≤ Xi T33 904 65 ∧ Xi T33 904 65 ≤ 1 := hHT33.c _ _
    have w628 : Xi T33 904 69 = Xi T31 904 69 := (show Xi T33 904 69 = Xi T32 904 69 from w624.x _ _ rfl).trans ((show Xi T32 904 69 = Xi T31 904 69 from w603.x _ _ rfl))
    have w630 : Xi T33 904 93 = Xi S 904 93 := (show Xi T33 904 93 = Xi T32 904 93 from w624.x _ _ rfl).trans ( (show Xi T32 904 93 = Xi T31 904 93 from w603.x _ _ rfl).trans ( (show Xi T31 904 93 = Xi U30 904 93 from w583.x _ _ rfl).trans ((show Xi U30 904 93 = Xi S 904 93 from by rw [eU30]; exact Xi_ne (by omega)))))
    have c24 : Xi T33 904 65 = 0 → Xi S 904 69 + 1 ≤ Xi T33 904 69 := by omega
    clear c20
    have w625 : Xi S 904 8 ≤ Xi T33 904 8 ∧ Xi T33 904 8 ≤ n ∧ Xi S 904 69 ≤ Xi T33 904 69 ∧ (Xi T33 904 65 = 0 → Xi S 904 65 = 0) := by omega
    clear w620 w621 w604
    refine l_aload_n rfl rfl ?_
    refine l_callV rfl rfl rfl (t_mo_run__2 hHT33 n c (by first | assumption | exact (TK_FR hFT33 rfl (by assumption : TK S _))) (by first | assumption | exact (by assumption : AT T33 _ _)) (by first | assumption | exact (RNV_FR w624 rfl (RNV_FR w603 rfl (by assumption : RNV T31 _)))) (by first | assumption | exact (by assumption : BDA T33)) _) ?_
    rintro _ T34 ⟨hHT34, w647, z646, rfl, w646, w640, w641, w642, w643, w644, w645⟩
    have hFT34 : FR md_mo_others__2 S T34 := FR.tr hFT33 w647 rfl
    show Rl _ _ _ _ _ [iv z646] _ _
    have w649 : 0 ≤ Xi T34 904 8 ∧ Xi T34 904 8 ≤ 5010 := hHT34.c _ _
    have w650 : 0 ≤ Xi T34 904 65 ∧ Xi T34 904 65 ≤ 1 := hHT34.c _ _
    have w651 : 0 ≤ Xi T34 904 69 ∧ Xi T34 904 69 ≤ 2600 := hHT34.c _ _
    have w652 : Xi T34 904 93 = Xi S 904 93 := (show Xi T34 904 93 = Xi T33 904 93 from w647.x _ _ rfl).trans ( (show Xi T33 904 93 = Xi T32 904 93 from w624.x _ _ rfl).trans ( (show Xi T32 904 93 = Xi T31 904 93 from w603.x _ _ rfl).trans ( (show Xi T31 904 93 = Xi U30 904 93 from w583.x _ _ rfl).trans ((show Xi U30 904 93 = Xi S 904 93 from by rw [eU30]; exact Xi_ne (by omega))))))
    have c28 : Xi T34 904 65 = 0 → Xi S 904 69 + 2 ≤ Xi T34 904 69 := by omega
    clear c24
    have w648 : Xi S 904 8 ≤ Xi T34 904 8 ∧ Xi T34 904 8 ≤ n ∧ Xi S 904 69 ≤ Xi T34 904 69 ∧ (Xi T34 904 65 = 0 → Xi S 904 65 = 0) := by omega
    clear w641 w643 w644 w625
    refine l_pop rfl rfl ?_
    have w656 : Xi T34 904 70 = Xi U30 904 70 := (show Xi T34 904 70 = Xi T33 904 70 from w647.x _ _ rfl).trans ( (show Xi T33 904 70 = Xi T32 904 70 from w624.x _ _ rfl).trans ( (show Xi T32 904 70 = Xi T31 904 70 from w603.x _ _ rfl).trans ((show Xi T31 904 70 = Xi U30 904 70 from w583.x _ _ rfl))))
    have w657 : 0 ≤ Xi U30 904 70 ∧ Xi U30 904 70 ≤ 20 := hHU30.c _ _
    exact Rl_weak (C32 T34 hHT34 hFT34  (by first | assumption | exact (by assumption : AT T34 _ _)) (by first | assumption | exact (by assumption : RNV T34 _)) (by omega) (by omega) (by omega) (by omega) (by omega) (by first | exact c28 | omega) (by first | assumption | exact (by assumption : BDA T34))) (And.intro rfl (True.intro))
