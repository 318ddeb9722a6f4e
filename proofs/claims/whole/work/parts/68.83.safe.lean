/-! SAFETY of methods: printed by wip/safe (vc.py, decl.py) -/
def md_mo_others : List rec := [(904, 905, 8, 9), (904, 905, 65, 66), (904, 905, 66, 67), (904, 905, 69, 70), (904, 905, 70, 71), (904, 905, 79, 80), (904, 905, 80, 81), (950, 951, 0, 100000), (951, 952, 0, 100000)]
abbrev Q_mo_others (S : sS) (n : Nat) (c : Nat) (tells : Int) : pst := fun r S1 => HI S1 ∧ FR md_mo_others S S1 ∧ (r = none ∧ (AT S1 n c) ∧ (Xi S 904 8 ≤ Xi S1 904 8 ∧ Xi S1 904 8 ≤ n + 2) ∧ (RNV S1 n) ∧ (Xi S1 904 65 = 0 → Xi S 904 65 = 0) ∧ (Xi S 904 69 ≤ Xi S1 904 69) ∧ (17 ≤ Xi S1 904 70 ∧ Xi S1 904 70 ≤ 20) ∧ (Xi S1 904 65 = 0 → SNQ S1 n))
set_option maxRecDepth 100000 in
set_option maxHeartbeats 4000000 in
theorem t_mo_others {S : sS} (hH : HI S) (n : Nat) (c : Nat) (tells : Int) (htells : 0 ≤ tells ∧ tells ≤ 154) (hT : TK S n) (hA : AT S n c) (hv : RNV S n) (hx : Xi S 904 8 ≤ n) (d : Nat) : Mt lay0 (d + 4) m_mo_others [.ref 904, iv tells] S (Q_mo_others S n c tells) := by
  refine Mt_R rfl rfl ?_
  have hF : FR md_mo_others S S := FR.rf
  have w1 : 0 ≤ Xi S 904 65 ∧ Xi S 904 65 ≤ 1 := hH.c _ _
  have w2 : 0 ≤ Xi S 904 69 ∧ Xi S 904 69 ≤ 2600 := hH.c _ _
  have w3 : 0 ≤ Xi S 904 70 ∧ Xi S 904 70 ≤ 20 := hH.c _ _
  have w4 : 0 ≤ Xi S 904 8 ∧ Xi S 904 8 ≤ 5010 := hH.c _ _
  have hn5 := hT.1
  have hat := hA
  have h8 : 0 ≤ Xi S 904 8 ∧ Xi S 904 8 ≤ 5010 := hH.c _ _
  have h69 : 0 ≤ Xi S 904 69 ∧ Xi S 904 69 ≤ 2600 := hH.c _ _
  have ha0 : Xi S 904 65 = 0 → Xi S 904 8 ≤ n := fun q => (hA q).1
  have ha3 : Xi S 904 65 = 0 → 2 * Xi S 904 69 ≤ Xi S 904 8 + 1 := fun q => (hA q).2.1
  clear hat
  have C32 : ∀  (T1 : sS) (_ : HI T1) (_ : FR md_mo_others S T1), (AT T1 n c) → (RNV T1 n) → (Xi S 904 8 ≤ Xi T1 904 8) → (Xi T1 904 8 ≤ n) → (Xi S 904 69 ≤ Xi T1 904 69) → (Xi T1 904 65 = 0 → Xi S 904 65 = 0) → (Xi T1 904 70 = 17) → (Xi T1 904 65 = 0 → Xi S 904 69 + 2 ≤ Xi T1 904 69) → Rl lay0 (d + 3) m_mo_others 32 [(0, .ref 904)] [] T1 (Q_mo_others S n c tells) := by
    intro T1 hHT1 hFT1 A32 V32 w5 w6 w7 w8 w9 c32
    have w10 : 0 ≤ Xi T1 904 65 ∧ Xi T1 904 65 ≤ 1 := hHT1.c _ _
    have w11 : 0 ≤ Xi T1 904 69 ∧ Xi T1 904 69 ≤ 2600 := hHT1.c _ _
    have w12 : 0 ≤ Xi T1 904 70 ∧ Xi T1 904 70 ≤ 20 := hHT1.c _ _
    have w13 : 0 ≤ Xi T1 904 8 ∧ Xi T1 904 8 ≤ 5010 := hHT1.c _ _
    refine l_aload_n rfl rfl ?_
    refine l_bipush rfl rfl ?_
    have w14 : 0 ≤ Xi T1 904 65 ∧ Xi T1 904 65 ≤ 1 := hHT1.c _ _
    have w15 : 0 ≤ Xi T1 904 69 ∧ Xi T1 904 69 ≤ 2600 := hHT1.c _ _
    have w16 : 0 ≤ Xi T1 904 70 ∧ Xi T1 904 70 ≤ 20 := hHT1.c _ _
    have w17 : 0 ≤ Xi T1 904 8 ∧ Xi T1 904 8 ≤ 5010 := hHT1.c _ _
    have w18 : 0 ≤ Xi T1 904 93 ∧ Xi T1 904 93 ≤ 1700 := hHT1.c _ _
    refine l_callV rfl rfl rfl (t_mo_take__2 hHT1 n c 117 ⟨by omega, by omega⟩ (by first | assumption | exact (TK_FR hFT1 rfl (by assumption : TK S _))) (by first | assumption | exact (by assumption : AT T1 _ _)) (by first | assumption | omega) _) ?_
    rintro _ T2 ⟨hHT2, w24, rfl, w19, w20, w21, w22⟩
    have hFT2 : FR md_mo_others S T2 := FR.tr hFT1 w24 rfl
    show Rl _ _ _ _ _ [] _ _
    have w26 : 0 ≤ Xi T2 904 8 ∧ Xi T2 904 8 ≤ 5010 := hHT2.c _ _
    have w27 : 0 ≤ Xi T2 904 65 ∧ Xi T2 904 65 ≤ 1 := hHT2.c _ _
    have w28 : Xi T2 904 69 = Xi T1 904 69 := (show Xi T2 904 69 = Xi T1 904 69 from w24.x _ _ rfl)
    have w29 : 0 ≤ Xi T1 904 69 ∧ Xi T1 904 69 ≤ 2600 := hHT1.c _ _
    have w30 : Xi T2 904 93 = Xi T1 904 93 := (show Xi T2 904 93 = Xi T1 904 93 from w24.x _ _ rfl)
    have w31 : 0 ≤ Xi T1 904 93 ∧ Xi T1 904 93 ≤ 1700 := hHT1.c _ _
    have c35 : Xi T2 904 65 = 0 → Xi S 904 69 + 2 ≤ Xi T2 904 69 := by omega
    clear c32
    have w25 : Xi S 904 8 ≤ Xi T2 904 8 ∧ Xi T2 904 8 ≤ n ∧ Xi S 904 69 ≤ Xi T2 904 69 ∧ (Xi T2 904 65 = 0 → Xi S 904 65 = 0) := by omega
    clear w20 w21 w22
    refine l_aload_n rfl rfl ?_
    have w32 : 0 ≤ Xi T2 904 65 ∧ Xi T2 904 65 ≤ 1 := hHT2.c _ _
    have w33 : Xi T2 904 69 = Xi T1 904 69 := (show Xi T2 904 69 = Xi T1 904 69 from w24.x _ _ rfl)
    have w34 : 0 ≤ Xi T1 904 69 ∧ Xi T1 904 69 ≤ 2600 := hHT1.c _ _
    have w35 : Xi T2 904 70 = Xi T1 904 70 := (show Xi T2 904 70 = Xi T1 904 70 from w24.x _ _ rfl)
    have w36 : 0 ≤ Xi T1 904 70 ∧ Xi T1 904 70 ≤ 20 := hHT1.c _ _
    have w37 : 0 ≤ Xi T2 904 8 ∧ Xi T2 904 8 ≤ 5010 := hHT2.c _ _
    have w38 : Xi T2 904 93 = Xi T1 904 93 := (show Xi T2 904 93 = Xi T1 904 93 from w24.x _ _ rfl)
    have w39 : 0 ≤ Xi T1 904 93 ∧ Xi T1 904 93 ≤ 1700 := hHT1.c _ _
    refine l_callV rfl rfl rfl (t_mo_run hHT2 n c (by first | assumption | exact (TK_FR hFT2 rfl (by assumption : TK S _))) (by first | assumption | exact (by assumption : AT T2 _ _)) (by first | assumption | exact (RNV_FR w24 rfl (by assumption : RNV T1 _))) _) ?_
    rintro _ T3 ⟨hHT3, w46, z45, rfl, w45, w40, w41, w42, w43, w44⟩
    have hFT3 : FR md_mo_others S T3 := FR.tr hFT2 w46 rfl
    show Rl _ _ _ _ _ [iv z45] _ _
    have w48 : 0 ≤ Xi T3 904 8 ∧ Xi T3 904 8 ≤ 5010 := hHT3.c _ _
    have w49 : 0 ≤ Xi T3 904 65 ∧ Xi T3 904 65 ≤ 1 := hHT3.c _ _
    have w50 : 0 ≤ Xi T3 904 69 ∧ Xi T3 904 69 ≤ 2600 := hHT3.c _ _
    have w51 : Xi T3 904 93 = Xi T1 904 93 := (show Xi T3 904 93 = Xi T2 904 93 from w46.x _ _ rfl).trans ((show Xi T2 904 93 = Xi T1 904 93 from w24.x _ _ rfl))
    have w52 : 0 ≤ Xi T1 904 93 ∧ Xi T1 904 93 ≤ 1700 := hHT1.c _ _
    have c39 : Xi T3 904 65 = 0 → Xi S 904 69 + 3 ≤ Xi T3 904 69 := by omega
    clear c35
    have w47 : Xi S 904 8 ≤ Xi T3 904 8 ∧ Xi T3 904 8 ≤ n ∧ Xi S 904 69 ≤ Xi T3 904 69 ∧ (Xi T3 904 65 = 0 → Xi S 904 65 = 0) := by omega
    clear w41 w43 w44 w25
    refine l_pop rfl rfl ?_
    refine l_goto rfl rfl ?_
    refine l_return rfl rfl ?_
    have w53 : 0 ≤ Xi T3 904 65 ∧ Xi T3 904 65 ≤ 1 := hHT3.c _ _
    have w54 : 0 ≤ Xi T3 904 69 ∧ Xi T3 904 69 ≤ 2600 := hHT3.c _ _
    have w55 : Xi T3 904 70 = Xi T1 904 70 := (show Xi T3 904 70 = Xi T2 904 70 from w46.x _ _ rfl).trans ((show Xi T2 904 70 = Xi T1 904 70 from w24.x _ _ rfl))
    have w56 : 0 ≤ Xi T1 904 70 ∧ Xi T1 904 70 ≤ 20 := hHT1.c _ _
    have w57 : 0 ≤ Xi T3 904 8 ∧ Xi T3 904 8 ≤ 5010 := hHT3.c _ _
    have w58 : Xi T3 904 93 = Xi T1 904 93 := (show Xi T3 904 93 = Xi T2 904 93 from w46.x _ _ rfl).trans ((show Xi T2 904 93 = Xi T1 904 93 from w24.x _ _ rfl))
    have w59 : 0 ≤ Xi T1 904 93 ∧ Xi T1 904 93 ≤ 1700 := hHT1.c _ _
    exact ⟨hHT3, hFT3, rfl, (by first | assumption | exact AT_bad (by omega)), (by omega), (by first | assumption | exact (by assumption : RNV T3 _)), (by omega), (by omega), (by omega), (fun q => by unfold SNQ; refine ⟨fun q1 => absurd q1 (by omega), by omega, by omega, by omega, fun q9 => absurd q9 (by omega), by omega, by omega, by omega, by omega, by omega⟩)⟩
  have C75 : ∀  (T4 : sS) (_ : HI T4) (_ : FR md_mo_others S T4), (AT T4 n c) → (RNV T4 n) → (Xi S 904 8 ≤ Xi T4 904 8) → (Xi T4 904 8 ≤ n) → (Xi S 904 69 ≤ Xi T4 904 69) → (Xi T4 904 65 = 0 → Xi S 904 65 = 0) → (Xi T4 904 70 = 18) → (Xi T4 904 65 = 0 → Xi S 904 69 + 1 ≤ Xi T4 904 69) → Rl lay0 (d + 3) m_mo_others 75 [(0, .ref 904)] [] T4 (Q_mo_others S n c tells) := by
    intro T4 hHT4 hFT4 A75 V75 w60 w61 w62 w63 w64 c75
    have w65 : 0 ≤ Xi T4 904 65 ∧ Xi T4 904 65 ≤ 1 := hHT4.c _ _
    have w66 : 0 ≤ Xi T4 904 69 ∧ Xi T4 904 69 ≤ 2600 := hHT4.c _ _
    have w67 : 0 ≤ Xi T4 904 70 ∧ Xi T4 904 70 ≤ 20 := hHT4.c _ _
    have w68 : 0 ≤ Xi T4 904 8 ∧ Xi T4 904 8 ≤ 5010 := hHT4.c _ _
    refine l_aload_n rfl rfl ?_
    have w69 : 0 ≤ Xi T4 904 65 ∧ Xi T4 904 65 ≤ 1 := hHT4.c _ _
    have w70 : 0 ≤ Xi T4 904 69 ∧ Xi T4 904 69 ≤ 2600 := hHT4.c _ _
    have w71 : 0 ≤ Xi T4 904 70 ∧ Xi T4 904 70 ≤ 20 := hHT4.c _ _
    have w72 : 0 ≤ Xi T4 904 8 ∧ Xi T4 904 8 ≤ 5010 := hHT4.c _ _
    have w73 : 0 ≤ Xi T4 904 93 ∧ Xi T4 904 93 ≤ 1700 := hHT4.c _ _
    refine l_callV rfl rfl rfl (t_mo_run hHT4 n c (by first | assumption | exact (TK_FR hFT4 rfl (by assumption : TK S _))) (by first | assumption | exact (by assumption : AT T4 _ _)) (by first | assumption | exact (by assumption : RNV T4 _)) _) ?_
    rintro _ T5 ⟨hHT5, w80, z79, rfl, w79, w74, w75, w76, w77, w78⟩
    have hFT5 : FR md_mo_others S T5 := FR.tr hFT4 w80 rfl
    show Rl _ _ _ _ _ [iv z79] _ _
    have w82 : 0 ≤ Xi T5 904 8 ∧ Xi T5 904 8 ≤ 5010 := hHT5.c _ _
    have w83 : 0 ≤ Xi T5 904 65 ∧ Xi T5 904 65 ≤ 1 := hHT5.c _ _
    have w84 : 0 ≤ Xi T5 904 69 ∧ Xi T5 904 69 ≤ 2600 := hHT5.c _ _
    have w85 : Xi T5 904 93 = Xi T4 904 93 := (show Xi T5 904 93 = Xi T4 904 93 from w80.x _ _ rfl)
    have w86 : 0 ≤ Xi T4 904 93 ∧ Xi T4 904 93 ≤ 1700 := hHT4.c _ _
    have c76 : Xi T5 904 65 = 0 → Xi S 904 69 + 2 ≤ Xi T5 904 69 := by omega
    clear c75
    have w81 : Xi S 904 8 ≤ Xi T5 904 8 ∧ Xi T5 904 8 ≤ n ∧ Xi S 904 69 ≤ Xi T5 904 69 ∧ (Xi T5 904 65 = 0 → Xi S 904 65 = 0) := by omega
    clear w75 w77 w78
    refine l_pop rfl rfl ?_
    refine l_aload_n rfl rfl ?_
    refine l_bipush rfl rfl ?_
    have w87 : 0 ≤ Xi T5 904 65 ∧ Xi T5 904 65 ≤ 1 := hHT5.c _ _
    have w88 : 0 ≤ Xi T5 904 69 ∧ Xi T5 904 69 ≤ 2600 := hHT5.c _ _
    have w89 : Xi T5 904 70 = Xi T4 904 70 := (show Xi T5 904 70 = Xi T4 904 70 from w80.x _ _ rfl)
    have w90 : 0 ≤ Xi T4 904 70 ∧ Xi T4 904 70 ≤ 20 := hHT4.c _ _
    have w91 : 0 ≤ Xi T5 904 8 ∧ Xi T5 904 8 ≤ 5010 := hHT5.c _ _
    have w92 : Xi T5 904 93 = Xi T4 904 93 := (show Xi T5 904 93 = Xi T4 904 93 from w80.x _ _ rfl)
    have w93 : 0 ≤ Xi T4 904 93 ∧ Xi T4 904 93 ≤ 1700 := hHT4.c _ _
    refine l_callV rfl rfl rfl (t_mo_take__2 hHT5 n c 115 ⟨by omega, by omega⟩ (by first | assumption | exact (TK_FR hFT5 rfl (by assumption : TK S _))) (by first | assumption | exact (by assumption : AT T5 _ _)) (by first | assumption | omega) _) ?_
    rintro _ T6 ⟨hHT6, w99, rfl, w94, w95, w96, w97⟩
    have hFT6 : FR md_mo_others S T6 := FR.tr hFT5 w99 rfl
    show Rl _ _ _ _ _ [] _ _
    have w101 : 0 ≤ Xi T6 904 8 ∧ Xi T6 904 8 ≤ 5010 := hHT6.c _ _
    have w102 : 0 ≤ Xi T6 904 65 ∧ Xi T6 904 65 ≤ 1 := hHT6.c _ _
    have w103 : Xi T6 904 69 = Xi T5 904 69 := (show Xi T6 904 69 = Xi T5 904 69 from w99.x _ _ rfl)
    have w104 : 0 ≤ Xi T5 904 69 ∧ Xi T5 904 69 ≤ 2600 := hHT5.c _ _
    have w105 : Xi T6 904 93 = Xi T4 904 93 := (show Xi T6 904 93 = Xi T5 904 93 from w99.x _ _ rfl).trans ((show Xi T5 904 93 = Xi T4 904 93 from w80.x _ _ rfl))
    have w106 : 0 ≤ Xi T4 904 93 ∧ Xi T4 904 93 ≤ 1700 := hHT4.c _ _
    have c83 : Xi T6 904 65 = 0 → Xi S 904 69 + 2 ≤ Xi T6 904 69 := by omega
    clear c76
    have w100 : Xi S 904 8 ≤ Xi T6 904 8 ∧ Xi T6 904 8 ≤ n ∧ Xi S 904 69 ≤ Xi T6 904 69 ∧ (Xi T6 904 65 = 0 → Xi S 904 65 = 0) := by omega
    clear w95 w96 w97 w81
    refine l_aload_n rfl rfl ?_
    have w107 : 0 ≤ Xi T6 904 65 ∧ Xi T6 904 65 ≤ 1 := hHT6.c _ _
    have w108 : Xi T6 904 69 = Xi T5 904 69 := (show Xi T6 904 69 = Xi T5 904 69 from w99.x _ _ rfl)
    have w109 : 0 ≤ Xi T5 904 69 ∧ Xi T5 904 69 ≤ 2600 := hHT5.c _ _
    have w110 : Xi T6 904 70 = Xi T4 904 70 := (show Xi T6 904 70 = Xi T5 904 70 from w99.x _ _ rfl).trans ((show Xi T5 904 70 = Xi T4 904 70 from w80.x _ _ rfl))
    have w111 : 0 ≤ Xi T4 904 70 ∧ Xi T4 904 70 ≤ 20 := hHT4.c _ _
    have w112 : 0 ≤ Xi T6 904 8 ∧ Xi T6 904 8 ≤ 5010 := hHT6.c _ _
    have w113 : Xi T6 904 93 = Xi T4 904 93 := (show Xi T6 904 93 = Xi T5 904 93 from w99.x _ _ rfl).trans ((show Xi T5 904 93 = Xi T4 904 93 from w80.x _ _ rfl))
    have w114 : 0 ≤ Xi T4 904 93 ∧ Xi T4 904 93 ≤ 1700 := hHT4.c _ _
    refine l_callV rfl rfl rfl (t_mo_run hHT6 n c (by first | assumption | exact (TK_FR hFT6 rfl (by assumption : TK S _))) (by first | assumption | exact (by assumption : AT T6 _ _)) (by first | assumption | exact (RNV_FR w99 rfl (by assumption : RNV T5 _))) _) ?_
    rintro _ T7 ⟨hHT7, w121, z120, rfl, w120, w115, w116, w117, w118, w119⟩
    have hFT7 : FR md_mo_others S T7 := FR.tr hFT6 w121 rfl
    show Rl _ _ _ _ _ [iv z120] _ _
    have w123 : 0 ≤ Xi T7 904 8 ∧ Xi T7 904 8 ≤ 5010 := hHT7.c _ _
    have w124 : 0 ≤ Xi T7 904 65 ∧ Xi T7 904 65 ≤ 1 := hHT7.c _ _
    have w125 : 0 ≤ Xi T7 904 69 ∧ Xi T7 904 69 ≤ 2600 := hHT7.c _ _
    have w126 : Xi T7 904 93 = Xi T4 904 93 := (show Xi T7 904 93 = Xi T6 904 93 from w121.x _ _ rfl).trans ( (show Xi T6 904 93 = Xi T5 904 93 from w99.x _ _ rfl).trans ((show Xi T5 904 93 = Xi T4 904 93 from w80.x _ _ rfl)))
    have w127 : 0 ≤ Xi T4 904 93 ∧ Xi T4 904 93 ≤ 1700 := hHT4.c _ _
    have c87 : Xi T7 904 65 = 0 → Xi S 904 69 + 3 ≤ Xi T7 904 69 := by omega
    clear c83
    have w122 : Xi S 904 8 ≤ Xi T7 904 8 ∧ Xi T7 904 8 ≤ n ∧ Xi S 904 69 ≤ Xi T7 904 69 ∧ (Xi T7 904 65 = 0 → Xi S 904 65 = 0) := by omega
    clear w116 w118 w119 w100
    refine l_pop rfl rfl ?_
    refine l_goto rfl rfl ?_
    refine l_return rfl rfl ?_
    have w128 : 0 ≤ Xi T7 904 65 ∧ Xi T7 904 65 ≤ 1 := hHT7.c _ _
    have w129 : 0 ≤ Xi T7 904 69 ∧ Xi T7 904 69 ≤ 2600 := hHT7.c _ _
    have w130 : Xi T7 904 70 = Xi T4 904 70 := (show Xi T7 904 70 = Xi T6 904 70 from w121.x _ _ rfl).trans ( (show Xi T6 904 70 = Xi T5 904 70 from w99.x _ _ rfl).trans ((show Xi T5 904 70 = Xi T4 904 70 from w80.x _ _ rfl)))
    have w131 : 0 ≤ Xi T4 904 70 ∧ Xi T4 904 70 ≤ 20 := hHT4.c _ _
    have w132 : 0 ≤ Xi T7 904 8 ∧ Xi T7 904 8 ≤ 5010 := hHT7.c _ _
    have w133 : Xi T7 904 93 = Xi T4 904 93 := (show Xi T7 904 93 = Xi T6 904 93 from w121.x _ _ rfl).trans ( (show Xi T6 904 93 = Xi T5 904 93 from w99.x _ _ rfl).trans ((show Xi T5 904 93 = Xi T4 904 93 from w80.x _ _ rfl)))
    have w134 : 0 ≤ Xi T4 904 93 ∧ Xi T4 904 93 ≤ 1700 := hHT4.c _ _
    exact ⟨hHT7, hFT7, rfl, (by first | assumption | exact AT_bad (by omega)), (by omega), (by first | assumption | exact (by assumption : RNV T7 _)), (by omega), (by omega), (by omega), (fun q => by unfold SNQ; refine ⟨fun q1 => absurd q1 (by omega), by omega, by omega, by omega, fun q9 => absurd q9 (by omega), by omega, by omega, by omega, by omega, by omega⟩)⟩
  have C125 : ∀  (T8 : sS) (_ : HI T8) (_ : FR md_mo_others S T8), (AT T8 n c) → (RNV T8 n) → (Xi S 904 8 ≤ Xi T8 904 8) → (Xi T8 904 8 ≤ n + 1) → (Xi S 904 69 ≤ Xi T8 904 69) → (Xi T8 904 65 = 0 → Xi S 904 65 = 0) → (Xi T8 904 70 = 19) → (Xi T8 904 65 = 0 → Xi S 904 69 + 1 ≤ Xi T8 904 69) → Rl lay0 (d + 3) m_mo_others 125 [(0, .ref 904)] [] T8 (Q_mo_others S n c tells) := by
    intro T8 hHT8 hFT8 A125 V125 w135 w136 w137 w138 w139 c125
    have w140 : 0 ≤ Xi T8 904 65 ∧ Xi T8 904 65 ≤ 1 := hHT8.c _ _
    have w141 : 0 ≤ Xi T8 904 69 ∧ Xi T8 904 69 ≤ 2600 := hHT8.c _ _
    have w142 : 0 ≤ Xi T8 904 70 ∧ Xi T8 904 70 ≤ 20 := hHT8.c _ _
    have w143 : 0 ≤ Xi T8 904 8 ∧ Xi T8 904 8 ≤ 5010 := hHT8.c _ _
    refine l_aload_n rfl rfl ?_
    have w144 : 0 ≤ Xi T8 904 65 ∧ Xi T8 904 65 ≤ 1 := hHT8.c _ _
    have w145 : 0 ≤ Xi T8 904 69 ∧ Xi T8 904 69 ≤ 2600 := hHT8.c _ _
    have w146 : 0 ≤ Xi T8 904 70 ∧ Xi T8 904 70 ≤ 20 := hHT8.c _ _
    have w147 : 0 ≤ Xi T8 904 8 ∧ Xi T8 904 8 ≤ 5010 := hHT8.c _ _
    have w148 : 0 ≤ Xi T8 904 93 ∧ Xi T8 904 93 ≤ 1700 := hHT8.c _ _
    refine l_callV rfl rfl rfl (t_mo_run hHT8 n c (by first | assumption | exact (TK_FR hFT8 rfl (by assumption : TK S _))) (by first | assumption | exact (by assumption : AT T8 _ _)) (by first | assumption | exact (by assumption : RNV T8 _)) _) ?_
    rintro _ T9 ⟨hHT9, w155, z154, rfl, w154, w149, w150, w151, w152, w153⟩
    have hFT9 : FR md_mo_others S T9 := FR.tr hFT8 w155 rfl
    show Rl _ _ _ _ _ [iv z154] _ _
    have w157 : 0 ≤ Xi T9 904 8 ∧ Xi T9 904 8 ≤ 5010 := hHT9.c _ _
    have w158 : 0 ≤ Xi T9 904 65 ∧ Xi T9 904 65 ≤ 1 := hHT9.c _ _
    have w159 : 0 ≤ Xi T9 904 69 ∧ Xi T9 904 69 ≤ 2600 := hHT9.c _ _
    have w160 : Xi T9 904 93 = Xi T8 904 93 := (show Xi T9 904 93 = Xi T8 904 93 from w155.x _ _ rfl)
    have w161 : 0 ≤ Xi T8 904 93 ∧ Xi T8 904 93 ≤ 1700 := hHT8.c _ _
    have c126 : Xi T9 904 65 = 0 → Xi S 904 69 + 2 ≤ Xi T9 904 69 := by omega
    clear c125
    have w156 : Xi S 904 8 ≤ Xi T9 904 8 ∧ Xi T9 904 8 ≤ n + 1 ∧ Xi S 904 69 ≤ Xi T9 904 69 ∧ (Xi T9 904 65 = 0 → Xi S 904 65 = 0) := by omega
    clear w150 w152 w153
    refine l_pop rfl rfl ?_
    refine l_aload_n rfl rfl ?_
    refine l_bipush rfl rfl ?_
    have w162 : 0 ≤ Xi T9 904 65 ∧ Xi T9 904 65 ≤ 1 := hHT9.c _ _
    have w163 : 0 ≤ Xi T9 904 69 ∧ Xi T9 904 69 ≤ 2600 := hHT9.c _ _
    have w164 : Xi T9 904 70 = Xi T8 904 70 := (show Xi T9 904 70 = Xi T8 904 70 from w155.x _ _ rfl)
    have w165 : 0 ≤ Xi T8 904 70 ∧ Xi T8 904 70 ≤ 20 := hHT8.c _ _
    have w166 : 0 ≤ Xi T9 904 8 ∧ Xi T9 904 8 ≤ 5010 := hHT9.c _ _
    have w167 : Xi T9 904 93 = Xi T8 904 93 := (show Xi T9 904 93 = Xi T8 904 93 from w155.x _ _ rfl)
    have w168 : 0 ≤ Xi T8 904 93 ∧ Xi T8 904 93 ≤ 1700 := hHT8.c _ _
    refine l_callV rfl rfl rfl (t_mo_take__2 hHT9 n c 111 ⟨by omega, by omega⟩ (by first | assumption | exact (TK_FR hFT9 rfl (by assumption : TK S _))) (by first | assumption | exact (by assumption : AT T9 _ _)) (by first | assumption | omega) _) ?_
    rintro _ T10 ⟨hHT10, w174, rfl, w169, w170, w171, w172⟩
    have hFT10 : FR md_mo_others S T10 := FR.tr hFT9 w174 rfl
    show Rl _ _ _ _ _ [] _ _
    have w176 : 0 ≤ Xi T10 904 8 ∧ Xi T10 904 8 ≤ 5010 := hHT10.c _ _
    have w177 : 0 ≤ Xi T10 904 65 ∧ Xi T10 904 65 ≤ 1 := hHT10.c _ _
    have w178 : Xi T10 904 69 = Xi T9 904 69 := (show Xi T10 904 69 = Xi T9 904 69 from w174.x _ _ rfl)
    have w179 : 0 ≤ Xi T9 904 69 ∧ Xi T9 904 69 ≤ 2600 := hHT9.c _ _
    have w180 : Xi T10 904 93 = Xi T8 904 93 := (show Xi T10 904 93 = Xi T9 904 93 from w174.x _ _ rfl).trans ((show Xi T9 904 93 = Xi T8 904 93 from w155.x _ _ rfl))
    have w181 : 0 ≤ Xi T8 904 93 ∧ Xi T8 904 93 ≤ 1700 := hHT8.c _ _
    have c133 : Xi T10 904 65 = 0 → Xi S 904 69 + 2 ≤ Xi T10 904 69 := by omega
    clear c126
    have w175 : Xi S 904 8 ≤ Xi T10 904 8 ∧ Xi T10 904 8 ≤ n + 1 ∧ Xi S 904 69 ≤ Xi T10 904 69 ∧ (Xi T10 904 65 = 0 → Xi S 904 65 = 0) := by omega
    clear w170 w171 w172 w156
    refine l_aload_n rfl rfl ?_
    refine l_aload_n rfl rfl ?_
    have w182 : 0 ≤ Xi T10 904 65 ∧ Xi T10 904 65 ≤ 1 := hHT10.c _ _
    have w183 : Xi T10 904 69 = Xi T9 904 69 := (show Xi T10 904 69 = Xi T9 904 69 from w174.x _ _ rfl)
    have w184 : 0 ≤ Xi T9 904 69 ∧ Xi T9 904 69 ≤ 2600 := hHT9.c _ _
    have w185 : Xi T10 904 70 = Xi T8 904 70 := (show Xi T10 904 70 = Xi T9 904 70 from w174.x _ _ rfl).trans ((show Xi T9 904 70 = Xi T8 904 70 from w155.x _ _ rfl))
    have w186 : 0 ≤ Xi T8 904 70 ∧ Xi T8 904 70 ≤ 20 := hHT8.c _ _
    have w187 : 0 ≤ Xi T10 904 8 ∧ Xi T10 904 8 ≤ 5010 := hHT10.c _ _
    have w188 : Xi T10 904 93 = Xi T8 904 93 := (show Xi T10 904 93 = Xi T9 904 93 from w174.x _ _ rfl).trans ((show Xi T9 904 93 = Xi T8 904 93 from w155.x _ _ rfl))
    have w189 : 0 ≤ Xi T8 904 93 ∧ Xi T8 904 93 ≤ 1700 := hHT8.c _ _
    refine l_callV rfl rfl rfl (t_mo_oneOrVarious__2 hHT10 n c (by first | assumption | exact (TK_FR hFT10 rfl (by assumption : TK S _))) (by first | assumption | exact (by assumption : AT T10 _ _)) (by first | assumption | omega) _) ?_
    rintro _ T11 ⟨hHT11, w194, z193, rfl, w193, w190, w191, w192⟩
    have hFT11 : FR md_mo_others S T11 := FR.tr hFT10 w194 rfl
    show Rl _ _ _ _ _ [iv z193, .ref 904] _ _
    have w196 : 0 ≤ Xi T11 904 8 ∧ Xi T11 904 8 ≤ 5010 := hHT11.c _ _
    have w197 : 0 ≤ Xi T11 904 65 ∧ Xi T11 904 65 ≤ 1 := hHT11.c _ _
    have w198 : Xi T11 904 69 = Xi T9 904 69 := (show Xi T11 904 69 = Xi T10 904 69 from w194.x _ _ rfl).trans ((show Xi T10 904 69 = Xi T9 904 69 from w174.x _ _ rfl))
    have w199 : 0 ≤ Xi T9 904 69 ∧ Xi T9 904 69 ≤ 2600 := hHT9.c _ _
    have w200 : Xi T11 904 93 = Xi T8 904 93 := (show Xi T11 904 93 = Xi T10 904 93 from w194.x _ _ rfl).trans ( (show Xi T10 904 93 = Xi T9 904 93 from w174.x _ _ rfl).trans ((show Xi T9 904 93 = Xi T8 904 93 from w155.x _ _ rfl)))
    have w201 : 0 ≤ Xi T8 904 93 ∧ Xi T8 904 93 ≤ 1700 := hHT8.c _ _
    have c138 : Xi T11 904 65 = 0 → Xi S 904 69 + 2 ≤ Xi T11 904 69 := by omega
    clear c133
    have w195 : Xi S 904 8 ≤ Xi T11 904 8 ∧ Xi T11 904 8 ≤ n + 2 ∧ Xi S 904 69 ≤ Xi T11 904 69 ∧ (Xi T11 904 65 = 0 → Xi S 904 65 = 0) := by omega
    clear w191 w192 w175
    refine l_pfz rfl rfl rfl rfl (by omega) ?_
    obtain ⟨U12, eU12⟩ : ∃ T : sS, T = uI T11 904 80 (Int32.ofInt z193) := ⟨_, rfl⟩
    rw [← eU12]
    have hHU12 : HI U12 := by rw [eU12]; exact HI_w hHT11 (show 0 ≤ z193 by omega) (show z193 ≤ 1 by omega)
    have hFU12 : FR md_mo_others S U12 := by rw [eU12]; exact FR.wI hFT11 (mdf_i (r := (904, 905, 80, 81)) (List.mem_of_getElem? (i := 6) rfl) (inR_i (by omega) (by omega) (by omega) (by omega)))
    have w202 : Xi U12 904 80 = z193 := by rw [eU12]; exact Xi_same (by unfold rg; omega)
    refine l_aload_n rfl rfl ?_
    have w203 : Xi U12 904 65 = Xi T11 904 65 := (show Xi U12 904 65 = Xi T11 904 65 from by rw [eU12]; exact Xi_ne (by omega))
    have w204 : 0 ≤ Xi T11 904 65 ∧ Xi T11 904 65 ≤ 1 := hHT11.c _ _
    have w205 : Xi U12 904 69 = Xi T9 904 69 := (show Xi U12 904 69 = Xi T11 904 69 from by rw [eU12]; exact Xi_ne (by omega)).trans ( (show Xi T11 904 69 = Xi T10 904 69 from w194.x _ _ rfl).trans ((show Xi T10 904 69 = Xi T9 904 69 from w174.x _ _ rfl)))
    have w206 : 0 ≤ Xi T9 904 69 ∧ Xi T9 904 69 ≤ 2600 := hHT9.c _ _
    have w207 : Xi U12 904 70 = Xi T8 904 70 := (show Xi U12 904 70 = Xi T11 904 70 from by rw [eU12]; exact Xi_ne (by omega)).trans ( (show Xi T11 904 70 = Xi T10 904 70 from w194.x _ _ rfl).trans ( (show Xi T10 904 70 = Xi T9 904 70 from w174.x _ _ rfl).trans ((show Xi T9 904 70 = Xi T8 904 70 from w155.x _ _ rfl))))
    have w208 : 0 ≤ Xi T8 904 70 ∧ Xi T8 904 70 ≤ 20 := hHT8.c _ _
    have w209 : Xi U12 904 8 = Xi T11 904 8 := (show Xi U12 904 8 = Xi T11 904 8 from by rw [eU12]; exact Xi_ne (by omega))
    have w210 : 0 ≤ Xi T11 904 8 ∧ Xi T11 904 8 ≤ 5010 := hHT11.c _ _
    have w211 : Xi U12 904 93 = Xi T8 904 93 := (show Xi U12 904 93 = Xi T11 904 93 from by rw [eU12]; exact Xi_ne (by omega)).trans ( (show Xi T11 904 93 = Xi T10 904 93 from w194.x _ _ rfl).trans ( (show Xi T10 904 93 = Xi T9 904 93 from w174.x _ _ rfl).trans ((show Xi T9 904 93 = Xi T8 904 93 from w155.x _ _ rfl))))
    have w212 : 0 ≤ Xi T8 904 93 ∧ Xi T8 904 93 ≤ 1700 := hHT8.c _ _
    refine l_callV rfl rfl rfl (t_mo_run hHU12 n c (by first | assumption | exact (TK_FR hFU12 rfl (by assumption : TK S _))) (by first | assumption | exact (AT_FR (FR_e eU12) rfl (by assumption : AT T11 _ _))) (by first | assumption | exact (RNV_FR (FR_e eU12) rfl (RNV_FR w194 rfl (RNV_FR w174 rfl (by assumption : RNV T9 _))))) _) ?_
    rintro _ T13 ⟨hHT13, w219, z218, rfl, w218, w213, w214, w215, w216, w217⟩
    have hFT13 : FR md_mo_others S T13 := FR.tr hFU12 w219 rfl
    show Rl _ _ _ _ _ [iv z218] _ _
    have w221 : 0 ≤ Xi T13 904 8 ∧ Xi T13 904 8 ≤ 5010 := hHT13.c _ _
    have w222 : 0 ≤ Xi T13 904 65 ∧ Xi T13 904 65 ≤ 1 := hHT13.c _ _
    have w223 : 0 ≤ Xi T13 904 69 ∧ Xi T13 904 69 ≤ 2600 := hHT13.c _ _
    have w224 : Xi T13 904 93 = Xi T8 904 93 := (show Xi T13 904 93 = Xi U12 904 93 from w219.x _ _ rfl).trans ( (show Xi U12 904 93 = Xi T11 904 93 from by rw [eU12]; exact Xi_ne (by omega)).trans ( (show Xi T11 904 93 = Xi T10 904 93 from w194.x _ _ rfl).trans ( (show Xi T10 904 93 = Xi T9 904 93 from w174.x _ _ rfl).trans ((show Xi T9 904 93 = Xi T8 904 93 from w155.x _ _ rfl)))))
    have w225 : 0 ≤ Xi T8 904 93 ∧ Xi T8 904 93 ≤ 1700 := hHT8.c _ _
    have c145 : Xi T13 904 65 = 0 → Xi S 904 69 + 3 ≤ Xi T13 904 69 := by omega
    clear c138
    have w220 : Xi S 904 8 ≤ Xi T13 904 8 ∧ Xi T13 904 8 ≤ n + 2 ∧ Xi S 904 69 ≤ Xi T13 904 69 ∧ (Xi T13 904 65 = 0 → Xi S 904 65 = 0) := by omega
    clear w214 w216 w217 w195
    refine l_pop rfl rfl ?_
    refine l_goto rfl rfl ?_
    refine l_return rfl rfl ?_
    have w226 : 0 ≤ Xi T13 904 65 ∧ Xi T13 904 65 ≤ 1 := hHT13.c _ _
    have w227 : 0 ≤ Xi T13 904 69 ∧ Xi T13 904 69 ≤ 2600 := hHT13.c _ _
    have w228 : Xi T13 904 70 = Xi T8 904 70 := (show Xi T13 904 70 = Xi U12 904 70 from w219.x _ _ rfl).trans ( (show Xi U12 904 70 = Xi T11 904 70 from by rw [eU12]; exact Xi_ne (by omega)).trans ( (show Xi T11 904 70 = Xi T10 904 70 from w194.x _ _ rfl).trans ( (show Xi T10 904 70 = Xi T9 904 70 from w174.x _ _ rfl).trans ((show Xi T9 904 70 = Xi T8 904 70 from w155.x _ _ rfl)))))
    have w229 : 0 ≤ Xi T8 904 70 ∧ Xi T8 904 70 ≤ 20 := hHT8.c _ _
    have w230 : 0 ≤ Xi T13 904 8 ∧ Xi T13 904 8 ≤ 5010 := hHT13.c _ _
    have w231 : Xi T13 904 93 = Xi T8 904 93 := (show Xi T13 904 93 = Xi U12 904 93 from w219.x _ _ rfl).trans ( (show Xi U12 904 93 = Xi T11 904 93 from by rw [eU12]; exact Xi_ne (by omega)).trans ( (show Xi T11 904 93 = Xi T10 904 93 from w194.x _ _ rfl).trans ( (show Xi T10 904 93 = Xi T9 904 93 from w174.x _ _ rfl).trans ((show Xi T9 904 93 = Xi T8 904 93 from w155.x _ _ rfl)))))
    have w232 : 0 ≤ Xi T8 904 93 ∧ Xi T8 904 93 ≤ 1700 := hHT8.c _ _
    exact ⟨hHT13, hFT13, rfl, (by first | assumption | exact AT_bad (by omega)), (by omega), (by first | assumption | exact (by assumption : RNV T13 _)), (by omega), (by omega), (by omega), (fun q => by unfold SNQ; refine ⟨fun q1 => absurd q1 (by omega), by omega, by omega, by omega, fun q9 => absurd q9 (by omega), by omega, by omega, by omega, by omega, by omega⟩)⟩
  have C168 : ∀ (n168 : Nat) (T14 : sS) (_ : HI T14) (_ : FR md_mo_others S T14) (v2 : Int) (v3 : Int), (0 ≤ v2 ∧ v2 ≤ 5010) → (0 ≤ v3 ∧ v3 ≤ 154) → (AT T14 n c) → (RNV T14 n) → (v3 ≠ 1 → Xi T14 904 65 = 0 ∧ Xi T14 907 (Xi T14 904 8).toNat = v3) → (Xi T14 904 65 = Xi S 904 65) → (Xi T14 904 69 = Xi S 904 69) → (Xi S 904 8 ≤ Xi T14 904 8 ∧ Xi T14 904 8 ≤ n) → (Xi T14 904 70 = 20) → n168 = (5002 - Xi T14 904 8).toNat → Rl lay0 (d + 3) m_mo_others 168 [(0, .ref 904), (2, iv v2), (3, iv v3)] [] T14 (Q_mo_others S n c tells) := by
    intro n168
    induction n168 using Nat.strongRecOn with
    | ind n168 ih168 =>
      intro T14 hHT14 hFT14 v2 v3 w233 w234 A168 V168 w235 w236 w237 w238 w239 hm168
      have w240 : 0 ≤ Xi T14 904 65 ∧ Xi T14 904 65 ≤ 1 := hHT14.c _ _
      have w241 : 0 ≤ Xi T14 904 69 ∧ Xi T14 904 69 ≤ 2600 := hHT14.c _ _
      have w242 : 0 ≤ Xi T14 904 70 ∧ Xi T14 904 70 ≤ 20 := hHT14.c _ _
      have w243 : 0 ≤ Xi T14 904 8 ∧ Xi T14 904 8 ≤ 5010 := hHT14.c _ _
      refine l_iload_n rfl rfl ?_
      refine l_iconst rfl ?_
      refine l_icmp_eq rfl rfl (by unfold rg; omega) (by unfold rg; omega) (fun w244 => ?_) (fun w245 => ?_)
      · refine l_aload_n rfl rfl ?_
        refine l_dup rfl rfl ?_
        refine l_gfi rfl rfl rfl rfl rfl ?_
        refine l_iconst rfl ?_
        refine l_iadd rfl ?_
        refine l_pfi rfl rfl rfl rfl ?_
        obtain ⟨U15, eU15⟩ : ∃ T : sS, T = uI T14 904 8 (Int32.ofInt ((Xi T14 904 8) + 1)) := ⟨_, rfl⟩
        rw [← eU15]
        have hHU15 : HI U15 := by rw [eU15]; exact HI_w hHT14 (show 0 ≤ ((Xi T14 904 8) + 1) by omega) (show ((Xi T14 904 8) + 1) ≤ 5010 by omega)
        have hFU15 : FR md_mo_others S U15 := by rw [eU15]; exact FR.wI hFT14 (mdf_i (r := (904, 905, 8, 9)) (List.mem_of_getElem? (i := 0) rfl) (inR_i (by omega) (by omega) (by omega) (by omega)))
        have w246 : Xi U15 904 8 = ((Xi T14 904 8) + 1) := by rw [eU15]; exact Xi_same (by unfold rg; omega)
        have t199 : AT U15 n c ∧ _ := (at_mv (S := T14) (P := T14) (TK_FR hFT14 rfl (by assumption : TK S _)) (by first | assumption | exact (by assumption : AT T14 _ _)) (fun j => rfl) (fun j => rfl) (rfl) (rfl) (rfl) (rfl) eU15 (by omega) (by omega) (by omega) (by omega) (Or.inl rfl))
        have a199 : AT U15 n c := t199.1
        have l199 := t199.2
        refine l_aload_n rfl rfl ?_
        have w247 : Xi U15 904 65 = Xi T14 904 65 := (show Xi U15 904 65 = Xi T14 904 65 from by rw [eU15]; exact Xi_ne (by omega))
        have w248 : 0 ≤ Xi T14 904 65 ∧ Xi T14 904 65 ≤ 1 := hHT14.c _ _
        have w249 : Xi U15 904 69 = Xi T14 904 69 := (show Xi U15 904 69 = Xi T14 904 69 from by rw [eU15]; exact Xi_ne (by omega))
        have w250 : 0 ≤ Xi T14 904 69 ∧ Xi T14 904 69 ≤ 2600 := hHT14.c _ _
        have w251 : Xi U15 904 70 = Xi T14 904 70 := (show Xi U15 904 70 = Xi T14 904 70 from by rw [eU15]; exact Xi_ne (by omega))
        have w252 : 0 ≤ Xi T14 904 70 ∧ Xi T14 904 70 ≤ 20 := hHT14.c _ _
        have w253 : 0 ≤ Xi U15 904 8 ∧ Xi U15 904 8 ≤ 5010 := hHU15.c _ _
        have w254 : Xi U15 904 93 = Xi T14 904 93 := (show Xi U15 904 93 = Xi T14 904 93 from by rw [eU15]; exact Xi_ne (by omega))
        have w255 : 0 ≤ Xi T14 904 93 ∧ Xi T14 904 93 ≤ 1700 := hHT14.c _ _
        refine l_callV rfl rfl rfl (t_mo_look hHU15 n c (by first | assumption | exact (TK_FR hFU15 rfl (by assumption : TK S _))) (by first | assumption | exact (by assumption : AT U15 _ _)) _) ?_
        rintro _ _ ⟨rfl, z257, rfl, w257, w256⟩
        show Rl _ _ _ _ _ [iv z257] _ _
        have l203 : z257 ≠ 1 → Xi U15 904 65 = 0 ∧ Xi U15 907 (Xi U15 904 8).toNat = z257 := by assumption
        refine l_istore_n rfl rfl rfl ?_
        refine l_goto rfl rfl ?_
        have w258 : Xi U15 904 65 = Xi T14 904 65 := (show Xi U15 904 65 = Xi T14 904 65 from by rw [eU15]; exact Xi_ne (by omega))
        have w259 : 0 ≤ Xi T14 904 65 ∧ Xi T14 904 65 ≤ 1 := hHT14.c _ _
        have w260 : Xi U15 904 69 = Xi T14 904 69 := (show Xi U15 904 69 = Xi T14 904 69 from by rw [eU15]; exact Xi_ne (by omega))
        have w261 : 0 ≤ Xi T14 904 69 ∧ Xi T14 904 69 ≤ 2600 := hHT14.c _ _
        have w262 : Xi U15 904 70 = Xi T14 904 70 := (show Xi U15 904 70 = Xi T14 904 70 from by rw [eU15]; exact Xi_ne (by omega))
        have w263 : 0 ≤ Xi T14 904 70 ∧ Xi T14 904 70 ≤ 20 := hHT14.c _ _
        have w264 : 0 ≤ Xi U15 904 8 ∧ Xi U15 904 8 ≤ 5010 := hHU15.c _ _
        have w265 : Xi U15 904 93 = Xi T14 904 93 := (show Xi U15 904 93 = Xi T14 904 93 from by rw [eU15]; exact Xi_ne (by omega))
        have w266 : 0 ≤ Xi T14 904 93 ∧ Xi T14 904 93 ≤ 1700 := hHT14.c _ _
        exact Rl_weak (ih168 _ (by omega) U15 hHU15 hFU15 (v2) (z257) (by omega) (by omega) (by first | assumption | exact (by assumption : AT U15 _ _)) (by first | assumption | exact (RNV_FR (FR_e eU15) rfl (by assumption : RNV T14 _))) (by omega) (by omega) (by omega) (by omega) (by omega) rfl) (And.intro rfl (And.intro rfl (And.intro rfl (True.intro))))
      · refine l_iload_n rfl rfl ?_
        have w267 : 0 ≤ Xi T14 904 65 ∧ Xi T14 904 65 ≤ 1 := hHT14.c _ _
        have w268 : 0 ≤ Xi T14 904 69 ∧ Xi T14 904 69 ≤ 2600 := hHT14.c _ _
        have w269 : 0 ≤ Xi T14 904 70 ∧ Xi T14 904 70 ≤ 20 := hHT14.c _ _
        have w270 : 0 ≤ Xi T14 904 8 ∧ Xi T14 904 8 ≤ 5010 := hHT14.c _ _
        have w271 : 0 ≤ Xi T14 904 93 ∧ Xi T14 904 93 ≤ 1700 := hHT14.c _ _
        refine l_callS rfl rfl (by decide) rfl (t_mo_isArt hHT14 v3 ⟨by omega, by omega⟩ _) ?_
        rintro _ _ ⟨rfl, z273, rfl, w273, w272⟩
        show Rl _ _ _ _ _ [iv z273] _ _
        refine l_if_ne rfl rfl (by unfold rg; omega) (fun w274 => ?_) (fun w275 => ?_)
        · refine l_aload_n rfl rfl ?_
          refine l_dup rfl rfl ?_
          refine l_gfi rfl rfl rfl rfl rfl ?_
          refine l_iconst rfl ?_
          refine l_iadd rfl ?_
          refine l_pfi rfl rfl rfl rfl ?_
          obtain ⟨U16, eU16⟩ : ∃ T : sS, T = uI T14 904 8 (Int32.ofInt ((Xi T14 904 8) + 1)) := ⟨_, rfl⟩
          rw [← eU16]
          have hHU16 : HI U16 := by rw [eU16]; exact HI_w hHT14 (show 0 ≤ ((Xi T14 904 8) + 1) by omega) (show ((Xi T14 904 8) + 1) ≤ 5010 by omega)
          have hFU16 : FR md_mo_others S U16 := by rw [eU16]; exact FR.wI hFT14 (mdf_i (r := (904, 905, 8, 9)) (List.mem_of_getElem? (i := 0) rfl) (inR_i (by omega) (by omega) (by omega) (by omega)))
          have w276 : Xi U16 904 8 = ((Xi T14 904 8) + 1) := by rw [eU16]; exact Xi_same (by unfold rg; omega)
          have t199 : AT U16 n c ∧ _ := (at_mv (S := T14) (P := T14) (TK_FR hFT14 rfl (by assumption : TK S _)) (by first | assumption | exact (by assumption : AT T14 _ _)) (fun j => rfl) (fun j => rfl) (rfl) (rfl) (rfl) (rfl) eU16 (by omega) (by omega) (by omega) (by omega) (Or.inl rfl))
          have a199 : AT U16 n c := t199.1
          have l199 := t199.2
          refine l_aload_n rfl rfl ?_
          have w277 : Xi U16 904 65 = Xi T14 904 65 := (show Xi U16 904 65 = Xi T14 904 65 from by rw [eU16]; exact Xi_ne (by omega))
          have w278 : 0 ≤ Xi T14 904 65 ∧ Xi T14 904 65 ≤ 1 := hHT14.c _ _
          have w279 : Xi U16 904 69 = Xi T14 904 69 := (show Xi U16 904 69 = Xi T14 904 69 from by rw [eU16]; exact Xi_ne (by omega))
          have w280 : 0 ≤ Xi T14 904 69 ∧ Xi T14 904 69 ≤ 2600 := hHT14.c _ _
          have w281 : Xi U16 904 70 = Xi T14 904 70 := (show Xi U16 904 70 = Xi T14 904 70 from by rw [eU16]; exact Xi_ne (by omega))
          have w282 : 0 ≤ Xi T14 904 70 ∧ Xi T14 904 70 ≤ 20 := hHT14.c _ _
          have w283 : 0 ≤ Xi U16 904 8 ∧ Xi U16 904 8 ≤ 5010 := hHU16.c _ _
          have w284 : Xi U16 904 93 = Xi T14 904 93 := (show Xi U16 904 93 = Xi T14 904 93 from by rw [eU16]; exact Xi_ne (by omega))
          have w285 : 0 ≤ Xi T14 904 93 ∧ Xi T14 904 93 ≤ 1700 := hHT14.c _ _
          refine l_callV rfl rfl rfl (t_mo_look hHU16 n c (by first | assumption | exact (TK_FR hFU16 rfl (by assumption : TK S _))) (by first | assumption | exact (by assumption : AT U16 _ _)) _) ?_
          rintro _ _ ⟨rfl, z287, rfl, w287, w286⟩
          show Rl _ _ _ _ _ [iv z287] _ _
          have l203 : z287 ≠ 1 → Xi U16 904 65 = 0 ∧ Xi U16 907 (Xi U16 904 8).toNat = z287 := by assumption
          refine l_istore_n rfl rfl rfl ?_
          refine l_goto rfl rfl ?_
          have w288 : Xi U16 904 65 = Xi T14 904 65 := (show Xi U16 904 65 = Xi T14 904 65 from by rw [eU16]; exact Xi_ne (by omega))
          have w289 : 0 ≤ Xi T14 904 65 ∧ Xi T14 904 65 ≤ 1 := hHT14.c _ _
          have w290 : Xi U16 904 69 = Xi T14 904 69 := (show Xi U16 904 69 = Xi T14 904 69 from by rw [eU16]; exact Xi_ne (by omega))
          have w291 : 0 ≤ Xi T14 904 69 ∧ Xi T14 904 69 ≤ 2600 := hHT14.c _ _
          have w292 : Xi U16 904 70 = Xi T14 904 70 := (show Xi U16 904 70 = Xi T14 904 70 from by rw [eU16]; exact Xi_ne (by omega))
          have w293 : 0 ≤ Xi T14 904 70 ∧ Xi T14 904 70 ≤ 20 := hHT14.c _ _
          have w294 : 0 ≤ Xi U16 904 8 ∧ Xi U16 904 8 ≤ 5010 := hHU16.c _ _
          have w295 : Xi U16 904 93 = Xi T14 904 93 := (show Xi U16 904 93 = Xi T14 904 93 from by rw [eU16]; exact Xi_ne (by omega))
          have w296 : 0 ≤ Xi T14 904 93 ∧ Xi T14 904 93 ≤ 1700 := hHT14.c _ _
          exact Rl_weak (ih168 _ (by omega) U16 hHU16 hFU16 (v2) (z287) (by omega) (by omega) (by first | assumption | exact (by assumption : AT U16 _ _)) (by first | assumption | exact (RNV_FR (FR_e eU16) rfl (by assumption : RNV T14 _))) (by omega) (by omega) (by omega) (by omega) (by omega) rfl) (And.intro rfl (And.intro rfl (And.intro rfl (True.intro))))
        · refine l_iload_n rfl rfl ?_
          refine l_bipush rfl rfl ?_
          refine l_icmp_eq rfl rfl (by unfold rg; omega) (by unfold rg; omega) (fun w297 => ?_) (fun w298 => ?_)
          · refine l_aload_n rfl rfl ?_
            refine l_dup rfl rfl ?_
            refine l_gfi rfl rfl rfl rfl rfl ?_
            refine l_iconst rfl ?_
            refine l_iadd rfl ?_
            refine l_pfi rfl rfl rfl rfl ?_
            obtain ⟨U17, eU17⟩ : ∃ T : sS, T = uI T14 904 8 (Int32.ofInt ((Xi T14 904 8) + 1)) := ⟨_, rfl⟩
            rw [← eU17]
            have hHU17 : HI U17 := by rw [eU17]; exact HI_w hHT14 (show 0 ≤ ((Xi T14 904 8) + 1) by omega) (show ((Xi T14 904 8) + 1) ≤ 5010 by omega)
            have hFU17 : FR md_mo_others S U17 := by rw [eU17]; exact FR.wI hFT14 (mdf_i (r := (904, 905, 8, 9)) (List.mem_of_getElem? (i := 0) rfl) (inR_i (by omega) (by omega) (by omega) (by omega)))
            have w299 : Xi U17 904 8 = ((Xi T14 904 8) + 1) := by rw [eU17]; exact Xi_same (by unfold rg; omega)
            have t199 : AT U17 n c ∧ _ := (at_mv (S := T14) (P := T14) (TK_FR hFT14 rfl (by assumption : TK S _)) (by first | assumption | exact (by assumption : AT T14 _ _)) (fun j => rfl) (fun j => rfl) (rfl) (rfl) (rfl) (rfl) eU17 (by omega) (by omega) (by omega) (by omega) (Or.inl rfl))
            have a199 : AT U17 n c := t199.1
            have l199 := t199.2
            refine l_aload_n rfl rfl ?_
            have w300 : Xi U17 904 65 = Xi T14 904 65 := (show Xi U17 904 65 = Xi T14 904 65 from by rw [eU17]; exact Xi_ne (by omega))
            have w301 : 0 ≤ Xi T14 904 65 ∧ Xi T14 904 65 ≤ 1 := hHT14.c _ _
            have w302 : Xi U17 904 69 = Xi T14 904 69 := (show Xi U17 904 69 = Xi T14 904 69 from by rw [eU17]; exact Xi_ne (by omega))
            have w303 : 0 ≤ Xi T14 904 69 ∧ Xi T14 904 69 ≤ 2600 := hHT14.c _ _
            have w304 : Xi U17 904 70 = Xi T14 904 70 := (show Xi U17 904 70 = Xi T14 904 70 from by rw [eU17]; exact Xi_ne (by omega))
            have w305 : 0 ≤ Xi T14 904 70 ∧ Xi T14 904 70 ≤ 20 := hHT14.c _ _
            have w306 : 0 ≤ Xi U17 904 8 ∧ Xi U17 904 8 ≤ 5010 := hHU17.c _ _
            have w307 : Xi U17 904 93 = Xi T14 904 93 := (show Xi U17 904 93 = Xi T14 904 93 from by rw [eU17]; exact Xi_ne (by omega))
            have w308 : 0 ≤ Xi T14 904 93 ∧ Xi T14 904 93 ≤ 1700 := hHT14.c _ _
            refine l_callV rfl rfl rfl (t_mo_look hHU17 n c (by first | assumption | exact (TK_FR hFU17 rfl (by assumption : TK S _))) (by first | assumption | exact (by assumption : AT U17 _ _)) _) ?_
            rintro _ _ ⟨rfl, z310, rfl, w310, w309⟩
            show Rl _ _ _ _ _ [iv z310] _ _
            have l203 : z310 ≠ 1 → Xi U17 904 65 = 0 ∧ Xi U17 907 (Xi U17 904 8).toNat = z310 := by assumption
            refine l_istore_n rfl rfl rfl ?_
            refine l_goto rfl rfl ?_
            have w311 : Xi U17 904 65 = Xi T14 904 65 := (show Xi U17 904 65 = Xi T14 904 65 from by rw [eU17]; exact Xi_ne (by omega))
            have w312 : 0 ≤ Xi T14 904 65 ∧ Xi T14 904 65 ≤ 1 := hHT14.c _ _
            have w313 : Xi U17 904 69 = Xi T14 904 69 := (show Xi U17 904 69 = Xi T14 904 69 from by rw [eU17]; exact Xi_ne (by omega))
            have w314 : 0 ≤ Xi T14 904 69 ∧ Xi T14 904 69 ≤ 2600 := hHT14.c _ _
            have w315 : Xi U17 904 70 = Xi T14 904 70 := (show Xi U17 904 70 = Xi T14 904 70 from by rw [eU17]; exact Xi_ne (by omega))
            have w316 : 0 ≤ Xi T14 904 70 ∧ Xi T14 904 70 ≤ 20 := hHT14.c _ _
            have w317 : 0 ≤ Xi U17 904 8 ∧ Xi U17 904 8 ≤ 5010 := hHU17.c _ _
            have w318 : Xi U17 904 93 = Xi T14 904 93 := (show Xi U17 904 93 = Xi T14 904 93 from by rw [eU17]; exact Xi_ne (by omega))
            have w319 : 0 ≤ Xi T14 904 93 ∧ Xi T14 904 93 ≤ 1700 := hHT14.c _ _
            exact Rl_weak (ih168 _ (by omega) U17 hHU17 hFU17 (v2) (z310) (by omega) (by omega) (by first | assumption | exact (by assumption : AT U17 _ _)) (by first | assumption | exact (RNV_FR (FR_e eU17) rfl (by assumption : RNV T14 _))) (by omega) (by omega) (by omega) (by omega) (by omega) rfl) (And.intro rfl (And.intro rfl (And.intro rfl (True.intro))))
          · refine l_iload_n rfl rfl ?_
            refine l_bipush rfl rfl ?_
            refine l_icmp_ne rfl rfl (by unfold rg; omega) (by unfold rg; omega) (fun w320 => ?_) (fun w321 => ?_)
            · refine l_aload_n rfl rfl ?_
              refine l_gfi rfl rfl rfl rfl rfl ?_
              refine l_iload_n rfl rfl ?_
              refine l_icmp_ne rfl rfl (by unfold rg; omega) (by unfold rg; omega) (fun w322 => ?_) (fun w323 => ?_)
              · refine l_return rfl rfl ?_
                have w324 : 0 ≤ Xi T14 904 65 ∧ Xi T14 904 65 ≤ 1 := hHT14.c _ _
                have w325 : 0 ≤ Xi T14 904 69 ∧ Xi T14 904 69 ≤ 2600 := hHT14.c _ _
                have w326 : 0 ≤ Xi T14 904 70 ∧ Xi T14 904 70 ≤ 20 := hHT14.c _ _
                have w327 : 0 ≤ Xi T14 904 8 ∧ Xi T14 904 8 ≤ 5010 := hHT14.c _ _
                have w328 : 0 ≤ Xi T14 904 93 ∧ Xi T14 904 93 ≤ 1700 := hHT14.c _ _
                exact ⟨hHT14, hFT14, rfl, (by first | assumption | exact AT_bad (by omega)), (by omega), (by first | assumption | exact (by assumption : RNV T14 _)), (by omega), (by omega), (by omega), (fun q => by unfold SNQ; refine ⟨fun q1 => absurd q1 (by omega), by omega, by omega, by omega, fun q9 => absurd q9 (by omega), by omega, by omega, by omega, by omega, by omega⟩)⟩
              · refine l_aload_n rfl rfl ?_
                have w329 : 0 ≤ Xi T14 904 65 ∧ Xi T14 904 65 ≤ 1 := hHT14.c _ _
                have w330 : 0 ≤ Xi T14 904 69 ∧ Xi T14 904 69 ≤ 2600 := hHT14.c _ _
                have w331 : 0 ≤ Xi T14 904 70 ∧ Xi T14 904 70 ≤ 20 := hHT14.c _ _
                have w332 : 0 ≤ Xi T14 904 8 ∧ Xi T14 904 8 ≤ 5010 := hHT14.c _ _
                have w333 : 0 ≤ Xi T14 904 93 ∧ Xi T14 904 93 ≤ 1700 := hHT14.c _ _
                refine l_callV rfl rfl rfl (t_mo_odd hHT14 _) ?_
                rintro _ T18 ⟨hHT18, w337, rfl, w334, w335⟩
                have hFT18 : FR md_mo_others S T18 := FR.tr hFT14 w337 rfl
                show Rl _ _ _ _ _ [] _ _
                have w339 : Xi T18 904 8 = Xi T14 904 8 := (show Xi T18 904 8 = Xi T14 904 8 from w337.x _ _ rfl)
                have w340 : 0 ≤ Xi T14 904 8 ∧ Xi T14 904 8 ≤ 5010 := hHT14.c _ _
                have w341 : 0 ≤ Xi T18 904 65 ∧ Xi T18 904 65 ≤ 1 := hHT18.c _ _
                have w342 : Xi T18 904 69 = Xi T14 904 69 := (show Xi T18 904 69 = Xi T14 904 69 from w337.x _ _ rfl)
                have w343 : 0 ≤ Xi T14 904 69 ∧ Xi T14 904 69 ≤ 2600 := hHT14.c _ _
                have w344 : Xi T18 904 93 = Xi T14 904 93 := (show Xi T18 904 93 = Xi T14 904 93 from w337.x _ _ rfl)
                have w345 : 0 ≤ Xi T14 904 93 ∧ Xi T14 904 93 ≤ 1700 := hHT14.c _ _
                have w338 : Xi S 904 8 ≤ Xi T18 904 8 ∧ Xi T18 904 8 ≤ n ∧ Xi S 904 69 ≤ Xi T18 904 69 ∧ (Xi T18 904 65 = 0 → Xi S 904 65 = 0) := by omega
                clear w335
                refine l_return rfl rfl ?_
                have w346 : 0 ≤ Xi T18 904 65 ∧ Xi T18 904 65 ≤ 1 := hHT18.c _ _
                have w347 : Xi T18 904 69 = Xi T14 904 69 := (show Xi T18 904 69 = Xi T14 904 69 from w337.x _ _ rfl)
                have w348 : 0 ≤ Xi T14 904 69 ∧ Xi T14 904 69 ≤ 2600 := hHT14.c _ _
                have w349 : Xi T18 904 70 = Xi T14 904 70 := (show Xi T18 904 70 = Xi T14 904 70 from w337.x _ _ rfl)
                have w350 : 0 ≤ Xi T14 904 70 ∧ Xi T14 904 70 ≤ 20 := hHT14.c _ _
                have w351 : Xi T18 904 8 = Xi T14 904 8 := (show Xi T18 904 8 = Xi T14 904 8 from w337.x _ _ rfl)
                have w352 : 0 ≤ Xi T14 904 8 ∧ Xi T14 904 8 ≤ 5010 := hHT14.c _ _
                have w353 : Xi T18 904 93 = Xi T14 904 93 := (show Xi T18 904 93 = Xi T14 904 93 from w337.x _ _ rfl)
                have w354 : 0 ≤ Xi T14 904 93 ∧ Xi T14 904 93 ≤ 1700 := hHT14.c _ _
                exact ⟨hHT18, hFT18, rfl, (by first | assumption | exact AT_bad (by omega)), (by omega), (by first | assumption | exact (RNV_FR w337 rfl (by assumption : RNV T14 _))), (by omega), (by omega), (by omega), (fun q => by unfold SNQ; refine ⟨fun q1 => absurd q1 (by omega), by omega, by omega, by omega, fun q9 => absurd q9 (by omega), by omega, by omega, by omega, by omega, by omega⟩)⟩
            · refine l_aload_n rfl rfl ?_
              refine l_dup rfl rfl ?_
              refine l_gfi rfl rfl rfl rfl rfl ?_
              refine l_iconst rfl ?_
              refine l_iadd rfl ?_
              refine l_pfi rfl rfl rfl rfl ?_
              obtain ⟨U19, eU19⟩ : ∃ T : sS, T = uI T14 904 8 (Int32.ofInt ((Xi T14 904 8) + 1)) := ⟨_, rfl⟩
              rw [← eU19]
              have hHU19 : HI U19 := by rw [eU19]; exact HI_w hHT14 (show 0 ≤ ((Xi T14 904 8) + 1) by omega) (show ((Xi T14 904 8) + 1) ≤ 5010 by omega)
              have hFU19 : FR md_mo_others S U19 := by rw [eU19]; exact FR.wI hFT14 (mdf_i (r := (904, 905, 8, 9)) (List.mem_of_getElem? (i := 0) rfl) (inR_i (by omega) (by omega) (by omega) (by omega)))
              have w355 : Xi U19 904 8 = ((Xi T14 904 8) + 1) := by rw [eU19]; exact Xi_same (by unfold rg; omega)
              have t199 : AT U19 n c ∧ _ := (at_mv (S := T14) (P := T14) (TK_FR hFT14 rfl (by assumption : TK S _)) (by first | assumption | exact (by assumption : AT T14 _ _)) (fun j => rfl) (fun j => rfl) (rfl) (rfl) (rfl) (rfl) eU19 (by omega) (by omega) (by omega) (by omega) (Or.inl rfl))
              have a199 : AT U19 n c := t199.1
              have l199 := t199.2
              refine l_aload_n rfl rfl ?_
              have w356 : Xi U19 904 65 = Xi T14 904 65 := (show Xi U19 904 65 = Xi T14 904 65 from by rw [eU19]; exact Xi_ne (by omega))
              have w357 : 0 ≤ Xi T14 904 65 ∧ Xi T14 904 65 ≤ 1 := hHT14.c _ _
              have w358 : Xi U19 904 69 = Xi T14 904 69 := (show Xi U19 904 69 = Xi T14 904 69 from by rw [eU19]; exact Xi_ne (by omega))
              have w359 : 0 ≤ Xi T14 904 69 ∧ Xi T14 904 69 ≤ 2600 := hHT14.c _ _
              have w360 : Xi U19 904 70 = Xi T14 904 70 := (show Xi U19 904 70 = Xi T14 904 70 from by rw [eU19]; exact Xi_ne (by omega))
              have w361 : 0 ≤ Xi T14 904 70 ∧ Xi T14 904 70 ≤ 20 := hHT14.c _ _
              have w362 : 0 ≤ Xi U19 904 8 ∧ Xi U19 904 8 ≤ 5010 := hHU19.c _ _
              have w363 : Xi U19 904 93 = Xi T14 904 93 := (show Xi U19 904 93 = Xi T14 904 93 from by rw [eU19]; exact Xi_ne (by omega))
              have w364 : 0 ≤ Xi T14 904 93 ∧ Xi T14 904 93 ≤ 1700 := hHT14.c _ _
              refine l_callV rfl rfl rfl (t_mo_look hHU19 n c (by first | assumption | exact (TK_FR hFU19 rfl (by assumption : TK S _))) (by first | assumption | exact (by assumption : AT U19 _ _)) _) ?_
              rintro _ _ ⟨rfl, z366, rfl, w366, w365⟩
              show Rl _ _ _ _ _ [iv z366] _ _
              have l203 : z366 ≠ 1 → Xi U19 904 65 = 0 ∧ Xi U19 907 (Xi U19 904 8).toNat = z366 := by assumption
              refine l_istore_n rfl rfl rfl ?_
              refine l_goto rfl rfl ?_
              have w367 : Xi U19 904 65 = Xi T14 904 65 := (show Xi U19 904 65 = Xi T14 904 65 from by rw [eU19]; exact Xi_ne (by omega))
              have w368 : 0 ≤ Xi T14 904 65 ∧ Xi T14 904 65 ≤ 1 := hHT14.c _ _
              have w369 : Xi U19 904 69 = Xi T14 904 69 := (show Xi U19 904 69 = Xi T14 904 69 from by rw [eU19]; exact Xi_ne (by omega))
              have w370 : 0 ≤ Xi T14 904 69 ∧ Xi T14 904 69 ≤ 2600 := hHT14.c _ _
              have w371 : Xi U19 904 70 = Xi T14 904 70 := (show Xi U19 904 70 = Xi T14 904 70 from by rw [eU19]; exact Xi_ne (by omega))
              have w372 : 0 ≤ Xi T14 904 70 ∧ Xi T14 904 70 ≤ 20 := hHT14.c _ _
              have w373 : 0 ≤ Xi U19 904 8 ∧ Xi U19 904 8 ≤ 5010 := hHU19.c _ _
              have w374 : Xi U19 904 93 = Xi T14 904 93 := (show Xi U19 904 93 = Xi T14 904 93 from by rw [eU19]; exact Xi_ne (by omega))
              have w375 : 0 ≤ Xi T14 904 93 ∧ Xi T14 904 93 ≤ 1700 := hHT14.c _ _
              exact Rl_weak (ih168 _ (by omega) U19 hHU19 hFU19 (v2) (z366) (by omega) (by omega) (by first | assumption | exact (by assumption : AT U19 _ _)) (by first | assumption | exact (RNV_FR (FR_e eU19) rfl (by assumption : RNV T14 _))) (by omega) (by omega) (by omega) (by omega) (by omega) rfl) (And.intro rfl (And.intro rfl (And.intro rfl (True.intro))))
  refine l_iload_n rfl rfl ?_
  refine l_bipush rfl rfl ?_
  refine l_icmp_ne rfl rfl (by unfold rg; omega) (by unfold rg; omega) (fun w376 => ?_) (fun w377 => ?_)
  · refine l_iload_n rfl rfl ?_
    refine l_bipush rfl rfl ?_
    refine l_icmp_ne rfl rfl (by unfold rg; omega) (by unfold rg; omega) (fun w378 => ?_) (fun w379 => ?_)
    · refine l_iload_n rfl rfl ?_
      refine l_bipush rfl rfl ?_
      refine l_icmp_ne rfl rfl (by unfold rg; omega) (by unfold rg; omega) (fun w380 => ?_) (fun w381 => ?_)
      · refine l_aload_n rfl rfl ?_
        refine l_bipush rfl rfl ?_
        refine l_pfi rfl rfl rfl rfl ?_
        obtain ⟨U20, eU20⟩ : ∃ T : sS, T = uI S 904 70 (Int32.ofInt 20) := ⟨_, rfl⟩
        rw [← eU20]
        have hHU20 : HI U20 := by rw [eU20]; exact HI_w hH (show 0 ≤ 20 by omega) (show 20 ≤ 20 by omega)
        have hFU20 : FR md_mo_others S U20 := by rw [eU20]; exact FR.wI hF (mdf_i (r := (904, 905, 70, 71)) (List.mem_of_getElem? (i := 4) rfl) (inR_i (by omega) (by omega) (by omega) (by omega)))
        have w382 : Xi U20 904 70 = 20 := by rw [eU20]; exact Xi_same (by unfold rg; omega)
        refine l_aload_n rfl rfl ?_
        refine l_gfi rfl rfl rfl rfl rfl ?_
        have w383 : (Xi U20 904 8) = (Xi S 904 8) := (show Xi U20 904 8 = Xi S 904 8 from by rw [eU20]; exact Xi_ne (by omega))
        rw [w383]
        refine l_istore_n rfl rfl rfl ?_
        refine l_aload_n rfl rfl ?_
        have w384 : Xi U20 904 65 = Xi S 904 65 := (show Xi U20 904 65 = Xi S 904 65 from by rw [eU20]; exact Xi_ne (by omega))
        have w385 : 0 ≤ Xi S 904 65 ∧ Xi S 904 65 ≤ 1 := hH.c _ _
        have w386 : Xi U20 904 69 = Xi S 904 69 := (show Xi U20 904 69 = Xi S 904 69 from by rw [eU20]; exact Xi_ne (by omega))
        have w387 : 0 ≤ Xi S 904 69 ∧ Xi S 904 69 ≤ 2600 := hH.c _ _
        have w388 : 0 ≤ Xi U20 904 70 ∧ Xi U20 904 70 ≤ 20 := hHU20.c _ _
        have w389 : Xi U20 904 8 = Xi S 904 8 := (show Xi U20 904 8 = Xi S 904 8 from by rw [eU20]; exact Xi_ne (by omega))
        have w390 : 0 ≤ Xi S 904 8 ∧ Xi S 904 8 ≤ 5010 := hH.c _ _
        have w391 : Xi U20 904 93 = Xi S 904 93 := (show Xi U20 904 93 = Xi S 904 93 from by rw [eU20]; exact Xi_ne (by omega))
        have w392 : 0 ≤ Xi S 904 93 ∧ Xi S 904 93 ≤ 1700 := hH.c _ _
        refine l_callV rfl rfl rfl (t_mo_look hHU20 n c (by first | assumption | exact (TK_FR hFU20 rfl (by assumption : TK S _))) (by first | assumption | exact (AT_FR (FR_e eU20) rfl (by assumption : AT S _ _))) _) ?_
        rintro _ _ ⟨rfl, z394, rfl, w394, w393⟩
        show Rl _ _ _ _ _ [iv z394] _ _
        have l164 : z394 ≠ 1 → Xi U20 904 65 = 0 ∧ Xi U20 907 (Xi U20 904 8).toNat = z394 := by assumption
        refine l_istore_n rfl rfl rfl ?_
        have w395 : Xi U20 904 65 = Xi S 904 65 := (show Xi U20 904 65 = Xi S 904 65 from by rw [eU20]; exact Xi_ne (by omega))
        have w396 : 0 ≤ Xi S 904 65 ∧ Xi S 904 65 ≤ 1 := hH.c _ _
        have w397 : Xi U20 904 69 = Xi S 904 69 := (show Xi U20 904 69 = Xi S 904 69 from by rw [eU20]; exact Xi_ne (by omega))
        have w398 : 0 ≤ Xi S 904 69 ∧ Xi S 904 69 ≤ 2600 := hH.c _ _
        have w399 : 0 ≤ Xi U20 904 70 ∧ Xi U20 904 70 ≤ 20 := hHU20.c _ _
        have w400 : Xi U20 904 8 = Xi S 904 8 := (show Xi U20 904 8 = Xi S 904 8 from by rw [eU20]; exact Xi_ne (by omega))
        have w401 : 0 ≤ Xi S 904 8 ∧ Xi S 904 8 ≤ 5010 := hH.c _ _
        have w402 : Xi U20 904 93 = Xi S 904 93 := (show Xi U20 904 93 = Xi S 904 93 from by rw [eU20]; exact Xi_ne (by omega))
        have w403 : 0 ≤ Xi S 904 93 ∧ Xi S 904 93 ≤ 1700 := hH.c _ _
        exact Rl_weak (C168 _ U20 hHU20 hFU20 ((Xi S 904 8)) (z394) (by omega) (by omega) (by first | assumption | exact (AT_FR (FR_e eU20) rfl (by assumption : AT S _ _))) (by first | assumption | exact (RNV_FR (FR_e eU20) rfl (by assumption : RNV S _))) (by omega) (by omega) (by omega) (by omega) (by omega) rfl) (And.intro rfl (And.intro rfl (And.intro rfl (True.intro))))
      · refine l_aload_n rfl rfl ?_
        refine l_bipush rfl rfl ?_
        refine l_pfi rfl rfl rfl rfl ?_
        obtain ⟨U21, eU21⟩ : ∃ T : sS, T = uI S 904 70 (Int32.ofInt 19) := ⟨_, rfl⟩
        rw [← eU21]
        have hHU21 : HI U21 := by rw [eU21]; exact HI_w hH (show 0 ≤ 19 by omega) (show 19 ≤ 20 by omega)
        have hFU21 : FR md_mo_others S U21 := by rw [eU21]; exact FR.wI hF (mdf_i (r := (904, 905, 70, 71)) (List.mem_of_getElem? (i := 4) rfl) (inR_i (by omega) (by omega) (by omega) (by omega)))
        have w404 : Xi U21 904 70 = 19 := by rw [eU21]; exact Xi_same (by unfold rg; omega)
        refine l_aload_n rfl rfl ?_
        have w405 : Xi U21 904 65 = Xi S 904 65 := (show Xi U21 904 65 = Xi S 904 65 from by rw [eU21]; exact Xi_ne (by omega))
        have w406 : 0 ≤ Xi S 904 65 ∧ Xi S 904 65 ≤ 1 := hH.c _ _
        have w407 : Xi U21 904 69 = Xi S 904 69 := (show Xi U21 904 69 = Xi S 904 69 from by rw [eU21]; exact Xi_ne (by omega))
        have w408 : 0 ≤ Xi S 904 69 ∧ Xi S 904 69 ≤ 2600 := hH.c _ _
        have w409 : 0 ≤ Xi U21 904 70 ∧ Xi U21 904 70 ≤ 20 := hHU21.c _ _
        have w410 : Xi U21 904 8 = Xi S 904 8 := (show Xi U21 904 8 = Xi S 904 8 from by rw [eU21]; exact Xi_ne (by omega))
        have w411 : 0 ≤ Xi S 904 8 ∧ Xi S 904 8 ≤ 5010 := hH.c _ _
        have w412 : Xi U21 904 93 = Xi S 904 93 := (show Xi U21 904 93 = Xi S 904 93 from by rw [eU21]; exact Xi_ne (by omega))
        have w413 : 0 ≤ Xi S 904 93 ∧ Xi S 904 93 ≤ 1700 := hH.c _ _
        refine l_callV rfl rfl rfl (t_mo_name hHU21 n c (by first | assumption | exact (TK_FR hFU21 rfl (by assumption : TK S _))) (by first | assumption | exact (AT_FR (FR_e eU21) rfl (by assumption : AT S _ _))) (by first | assumption | exact (RNV_FR (FR_e eU21) rfl (by assumption : RNV S _))) _) ?_
        rintro _ T22 ⟨hHT22, w420, z419, rfl, w419, w414, w415, w416, w417, w418⟩
        have hFT22 : FR md_mo_others S T22 := FR.tr hFU21 w420 rfl
        show Rl _ _ _ _ _ [iv z419] _ _
        have w422 : 0 ≤ Xi T22 904 8 ∧ Xi T22 904 8 ≤ 5010 := hHT22.c _ _
        have w423 : 0 ≤ Xi T22 904 65 ∧ Xi T22 904 65 ≤ 1 := hHT22.c _ _
        have w424 : 0 ≤ Xi T22 904 69 ∧ Xi T22 904 69 ≤ 2600 := hHT22.c _ _
        have w425 : Xi T22 904 93 = Xi S 904 93 := (show Xi T22 904 93 = Xi U21 904 93 from w420.x _ _ rfl).trans ((show Xi U21 904 93 = Xi S 904 93 from by rw [eU21]; exact Xi_ne (by omega)))
        have w426 : 0 ≤ Xi S 904 93 ∧ Xi S 904 93 ≤ 1700 := hH.c _ _
        have c107 : Xi T22 904 65 = 0 → Xi S 904 69 + 1 ≤ Xi T22 904 69 := by omega
        have w421 : Xi S 904 8 ≤ Xi T22 904 8 ∧ Xi T22 904 8 ≤ n ∧ Xi S 904 69 ≤ Xi T22 904 69 ∧ (Xi T22 904 65 = 0 → Xi S 904 65 = 0) := by omega
        clear w415 w417 w418
        refine l_pop rfl rfl ?_
        refine l_aload_n rfl rfl ?_
        refine l_bipush rfl rfl ?_
        have w427 : 0 ≤ Xi T22 904 65 ∧ Xi T22 904 65 ≤ 1 := hHT22.c _ _
        have w428 : 0 ≤ Xi T22 904 69 ∧ Xi T22 904 69 ≤ 2600 := hHT22.c _ _
        have w429 : Xi T22 904 70 = Xi U21 904 70 := (show Xi T22 904 70 = Xi U21 904 70 from w420.x _ _ rfl)
        have w430 : 0 ≤ Xi U21 904 70 ∧ Xi U21 904 70 ≤ 20 := hHU21.c _ _
        have w431 : 0 ≤ Xi T22 904 8 ∧ Xi T22 904 8 ≤ 5010 := hHT22.c _ _
        have w432 : Xi T22 904 93 = Xi S 904 93 := (show Xi T22 904 93 = Xi U21 904 93 from w420.x _ _ rfl).trans ((show Xi U21 904 93 = Xi S 904 93 from by rw [eU21]; exact Xi_ne (by omega)))
        have w433 : 0 ≤ Xi S 904 93 ∧ Xi S 904 93 ≤ 1700 := hH.c _ _
        refine l_callV rfl rfl rfl (t_mo_take__2 hHT22 n c 121 ⟨by omega, by omega⟩ (by first | assumption | exact (TK_FR hFT22 rfl (by assumption : TK S _))) (by first | assumption | exact (by assumption : AT T22 _ _)) (by first | assumption | omega) _) ?_
        rintro _ T23 ⟨hHT23, w439, rfl, w434, w435, w436, w437⟩
        have hFT23 : FR md_mo_others S T23 := FR.tr hFT22 w439 rfl
        show Rl _ _ _ _ _ [] _ _
        have w441 : 0 ≤ Xi T23 904 8 ∧ Xi T23 904 8 ≤ 5010 := hHT23.c _ _
        have w442 : 0 ≤ Xi T23 904 65 ∧ Xi T23 904 65 ≤ 1 := hHT23.c _ _
        have w443 : Xi T23 904 69 = Xi T22 904 69 := (show Xi T23 904 69 = Xi T22 904 69 from w439.x _ _ rfl)
        have w444 : 0 ≤ Xi T22 904 69 ∧ Xi T22 904 69 ≤ 2600 := hHT22.c _ _
        have w445 : Xi T23 904 93 = Xi S 904 93 := (show Xi T23 904 93 = Xi T22 904 93 from w439.x _ _ rfl).trans ( (show Xi T22 904 93 = Xi U21 904 93 from w420.x _ _ rfl).trans ((show Xi U21 904 93 = Xi S 904 93 from by rw [eU21]; exact Xi_ne (by omega))))
        have w446 : 0 ≤ Xi S 904 93 ∧ Xi S 904 93 ≤ 1700 := hH.c _ _
        have c114 : Xi T23 904 65 = 0 → Xi S 904 69 + 1 ≤ Xi T23 904 69 := by omega
        clear c107
        have w440 : Xi S 904 8 ≤ Xi T23 904 8 ∧ Xi T23 904 8 ≤ n ∧ Xi S 904 69 ≤ Xi T23 904 69 ∧ (Xi T23 904 65 = 0 → Xi S 904 65 = 0) := by omega
        clear w435 w436 w437 w421
        refine l_aload_n rfl rfl ?_
        refine l_aload_n rfl rfl ?_
        have w447 : 0 ≤ Xi T23 904 65 ∧ Xi T23 904 65 ≤ 1 := hHT23.c _ _
        have w448 : Xi T23 904 69 = Xi T22 904 69 := (show Xi T23 904 69 = Xi T22 904 69 from w439.x _ _ rfl)
        have w449 : 0 ≤ Xi T22 904 69 ∧ Xi T22 904 69 ≤ 2600 := hHT22.c _ _
        have w450 : Xi T23 904 70 = Xi U21 904 70 := (show Xi T23 904 70 = Xi T22 904 70 from w439.x _ _ rfl).trans ((show Xi T22 904 70 = Xi U21 904 70 from w420.x _ _ rfl))
        have w451 : 0 ≤ Xi U21 904 70 ∧ Xi U21 904 70 ≤ 20 := hHU21.c _ _
        have w452 : 0 ≤ Xi T23 904 8 ∧ Xi T23 904 8 ≤ 5010 := hHT23.c _ _
        have w453 : Xi T23 904 93 = Xi S 904 93 := (show Xi T23 904 93 = Xi T22 904 93 from w439.x _ _ rfl).trans ( (show Xi T22 904 93 = Xi U21 904 93 from w420.x _ _ rfl).trans ((show Xi U21 904 93 = Xi S 904 93 from by rw [eU21]; exact Xi_ne (by omega))))
        have w454 : 0 ≤ Xi S 904 93 ∧ Xi S 904 93 ≤ 1700 := hH.c _ _
        refine l_callV rfl rfl rfl (t_mo_oneOrVarious__2 hHT23 n c (by first | assumption | exact (TK_FR hFT23 rfl (by assumption : TK S _))) (by first | assumption | exact (by assumption : AT T23 _ _)) (by first | assumption | omega) _) ?_
        rintro _ T24 ⟨hHT24, w459, z458, rfl, w458, w455, w456, w457⟩
        have hFT24 : FR md_mo_others S T24 := FR.tr hFT23 w459 rfl
        show Rl _ _ _ _ _ [iv z458, .ref 904] _ _
        have w461 : 0 ≤ Xi T24 904 8 ∧ Xi T24 904 8 ≤ 5010 := hHT24.c _ _
        have w462 : 0 ≤ Xi T24 904 65 ∧ Xi T24 904 65 ≤ 1 := hHT24.c _ _
        have w463 : Xi T24 904 69 = Xi T22 904 69 := (show Xi T24 904 69 = Xi T23 904 69 from w459.x _ _ rfl).trans ((show Xi T23 904 69 = Xi T22 904 69 from w439.x _ _ rfl))
        have w464 : 0 ≤ Xi T22 904 69 ∧ Xi T22 904 69 ≤ 2600 := hHT22.c _ _
        have w465 : Xi T24 904 93 = Xi S 904 93 := (show Xi T24 904 93 = Xi T23 904 93 from w459.x _ _ rfl).trans ( (show Xi T23 904 93 = Xi T22 904 93 from w439.x _ _ rfl).trans ( (show Xi T22 904 93 = Xi U21 904 93 from w420.x _ _ rfl).trans ((show Xi U21 904 93 = Xi S 904 93 from by rw [eU21]; exact Xi_ne (by omega)))))
        have w466 : 0 ≤ Xi S 904 93 ∧ Xi S 904 93 ≤ 1700 := hH.c _ _
        have c119 : Xi T24 904 65 = 0 → Xi S 904 69 + 1 ≤ Xi T24 904 69 := by omega
        clear c114
        have w460 : Xi S 904 8 ≤ Xi T24 904 8 ∧ Xi T24 904 8 ≤ n + 1 ∧ Xi S 904 69 ≤ Xi T24 904 69 ∧ (Xi T24 904 65 = 0 → Xi S 904 65 = 0) := by omega
        clear w456 w457 w440
        refine l_pfz rfl rfl rfl rfl (by omega) ?_
        obtain ⟨U25, eU25⟩ : ∃ T : sS, T = uI T24 904 79 (Int32.ofInt z458) := ⟨_, rfl⟩
        rw [← eU25]
        have hHU25 : HI U25 := by rw [eU25]; exact HI_w hHT24 (show 0 ≤ z458 by omega) (show z458 ≤ 1 by omega)
        have hFU25 : FR md_mo_others S U25 := by rw [eU25]; exact FR.wI hFT24 (mdf_i (r := (904, 905, 79, 80)) (List.mem_of_getElem? (i := 5) rfl) (inR_i (by omega) (by omega) (by omega) (by omega)))
        have w467 : Xi U25 904 79 = z458 := by rw [eU25]; exact Xi_same (by unfold rg; omega)
        have w468 : Xi U25 904 65 = Xi T24 904 65 := (show Xi U25 904 65 = Xi T24 904 65 from by rw [eU25]; exact Xi_ne (by omega))
        have w469 : 0 ≤ Xi T24 904 65 ∧ Xi T24 904 65 ≤ 1 := hHT24.c _ _
        have w470 : Xi U25 904 69 = Xi T22 904 69 := (show Xi U25 904 69 = Xi T24 904 69 from by rw [eU25]; exact Xi_ne (by omega)).trans ( (show Xi T24 904 69 = Xi T23 904 69 from w459.x _ _ rfl).trans ((show Xi T23 904 69 = Xi T22 904 69 from w439.x _ _ rfl)))
        have w471 : 0 ≤ Xi T22 904 69 ∧ Xi T22 904 69 ≤ 2600 := hHT22.c _ _
        have w472 : Xi U25 904 70 = Xi U21 904 70 := (show Xi U25 904 70 = Xi T24 904 70 from by rw [eU25]; exact Xi_ne (by omega)).trans ( (show Xi T24 904 70 = Xi T23 904 70 from w459.x _ _ rfl).trans ( (show Xi T23 904 70 = Xi T22 904 70 from w439.x _ _ rfl).trans ((show Xi T22 904 70 = Xi U21 904 70 from w420.x _ _ rfl))))
        have w473 : 0 ≤ Xi U21 904 70 ∧ Xi U21 904 70 ≤ 20 := hHU21.c _ _
        have w474 : Xi U25 904 8 = Xi T24 904 8 := (show Xi U25 904 8 = Xi T24 904 8 from by rw [eU25]; exact Xi_ne (by omega))
        have w475 : 0 ≤ Xi T24 904 8 ∧ Xi T24 904 8 ≤ 5010 := hHT24.c _ _
        have w476 : Xi U25 904 93 = Xi S 904 93 := (show Xi U25 904 93 = Xi T24 904 93 from by rw [eU25]; exact Xi_ne (by omega)).trans ( (show Xi T24 904 93 = Xi T23 904 93 from w459.x _ _ rfl).trans ( (show Xi T23 904 93 = Xi T22 904 93 from w439.x _ _ rfl).trans ( (show Xi T22 904 93 = Xi U21 904 93 from w420.x _ _ rfl).trans ((show Xi U21 904 93 = Xi S 904 93 from by rw [eU21]; exact Xi_ne (by omega))))))
        have w477 : 0 ≤ Xi S 904 93 ∧ Xi S 904 93 ≤ 1700 := hH.c _ _
        exact Rl_weak (C125 U25 hHU25 hFU25  (by first | assumption | exact (AT_FR (FR_e eU25) rfl (by assumption : AT T24 _ _))) (by first | assumption | exact (RNV_FR (FR_e eU25) rfl (RNV_FR w459 rfl (RNV_FR w439 rfl (by assumption : RNV T22 _))))) (by omega) (by omega) (by omega) (by omega) (by omega) (by first | exact c119 | omega)) (And.intro rfl (True.intro))
    · refine l_aload_n rfl rfl ?_
      refine l_bipush rfl rfl ?_
      refine l_pfi rfl rfl rfl rfl ?_
      obtain ⟨U26, eU26⟩ : ∃ T : sS, T = uI S 904 70 (Int32.ofInt 18) := ⟨_, rfl⟩
      rw [← eU26]
      have hHU26 : HI U26 := by rw [eU26]; exact HI_w hH (show 0 ≤ 18 by omega) (show 18 ≤ 20 by omega)
      have hFU26 : FR md_mo_others S U26 := by rw [eU26]; exact FR.wI hF (mdf_i (r := (904, 905, 70, 71)) (List.mem_of_getElem? (i := 4) rfl) (inR_i (by omega) (by omega) (by omega) (by omega)))
      have w478 : Xi U26 904 70 = 18 := by rw [eU26]; exact Xi_same (by unfold rg; omega)
      refine l_aload_n rfl rfl ?_
      have w479 : Xi U26 904 65 = Xi S 904 65 := (show Xi U26 904 65 = Xi S 904 65 from by rw [eU26]; exact Xi_ne (by omega))
      have w480 : 0 ≤ Xi S 904 65 ∧ Xi S 904 65 ≤ 1 := hH.c _ _
      have w481 : Xi U26 904 69 = Xi S 904 69 := (show Xi U26 904 69 = Xi S 904 69 from by rw [eU26]; exact Xi_ne (by omega))
      have w482 : 0 ≤ Xi S 904 69 ∧ Xi S 904 69 ≤ 2600 := hH.c _ _
      have w483 : 0 ≤ Xi U26 904 70 ∧ Xi U26 904 70 ≤ 20 := hHU26.c _ _
      have w484 : Xi U26 904 8 = Xi S 904 8 := (show Xi U26 904 8 = Xi S 904 8 from by rw [eU26]; exact Xi_ne (by omega))
      have w485 : 0 ≤ Xi S 904 8 ∧ Xi S 904 8 ≤ 5010 := hH.c _ _
      have w486 : Xi U26 904 93 = Xi S 904 93 := (show Xi U26 904 93 = Xi S 904 93 from by rw [eU26]; exact Xi_ne (by omega))
      have w487 : 0 ≤ Xi S 904 93 ∧ Xi S 904 93 ≤ 1700 := hH.c _ _
      refine l_callV rfl rfl rfl (t_mo_name hHU26 n c (by first | assumption | exact (TK_FR hFU26 rfl (by assumption : TK S _))) (by first | assumption | exact (AT_FR (FR_e eU26) rfl (by assumption : AT S _ _))) (by first | assumption | exact (RNV_FR (FR_e eU26) rfl (by assumption : RNV S _))) _) ?_
      rintro _ T27 ⟨hHT27, w494, z493, rfl, w493, w488, w489, w490, w491, w492⟩
      have hFT27 : FR md_mo_others S T27 := FR.tr hFU26 w494 rfl
      show Rl _ _ _ _ _ [iv z493] _ _
      have w496 : 0 ≤ Xi T27 904 8 ∧ Xi T27 904 8 ≤ 5010 := hHT27.c _ _
      have w497 : 0 ≤ Xi T27 904 65 ∧ Xi T27 904 65 ≤ 1 := hHT27.c _ _
      have w498 : 0 ≤ Xi T27 904 69 ∧ Xi T27 904 69 ≤ 2600 := hHT27.c _ _
      have w499 : Xi T27 904 93 = Xi S 904 93 := (show Xi T27 904 93 = Xi U26 904 93 from w494.x _ _ rfl).trans ((show Xi U26 904 93 = Xi S 904 93 from by rw [eU26]; exact Xi_ne (by omega)))
      have w500 : 0 ≤ Xi S 904 93 ∧ Xi S 904 93 ≤ 1700 := hH.c _ _
      have c59 : Xi T27 904 65 = 0 → Xi S 904 69 + 1 ≤ Xi T27 904 69 := by omega
      have w495 : Xi S 904 8 ≤ Xi T27 904 8 ∧ Xi T27 904 8 ≤ n ∧ Xi S 904 69 ≤ Xi T27 904 69 ∧ (Xi T27 904 65 = 0 → Xi S 904 65 = 0) := by omega
      clear w489 w491 w492
      refine l_pop rfl rfl ?_
      refine l_aload_n rfl rfl ?_
      refine l_bipush rfl rfl ?_
      have w501 : 0 ≤ Xi T27 904 65 ∧ Xi T27 904 65 ≤ 1 := hHT27.c _ _
      have w502 : 0 ≤ Xi T27 904 69 ∧ Xi T27 904 69 ≤ 2600 := hHT27.c _ _
      have w503 : Xi T27 904 70 = Xi U26 904 70 := (show Xi T27 904 70 = Xi U26 904 70 from w494.x _ _ rfl)
      have w504 : 0 ≤ Xi U26 904 70 ∧ Xi U26 904 70 ≤ 20 := hHU26.c _ _
      have w505 : 0 ≤ Xi T27 904 8 ∧ Xi T27 904 8 ≤ 5010 := hHT27.c _ _
      have w506 : Xi T27 904 93 = Xi S 904 93 := (show Xi T27 904 93 = Xi U26 904 93 from w494.x _ _ rfl).trans ((show Xi U26 904 93 = Xi S 904 93 from by rw [eU26]; exact Xi_ne (by omega)))
      have w507 : 0 ≤ Xi S 904 93 ∧ Xi S 904 93 ≤ 1700 := hH.c _ _
      refine l_callV rfl rfl rfl (t_mo_take__2 hHT27 n c 113 ⟨by omega, by omega⟩ (by first | assumption | exact (TK_FR hFT27 rfl (by assumption : TK S _))) (by first | assumption | exact (by assumption : AT T27 _ _)) (by first | assumption | omega) _) ?_
      rintro _ T28 ⟨hHT28, w513, rfl, w508, w509, w510, w511⟩
      have hFT28 : FR md_mo_others S T28 := FR.tr hFT27 w513 rfl
      show Rl _ _ _ _ _ [] _ _
      have w515 : 0 ≤ Xi T28 904 8 ∧ Xi T28 904 8 ≤ 5010 := hHT28.c _ _
      have w516 : 0 ≤ Xi T28 904 65 ∧ Xi T28 904 65 ≤ 1 := hHT28.c _ _
      have w517 : Xi T28 904 69 = Xi T27 904 69 := (show Xi T28 904 69 = Xi T27 904 69 from w513.x _ _ rfl)
      have w518 : 0 ≤ Xi T27 904 69 ∧ Xi T27 904 69 ≤ 2600 := hHT27.c _ _
      have w519 : Xi T28 904 93 = Xi S 904 93 := (show Xi T28 904 93 = Xi T27 904 93 from w513.x _ _ rfl).trans ( (show Xi T27 904 93 = Xi U26 904 93 from w494.x _ _ rfl).trans ((show Xi U26 904 93 = Xi S 904 93 from by rw [eU26]; exact Xi_ne (by omega))))
      have w520 : 0 ≤ Xi S 904 93 ∧ Xi S 904 93 ≤ 1700 := hH.c _ _
      have c66 : Xi T28 904 65 = 0 → Xi S 904 69 + 1 ≤ Xi T28 904 69 := by omega
      clear c59
      have w514 : Xi S 904 8 ≤ Xi T28 904 8 ∧ Xi T28 904 8 ≤ n ∧ Xi S 904 69 ≤ Xi T28 904 69 ∧ (Xi T28 904 65 = 0 → Xi S 904 65 = 0) := by omega
      clear w509 w510 w511 w495
      refine l_aload_n rfl rfl ?_
      refine l_bipush rfl rfl ?_
      have w521 : 0 ≤ Xi T28 904 65 ∧ Xi T28 904 65 ≤ 1 := hHT28.c _ _
      have w522 : Xi T28 904 69 = Xi T27 904 69 := (show Xi T28 904 69 = Xi T27 904 69 from w513.x _ _ rfl)
      have w523 : 0 ≤ Xi T27 904 69 ∧ Xi T27 904 69 ≤ 2600 := hHT27.c _ _
      have w524 : Xi T28 904 70 = Xi U26 904 70 := (show Xi T28 904 70 = Xi T27 904 70 from w513.x _ _ rfl).trans ((show Xi T27 904 70 = Xi U26 904 70 from w494.x _ _ rfl))
      have w525 : 0 ≤ Xi U26 904 70 ∧ Xi U26 904 70 ≤ 20 := hHU26.c _ _
      have w526 : 0 ≤ Xi T28 904 8 ∧ Xi T28 904 8 ≤ 5010 := hHT28.c _ _
      have w527 : Xi T28 904 93 = Xi S 904 93 := (show Xi T28 904 93 = Xi T27 904 93 from w513.x _ _ rfl).trans ( (show Xi T27 904 93 = Xi U26 904 93 from w494.x _ _ rfl).trans ((show Xi U26 904 93 = Xi S 904 93 from by rw [eU26]; exact Xi_ne (by omega))))
      have w528 : 0 ≤ Xi S 904 93 ∧ Xi S 904 93 ≤ 1700 := hH.c _ _
      refine l_callV rfl rfl rfl (t_mo_take__2 hHT28 n c 114 ⟨by omega, by omega⟩ (by first | assumption | exact (TK_FR hFT28 rfl (by assumption : TK S _))) (by first | assumption | exact (by assumption : AT T28 _ _)) (by first | assumption | omega) _) ?_
      rintro _ T29 ⟨hHT29, w534, rfl, w529, w530, w531, w532⟩
      have hFT29 : FR md_mo_others S T29 := FR.tr hFT28 w534 rfl
      show Rl _ _ _ _ _ [] _ _
      have w536 : 0 ≤ Xi T29 904 8 ∧ Xi T29 904 8 ≤ 5010 := hHT29.c _ _
      have w537 : 0 ≤ Xi T29 904 65 ∧ Xi T29 904 65 ≤ 1 := hHT29.c _ _
      have w538 : Xi T29 904 69 = Xi T27 904 69 := (show Xi T29 904 69 = Xi T28 904 69 from w534.x _ _ rfl).trans ((show Xi T28 904 69 = Xi T27 904 69 from w513.x _ _ rfl))
      have w539 : 0 ≤ Xi T27 904 69 ∧ Xi T27 904 69 ≤ 2600 := hHT27.c _ _
      have w540 : Xi T29 904 93 = Xi S 904 93 := (show Xi T29 904 93 = Xi T28 904 93 from w534.x _ _ rfl).trans ( (show Xi T28 904 93 = Xi T27 904 93 from w513.x _ _ rfl).trans ( (show Xi T27 904 93 = Xi U26 904 93 from w494.x _ _ rfl).trans ((show Xi U26 904 93 = Xi S 904 93 from by rw [eU26]; exact Xi_ne (by omega)))))
      have w541 : 0 ≤ Xi S 904 93 ∧ Xi S 904 93 ≤ 1700 := hH.c _ _
      have c72 : Xi T29 904 65 = 0 → Xi S 904 69 + 1 ≤ Xi T29 904 69 := by omega
      clear c66
      have w535 : Xi S 904 8 ≤ Xi T29 904 8 ∧ Xi T29 904 8 ≤ n ∧ Xi S 904 69 ≤ Xi T29 904 69 ∧ (Xi T29 904 65 = 0 → Xi S 904 65 = 0) := by omega
      clear w530 w531 w532 w514
      have w542 : 0 ≤ Xi T29 904 65 ∧ Xi T29 904 65 ≤ 1 := hHT29.c _ _
      have w543 : Xi T29 904 69 = Xi T27 904 69 := (show Xi T29 904 69 = Xi T28 904 69 from w534.x _ _ rfl).trans ((show Xi T28 904 69 = Xi T27 904 69 from w513.x _ _ rfl))
      have w544 : 0 ≤ Xi T27 904 69 ∧ Xi T27 904 69 ≤ 2600 := hHT27.c _ _
      have w545 : Xi T29 904 70 = Xi U26 904 70 := (show Xi T29 904 70 = Xi T28 904 70 from w534.x _ _ rfl).trans ( (show Xi T28 904 70 = Xi T27 904 70 from w513.x _ _ rfl).trans ((show Xi T27 904 70 = Xi U26 904 70 from w494.x _ _ rfl)))
      have w546 : 0 ≤ Xi U26 904 70 ∧ Xi U26 904 70 ≤ 20 := hHU26.c _ _
      have w547 : 0 ≤ Xi T29 904 8 ∧ Xi T29 904 8 ≤ 5010 := hHT29.c _ _
      have w548 : Xi T29 904 93 = Xi S 904 93 := (show Xi T29 904 93 = Xi T28 904 93 from w534.x _ _ rfl).trans ( (show Xi T28 904 93 = Xi T27 904 93 from w513.x _ _ rfl).trans ( (show Xi T27 904 93 = Xi U26 904 93 from w494.x _ _ rfl).trans ((show Xi U26 904 93 = Xi S 904 93 from by rw [eU26]; exact Xi_ne (by omega)))))
      have w549 : 0 ≤ Xi S 904 93 ∧ Xi S 904 93 ≤ 1700 := hH.c _ _
      exact Rl_weak (C75 T29 hHT29 hFT29  (by first | assumption | exact (by assumption : AT T29 _ _)) (by first | assumption | exact (RNV_FR w534 rfl (RNV_FR w513 rfl (by assumption : RNV T27 _)))) (by omega) (by omega) (by omega) (by omega) (by omega) (by first | exact c72 | omega)) (And.intro rfl (True.intro))
  · refine l_aload_n rfl rfl ?_
    refine l_bipush rfl rfl ?_
    refine l_pfi rfl rfl rfl rfl ?_
    obtain ⟨U30, eU30⟩ : ∃ T : sS, T = uI S 904 70 (Int32.ofInt 17) := ⟨_, rfl⟩
    rw [← eU30]
    have hHU30 : HI U30 := by rw [eU30]; exact HI_w hH (show 0 ≤ 17 by omega) (show 17 ≤ 20 by omega)
    have hFU30 : FR md_mo_others S U30 := by rw [eU30]; exact FR.wI hF (mdf_i (r := (904, 905, 70, 71)) (List.mem_of_getElem? (i := 4) rfl) (inR_i (by omega) (by omega) (by omega) (by omega)))
    have w550 : Xi U30 904 70 = 17 := by rw [eU30]; exact Xi_same (by unfold rg; omega)
    refine l_aload_n rfl rfl ?_
    have w551 : Xi U30 904 65 = Xi S 904 65 := (show Xi U30 904 65 = Xi S 904 65 from by rw [eU30]; exact Xi_ne (by omega))
    have w552 : 0 ≤ Xi S 904 65 ∧ Xi S 904 65 ≤ 1 := hH.c _ _
    have w553 : Xi U30 904 69 = Xi S 904 69 := (show Xi U30 904 69 = Xi S 904 69 from by rw [eU30]; exact Xi_ne (by omega))
    have w554 : 0 ≤ Xi S 904 69 ∧ Xi S 904 69 ≤ 2600 := hH.c _ _
    have w555 : 0 ≤ Xi U30 904 70 ∧ Xi U30 904 70 ≤ 20 := hHU30.c _ _
    have w556 : Xi U30 904 8 = Xi S 904 8 := (show Xi U30 904 8 = Xi S 904 8 from by rw [eU30]; exact Xi_ne (by omega))
    have w557 : 0 ≤ Xi S 904 8 ∧ Xi S 904 8 ≤ 5010 := hH.c _ _
    have w558 : Xi U30 904 93 = Xi S 904 93 := (show Xi U30 904 93 = Xi S 904 93 from by rw [eU30]; exact Xi_ne (by omega))
    have w559 : 0 ≤ Xi S 904 93 ∧ Xi S 904 93 ≤ 1700 := hH.c _ _
    refine l_callV rfl rfl rfl (t_mo_name hHU30 n c (by first | assumption | exact (TK_FR hFU30 rfl (by assumption : TK S _))) (by first | assumption | exact (AT_FR (FR_e eU30) rfl (by assumption : AT S _ _))) (by first | assumption | exact (RNV_FR (FR_e eU30) rfl (by assumption : RNV S _))) _) ?_
    rintro _ T31 ⟨hHT31, w566, z565, rfl, w565, w560, w561, w562, w563, w564⟩
    have hFT31 : FR md_mo_others S T31 := FR.tr hFU30 w566 rfl
    show Rl _ _ _ _ _ [iv z565] _ _
    have w568 : 0 ≤ Xi T31 904 8 ∧ Xi T31 904 8 ≤ 5010 := hHT31.c _ _
    have w569 : 0 ≤ Xi T31 904 65 ∧ Xi T31 904 65 ≤ 1 := hHT31.c _ _
    have w570 : 0 ≤ Xi T31 904 69 ∧ Xi T31 904 69 ≤ 2600 := hHT31.c _ _
    have w571 : Xi T31 904 93 = Xi S 904 93 := (show Xi T31 904 93 = Xi U30 904 93 from w566.x _ _ rfl).trans ((show Xi U30 904 93 = Xi S 904 93 from by rw [eU30]; exact Xi_ne (by omega)))
    have w572 : 0 ≤ Xi S 904 93 ∧ Xi S 904 93 ≤ 1700 := hH.c _ _
    have c13 : Xi T31 904 65 = 0 → Xi S 904 69 + 1 ≤ Xi T31 904 69 := by omega
    have w567 : Xi S 904 8 ≤ Xi T31 904 8 ∧ Xi T31 904 8 ≤ n ∧ Xi S 904 69 ≤ Xi T31 904 69 ∧ (Xi T31 904 65 = 0 → Xi S 904 65 = 0) := by omega
    clear w561 w563 w564
    refine l_pop rfl rfl ?_
    refine l_aload_n rfl rfl ?_
    refine l_bipush rfl rfl ?_
    have w573 : 0 ≤ Xi T31 904 65 ∧ Xi T31 904 65 ≤ 1 := hHT31.c _ _
    have w574 : 0 ≤ Xi T31 904 69 ∧ Xi T31 904 69 ≤ 2600 := hHT31.c _ _
    have w575 : Xi T31 904 70 = Xi U30 904 70 := (show Xi T31 904 70 = Xi U30 904 70 from w566.x _ _ rfl)
    have w576 : 0 ≤ Xi U30 904 70 ∧ Xi U30 904 70 ≤ 20 := hHU30.c _ _
    have w577 : 0 ≤ Xi T31 904 8 ∧ Xi T31 904 8 ≤ 5010 := hHT31.c _ _
    have w578 : Xi T31 904 93 = Xi S 904 93 := (show Xi T31 904 93 = Xi U30 904 93 from w566.x _ _ rfl).trans ((show Xi U30 904 93 = Xi S 904 93 from by rw [eU30]; exact Xi_ne (by omega)))
    have w579 : 0 ≤ Xi S 904 93 ∧ Xi S 904 93 ≤ 1700 := hH.c _ _
    refine l_callV rfl rfl rfl (t_mo_take__2 hHT31 n c 112 ⟨by omega, by omega⟩ (by first | assumption | exact (TK_FR hFT31 rfl (by assumption : TK S _))) (by first | assumption | exact (by assumption : AT T31 _ _)) (by first | assumption | omega) _) ?_
    rintro _ T32 ⟨hHT32, w585, rfl, w580, w581, w582, w583⟩
    have hFT32 : FR md_mo_others S T32 := FR.tr hFT31 w585 rfl
    show Rl _ _ _ _ _ [] _ _
    have w587 : 0 ≤ Xi T32 904 8 ∧ Xi T32 904 8 ≤ 5010 := hHT32.c _ _
    have w588 : 0 ≤ Xi T32 904 65 ∧ Xi T32 904 65 ≤ 1 := hHT32.c _ _
    have w589 : Xi T32 904 69 = Xi T31 904 69 := (show Xi T32 904 69 = Xi T31 904 69 from w585.x _ _ rfl)
    have w590 : 0 ≤ Xi T31 904 69 ∧ Xi T31 904 69 ≤ 2600 := hHT31.c _ _
    have w591 : Xi T32 904 93 = Xi S 904 93 := (show Xi T32 904 93 = Xi T31 904 93 from w585.x _ _ rfl).trans ( (show Xi T31 904 93 = Xi U30 904 93 from w566.x _ _ rfl).trans ((show Xi U30 904 93 = Xi S 904 93 from by rw [eU30]; exact Xi_ne (by omega))))
    have w592 : 0 ≤ Xi S 904 93 ∧ Xi S 904 93 ≤ 1700 := hH.c _ _
    have c20 : Xi T32 904 65 = 0 → Xi S 904 69 + 1 ≤ Xi T32 904 69 := by omega
    clear c13
    have w586 : Xi S 904 8 ≤ Xi T32 904 8 ∧ Xi T32 904 8 ≤ n ∧ Xi S 904 69 ≤ Xi T32 904 69 ∧ (Xi T32 904 65 = 0 → Xi S 904 65 = 0) := by omega
    clear w581 w582 w583 w567
    refine l_aload_n rfl rfl ?_
    have w593 : 0 ≤ Xi T32 904 65 ∧ Xi T32 904 65 ≤ 1 := hHT32.c _ _
    have w594 : Xi T32 904 69 = Xi T31 904 69 := (show Xi T32 904 69 = Xi T31 904 69 from w585.x _ _ rfl)
    have w595 : 0 ≤ Xi T31 904 69 ∧ Xi T31 904 69 ≤ 2600 := hHT31.c _ _
    have w596 : Xi T32 904 70 = Xi U30 904 70 := (show Xi T32 904 70 = Xi T31 904 70 from w585.x _ _ rfl).trans ((show Xi T31 904 70 = Xi U30 904 70 from w566.x _ _ rfl))
    have w597 : 0 ≤ Xi U30 904 70 ∧ Xi U30 904 70 ≤ 20 := hHU30.c _ _
    have w598 : 0 ≤ Xi T32 904 8 ∧ Xi T32 904 8 ≤ 5010 := hHT32.c _ _
    have w599 : Xi T32 904 93 = Xi S 904 93 := (show Xi T32 904 93 = Xi T31 904 93 from w585.x _ _ rfl).trans ( (show Xi T31 904 93 = Xi U30 904 93 from w566.x _ _ rfl).trans ((show Xi U30 904 93 = Xi S 904 93 from by rw [eU30]; exact Xi_ne (by omega))))
    have w600 : 0 ≤ Xi S 904 93 ∧ Xi S 904 93 ≤ 1700 := hH.c _ _
    refine l_callV rfl rfl rfl (t_mo_art__2 hHT32 n c (by first | assumption | exact (TK_FR hFT32 rfl (by assumption : TK S _))) (by first | assumption | exact (by assumption : AT T32 _ _)) _) ?_
    rintro _ T33 ⟨hHT33, w605, rfl, w601, w602, w603⟩
    have hFT33 : FR md_mo_others S T33 := FR.tr hFT32 w605 rfl
    show Rl _ _ _ _ _ [] _ _
    have w607 : 0 ≤ Xi T33 904 8 ∧ Xi T33 904 8 ≤ 5010 := hHT33.c _ _
    have w608 : 0 ≤ Xi T33 904 65 ∧ Xi T33 904 65 ≤ 1 := hHT33.c _ _
    have w609 : Xi T33 904 69 = Xi T31 904 69 := (show Xi T33 904 69 = Xi T32 904 69 from w605.x _ _ rfl).trans ((show Xi T32 904 69 = Xi T31 904 69 from w585.x _ _ rfl))
    have w610 : 0 ≤ Xi T31 904 69 ∧ Xi T31 904 69 ≤ 2600 := hHT31.c _ _
    have w611 : Xi T33 904 93 = Xi S 904 93 := (show Xi T33 904 93 = Xi T32 904 93 from w605.x _ _ rfl).trans ( (show Xi T32 904 93 = Xi T31 904 93 from w585.x _ _ rfl).trans ( (show Xi T31 904 93 = Xi U30 904 93 from w566.x _ _ rfl).trans ((show Xi U30 904 93 = Xi S 904 93 from by rw [eU30]; exact Xi_ne (by omega)))))
    have w612 : 0 ≤ Xi S 904 93 ∧ Xi S 904 93 ≤ 1700 := hH.c _ _
    have c24 : Xi T33 904 65 = 0 → Xi S 904 69 + 1 ≤ Xi T33 904 69 := by omega
    clear c20
    have w606 : Xi S 904 8 ≤ Xi T33 904 8 ∧ Xi T33 904 8 ≤ n ∧ Xi S 904 69 ≤ Xi T33 904 69 ∧ (Xi T33 904 65 = 0 → Xi S 904 65 = 0) := by omega
    clear w602 w603 w586
    refine l_aload_n rfl rfl ?_
    have w613 : 0 ≤ Xi T33 904 65 ∧ Xi T33 904 65 ≤ 1 := hHT33.c _ _
    have w614 : Xi T33 904 69 = Xi T31 904 69 := (show Xi T33 904 69 = Xi T32 904 69 from w605.x _ _ rfl).trans ((show Xi T32 904 69 = Xi T31 904 69 from w585.x _ _ rfl))
    have w615 : 0 ≤ Xi T31 904 69 ∧ Xi T31 904 69 ≤ 2600 := hHT31.c _ _
    have w616 : Xi T33 904 70 = Xi U30 904 70 := (show Xi T33 904 70 = Xi T32 904 70 from w605.x _ _ rfl).trans ( (show Xi T32 904 70 = Xi T31 904 70 from w585.x _ _ rfl).trans ((show Xi T31 904 70 = Xi U30 904 70 from w566.x _ _ rfl)))
    have w617 : 0 ≤ Xi U30 904 70 ∧ Xi U30 904 70 ≤ 20 := hHU30.c _ _
    have w618 : 0 ≤ Xi T33 904 8 ∧ Xi T33 904 8 ≤ 5010 := hHT33.c _ _
    have w619 : Xi T33 904 93 = Xi S 904 93 := (show Xi T33 904 93 = Xi T32 904 93 from w605.x _ _ rfl).trans ( (show Xi T32 904 93 = Xi T31 904 93 from w585.x _ _ rfl).trans ( (show Xi T31 904 93 = Xi U30 904 93 from w566.x _ _ rfl).trans ((show Xi U30 904 93 = Xi S 904 93 from by rw [eU30]; exact Xi_ne (by omega)))))
    have w620 : 0 ≤ Xi S 904 93 ∧ Xi S 904 93 ≤ 1700 := hH.c _ _
    refine l_callV rfl rfl rfl (t_mo_run hHT33 n c (by first | assumption | exact (TK_FR hFT33 rfl (by assumption : TK S _))) (by first | assumption | exact (by assumption : AT T33 _ _)) (by first | assumption | exact (RNV_FR w605 rfl (RNV_FR w585 rfl (by assumption : RNV T31 _)))) _) ?_
    rintro _ T34 ⟨hHT34, w627, z626, rfl, w626, w621, w622, w623, w624, w625⟩
    have hFT34 : FR md_mo_others S T34 := FR.tr hFT33 w627 rfl
    show Rl _ _ _ _ _ [iv z626] _ _
    have w629 : 0 ≤ Xi T34 904 8 ∧ Xi T34 904 8 ≤ 5010 := hHT34.c _ _
    have w630 : 0 ≤ Xi T34 904 65 ∧ Xi T34 904 65 ≤ 1 := hHT34.c _ _
    have w631 : 0 ≤ Xi T34 904 69 ∧ Xi T34 904 69 ≤ 2600 := hHT34.c _ _
    have w632 : Xi T34 904 93 = Xi S 904 93 := (show Xi T34 904 93 = Xi T33 904 93 from w627.x _ _ rfl).trans ( (show Xi T33 904 93 = Xi T32 904 93 from w605.x _ _ rfl).trans ( (show Xi T32 904 93 = Xi T31 904 93 from w585.x _ _ rfl).trans ( (show Xi T31 904 93 = Xi U30 904 93 from w566.x _ _ rfl).trans ((show Xi U30 904 93 = Xi S 904 93 from by rw [eU30]; exact Xi_ne (by omega))))))
    have w633 : 0 ≤ Xi S 904 93 ∧ Xi S 904 93 ≤ 1700 := hH.c _ _
    have c28 : Xi T34 904 65 = 0 → Xi S 904 69 + 2 ≤ Xi T34 904 69 := by omega
    clear c24
    have w628 : Xi S 904 8 ≤ Xi T34 904 8 ∧ Xi T34 904 8 ≤ n ∧ Xi S 904 69 ≤ Xi T34 904 69 ∧ (Xi T34 904 65 = 0 → Xi S 904 65 = 0) := by omega
    clear w622 w624 w625 w606
    refine l_pop rfl rfl ?_
    have w634 : 0 ≤ Xi T34 904 65 ∧ Xi T34 904 65 ≤ 1 := hHT34.c _ _
    have w635 : 0 ≤ Xi T34 904 69 ∧ Xi T34 904 69 ≤ 2600 := hHT34.c _ _
    have w636 : Xi T34 904 70 = Xi U30 904 70 := (show Xi T34 904 70 = Xi T33 904 70 from w627.x _ _ rfl).trans ( (show Xi T33 904 70 = Xi T32 904 70 from w605.x _ _ rfl).trans ( (show Xi T32 904 70 = Xi T31 904 70 from w585.x _ _ rfl).trans ((show Xi T31 904 70 = Xi U30 904 70 from w566.x _ _ rfl))))
    have w637 : 0 ≤ Xi U30 904 70 ∧ Xi U30 904 70 ≤ 20 := hHU30.c _ _
    have w638 : 0 ≤ Xi T34 904 8 ∧ Xi T34 904 8 ≤ 5010 := hHT34.c _ _
    have w639 : Xi T34 904 93 = Xi S 904 93 := (show Xi T34 904 93 = Xi T33 904 93 from w627.x _ _ rfl).trans ( (show Xi T33 904 93 = Xi T32 904 93 from w605.x _ _ rfl).trans ( (show Xi T32 904 93 = Xi T31 904 93 from w585.x _ _ rfl).trans ( (show Xi T31 904 93 = Xi U30 904 93 from w566.x _ _ rfl).trans ((show Xi U30 904 93 = Xi S 904 93 from by rw [eU30]; exact Xi_ne (by omega))))))
    have w640 : 0 ≤ Xi S 904 93 ∧ Xi S 904 93 ≤ 1700 := hH.c _ _
    exact Rl_weak (C32 T34 hHT34 hFT34  (by first | assumption | exact (by assumption : AT T34 _ _)) (by first | assumption | exact (by assumption : RNV T34 _)) (by omega) (by omega) (by omega) (by omega) (by omega) (by first | exact c28 | omega)) (And.intro rfl (True.intro))
