/-! SAFETY of methods: printed by wip/safe (vc.py, decl.py) -/
def md_mo_others__2 : List rec := [(904, 905, 8, 9), (904, 905, 65, 66), (904, 905, 66, 67), (904, 905, 69, 70), (904, 905, 70, 71), (904, 905, 79, 80), (904, 905, 80, 81), (950, 951, 0, 100000), (951, 952, 0, 100000)]
abbrev Q_mo_others__2 (S : sS) (n : Nat) (c : Nat) (tells : Int) : pst := fun r S1 => HI S1 ∧ FR md_mo_others__2 S S1 ∧ (r = none ∧ (AT S1 n c) ∧ (Xi S 904 8 ≤ Xi S1 904 8 ∧ Xi S1 904 8 ≤ n + 2) ∧ (RNV S1 n) ∧ (Xi S1 904 65 = 0 → Xi S 904 65 = 0) ∧ (Xi S 904 69 ≤ Xi S1 904 69) ∧ (17 ≤ Xi S1 904 70 ∧ Xi S1 904 70 ≤ 20) ∧ (Xi S1 904 65 = 0 → SNQ S1 n) ∧ (BDA S1))
set_option maxRecDepth 100000 in
set_option maxHeartbeats 4000000 in
theorem t_mo_others__2 {S : sS} (hH : HI S) (n : Nat) (c : Nat) (tells : Int) (htells : 0 ≤ tells ∧ tells ≤ 154) (hT : TK S n) (hA : AT S n c) (hv : RNV S n) (hx : Xi S 904 8 ≤ n) (hBDA : BDA S) (d : Nat) : Mt lay0 (d + 4) m_mo_others [.ref 904, iv tells] S (Q_mo_others__2 S n c tells) := by
  refine Mt_R rfl rfl ?_
  have hF : FR md_mo_others__2 S S := FR.rf
  have w1 : 0 ≤ Xi S 904 65 ∧ Xi S 904 65 ≤ 1 := hH.c _ _
  have w2 : 0 ≤ Xi S 904 69 ∧ Xi S 904 69 ≤ 2600 := hH.c _ _
  have w3 : 0 ≤ Xi S 904 70 ∧ Xi S 904 70 ≤ 20 := hH.c _ _
  have w4 : 0 ≤ Xi S 904 8 ∧ Xi S 904 8 ≤ 5010 := hH.c _ _
  have hn5 := hT.1
  have hat := hA
  have h8 : 0 ≤ Xi S 904 8 ∧ Xi S 904 8 ≤ 5010 := hH.c _ _
  have h69 : 0 ≤ Xi S 904 69 ∧ Xi S 904 69 ≤ 2600 := hH.c _ _
  have ha0 : Xi S 904 65 = 0 → Xi S 904 8 ≤ n := fun q => (hA q).1
  have ha3 : Xi S 904 65 = 0 → 2 * Xi S 904 69 ≤ Xi S 904 8 + 1 := fun q => (hA q).2.1
  clear hat
  have C32 : ∀  (T1 : sS) (_ : HI T1) (_ : FR md_mo_others__2 S T1), (AT T1 n c) → (RNV T1 n) → (Xi S 904 8 ≤ Xi T1 904 8) → (Xi T1 904 8 ≤ n) → (Xi S 904 69 ≤ Xi T1 904 69) → (Xi T1 904 65 = 0 → Xi S 904 65 = 0) → (Xi T1 904 70 = 17) → (Xi T1 904 65 = 0 → Xi S 904 69 + 2 ≤ Xi T1 904 69) → (BDA T1) → Rl lay0 (d + 3) m_mo_others 32 [(0, .ref 904)] [] T1 (Q_mo_others__2 S n c tells) := by
    intro T1 hHT1 hFT1 A32 V32 w5 w6 w7 w8 w9 c32 BDA_32
    have w10 : 0 ≤ Xi T1 904 65 ∧ Xi T1 904 65 ≤ 1 := hHT1.c _ _
    have w11 : 0 ≤ Xi T1 904 69 ∧ Xi T1 904 69 ≤ 2600 := hHT1.c _ _
    have w12 : 0 ≤ Xi T1 904 70 ∧ Xi T1 904 70 ≤ 20 := hHT1.c _ _
    have w13 : 0 ≤ Xi T1 904 8 ∧ Xi T1 904 8 ≤ 5010 := hHT1.c _ _
    refine l_aload_n rfl rfl ?_
    refine l_bipush rfl rfl ?_
    have w14 : 0 ≤ Xi T1 904 65 ∧ Xi T1 904 65 ≤ 1 := hHT1.c _ _
    have w15 : 0 ≤ Xi T1 904 69 ∧ Xi T1 904 69 ≤ 2600 := hHT1.c _ _
    have w16 : 0 ≤ Xi T1 904 70 ∧ Xi T1 904 70 ≤ 20 := hHT1.c _ _
    have w17 : 0 ≤ Xi T1 904 8 ∧ Xi T1 904 8 ≤ 5010 := hHT1.c _ _
    have w18 : 0 ≤ Xi T1 904 93 ∧ Xi T1 904 93 ≤ 1700 := hHT1.c _ _
    refine l_callV rfl rfl rfl (t_mo_take__3 hHT1 n c 117 ⟨by omega, by omega⟩ (by first | assumption | exact (TK_FR hFT1 rfl (by assumption : TK S _))) (by first | assumption | exact (by assumption : AT T1 _ _)) (by first | assumption | omega) (by first | assumption | exact (by assumption : BDA T1)) _) ?_
    rintro _ T2 ⟨hHT2, w25, rfl, w19, w20, w21, w22, w23⟩
    have hFT2 : FR md_mo_others__2 S T2 := FR.tr hFT1 w25 rfl
    show Rl _ _ _ _ _ [] _ _
    have w27 : 0 ≤ Xi T2 904 8 ∧ Xi T2 904 8 ≤ 5010 := hHT2.c _ _
    have w28 : 0 ≤ Xi T2 904 65 ∧ Xi T2 904 65 ≤ 1 := hHT2.c _ _
    have w29 : Xi T2 904 69 = Xi T1 904 69 := (show Xi T2 904 69 = Xi T1 904 69 from w25.x _ _ rfl)
    have w30 : 0 ≤ Xi T1 904 69 ∧ Xi T1 904 69 ≤ 2600 := hHT1.c _ _
    have w31 : Xi T2 904 93 = Xi T1 904 93 := (show Xi T2 904 93 = Xi T1 904 93 from w25.x _ _ rfl)
    have w32 : 0 ≤ Xi T1 904 93 ∧ Xi T1 904 93 ≤ 1700 := hHT1.c _ _
    have c35 : Xi T2 904 65 = 0 → Xi S 904 69 + 2 ≤ Xi T2 904 69 := by omega
    clear c32
    have w26 : Xi S 904 8 ≤ Xi T2 904 8 ∧ Xi T2 904 8 ≤ n ∧ Xi S 904 69 ≤ Xi T2 904 69 ∧ (Xi T2 904 65 = 0 → Xi S 904 65 = 0) := by omega
    clear w20 w21 w22
    refine l_aload_n rfl rfl ?_
    have w33 : 0 ≤ Xi T2 904 65 ∧ Xi T2 904 65 ≤ 1 := hHT2.c _ _
    have w34 : Xi T2 904 69 = Xi T1 904 69 := (show Xi T2 904 69 = Xi T1 904 69 from w25.x _ _ rfl)
    have w35 : 0 ≤ Xi T1 904 69 ∧ Xi T1 904 69 ≤ 2600 := hHT1.c _ _
    have w36 : Xi T2 904 70 = Xi T1 904 70 := (show Xi T2 904 70 = Xi T1 904 70 from w25.x _ _ rfl)
    have w37 : 0 ≤ Xi T1 904 70 ∧ Xi T1 904 70 ≤ 20 := hHT1.c _ _
    have w38 : 0 ≤ Xi T2 904 8 ∧ Xi T2 904 8 ≤ 5010 := hHT2.c _ _
    have w39 : Xi T2 904 93 = Xi T1 904 93 := (show Xi T2 904 93 = Xi T1 904 93 from w25.x _ _ rfl)
    have w40 : 0 ≤ Xi T1 904 93 ∧ Xi T1 904 93 ≤ 1700 := hHT1.c _ _
    refine l_callV rfl rfl rfl (t_mo_run__2 hHT2 n c (by first | assumption | exact (TK_FR hFT2 rfl (by assumption : TK S _))) (by first | assumption | exact (by assumption : AT T2 _ _)) (by first | assumption | exact (RNV_FR w25 rfl (by assumption : RNV T1 _))) (by first | assumption | exact (by assumption : BDA T2)) _) ?_
    rintro _ T3 ⟨hHT3, w48, z47, rfl, w47, w41, w42, w43, w44, w45, w46⟩
    have hFT3 : FR md_mo_others__2 S T3 := FR.tr hFT2 w48 rfl
    show Rl _ _ _ _ _ [iv z47] _ _
    have w50 : 0 ≤ Xi T3 904 8 ∧ Xi T3 904 8 ≤ 5010 := hHT3.c _ _
    have w51 : 0 ≤ Xi T3 904 65 ∧ Xi T3 904 65 ≤ 1 := hHT3.c _ _
    have w52 : 0 ≤ Xi T3 904 69 ∧ Xi T3 904 69 ≤ 2600 := hHT3.c _ _
    have w53 : Xi T3 904 93 = Xi T1 904 93 := (show Xi T3 904 93 = Xi T2 904 93 from w48.x _ _ rfl).trans ((show Xi T2 904 93 = Xi T1 904 93 from w25.x _ _ rfl))
    have w54 : 0 ≤ Xi T1 904 93 ∧ Xi T1 904 93 ≤ 1700 := hHT1.c _ _
    have c39 : Xi T3 904 65 = 0 → Xi S 904 69 + 3 ≤ Xi T3 904 69 := by omega
    clear c35
    have w49 : Xi S 904 8 ≤ Xi T3 904 8 ∧ Xi T3 904 8 ≤ n ∧ Xi S 904 69 ≤ Xi T3 904 69 ∧ (Xi T3 904 65 = 0 → Xi S 904 65 = 0) := by omega
    clear w42 w44 w45 w26
    refine l_pop rfl rfl ?_
    refine l_goto rfl rfl ?_
    refine l_return rfl rfl ?_
    have w55 : 0 ≤ Xi T3 904 65 ∧ Xi T3 904 65 ≤ 1 := hHT3.c _ _
    have w56 : 0 ≤ Xi T3 904 69 ∧ Xi T3 904 69 ≤ 2600 := hHT3.c _ _
    have w57 : Xi T3 904 70 = Xi T1 904 70 := (show Xi T3 904 70 = Xi T2 904 70 from w48.x _ _ rfl).trans ((show Xi T2 904 70 = Xi T1 904 70 from w25.x _ _ rfl))
    have w58 : 0 ≤ Xi T1 904 70 ∧ Xi T1 904 70 ≤ 20 := hHT1.c _ _
    have w59 : 0 ≤ Xi T3 904 8 ∧ Xi T3 904 8 ≤ 5010 := hHT3.c _ _
    have w60 : Xi T3 904 93 = Xi T1 904 93 := (show Xi T3 904 93 = Xi T2 904 93 from w48.x _ _ rfl).trans ((show Xi T2 904 93 = Xi T1 904 93 from w25.x _ _ rfl))
    have w61 : 0 ≤ Xi T1 904 93 ∧ Xi T1 904 93 ≤ 1700 := hHT1.c _ _
    exact ⟨hHT3, hFT3, rfl, (by first | assumption | exact AT_bad (by omega)), (by omega), (by first | assumption | exact (by assumption : RNV T3 _)), (by omega), (by omega), (by omega), (fun q => by unfold SNQ; refine ⟨fun q1 => absurd q1 (by omega), by omega, by omega, by omega, fun q9 => absurd q9 (by omega), by omega, by omega, by omega, by omega, by omega⟩), (by first | assumption | exact (by assumption : BDA T3))⟩
  have C75 : ∀  (T4 : sS) (_ : HI T4) (_ : FR md_mo_others__2 S T4), (AT T4 n c) → (RNV T4 n) → (Xi S 904 8 ≤ Xi T4 904 8) → (Xi T4 904 8 ≤ n) → (Xi S 904 69 ≤ Xi T4 904 69) → (Xi T4 904 65 = 0 → Xi S 904 65 = 0) → (Xi T4 904 70 = 18) → (Xi T4 904 65 = 0 → Xi S 904 69 + 1 ≤ Xi T4 904 69) → (BDA T4) → Rl lay0 (d + 3) m_mo_others 75 [(0, .ref 904)] [] T4 (Q_mo_others__2 S n c tells) := by
    intro T4 hHT4 hFT4 A75 V75 w62 w63 w64 w65 w66 c75 BDA_75
    have w67 : 0 ≤ Xi T4 904 65 ∧ Xi T4 904 65 ≤ 1 := hHT4.c _ _
    have w68 : 0 ≤ Xi T4 904 69 ∧ Xi T4 904 69 ≤ 2600 := hHT4.c _ _
    have w69 : 0 ≤ Xi T4 904 70 ∧ Xi T4 904 70 ≤ 20 := hHT4.c _ _
    have w70 : 0 ≤ Xi T4 904 8 ∧ Xi T4 904 8 ≤ 5010 := hHT4.c _ _
    refine l_aload_n rfl rfl ?_
    have w71 : 0 ≤ Xi T4 904 65 ∧ Xi T4 904 65 ≤ 1 := hHT4.c _ _
    have w72 : 0 ≤ Xi T4 904 69 ∧ Xi T4 904 69 ≤ 2600 := hHT4.c _ _
    have w73 : 0 ≤ Xi T4 904 70 ∧ Xi T4 904 70 ≤ 20 := hHT4.c _ _
    have w74 : 0 ≤ Xi T4 904 8 ∧ Xi T4 904 8 ≤ 5010 := hHT4.c _ _
    have w75 : 0 ≤ Xi T4 904 93 ∧ Xi T4 904 93 ≤ 1700 := hHT4.c _ _
    refine l_callV rfl rfl rfl (t_mo_run__2 hHT4 n c (by first | assumption | exact (TK_FR hFT4 rfl (by assumption : TK S _))) (by first | assumption | exact (by assumption : AT T4 _ _)) (by first | assumption | exact (by assumption : RNV T4 _)) (by first | assumption | exact (by assumption : BDA T4)) _) ?_
    rintro _ T5 ⟨hHT5, w83, z82, rfl, w82, w76, w77, w78, w79, w80, w81⟩
    have hFT5 : FR md_mo_others__2 S T5 := FR.tr hFT4 w83 rfl
    show Rl _ _ _ _ _ [iv z82] _ _
    have w85 : 0 ≤ Xi T5 904 8 ∧ Xi T5 904 8 ≤ 5010 := hHT5.c _ _
    have w86 : 0 ≤ Xi T5 904 65 ∧ Xi T5 904 65 ≤ 1 := hHT5.c _ _
    have w87 : 0 ≤ Xi T5 904 69 ∧ Xi T5 904 69 ≤ 2600 := hHT5.c _ _
    have w88 : Xi T5 904 93 = Xi T4 904 93 := (show Xi T5 904 93 = Xi T4 904 93 from w83.x _ _ rfl)
    have w89 : 0 ≤ Xi T4 904 93 ∧ Xi T4 904 93 ≤ 1700 := hHT4.c _ _
    have c76 : Xi T5 904 65 = 0 → Xi S 904 69 + 2 ≤ Xi T5 904 69 := by omega
    clear c75
    have w84 : Xi S 904 8 ≤ Xi T5 904 8 ∧ Xi T5 904 8 ≤ n ∧ Xi S 904 69 ≤ Xi T5 904 69 ∧ (Xi T5 904 65 = 0 → Xi S 904 65 = 0) := by omega
    clear w77 w79 w80
    refine l_pop rfl rfl ?_
    refine l_aload_n rfl rfl ?_
    refine l_bipush rfl rfl ?_
    have w90 : 0 ≤ Xi T5 904 65 ∧ Xi T5 904 65 ≤ 1 := hHT5.c _ _
    have w91 : 0 ≤ Xi T5 904 69 ∧ Xi T5 904 69 ≤ 2600 := hHT5.c _ _
    have w92 : Xi T5 904 70 = Xi T4 904 70 := (show Xi T5 904 70 = Xi T4 904 70 from w83.x _ _ rfl)
    have w93 : 0 ≤ Xi T4 904 70 ∧ Xi T4 904 70 ≤ 20 := hHT4.c _ _
    have w94 : 0 ≤ Xi T5 904 8 ∧ Xi T5 904 8 ≤ 5010 := hHT5.c _ _
    have w95 : Xi T5 904 93 = Xi T4 904 93 := (show Xi T5 904 93 = Xi T4 904 93 from w83.x _ _ rfl)
    have w96 : 0 ≤ Xi T4 904 93 ∧ Xi T4 904 93 ≤ 1700 := hHT4.c _ _
    refine l_callV rfl rfl rfl (t_mo_take__3 hHT5 n c 115 ⟨by omega, by omega⟩ (by first | assumption | exact (TK_FR hFT5 rfl (by assumption : TK S _))) (by first | assumption | exact (by assumption : AT T5 _ _)) (by first | assumption | omega) (by first | assumption | exact (by assumption : BDA T5)) _) ?_
    rintro _ T6 ⟨hHT6, w103, rfl, w97, w98, w99, w100, w101⟩
    have hFT6 : FR md_mo_others__2 S T6 := FR.tr hFT5 w103 rfl
    show Rl _ _ _ _ _ [] _ _
    have w105 : 0 ≤ Xi T6 904 8 ∧ Xi T6 904 8 ≤ 5010 := hHT6.c _ _
    have w106 : 0 ≤ Xi T6 904 65 ∧ Xi T6 904 65 ≤ 1 := hHT6.c _ _
    have w107 : Xi T6 904 69 = Xi T5 904 69 := (show Xi T6 904 69 = Xi T5 904 69 from w103.x _ _ rfl)
    have w108 : 0 ≤ Xi T5 904 69 ∧ Xi T5 904 69 ≤ 2600 := hHT5.c _ _
    have w109 : Xi T6 904 93 = Xi T4 904 93 := (show Xi T6 904 93 = Xi T5 904 93 from w103.x _ _ rfl).trans ((show Xi T5 904 93 = Xi T4 904 93 from w83.x _ _ rfl))
    have w110 : 0 ≤ Xi T4 904 93 ∧ Xi T4 904 93 ≤ 1700 := hHT4.c _ _
    have c83 : Xi T6 904 65 = 0 → Xi S 904 69 + 2 ≤ Xi T6 904 69 := by omega
    clear c76
    have w104 : Xi S 904 8 ≤ Xi T6 904 8 ∧ Xi T6 904 8 ≤ n ∧ Xi S 904 69 ≤ Xi T6 904 69 ∧ (Xi T6 904 65 = 0 → Xi S 904 65 = 0) := by omega
    clear w98 w99 w100 w84
    refine l_aload_n rfl rfl ?_
    have w111 : 0 ≤ Xi T6 904 65 ∧ Xi T6 904 65 ≤ 1 := hHT6.c _ _
    have w112 : Xi T6 904 69 = Xi T5 904 69 := (show Xi T6 904 69 = Xi T5 904 69 from w103.x _ _ rfl)
    have w113 : 0 ≤ Xi T5 904 69 ∧ Xi T5 904 69 ≤ 2600 := hHT5.c _ _
    have w114 : Xi T6 904 70 = Xi T4 904 70 := (show Xi T6 904 70 = Xi T5 904 70 from w103.x _ _ rfl).trans ((show Xi T5 904 70 = Xi T4 904 70 from w83.x _ _ rfl))
    have w115 : 0 ≤ Xi T4 904 70 ∧ Xi T4 904 70 ≤ 20 := hHT4.c _ _
    have w116 : 0 ≤ Xi T6 904 8 ∧ Xi T6 904 8 ≤ 5010 := hHT6.c _ _
    have w117 : Xi T6 904 93 = Xi T4 904 93 := (show Xi T6 904 93 = Xi T5 904 93 from w103.x _ _ rfl).trans ((show Xi T5 904 93 = Xi T4 904 93 from w83.x _ _ rfl))
    have w118 : 0 ≤ Xi T4 904 93 ∧ Xi T4 904 93 ≤ 1700 := hHT4.c _ _
    refine l_callV rfl rfl rfl (t_mo_run__2 hHT6 n c (by first | assumption | exact (TK_FR hFT6 rfl (by assumption : TK S _))) (by first | assumption | exact (by assumption : AT T6 _ _)) (by first | assumption | exact (RNV_FR w103 rfl (by assumption : RNV T5 _))) (by first | assumption | exact (by assumption : BDA T6)) _) ?_
    rintro _ T7 ⟨hHT7, w126, z125, rfl, w125, w119, w120, w121, w122, w123, w124⟩
    have hFT7 : FR md_mo_others__2 S T7 := FR.tr hFT6 w126 rfl
    show Rl _ _ _ _ _ [iv z125] _ _
    have w128 : 0 ≤ Xi T7 904 8 ∧ Xi T7 904 8 ≤ 5010 := hHT7.c _ _
    have w129 : 0 ≤ Xi T7 904 65 ∧ Xi T7 904 65 ≤ 1 := hHT7.c _ _
    have w130 : 0 ≤ Xi T7 904 69 ∧ Xi T7 904 69 ≤ 2600 := hHT7.c _ _
    have w131 : Xi T7 904 93 = Xi T4 904 93 := (show Xi T7 904 93 = Xi T6 904 93 from w126.x _ _ rfl).trans ( (show Xi T6 904 93 = Xi T5 904 93 from w103.x _ _ rfl).trans ((show Xi T5 904 93 = Xi T4 904 93 from w83.x _ _ rfl)))
    have w132 : 0 ≤ Xi T4 904 93 ∧ Xi T4 904 93 ≤ 1700 := hHT4.c _ _
    have c87 : Xi T7 904 65 = 0 → Xi S 904 69 + 3 ≤ Xi T7 904 69 := by omega
    clear c83
    have w127 : Xi S 904 8 ≤ Xi T7 904 8 ∧ Xi T7 904 8 ≤ n ∧ Xi S 904 69 ≤ Xi T7 904 69 ∧ (Xi T7 904 65 = 0 → Xi S 904 65 = 0) := by omega
    clear w120 w122 w123 w104
    refine l_pop rfl rfl ?_
    refine l_goto rfl rfl ?_
    refine l_return rfl rfl ?_
    have w133 : 0 ≤ Xi T7 904 65 ∧ Xi T7 904 65 ≤ 1 := hHT7.c _ _
    have w134 : 0 ≤ Xi T7 904 69 ∧ Xi T7 904 69 ≤ 2600 := hHT7.c _ _
    have w135 : Xi T7 904 70 = Xi T4 904 70 := (show Xi T7 904 70 = Xi T6 904 70 from w126.x _ _ rfl).trans ( (show Xi T6 904 70 = Xi T5 904 70 from w103.x _ _ rfl).trans ((show Xi T5 904 70 = Xi T4 904 70 from w83.x _ _ rfl)))
    have w136 : 0 ≤ Xi T4 904 70 ∧ Xi T4 904 70 ≤ 20 := hHT4.c _ _
    have w137 : 0 ≤ Xi T7 904 8 ∧ Xi T7 904 8 ≤ 5010 := hHT7.c _ _
    have w138 : Xi T7 904 93 = Xi T4 904 93 := (show Xi T7 904 93 = Xi T6 904 93 from w126.x _ _ rfl).trans ( (show Xi T6 904 93 = Xi T5 904 93 from w103.x _ _ rfl).trans ((show Xi T5 904 93 = Xi T4 904 93 from w83.x _ _ rfl)))
    have w139 : 0 ≤ Xi T4 904 93 ∧ Xi T4 904 93 ≤ 1700 := hHT4.c _ _
    exact ⟨hHT7, hFT7, rfl, (by first | assumption | exact AT_bad (by omega)), (by omega), (by first | assumption | exact (by assumption : RNV T7 _)), (by omega), (by omega), (by omega), (fun q => by unfold SNQ; refine ⟨fun q1 => absurd q1 (by omega), by omega, by omega, by omega, fun q9 => absurd q9 (by omega), by omega, by omega, by omega, by omega, by omega⟩), (by first | assumption | exact (by assumption : BDA T7))⟩
  have C125 : ∀  (T8 : sS) (_ : HI T8) (_ : FR md_mo_others__2 S T8), (AT T8 n c) → (RNV T8 n) → (Xi S 904 8 ≤ Xi T8 904 8) → (Xi T8 904 8 ≤ n + 1) → (Xi S 904 69 ≤ Xi T8 904 69) → (Xi T8 904 65 = 0 → Xi S 904 65 = 0) → (Xi T8 904 70 = 19) → (Xi T8 904 65 = 0 → Xi S 904 69 + 1 ≤ Xi T8 904 69) → (BDA T8) → Rl lay0 (d + 3) m_mo_others 125 [(0, .ref 904)] [] T8 (Q_mo_others__2 S n c tells) := by
    intro T8 hHT8 hFT8 A125 V125 w140 w141 w142 w143 w144 c125 BDA_125
    have w145 : 0 ≤ Xi T8 904 65 ∧ Xi T8 904 65 ≤ 1 := hHT8.c _ _
    have w146 : 0 ≤ Xi T8 904 69 ∧ Xi T8 904 69 ≤ 2600 := hHT8.c _ _
    have w147 : 0 ≤ Xi T8 904 70 ∧ Xi T8 904 70 ≤ 20 := hHT8.c _ _
    have w148 : 0 ≤ Xi T8 904 8 ∧ Xi T8 904 8 ≤ 5010 := hHT8.c _ _
    refine l_aload_n rfl rfl ?_
    have w149 : 0 ≤ Xi T8 904 65 ∧ Xi T8 904 65 ≤ 1 := hHT8.c _ _
    have w150 : 0 ≤ Xi T8 904 69 ∧ Xi T8 904 69 ≤ 2600 := hHT8.c _ _
    have w151 : 0 ≤ Xi T8 904 70 ∧ Xi T8 904 70 ≤ 20 := hHT8.c _ _
    have w152 : 0 ≤ Xi T8 904 8 ∧ Xi T8 904 8 ≤ 5010 := hHT8.c _ _
    have w153 : 0 ≤ Xi T8 904 93 ∧ Xi T8 904 93 ≤ 1700 := hHT8.c _ _
    refine l_callV rfl rfl rfl (t_mo_run__2 hHT8 n c (by first | assumption | exact (TK_FR hFT8 rfl (by assumption : TK S _))) (by first | assumption | exact (by assumption : AT T8 _ _)) (by first | assumption | exact (by assumption : RNV T8 _)) (by first | assumption | exact (by assumption : BDA T8)) _) ?_
    rintro _ T9 ⟨hHT9, w161, z160, rfl, w160, w154, w155, w156, w157, w158, w159⟩
    have hFT9 : FR md_mo_others__2 S T9 := FR.tr hFT8 w161 rfl
    show Rl _ _ _ _ _ [iv z160] _ _
    have w163 : 0 ≤ Xi T9 904 8 ∧ Xi T9 904 8 ≤ 5010 := hHT9.c _ _
    have w164 : 0 ≤ Xi T9 904 65 ∧ Xi T9 904 65 ≤ 1 := hHT9.c _ _
    have w165 : 0 ≤ Xi T9 904 69 ∧ Xi T9 904 69 ≤ 2600 := hHT9.c _ _
    have w166 : Xi T9 904 93 = Xi T8 904 93 := (show Xi T9 904 93 = Xi T8 904 93 from w161.x _ _ rfl)
    have w167 : 0 ≤ Xi T8 904 93 ∧ Xi T8 904 93 ≤ 1700 := hHT8.c _ _
    have c126 : Xi T9 904 65 = 0 → Xi S 904 69 + 2 ≤ Xi T9 904 69 := by omega
    clear c125
    have w162 : Xi S 904 8 ≤ Xi T9 904 8 ∧ Xi T9 904 8 ≤ n + 1 ∧ Xi S 904 69 ≤ Xi T9 904 69 ∧ (Xi T9 904 65 = 0 → Xi S 904 65 = 0) := by omega
    clear w155 w157 w158
    refine l_pop rfl rfl ?_
    refine l_aload_n rfl rfl ?_
    refine l_bipush rfl rfl ?_
    have w168 : 0 ≤ Xi T9 904 65 ∧ Xi T9 904 65 ≤ 1 := hHT9.c _ _
    have w169 : 0 ≤ Xi T9 904 69 ∧ Xi T9 904 69 ≤ 2600 := hHT9.c _ _
    have w170 : Xi T9 904 70 = Xi T8 904 70 := (show Xi T9 904 70 = Xi T8 904 70 from w161.x _ _ rfl)
    have w171 : 0 ≤ Xi T8 904 70 ∧ Xi T8 904 70 ≤ 20 := hHT8.c _ _
    have w172 : 0 ≤ Xi T9 904 8 ∧ Xi T9 904 8 ≤ 5010 := hHT9.c _ _
    have w173 : Xi T9 904 93 = Xi T8 904 93 := (show Xi T9 904 93 = Xi T8 904 93 from w161.x _ _ rfl)
    have w174 : 0 ≤ Xi T8 904 93 ∧ Xi T8 904 93 ≤ 1700 := hHT8.c _ _
    refine l_callV rfl rfl rfl (t_mo_take__3 hHT9 n c 111 ⟨by omega, by omega⟩ (by first | assumption | exact (TK_FR hFT9 rfl (by assumption : TK S _))) (by first | assumption | exact (by assumption : AT T9 _ _)) (by first | assumption | omega) (by first | assumption | exact (by assumption : BDA T9)) _) ?_
    rintro _ T10 ⟨hHT10, w181, rfl, w175, w176, w177, w178, w179⟩
    have hFT10 : FR md_mo_others__2 S T10 := FR.tr hFT9 w181 rfl
    show Rl _ _ _ _ _ [] _ _
    have w183 : 0 ≤ Xi T10 904 8 ∧ Xi T10 904 8 ≤ 5010 := hHT10.c _ _
    have w184 : 0 ≤ Xi T10 904 65 ∧ Xi T10 904 65 ≤ 1 := hHT10.c _ _
    have w185 : Xi T10 904 69 = Xi T9 904 69 := (show Xi T10 904 69 = Xi T9 904 69 from w181.x _ _ rfl)
    have w186 : 0 ≤ Xi T9 904 69 ∧ Xi T9 904 69 ≤ 2600 := hHT9.c _ _
    have w187 : Xi T10 904 93 = Xi T8 904 93 := (show Xi T10 904 93 = Xi T9 904 93 from w181.x _ _ rfl).trans ((show Xi T9 904 93 = Xi T8 904 93 from w161.x _ _ rfl))
    have w188 : 0 ≤ Xi T8 904 93 ∧ Xi T8 904 93 ≤ 1700 := hHT8.c _ _
    have c133 : Xi T10 904 65 = 0 → Xi S 904 69 + 2 ≤ Xi T10 904 69 := by omega
    clear c126
    have w182 : Xi S 904 8 ≤ Xi T10 904 8 ∧ Xi T10 904 8 ≤ n + 1 ∧ Xi S 904 69 ≤ Xi T10 904 69 ∧ (Xi T10 904 65 = 0 → Xi S 904 65 = 0) := by omega
    clear w176 w177 w178 w162
    refine l_aload_n rfl rfl ?_
    refine l_aload_n rfl rfl ?_
    have w189 : 0 ≤ Xi T10 904 65 ∧ Xi T10 904 65 ≤ 1 := hHT10.c _ _
    have w190 : Xi T10 904 69 = Xi T9 904 69 := (show Xi T10 904 69 = Xi T9 904 69 from w181.x _ _ rfl)
    have w191 : 0 ≤ Xi T9 904 69 ∧ Xi T9 904 69 ≤ 2600 := hHT9.c _ _
    have w192 : Xi T10 904 70 = Xi T8 904 70 := (show Xi T10 904 70 = Xi T9 904 70 from w181.x _ _ rfl).trans ((show Xi T9 904 70 = Xi T8 904 70 from w161.x _ _ rfl))
    have w193 : 0 ≤ Xi T8 904 70 ∧ Xi T8 904 70 ≤ 20 := hHT8.c _ _
    have w194 : 0 ≤ Xi T10 904 8 ∧ Xi T10 904 8 ≤ 5010 := hHT10.c _ _
    have w195 : Xi T10 904 93 = Xi T8 904 93 := (show Xi T10 904 93 = Xi T9 904 93 from w181.x _ _ rfl).trans ((show Xi T9 904 93 = Xi T8 904 93 from w161.x _ _ rfl))
    have w196 : 0 ≤ Xi T8 904 93 ∧ Xi T8 904 93 ≤ 1700 := hHT8.c _ _
    refine l_callV rfl rfl rfl (t_mo_oneOrVarious__3 hHT10 n c (by first | assumption | exact (TK_FR hFT10 rfl (by assumption : TK S _))) (by first | assumption | exact (by assumption : AT T10 _ _)) (by first | assumption | omega) (by first | assumption | exact (by assumption : BDA T10)) _) ?_
    rintro _ T11 ⟨hHT11, w202, z201, rfl, w201, w197, w198, w199, w200⟩
    have hFT11 : FR md_mo_others__2 S T11 := FR.tr hFT10 w202 rfl
    show Rl _ _ _ _ _ [iv z201, .ref 904] _ _
    have w204 : 0 ≤ Xi T11 904 8 ∧ Xi T11 904 8 ≤ 5010 := hHT11.c _ _
    have w205 : 0 ≤ Xi T11 904 65 ∧ Xi T11 904 65 ≤ 1 := hHT11.c _ _
    have w206 : Xi T11 904 69 = Xi T9 904 69 := (show Xi T11 904 69 = Xi T10 904 69 from w202.x _ _ rfl).trans ((show Xi T10 904 69 = Xi T9 904 69 from w181.x _ _ rfl))
    have w207 : 0 ≤ Xi T9 904 69 ∧ Xi T9 904 69 ≤ 2600 := hHT9.c _ _
    have w208 : Xi T11 904 93 = Xi T8 904 93 := (show Xi T11 904 93 = Xi T10 904 93 from w202.x _ _ rfl).trans ( (show Xi T10 904 93 = Xi T9 904 93 from w181.x _ _ rfl).trans ((show Xi T9 904 93 = Xi T8 904 93 from w161.x _ _ rfl)))
    have w209 : 0 ≤ Xi T8 904 93 ∧ Xi T8 904 93 ≤ 1700 := hHT8.c _ _
    have c138 : Xi T11 904 65 = 0 → Xi S 904 69 + 2 ≤ Xi T11 904 69 := by omega
    clear c133
    have w203 : Xi S 904 8 ≤ Xi T11 904 8 ∧ Xi T11 904 8 ≤ n + 2 ∧ Xi S 904 69 ≤ Xi T11 904 69 ∧ (Xi T11 904 65 = 0 → Xi S 904 65 = 0) := by omega
    clear w198 w199 w182
    refine l_pfz rfl rfl rfl rfl (by omega) ?_
    obtain ⟨U12, eU12⟩ : ∃ T : sS, T = uI T11 904 80 (Int32.ofInt z201) := ⟨_, rfl⟩
    rw [← eU12]
    have hHU12 : HI U12 := by rw [eU12]; exact HI_w hHT11 (show 0 ≤ z201 by omega) (show z201 ≤ 1 by omega)
    have hFU12 : FR md_mo_others__2 S U12 := by rw [eU12]; exact FR.wI hFT11 (mdf_i (r := (904, 905, 80, 81)) (List.mem_of_getElem? (i := 6) rfl) (inR_i (by omega) (by omega) (by omega) (by omega)))
    have w210 : Xi U12 904 80 = z201 := by rw [eU12]; exact Xi_same (by unfold rg; omega)
    refine l_aload_n rfl rfl ?_
    have w211 : Xi U12 904 65 = Xi T11 904 65 := (show Xi U12 904 65 = Xi T11 904 65 from by rw [eU12]; exact Xi_ne (by omega))
    have w212 : 0 ≤ Xi T11 904 65 ∧ Xi T11 904 65 ≤ 1 := hHT11.c _ _
    have w213 : Xi U12 904 69 = Xi T9 904 69 := (show Xi U12 904 69 = Xi T11 904 69 from by rw [eU12]; exact Xi_ne (by omega)).trans ( (show Xi T11 904 69 = Xi T10 904 69 from w202.x _ _ rfl).trans ((show Xi T10 904 69 = Xi T9 904 69 from w181.x _ _ rfl)))
    have w214 : 0 ≤ Xi T9 904 69 ∧ Xi T9 904 69 ≤ 2600 := hHT9.c _ _
    have w215 : Xi U12 904 70 = Xi T8 904 70 := (show Xi U12 904 70 = Xi T11 904 70 from by rw [eU12]; exact Xi_ne (by omega)).trans ( (show Xi T11 904 70 = Xi T10 904 70 from w202.x _ _ rfl).trans ( (show Xi T10 904 70 = Xi T9 904 70 from w181.x _ _ rfl).trans ((show Xi T9 904 70 = Xi T8 904 70 from w161.x _ _ rfl))))
    have w216 : 0 ≤ Xi T8 904 70 ∧ Xi T8 904 70 ≤ 20 := hHT8.c _ _
    have w217 : Xi U12 904 8 = Xi T11 904 8 := (show Xi U12 904 8 = Xi T11 904 8 from by rw [eU12]; exact Xi_ne (by omega))
    have w218 : 0 ≤ Xi T11 904 8 ∧ Xi T11 904 8 ≤ 5010 := hHT11.c _ _
    have w219 : Xi U12 904 93 = Xi T8 904 93 := (show Xi U12 904 93 = Xi T11 904 93 from by rw [eU12]; exact Xi_ne (by omega)).trans ( (show Xi T11 904 93 = Xi T10 904 93 from w202.x _ _ rfl).trans ( (show Xi T10 904 93 = Xi T9 904 93 from w181.x _ _ rfl).trans ((show Xi T9 904 93 = Xi T8 904 93 from w161.x _ _ rfl))))
    have w220 : 0 ≤ Xi T8 904 93 ∧ Xi T8 904 93 ≤ 1700 := hHT8.c _ _
    refine l_callV rfl rfl rfl (t_mo_run__2 hHU12 n c (by first | assumption | exact (TK_FR hFU12 rfl (by assumption : TK S _))) (by first | assumption | exact (AT_FR (FR_e eU12) rfl (by assumption : AT T11 _ _))) (by first | assumption | exact (RNV_FR (FR_e eU12) rfl (RNV_FR w202 rfl (RNV_FR w181 rfl (by assumption : RNV T9 _))))) (by first | assumption | exact (BDA_FR (FR_e eU12) rfl (by assumption : BDA T11))) _) ?_
    rintro _ T13 ⟨hHT13, w228, z227, rfl, w227, w221, w222, w223, w224, w225, w226⟩
    have hFT13 : FR md_mo_others__2 S T13 := FR.tr hFU12 w228 rfl
    show Rl _ _ _ _ _ [iv z227] _ _
    have w230 : 0 ≤ Xi T13 904 8 ∧ Xi T13 904 8 ≤ 5010 := hHT13.c _ _
    have w231 : 0 ≤ Xi T13 904 65 ∧ Xi T13 904 65 ≤ 1 := hHT13.c _ _
    have w232 : 0 ≤ Xi T13 904 69 ∧ Xi T13 904 69 ≤ 2600 := hHT13.c _ _
    have w233 : Xi T13 904 93 = Xi T8 904 93 := (show Xi T13 904 93 = Xi U12 904 93 from w228.x _ _ rfl).trans ( (show Xi U12 904 93 = Xi T11 904 93 from by rw [eU12]; exact Xi_ne (by omega)).trans ( (show Xi T11 904 93 = Xi T10 904 93 from w202.x _ _ rfl).trans ( (show Xi T10 904 93 = Xi T9 904 93 from w181.x _ _ rfl).trans ((show Xi T9 904 93 = Xi T8 904 93 from w161.x _ _ rfl)))))
    have w234 : 0 ≤ Xi T8 904 93 ∧ Xi T8 904 93 ≤ 1700 := hHT8.c _ _
    have c145 : Xi T13 904 65 = 0 → Xi S 904 69 + 3 ≤ Xi T13 904 69 := by omega
    clear c138
    have w229 : Xi S 904 8 ≤ Xi T13 904 8 ∧ Xi T13 904 8 ≤ n + 2 ∧ Xi S 904 69 ≤ Xi T13 904 69 ∧ (Xi T13 904 65 = 0 → Xi S 904 65 = 0) := by omega
    clear w222 w224 w225 w203
    refine l_pop rfl rfl ?_
    refine l_goto rfl rfl ?_
    refine l_return rfl rfl ?_
    have w235 : 0 ≤ Xi T13 904 65 ∧ Xi T13 904 65 ≤ 1 := hHT13.c _ _
    have w236 : 0 ≤ Xi T13 904 69 ∧ Xi T13 904 69 ≤ 2600 := hHT13.c _ _
    have w237 : Xi T13 904 70 = Xi T8 904 70 := (show Xi T13 904 70 = Xi U12 904 70 from w228.x _ _ rfl).trans ( (show Xi U12 904 70 = Xi T11 904 70 from by rw [eU12]; exact Xi_ne (by omega)).trans ( (show Xi T11 904 70 = Xi T10 904 70 from w202.x _ _ rfl).trans ( (show Xi T10 904 70 = Xi T9 904 70 from w181.x _ _ rfl).trans ((show Xi T9 904 70 = Xi T8 904 70 from w161.x _ _ rfl)))))
    have w238 : 0 ≤ Xi T8 904 70 ∧ Xi T8 904 70 ≤ 20 := hHT8.c _ _
    have w239 : 0 ≤ Xi T13 904 8 ∧ Xi T13 904 8 ≤ 5010 := hHT13.c _ _
    have w240 : Xi T13 904 93 = Xi T8 904 93 := (show Xi T13 904 93 = Xi U12 904 93 from w228.x _ _ rfl).trans ( (show Xi U12 904 93 = Xi T11 904 93 from by rw [eU12]; exact Xi_ne (by omega)).trans ( (show Xi T11 904 93 = Xi T10 904 93 from w202.x _ _ rfl).trans ( (show Xi T10 904 93 = Xi T9 904 93 from w181.x _ _ rfl).trans ((show Xi T9 904 93 = Xi T8 904 93 from w161.x _ _ rfl)))))
    have w241 : 0 ≤ Xi T8 904 93 ∧ Xi T8 904 93 ≤ 1700 := hHT8.c _ _
    exact ⟨hHT13, hFT13, rfl, (by first | assumption | exact AT_bad (by omega)), (by omega), (by first | assumption | exact (by assumption : RNV T13 _)), (by omega), (by omega), (by omega), (fun q => by unfold SNQ; refine ⟨fun q1 => absurd q1 (by omega), by omega, by omega, by omega, fun q9 => absurd q9 (by omega), by omega, by omega, by omega, by omega, by omega⟩), (by first | assumption | exact (by assumption : BDA T13))⟩
  have C168 : ∀ (n168 : Nat) (T14 : sS) (_ : HI T14) (_ : FR md_mo_others__2 S T14) (v2 : Int) (v3 : Int), (0 ≤ v2 ∧ v2 ≤ 5010) → (0 ≤ v3 ∧ v3 ≤ 154) → (AT T14 n c) → (RNV T14 n) → (v3 ≠ 1 → Xi T14 904 65 = 0 ∧ Xi T14 907 (Xi T14 904 8).toNat = v3) → (Xi T14 904 65 = Xi S 904 65) → (Xi T14 904 69 = Xi S 904 69) → (Xi S 904 8 ≤ Xi T14 904 8 ∧ Xi T14 904 8 ≤ n) → (Xi T14 904 70 = 20) → (BDA T14) → n168 = (5002 - Xi T14 904 8).toNat → Rl lay0 (d + 3) m_mo_others 168 [(0, .ref 904), (2, iv v2), (3, iv v3)] [] T14 (Q_mo_others__2 S n c tells) := by
    intro n168
    induction n168 using Nat.strongRecOn with
    | ind n168 ih168 =>
      intro T14 hHT14 hFT14 v2 v3 w242 w243 A168 V168 w244 w245 w246 w247 w248 BDA_168 hm168
      have w249 : 0 ≤ Xi T14 904 65 ∧ Xi T14 904 65 ≤ 1 := hHT14.c _ _
      have w250 : 0 ≤ Xi T14 904 69 ∧ Xi T14 904 69 ≤ 2600 := hHT14.c _ _
      have w251 : 0 ≤ Xi T14 904 70 ∧ Xi T14 904 70 ≤ 20 := hHT14.c _ _
      have w252 : 0 ≤ Xi T14 904 8 ∧ Xi T14 904 8 ≤ 5010 := hHT14.c _ _
      refine l_iload_n rfl rfl ?_
      refine l_iconst rfl ?_
      refine l_icmp_eq rfl rfl (by unfold rg; omega) (by unfold rg; omega) (fun w253 => ?_) (fun w254 => ?_)
      · refine l_aload_n rfl rfl ?_
        refine l_dup rfl rfl ?_
        refine l_gfi rfl rfl rfl rfl rfl ?_
        refine l_iconst rfl ?_
        refine l_iadd rfl ?_
        refine l_pfi rfl rfl rfl rfl ?_
        obtain ⟨U15, eU15⟩ : ∃ T : sS, T = uI T14 904 8 (Int32.ofInt ((Xi T14 904 8) + 1)) := ⟨_, rfl⟩
        rw [← eU15]
        have hHU15 : HI U15 := by rw [eU15]; exact HI_w hHT14 (show 0 ≤ ((Xi T14 904 8) + 1) by omega) (show ((Xi T14 904 8) + 1) ≤ 5010 by omega)
        have hFU15 : FR md_mo_others__2 S U15 := by rw [eU15]; exact FR.wI hFT14 (mdf_i (r := (904, 905, 8, 9)) (List.mem_of_getElem? (i := 0) rfl) (inR_i (by omega) (by omega) (by omega) (by omega)))
        have w255 : Xi U15 904 8 = ((Xi T14 904 8) + 1) := by rw [eU15]; exact Xi_same (by unfold rg; omega)
        have t199 : AT U15 n c ∧ _ := (at_mv (S := T14) (P := T14) (TK_FR hFT14 rfl (by assumption : TK S _)) (by first | assumption | exact (by assumption : AT T14 _ _)) (fun j => rfl) (fun j => rfl) (rfl) (rfl) (rfl) (rfl) eU15 (by omega) (by omega) (by omega) (by omega) (Or.inl rfl))
        have a199 : AT U15 n c := t199.1
        have l199 := t199.2
        refine l_aload_n rfl rfl ?_
        have w256 : Xi U15 904 65 = Xi T14 904 65 := (show Xi U15 904 65 = Xi T14 904 65 from by rw [eU15]; exact Xi_ne (by omega))
        have w257 : 0 ≤ Xi T14 904 65 ∧ Xi T14 904 65 ≤ 1 := hHT14.c _ _
        have w258 : Xi U15 904 69 = Xi T14 904 69 := (show Xi U15 904 69 = Xi T14 904 69 from by rw [eU15]; exact Xi_ne (by omega))
        have w259 : 0 ≤ Xi T14 904 69 ∧ Xi T14 904 69 ≤ 2600 := hHT14.c _ _
        have w260 : Xi U15 904 70 = Xi T14 904 70 := (show Xi U15 904 70 = Xi T14 904 70 from by rw [eU15]; exact Xi_ne (by omega))
        have w261 : 0 ≤ Xi T14 904 70 ∧ Xi T14 904 70 ≤ 20 := hHT14.c _ _
        have w262 : 0 ≤ Xi U15 904 8 ∧ Xi U15 904 8 ≤ 5010 := hHU15.c _ _
        have w263 : Xi U15 904 93 = Xi T14 904 93 := (show Xi U15 904 93 = Xi T14 904 93 from by rw [eU15]; exact Xi_ne (by omega))
        have w264 : 0 ≤ Xi T14 904 93 ∧ Xi T14 904 93 ≤ 1700 := hHT14.c _ _
        refine l_callV rfl rfl rfl (t_mo_look hHU15 n c (by first | assumption | exact (TK_FR hFU15 rfl (by assumption : TK S _))) (by first | assumption | exact (by assumption : AT U15 _ _)) _) ?_
        rintro _ _ ⟨rfl, z266, rfl, w266, w265⟩
        show Rl _ _ _ _ _ [iv z266] _ _
        have l203 : z266 ≠ 1 → Xi U15 904 65 = 0 ∧ Xi U15 907 (Xi U15 904 8).toNat = z266 := by assumption
        refine l_istore_n rfl rfl rfl ?_
        refine l_goto rfl rfl ?_
        have w267 : Xi U15 904 65 = Xi T14 904 65 := (show Xi U15 904 65 = Xi T14 904 65 from by rw [eU15]; exact Xi_ne (by omega))
        have w268 : 0 ≤ Xi T14 904 65 ∧ Xi T14 904 65 ≤ 1 := hHT14.c _ _
        have w269 : Xi U15 904 69 = Xi T14 904 69 := (show Xi U15 904 69 = Xi T14 904 69 from by rw [eU15]; exact Xi_ne (by omega))
        have w270 : 0 ≤ Xi T14 904 69 ∧ Xi T14 904 69 ≤ 2600 := hHT14.c _ _
        have w271 : Xi U15 904 70 = Xi T14 904 70 := (show Xi U15 904 70 = Xi T14 904 70 from by rw [eU15]; exact Xi_ne (by omega))
        have w272 : 0 ≤ Xi T14 904 70 ∧ Xi T14 904 70 ≤ 20 := hHT14.c _ _
        have w273 : 0 ≤ Xi U15 904 8 ∧ Xi U15 904 8 ≤ 5010 := hHU15.c _ _
        have w274 : Xi U15 904 93 = Xi T14 904 93 := (show Xi U15 904 93 = Xi T14 904 93 from by rw [eU15]; exact Xi_ne (by omega))
        have w275 : 0 ≤ Xi T14 904 93 ∧ Xi T14 904 93 ≤ 1700 := hHT14.c _ _
        exact Rl_weak (ih168 _ (by omega) U15 hHU15 hFU15 (v2) (z266) (by omega) (by omega) (by first | assumption | exact (by assumption : AT U15 _ _)) (by first | assumption | exact (RNV_FR (FR_e eU15) rfl (by assumption : RNV T14 _))) (by omega) (by omega) (by omega) (by omega) (by omega) (by first | assumption | exact (BDA_FR (FR_e eU15) rfl (by assumption : BDA T14))) rfl) (And.intro rfl (And.intro rfl (And.intro rfl (True.intro))))
      · refine l_iload_n rfl rfl ?_
        have w276 : 0 ≤ Xi T14 904 65 ∧ Xi T14 904 65 ≤ 1 := hHT14.c _ _
        have w277 : 0 ≤ Xi T14 904 69 ∧ Xi T14 904 69 ≤ 2600 := hHT14.c _ _
        have w278 : 0 ≤ Xi T14 904 70 ∧ Xi T14 904 70 ≤ 20 := hHT14.c _ _
        have w279 : 0 ≤ Xi T14 904 8 ∧ Xi T14 904 8 ≤ 5010 := hHT14.c _ _
        have w280 : 0 ≤ Xi T14 904 93 ∧ Xi T14 904 93 ≤ 1700 := hHT14.c _ _
        refine l_callS rfl rfl (by decide) rfl (t_mo_isArt hHT14 v3 ⟨by omega, by omega⟩ _) ?_
        rintro _ _ ⟨rfl, z282, rfl, w282, w281⟩
        show Rl _ _ _ _ _ [iv z282] _ _
        refine l_if_ne rfl rfl (by unfold rg; omega) (fun w283 => ?_) (fun w284 => ?_)
        · refine l_aload_n rfl rfl ?_
          refine l_dup rfl rfl ?_
          refine l_gfi rfl rfl rfl rfl rfl ?_
          refine l_iconst rfl ?_
          refine l_iadd rfl ?_
          refine l_pfi rfl rfl rfl rfl ?_
          obtain ⟨U16, eU16⟩ : ∃ T : sS, T = uI T14 904 8 (Int32.ofInt ((Xi T14 904 8) + 1)) := ⟨_, rfl⟩
          rw [← eU16]
          have hHU16 : HI U16 := by rw [eU16]; exact HI_w hHT14 (show 0 ≤ ((Xi T14 904 8) + 1) by omega) (show ((Xi T14 904 8) + 1) ≤ 5010 by omega)
          have hFU16 : FR md_mo_others__2 S U16 := by rw [eU16]; exact FR.wI hFT14 (mdf_i (r := (904, 905, 8, 9)) (List.mem_of_getElem? (i := 0) rfl) (inR_i (by omega) (by omega) (by omega) (by omega)))
          have w285 : Xi U16 904 8 = ((Xi T14 904 8) + 1) := by rw [eU16]; exact Xi_same (by unfold rg; omega)
          have t199 : AT U16 n c ∧ _ := (at_mv (S := T14) (P := T14) (TK_FR hFT14 rfl (by assumption : TK S _)) (by first | assumption | exact (by assumption : AT T14 _ _)) (fun j => rfl) (fun j => rfl) (rfl) (rfl) (rfl) (rfl) eU16 (by omega) (by omega) (by omega) (by omega) (Or.inl rfl))
          have a199 : AT U16 n c := t199.1
          have l199 := t199.2
          refine l_aload_n rfl rfl ?_
          have w286 : Xi U16 904 65 = Xi T14 904 65 := (show Xi U16 904 65 = Xi T14 904 65 from by rw [eU16]; exact Xi_ne (by omega))
          have w287 : 0 ≤ Xi T14 904 65 ∧ Xi T14 904 65 ≤ 1 := hHT14.c _ _
          have w288 : Xi U16 904 69 = Xi T14 904 69 := (show Xi U16 904 69 = Xi T14 904 69 from by rw [eU16]; exact Xi_ne (by omega))
          have w289 : 0 ≤ Xi T14 904 69 ∧ Xi T14 904 69 ≤ 2600 := hHT14.c _ _
          have w290 : Xi U16 904 70 = Xi T14 904 70 := (show Xi U16 904 70 = Xi T14 904 70 from by rw [eU16]; exact Xi_ne (by omega))
          have w291 : 0 ≤ Xi T14 904 70 ∧ Xi T14 904 70 ≤ 20 := hHT14.c _ _
          have w292 : 0 ≤ Xi U16 904 8 ∧ Xi U16 904 8 ≤ 5010 := hHU16.c _ _
          have w293 : Xi U16 904 93 = Xi T14 904 93 := (show Xi U16 904 93 = Xi T14 904 93 from by rw [eU16]; exact Xi_ne (by omega))
          have w294 : 0 ≤ Xi T14 904 93 ∧ Xi T14 904 93 ≤ 1700 := hHT14.c _ _
          refine l_callV rfl rfl rfl (t_mo_look hHU16 n c (by first | assumption | exact (TK_FR hFU16 rfl (by assumption : TK S _))) (by first | assumption | exact (by assumption : AT U16 _ _)) _) ?_
          rintro _ _ ⟨rfl, z296, rfl, w296, w295⟩
          show Rl _ _ _ _ _ [iv z296] _ _
          have l203 : z296 ≠ 1 → Xi U16 904 65 = 0 ∧ Xi U16 907 (Xi U16 904 8).toNat = z296 := by assumption
          refine l_istore_n rfl rfl rfl ?_
          refine l_goto rfl rfl ?_
          have w297 : Xi U16 904 65 = Xi T14 904 65 := (show Xi U16 904 65 = Xi T14 904 65 from by rw [eU16]; exact Xi_ne (by omega))
          have w298 : 0 ≤ Xi T14 904 65 ∧ Xi T14 904 65 ≤ 1 := hHT14.c _ _
          have w299 : Xi U16 904 69 = Xi T14 904 69 := (show Xi U16 904 69 = Xi T14 904 69 from by rw [eU16]; exact Xi_ne (by omega))
          have w300 : 0 ≤ Xi T14 904 69 ∧ Xi T14 904 69 ≤ 2600 := hHT14.c _ _
          have w301 : Xi U16 904 70 = Xi T14 904 70 := (show Xi U16 904 70 = Xi T14 904 70 from by rw [eU16]; exact Xi_ne (by omega))
          have w302 : 0 ≤ Xi T14 904 70 ∧ Xi T14 904 70 ≤ 20 := hHT14.c _ _
          have w303 : 0 ≤ Xi U16 904 8 ∧ Xi U16 904 8 ≤ 5010 := hHU16.c _ _
          have w304 : Xi U16 904 93 = Xi T14 904 93 := (show Xi U16 904 93 = Xi T14 904 93 from by rw [eU16]; exact Xi_ne (by omega))
          have w305 : 0 ≤ Xi T14 904 93 ∧ Xi T14 904 93 ≤ 1700 := hHT14.c _ _
          exact Rl_weak (ih168 _ (by omega) U16 hHU16 hFU16 (v2) (z296) (by omega) (by omega) (by first | assumption | exact (by assumption : AT U16 _ _)) (by first | assumption | exact (RNV_FR (FR_e eU16) rfl (by assumption : RNV T14 _))) (by omega) (by omega) (by omega) (by omega) (by omega) (by first | assumption | exact (BDA_FR (FR_e eU16) rfl (by assumption : BDA T14))) rfl) (And.intro rfl (And.intro rfl (And.intro rfl (True.intro))))
        · refine l_iload_n rfl rfl ?_
          refine l_bipush rfl rfl ?_
          refine l_icmp_eq rfl rfl (by unfold rg; omega) (by unfold rg; omega) (fun w306 => ?_) (fun w307 => ?_)
          · refine l_aload_n rfl rfl ?_
            refine l_dup rfl rfl ?_
            refine l_gfi rfl rfl rfl rfl rfl ?_
            refine l_iconst rfl ?_
            refine l_iadd rfl ?_
            refine l_pfi rfl rfl rfl rfl ?_
            obtain ⟨U17, eU17⟩ : ∃ T : sS, T = uI T14 904 8 (Int32.ofInt ((Xi T14 904 8) + 1)) := ⟨_, rfl⟩
            rw [← eU17]
            have hHU17 : HI U17 := by rw [eU17]; exact HI_w hHT14 (show 0 ≤ ((Xi T14 904 8) + 1) by omega) (show ((Xi T14 904 8) + 1) ≤ 5010 by omega)
            have hFU17 : FR md_mo_others__2 S U17 := by rw [eU17]; exact FR.wI hFT14 (mdf_i (r := (904, 905, 8, 9)) (List.mem_of_getElem? (i := 0) rfl) (inR_i (by omega) (by omega) (by omega) (by omega)))
            have w308 : Xi U17 904 8 = ((Xi T14 904 8) + 1) := by rw [eU17]; exact Xi_same (by unfold rg; omega)
            have t199 : AT U17 n c ∧ _ := (at_mv (S := T14) (P := T14) (TK_FR hFT14 rfl (by assumption : TK S _)) (by first | assumption | exact (by assumption : AT T14 _ _)) (fun j => rfl) (fun j => rfl) (rfl) (rfl) (rfl) (rfl) eU17 (by omega) (by omega) (by omega) (by omega) (Or.inl rfl))
            have a199 : AT U17 n c := t199.1
            have l199 := t199.2
            refine l_aload_n rfl rfl ?_
            have w309 : Xi U17 904 65 = Xi T14 904 65 := (show Xi U17 904 65 = Xi T14 904 65 from by rw [eU17]; exact Xi_ne (by omega))
            have w310 : 0 ≤ Xi T14 904 65 ∧ Xi T14 904 65 ≤ 1 := hHT14.c _ _
            have w311 : Xi U17 904 69 = Xi T14 904 69 := (show Xi U17 904 69 = Xi T14 904 69 from by rw [eU17]; exact Xi_ne (by omega))
            have w312 : 0 ≤ Xi T14 904 69 ∧ Xi T14 904 69 ≤ 2600 := hHT14.c _ _
            have w313 : Xi U17 904 70 = Xi T14 904 70 := (show Xi U17 904 70 = Xi T14 904 70 from by rw [eU17]; exact Xi_ne (by omega))
            have w314 : 0 ≤ Xi T14 904 70 ∧ Xi T14 904 70 ≤ 20 := hHT14.c _ _
            have w315 : 0 ≤ Xi U17 904 8 ∧ Xi U17 904 8 ≤ 5010 := hHU17.c _ _
            have w316 : Xi U17 904 93 = Xi T14 904 93 := (show Xi U17 904 93 = Xi T14 904 93 from by rw [eU17]; exact Xi_ne (by omega))
            have w317 : 0 ≤ Xi T14 904 93 ∧ Xi T14 904 93 ≤ 1700 := hHT14.c _ _
            refine l_callV rfl rfl rfl (t_mo_look hHU17 n c (by first | assumption | exact (TK_FR hFU17 rfl (by assumption : TK S _))) (by first | assumption | exact (by assumption : AT U17 _ _)) _) ?_
            rintro _ _ ⟨rfl, z319, rfl, w319, w318⟩
            show Rl _ _ _ _ _ [iv z319] _ _
            have l203 : z319 ≠ 1 → Xi U17 904 65 = 0 ∧ Xi U17 907 (Xi U17 904 8).toNat = z319 := by assumption
            refine l_istore_n rfl rfl rfl ?_
            refine l_goto rfl rfl ?_
            have w320 : Xi U17 904 65 = Xi T14 904 65 := (show Xi U17 904 65 = Xi T14 904 65 from by rw [eU17]; exact Xi_ne (by omega))
            have w321 : 0 ≤ Xi T14 904 65 ∧ Xi T14 904 65 ≤ 1 := hHT14.c _ _
            have w322 : Xi U17 904 69 = Xi T14 904 69 := (show Xi U17 904 69 = Xi T14 904 69 from by rw [eU17]; exact Xi_ne (by omega))
            have w323 : 0 ≤ Xi T14 904 69 ∧ Xi T14 904 69 ≤ 2600 := hHT14.c _ _
            have w324 : Xi U17 904 70 = Xi T14 904 70 := (show Xi U17 904 70 = Xi T14 904 70 from by rw [eU17]; exact Xi_ne (by omega))
            have w325 : 0 ≤ Xi T14 904 70 ∧ Xi T14 904 70 ≤ 20 := hHT14.c _ _
            have w326 : 0 ≤ Xi U17 904 8 ∧ Xi U17 904 8 ≤ 5010 := hHU17.c _ _
            have w327 : Xi U17 904 93 = Xi T14 904 93 := (show Xi U17 904 93 = Xi T14 904 93 from by rw [eU17]; exact Xi_ne (by omega))
            have w328 : 0 ≤ Xi T14 904 93 ∧ Xi T14 904 93 ≤ 1700 := hHT14.c _ _
            exact Rl_weak (ih168 _ (by omega) U17 hHU17 hFU17 (v2) (z319) (by omega) (by omega) (by first | assumption | exact (by assumption : AT U17 _ _)) (by first | assumption | exact (RNV_FR (FR_e eU17) rfl (by assumption : RNV T14 _))) (by omega) (by omega) (by omega) (by omega) (by omega) (by first | assumption | exact (BDA_FR (FR_e eU17) rfl (by assumption : BDA T14))) rfl) (And.intro rfl (And.intro rfl (And.intro rfl (True.intro))))
          · refine l_iload_n rfl rfl ?_
            refine l_bipush rfl rfl ?_
            refine l_icmp_ne rfl rfl (by unfold rg; omega) (by unfold rg; omega) (fun w329 => ?_) (fun w330 => ?_)
            · refine l_aload_n rfl rfl ?_
              refine l_gfi rfl rfl rfl rfl rfl ?_
              refine l_iload_n rfl rfl ?_
              refine l_icmp_ne rfl rfl (by unfold rg; omega) (by unfold rg; omega) (fun w331 => ?_) (fun w332 => ?_)
              · refine l_return rfl rfl ?_
                have w333 : 0 ≤ Xi T14 904 65 ∧ Xi T14 904 65 ≤ 1 := hHT14.c _ _
                have w334 : 0 ≤ Xi T14 904 69 ∧ Xi T14 904 69 ≤ 2600 := hHT14.c _ _
                have w335 : 0 ≤ Xi T14 904 70 ∧ Xi T14 904 70 ≤ 20 := hHT14.c _ _
                have w336 : 0 ≤ Xi T14 904 8 ∧ Xi T14 904 8 ≤ 5010 := hHT14.c _ _
                have w337 : 0 ≤ Xi T14 904 93 ∧ Xi T14 904 93 ≤ 1700 := hHT14.c _ _
                exact ⟨hHT14, hFT14, rfl, (by first | assumption | exact AT_bad (by omega)), (by omega), (by first | assumption | exact (by assumption : RNV T14 _)), (by omega), (by omega), (by omega), (fun q => by unfold SNQ; refine ⟨fun q1 => absurd q1 (by omega), by omega, by omega, by omega, fun q9 => absurd q9 (by omega), by omega, by omega, by omega, by omega, by omega⟩), (by first | assumption | exact (by assumption : BDA T14))⟩
              · refine l_aload_n rfl rfl ?_
                have w338 : 0 ≤ Xi T14 904 65 ∧ Xi T14 904 65 ≤ 1 := hHT14.c _ _
                have w339 : 0 ≤ Xi T14 904 69 ∧ Xi T14 904 69 ≤ 2600 := hHT14.c _ _
                have w340 : 0 ≤ Xi T14 904 70 ∧ Xi T14 904 70 ≤ 20 := hHT14.c _ _
                have w341 : 0 ≤ Xi T14 904 8 ∧ Xi T14 904 8 ≤ 5010 := hHT14.c _ _
                have w342 : 0 ≤ Xi T14 904 93 ∧ Xi T14 904 93 ≤ 1700 := hHT14.c _ _
                refine l_callV rfl rfl rfl (t_mo_odd__2 hHT14 (by first | assumption | exact (by assumption : BDA T14)) (by first | omega | exact fun q => (by have t := ((by assumption : AT T14 _ _) q).1; have u := hT.1; omega)) _) ?_
                rintro _ T18 ⟨hHT18, w347, rfl, w343, w344, w345⟩
                have hFT18 : FR md_mo_others__2 S T18 := FR.tr hFT14 w347 rfl
                show Rl _ _ _ _ _ [] _ _
                have w349 : Xi T18 904 8 = Xi T14 904 8 := (show Xi T18 904 8 = Xi T14 904 8 from w347.x _ _ rfl)
                have w350 : 0 ≤ Xi T14 904 8 ∧ Xi T14 904 8 ≤ 5010 := hHT14.c _ _
                have w351 : 0 ≤ Xi T18 904 65 ∧ Xi T18 904 65 ≤ 1 := hHT18.c _ _
                have w352 : Xi T18 904 69 = Xi T14 904 69 := (show Xi T18 904 69 = Xi T14 904 69 from w347.x _ _ rfl)
                have w353 : 0 ≤ Xi T14 904 69 ∧ Xi T14 904 69 ≤ 2600 := hHT14.c _ _
                have w354 : Xi T18 904 93 = Xi T14 904 93 := (show Xi T18 904 93 = Xi T14 904 93 from w347.x _ _ rfl)
                have w355 : 0 ≤ Xi T14 904 93 ∧ Xi T14 904 93 ≤ 1700 := hHT14.c _ _
                have w348 : Xi S 904 8 ≤ Xi T18 904 8 ∧ Xi T18 904 8 ≤ n ∧ Xi S 904 69 ≤ Xi T18 904 69 ∧ (Xi T18 904 65 = 0 → Xi S 904 65 = 0) := by omega
                clear w344
                refine l_return rfl rfl ?_
                have w356 : 0 ≤ Xi T18 904 65 ∧ Xi T18 904 65 ≤ 1 := hHT18.c _ _
                have w357 : Xi T18 904 69 = Xi T14 904 69 := (show Xi T18 904 69 = Xi T14 904 69 from w347.x _ _ rfl)
                have w358 : 0 ≤ Xi T14 904 69 ∧ Xi T14 904 69 ≤ 2600 := hHT14.c _ _
                have w359 : Xi T18 904 70 = Xi T14 904 70 := (show Xi T18 904 70 = Xi T14 904 70 from w347.x _ _ rfl)
                have w360 : 0 ≤ Xi T14 904 70 ∧ Xi T14 904 70 ≤ 20 := hHT14.c _ _
                have w361 : Xi T18 904 8 = Xi T14 904 8 := (show Xi T18 904 8 = Xi T14 904 8 from w347.x _ _ rfl)
                have w362 : 0 ≤ Xi T14 904 8 ∧ Xi T14 904 8 ≤ 5010 := hHT14.c _ _
                have w363 : Xi T18 904 93 = Xi T14 904 93 := (show Xi T18 904 93 = Xi T14 904 93 from w347.x _ _ rfl)
                have w364 : 0 ≤ Xi T14 904 93 ∧ Xi T14 904 93 ≤ 1700 := hHT14.c _ _
                exact ⟨hHT18, hFT18, rfl, (by first | assumption | exact AT_bad (by omega)), (by omega), (by first | assumption | exact (RNV_FR w347 rfl (by assumption : RNV T14 _))), (by omega), (by omega), (by omega), (fun q => by unfold SNQ; refine ⟨fun q1 => absurd q1 (by omega), by omega, by omega, by omega, fun q9 => absurd q9 (by omega), by omega, by omega, by omega, by omega, by omega⟩), (by first | assumption | exact (by assumption : BDA T18))⟩
            · refine l_aload_n rfl rfl ?_
              refine l_dup rfl rfl ?_
              refine l_gfi rfl rfl rfl rfl rfl ?_
              refine l_iconst rfl ?_
              refine l_iadd rfl ?_
              refine l_pfi rfl rfl rfl rfl ?_
              obtain ⟨U19, eU19⟩ : ∃ T : sS, T = uI T14 904 8 (Int32.ofInt ((Xi T14 904 8) + 1)) := ⟨_, rfl⟩
              rw [← eU19]
              have hHU19 : HI U19 := by rw [eU19]; exact HI_w hHT14 (show 0 ≤ ((Xi T14 904 8) + 1) by omega) (show ((Xi T14 904 8) + 1) ≤ 5010 by omega)
              have hFU19 : FR md_mo_others__2 S U19 := by rw [eU19]; exact FR.wI hFT14 (mdf_i (r := (904, 905, 8, 9)) (List.mem_of_getElem? (i := 0) rfl) (inR_i (by omega) (by omega) (by omega) (by omega)))
              have w365 : Xi U19 904 8 = ((Xi T14 904 8) + 1) := by rw [eU19]; exact Xi_same (by unfold rg; omega)
              have t199 : AT U19 n c ∧ _ := (at_mv (S := T14) (P := T14) (TK_FR hFT14 rfl (by assumption : TK S _)) (by first | assumption | exact (by assumption : AT T14 _ _)) (fun j => rfl) (fun j => rfl) (rfl) (rfl) (rfl) (rfl) eU19 (by omega) (by omega) (by omega) (by omega) (Or.inl rfl))
              have a199 : AT U19 n c := t199.1
              have l199 := t199.2
              refine l_aload_n rfl rfl ?_
              have w366 : Xi U19 904 65 = Xi T14 904 65 := (show Xi U19 904 65 = Xi T14 904 65 from by rw [eU19]; exact Xi_ne (by omega))
              have w367 : 0 ≤ Xi T14 904 65 ∧ Xi T14 904 65 ≤ 1 := hHT14.c _ _
              have w368 : Xi U19 904 69 = Xi T14 904 69 := (show Xi U19 904 69 = Xi T14 904 69 from by rw [eU19]; exact Xi_ne (by omega))
              have w369 : 0 ≤ Xi T14 904 69 ∧ Xi T14 904 69 ≤ 2600 := hHT14.c _ _
              have w370 : Xi U19 904 70 = Xi T14 904 70 := (show Xi U19 904 70 = Xi T14 904 70 from by rw [eU19]; exact Xi_ne (by omega))
              have w371 : 0 ≤ Xi T14 904 70 ∧ Xi T14 904 70 ≤ 20 := hHT14.c _ _
              have w372 : 0 ≤ Xi U19 904 8 ∧ Xi U19 904 8 ≤ 5010 := hHU19.c _ _
              have w373 : Xi U19 904 93 = Xi T14 904 93 := (show Xi U19 904 93 = Xi T14 904 93 from by rw [eU19]; exact Xi_ne (by omega))
              have w374 : 0 ≤ Xi T14 904 93 ∧ Xi T14 904 93 ≤ 1700 := hHT14.c _ _
              refine l_callV rfl rfl rfl (t_mo_look hHU19 n c (by first | assumption | exact (TK_FR hFU19 rfl (by assumption : TK S _))) (by first | assumption | exact (by assumption : AT U19 _ _)) _) ?_
              rintro _ _ ⟨rfl, z376, rfl, w376, w375⟩
              show Rl _ _ _ _ _ [iv z376] _ _
              have l203 : z376 ≠ 1 → Xi U19 904 65 = 0 ∧ Xi U19 907 (Xi U19 904 8).toNat = z376 := by assumption
              refine l_istore_n rfl rfl rfl ?_
              refine l_goto rfl rfl ?_
              have w377 : Xi U19 904 65 = Xi T14 904 65 := (show Xi U19 904 65 = Xi T14 904 65 from by rw [eU19]; exact Xi_ne (by omega))
              have w378 : 0 ≤ Xi T14 904 65 ∧ Xi T14 904 65 ≤ 1 := hHT14.c _ _
              have w379 : Xi U19 904 69 = Xi T14 904 69 := (show Xi U19 904 69 = Xi T14 904 69 from by rw [eU19]; exact Xi_ne (by omega))
              have w380 : 0 ≤ Xi T14 904 69 ∧ Xi T14 904 69 ≤ 2600 := hHT14.c _ _
              have w381 : Xi U19 904 70 = Xi T14 904 70 := (show Xi U19 904 70 = Xi T14 904 70 from by rw [eU19]; exact Xi_ne (by omega))
              have w382 : 0 ≤ Xi T14 904 70 ∧ Xi T14 904 70 ≤ 20 := hHT14.c _ _
              have w383 : 0 ≤ Xi U19 904 8 ∧ Xi U19 904 8 ≤ 5010 := hHU19.c _ _
              have w384 : Xi U19 904 93 = Xi T14 904 93 := (show Xi U19 904 93 = Xi T14 904 93 from by rw [eU19]; exact Xi_ne (by omega))
              have w385 : 0 ≤ Xi T14 904 93 ∧ Xi T14 904 93 ≤ 1700 := hHT14.c _ _
              exact Rl_weak (ih168 _ (by omega) U19 hHU19 hFU19 (v2) (z376) (by omega) (by omega) (by first | assumption | exact (by assumption : AT U19 _ _)) (by first | assumption | exact (RNV_FR (FR_e eU19) rfl (by assumption : RNV T14 _))) (by omega) (by omega) (by omega) (by omega) (by omega) (by first | assumption | exact (BDA_FR (FR_e eU19) rfl (by assumption : BDA T14))) rfl) (And.intro rfl (And.intro rfl (And.intro rfl (True.intro))))
  refine l_iload_n rfl rfl ?_
  refine l_bipush rfl rfl ?_
  refine l_icmp_ne rfl rfl (by unfold rg; omega) (by unfold rg; omega) (fun w386 => ?_) (fun w387 => ?_)
  · refine l_iload_n rfl rfl ?_
    refine l_bipush rfl rfl ?_
    refine l_icmp_ne rfl rfl (by unfold rg; omega) (by unfold rg; omega) (fun w388 => ?_) (fun w389 => ?_)
    · refine l_iload_n rfl rfl ?_
      refine l_bipush rfl rfl ?_
      refine l_icmp_ne rfl rfl (by unfold rg; omega) (by unfold rg; omega) (fun w390 => ?_) (fun w391 => ?_)
      · refine l_aload_n rfl rfl ?_
        refine l_bipush rfl rfl ?_
        refine l_pfi rfl rfl rfl rfl ?_
        obtain ⟨U20, eU20⟩ : ∃ T : sS, T = uI S 904 70 (Int32.ofInt 20) := ⟨_, rfl⟩
        rw [← eU20]
        have hHU20 : HI U20 := by rw [eU20]; exact HI_w hH (show 0 ≤ 20 by omega) (show 20 ≤ 20 by omega)
        have hFU20 : FR md_mo_others__2 S U20 := by rw [eU20]; exact FR.wI hF (mdf_i (r := (904, 905, 70, 71)) (List.mem_of_getElem? (i := 4) rfl) (inR_i (by omega) (by omega) (by omega) (by omega)))
        have w392 : Xi U20 904 70 = 20 := by rw [eU20]; exact Xi_same (by unfold rg; omega)
        refine l_aload_n rfl rfl ?_
        refine l_gfi rfl rfl rfl rfl rfl ?_
        have w393 : (Xi U20 904 8) = (Xi S 904 8) := (show Xi U20 904 8 = Xi S 904 8 from by rw [eU20]; exact Xi_ne (by omega))
        rw [w393]
        refine l_istore_n rfl rfl rfl ?_
        refine l_aload_n rfl rfl ?_
        have w394 : Xi U20 904 65 = Xi S 904 65 := (show Xi U20 904 65 = Xi S 904 65 from by rw [eU20]; exact Xi_ne (by omega))
        have w395 : 0 ≤ Xi S 904 65 ∧ Xi S 904 65 ≤ 1 := hH.c _ _
        have w396 : Xi U20 904 69 = Xi S 904 69 := (show Xi U20 904 69 = Xi S 904 69 from by rw [eU20]; exact Xi_ne (by omega))
        have w397 : 0 ≤ Xi S 904 69 ∧ Xi S 904 69 ≤ 2600 := hH.c _ _
        have w398 : 0 ≤ Xi U20 904 70 ∧ Xi U20 904 70 ≤ 20 := hHU20.c _ _
        have w399 : Xi U20 904 8 = Xi S 904 8 := (show Xi U20 904 8 = Xi S 904 8 from by rw [eU20]; exact Xi_ne (by omega))
        have w400 : 0 ≤ Xi S 904 8 ∧ Xi S 904 8 ≤ 5010 := hH.c _ _
        have w401 : Xi U20 904 93 = Xi S 904 93 := (show Xi U20 904 93 = Xi S 904 93 from by rw [eU20]; exact Xi_ne (by omega))
        have w402 : 0 ≤ Xi S 904 93 ∧ Xi S 904 93 ≤ 1700 := hH.c _ _
        refine l_callV rfl rfl rfl (t_mo_look hHU20 n c (by first | assumption | exact (TK_FR hFU20 rfl (by assumption : TK S _))) (by first | assumption | exact (AT_FR (FR_e eU20) rfl (by assumption : AT S _ _))) _) ?_
        rintro _ _ ⟨rfl, z404, rfl, w404, w403⟩
        show Rl _ _ _ _ _ [iv z404] _ _
        have l164 : z404 ≠ 1 → Xi U20 904 65 = 0 ∧ Xi U20 907 (Xi U20 904 8).toNat = z404 := by assumption
        refine l_istore_n rfl rfl rfl ?_
        have w405 : Xi U20 904 65 = Xi S 904 65 := (show Xi U20 904 65 = Xi S 904 65 from by rw [eU20]; exact Xi_ne (by omega))
        have w406 : 0 ≤ Xi S 904 65 ∧ Xi S 904 65 ≤ 1 := hH.c _ _
        have w407 : Xi U20 904 69 = Xi S 904 69 := (show Xi U20 904 69 = Xi S 904 69 from by rw [eU20]; exact Xi_ne (by omega))
        have w408 : 0 ≤ Xi S 904 69 ∧ Xi S 904 69 ≤ 2600 := hH.c _ _
        have w409 : 0 ≤ Xi U20 904 70 ∧ Xi U20 904 70 ≤ 20 := hHU20.c _ _
        have w410 : Xi U20 904 8 = Xi S 904 8 := (show Xi U20 904 8 = Xi S 904 8 from by rw [eU20]; exact Xi_ne (by omega))
        have w411 : 0 ≤ Xi S 904 8 ∧ Xi S 904 8 ≤ 5010 := hH.c _ _
        have w412 : Xi U20 904 93 = Xi S 904 93 := (show Xi U20 904 93 = Xi S 904 93 from by rw [eU20]; exact Xi_ne (by omega))
        have w413 : 0 ≤ Xi S 904 93 ∧ Xi S 904 93 ≤ 1700 := hH.c _ _
        exact Rl_weak (C168 _ U20 hHU20 hFU20 ((Xi S 904 8)) (z404) (by omega) (by omega) (by first | assumption | exact (AT_FR (FR_e eU20) rfl (by assumption : AT S _ _))) (by first | assumption | exact (RNV_FR (FR_e eU20) rfl (by assumption : RNV S _))) (by omega) (by omega) (by omega) (by omega) (by omega) (by first | assumption | exact (BDA_FR (FR_e eU20) rfl (by assumption : BDA S))) rfl) (And.intro rfl (And.intro rfl (And.intro rfl (True.intro))))
      · refine l_aload_n rfl rfl ?_
        refine l_bipush rfl rfl ?_
        refine l_pfi rfl rfl rfl rfl ?_
        obtain ⟨U21, eU21⟩ : ∃ T : sS, T = uI S 904 70 (Int32.ofInt 19) := ⟨_, rfl⟩
        rw [← eU21]
        have hHU21 : HI U21 := by rw [eU21]; exact HI_w hH (show 0 ≤ 19 by omega) (show 19 ≤ 20 by omega)
        have hFU21 : FR md_mo_others__2 S U21 := by rw [eU21]; exact FR.wI hF (mdf_i (r := (904, 905, 70, 71)) (List.mem_of_getElem? (i := 4) rfl) (inR_i (by omega) (by omega) (by omega) (by omega)))
        have w414 : Xi U21 904 70 = 19 := by rw [eU21]; exact Xi_same (by unfold rg; omega)
        refine l_aload_n rfl rfl ?_
        have w415 : Xi U21 904 65 = Xi S 904 65 := (show Xi U21 904 65 = Xi S 904 65 from by rw [eU21]; exact Xi_ne (by omega))
        have w416 : 0 ≤ Xi S 904 65 ∧ Xi S 904 65 ≤ 1 := hH.c _ _
        have w417 : Xi U21 904 69 = Xi S 904 69 := (show Xi U21 904 69 = Xi S 904 69 from by rw [eU21]; exact Xi_ne (by omega))
        have w418 : 0 ≤ Xi S 904 69 ∧ Xi S 904 69 ≤ 2600 := hH.c _ _
        have w419 : 0 ≤ Xi U21 904 70 ∧ Xi U21 904 70 ≤ 20 := hHU21.c _ _
        have w420 : Xi U21 904 8 = Xi S 904 8 := (show Xi U21 904 8 = Xi S 904 8 from by rw [eU21]; exact Xi_ne (by omega))
        have w421 : 0 ≤ Xi S 904 8 ∧ Xi S 904 8 ≤ 5010 := hH.c _ _
        have w422 : Xi U21 904 93 = Xi S 904 93 := (show Xi U21 904 93 = Xi S 904 93 from by rw [eU21]; exact Xi_ne (by omega))
        have w423 : 0 ≤ Xi S 904 93 ∧ Xi S 904 93 ≤ 1700 := hH.c _ _
        refine l_callV rfl rfl rfl (t_mo_name__2 hHU21 n c (by first | assumption | exact (TK_FR hFU21 rfl (by assumption : TK S _))) (by first | assumption | exact (AT_FR (FR_e eU21) rfl (by assumption : AT S _ _))) (by first | assumption | exact (RNV_FR (FR_e eU21) rfl (by assumption : RNV S _))) (by first | assumption | exact (BDA_FR (FR_e eU21) rfl (by assumption : BDA S))) _) ?_
        rintro _ T22 ⟨hHT22, w431, z430, rfl, w430, w424, w425, w426, w427, w428, w429⟩
        have hFT22 : FR md_mo_others__2 S T22 := FR.tr hFU21 w431 rfl
        show Rl _ _ _ _ _ [iv z430] _ _
        have w433 : 0 ≤ Xi T22 904 8 ∧ Xi T22 904 8 ≤ 5010 := hHT22.c _ _
        have w434 : 0 ≤ Xi T22 904 65 ∧ Xi T22 904 65 ≤ 1 := hHT22.c _ _
        have w435 : 0 ≤ Xi T22 904 69 ∧ Xi T22 904 69 ≤ 2600 := hHT22.c _ _
        have w436 : Xi T22 904 93 = Xi S 904 93 := (show Xi T22 904 93 = Xi U21 904 93 from w431.x _ _ rfl).trans ((show Xi U21 904 93 = Xi S 904 93 from by rw [eU21]; exact Xi_ne (by omega)))
        have w437 : 0 ≤ Xi S 904 93 ∧ Xi S 904 93 ≤ 1700 := hH.c _ _
        have c107 : Xi T22 904 65 = 0 → Xi S 904 69 + 1 ≤ Xi T22 904 69 := by omega
        have w432 : Xi S 904 8 ≤ Xi T22 904 8 ∧ Xi T22 904 8 ≤ n ∧ Xi S 904 69 ≤ Xi T22 904 69 ∧ (Xi T22 904 65 = 0 → Xi S 904 65 = 0) := by omega
        clear w425 w427 w428
        refine l_pop rfl rfl ?_
        refine l_aload_n rfl rfl ?_
        refine l_bipush rfl rfl ?_
        have w438 : 0 ≤ Xi T22 904 65 ∧ Xi T22 904 65 ≤ 1 := hHT22.c _ _
        have w439 : 0 ≤ Xi T22 904 69 ∧ Xi T22 904 69 ≤ 2600 := hHT22.c _ _
        have w440 : Xi T22 904 70 = Xi U21 904 70 := (show Xi T22 904 70 = Xi U21 904 70 from w431.x _ _ rfl)
        have w441 : 0 ≤ Xi U21 904 70 ∧ Xi U21 904 70 ≤ 20 := hHU21.c _ _
        have w442 : 0 ≤ Xi T22 904 8 ∧ Xi T22 904 8 ≤ 5010 := hHT22.c _ _
        have w443 : Xi T22 904 93 = Xi S 904 93 := (show Xi T22 904 93 = Xi U21 904 93 from w431.x _ _ rfl).trans ((show Xi U21 904 93 = Xi S 904 93 from by rw [eU21]; exact Xi_ne (by omega)))
        have w444 : 0 ≤ Xi S 904 93 ∧ Xi S 904 93 ≤ 1700 := hH.c _ _
        refine l_callV rfl rfl rfl (t_mo_take__3 hHT22 n c 121 ⟨by omega, by omega⟩ (by first | assumption | exact (TK_FR hFT22 rfl (by assumption : TK S _))) (by first | assumption | exact (by assumption : AT T22 _ _)) (by first | assumption | omega) (by first | assumption | exact (by assumption : BDA T22)) _) ?_
        rintro _ T23 ⟨hHT23, w451, rfl, w445, w446, w447, w448, w449⟩
        have hFT23 : FR md_mo_others__2 S T23 := FR.tr hFT22 w451 rfl
        show Rl _ _ _ _ _ [] _ _
        have w453 : 0 ≤ Xi T23 904 8 ∧ Xi T23 904 8 ≤ 5010 := hHT23.c _ _
        have w454 : 0 ≤ Xi T23 904 65 ∧ Xi T23 904 65 ≤ 1 := hHT23.c _ _
        have w455 : Xi T23 904 69 = Xi T22 904 69 := (show Xi T23 904 69 = Xi T22 904 69 from w451.x _ _ rfl)
        have w456 : 0 ≤ Xi T22 904 69 ∧ Xi T22 904 69 ≤ 2600 := hHT22.c _ _
        have w457 : Xi T23 904 93 = Xi S 904 93 := (show Xi T23 904 93 = Xi T22 904 93 from w451.x _ _ rfl).trans ( (show Xi T22 904 93 = Xi U21 904 93 from w431.x _ _ rfl).trans ((show Xi U21 904 93 = Xi S 904 93 from by rw [eU21]; exact Xi_ne (by omega))))
        have w458 : 0 ≤ Xi S 904 93 ∧ Xi S 904 93 ≤ 1700 := hH.c _ _
        have c114 : Xi T23 904 65 = 0 → Xi S 904 69 + 1 ≤ Xi T23 904 69 := by omega
        clear c107
        have w452 : Xi S 904 8 ≤ Xi T23 904 8 ∧ Xi T23 904 8 ≤ n ∧ Xi S 904 69 ≤ Xi T23 904 69 ∧ (Xi T23 904 65 = 0 → Xi S 904 65 = 0) := by omega
        clear w446 w447 w448 w432
        refine l_aload_n rfl rfl ?_
        refine l_aload_n rfl rfl ?_
        have w459 : 0 ≤ Xi T23 904 65 ∧ Xi T23 904 65 ≤ 1 := hHT23.c _ _
        have w460 : Xi T23 904 69 = Xi T22 904 69 := (show Xi T23 904 69 = Xi T22 904 69 from w451.x _ _ rfl)
        have w461 : 0 ≤ Xi T22 904 69 ∧ Xi T22 904 69 ≤ 2600 := hHT22.c _ _
        have w462 : Xi T23 904 70 = Xi U21 904 70 := (show Xi T23 904 70 = Xi T22 904 70 from w451.x _ _ rfl).trans ((show Xi T22 904 70 = Xi U21 904 70 from w431.x _ _ rfl))
        have w463 : 0 ≤ Xi U21 904 70 ∧ Xi U21 904 70 ≤ 20 := hHU21.c _ _
        have w464 : 0 ≤ Xi T23 904 8 ∧ Xi T23 904 8 ≤ 5010 := hHT23.c _ _
        have w465 : Xi T23 904 93 = Xi S 904 93 := (show Xi T23 904 93 = Xi T22 904 93 from w451.x _ _ rfl).trans ( (show Xi T22 904 93 = Xi U21 904 93 from w431.x _ _ rfl).trans ((show Xi U21 904 93 = Xi S 904 93 from by rw [eU21]; exact Xi_ne (by omega))))
        have w466 : 0 ≤ Xi S 904 93 ∧ Xi S 904 93 ≤ 1700 := hH.c _ _
        refine l_callV rfl rfl rfl (t_mo_oneOrVarious__3 hHT23 n c (by first | assumption | exact (TK_FR hFT23 rfl (by assumption : TK S _))) (by first | assumption | exact (by assumption : AT T23 _ _)) (by first | assumption | omega) (by first | assumption | exact (by assumption : BDA T23)) _) ?_
        rintro _ T24 ⟨hHT24, w472, z471, rfl, w471, w467, w468, w469, w470⟩
        have hFT24 : FR md_mo_others__2 S T24 := FR.tr hFT23 w472 rfl
        show Rl _ _ _ _ _ [iv z471, .ref 904] _ _
        have w474 : 0 ≤ Xi T24 904 8 ∧ Xi T24 904 8 ≤ 5010 := hHT24.c _ _
        have w475 : 0 ≤ Xi T24 904 65 ∧ Xi T24 904 65 ≤ 1 := hHT24.c _ _
        have w476 : Xi T24 904 69 = Xi T22 904 69 := (show Xi T24 904 69 = Xi T23 904 69 from w472.x _ _ rfl).trans ((show Xi T23 904 69 = Xi T22 904 69 from w451.x _ _ rfl))
        have w477 : 0 ≤ Xi T22 904 69 ∧ Xi T22 904 69 ≤ 2600 := hHT22.c _ _
        have w478 : Xi T24 904 93 = Xi S 904 93 := (show Xi T24 904 93 = Xi T23 904 93 from w472.x _ _ rfl).trans ( (show Xi T23 904 93 = Xi T22 904 93 from w451.x _ _ rfl).trans ( (show Xi T22 904 93 = Xi U21 904 93 from w431.x _ _ rfl).trans ((show Xi U21 904 93 = Xi S 904 93 from by rw [eU21]; exact Xi_ne (by omega)))))
        have w479 : 0 ≤ Xi S 904 93 ∧ Xi S 904 93 ≤ 1700 := hH.c _ _
        have c119 : Xi T24 904 65 = 0 → Xi S 904 69 + 1 ≤ Xi T24 904 69 := by omega
        clear c114
        have w473 : Xi S 904 8 ≤ Xi T24 904 8 ∧ Xi T24 904 8 ≤ n + 1 ∧ Xi S 904 69 ≤ Xi T24 904 69 ∧ (Xi T24 904 65 = 0 → Xi S 904 65 = 0) := by omega
        clear w468 w469 w452
        refine l_pfz rfl rfl rfl rfl (by omega) ?_
        obtain ⟨U25, eU25⟩ : ∃ T : sS, T = uI T24 904 79 (Int32.ofInt z471) := ⟨_, rfl⟩
        rw [← eU25]
        have hHU25 : HI U25 := by rw [eU25]; exact HI_w hHT24 (show 0 ≤ z471 by omega) (show z471 ≤ 1 by omega)
        have hFU25 : FR md_mo_others__2 S U25 := by rw [eU25]; exact FR.wI hFT24 (mdf_i (r := (904, 905, 79, 80)) (List.mem_of_getElem? (i := 5) rfl) (inR_i (by omega) (by omega) (by omega) (by omega)))
        have w480 : Xi U25 904 79 = z471 := by rw [eU25]; exact Xi_same (by unfold rg; omega)
        have w481 : Xi U25 904 65 = Xi T24 904 65 := (show Xi U25 904 65 = Xi T24 904 65 from by rw [eU25]; exact Xi_ne (by omega))
        have w482 : 0 ≤ Xi T24 904 65 ∧ Xi T24 904 65 ≤ 1 := hHT24.c _ _
        have w483 : Xi U25 904 69 = Xi T22 904 69 := (show Xi U25 904 69 = Xi T24 904 69 from by rw [eU25]; exact Xi_ne (by omega)).trans ( (show Xi T24 904 69 = Xi T23 904 69 from w472.x _ _ rfl).trans ((show Xi T23 904 69 = Xi T22 904 69 from w451.x _ _ rfl)))
        have w484 : 0 ≤ Xi T22 904 69 ∧ Xi T22 904 69 ≤ 2600 := hHT22.c _ _
        have w485 : Xi U25 904 70 = Xi U21 904 70 := (show Xi U25 904 70 = Xi T24 904 70 from by rw [eU25]; exact Xi_ne (by omega)).trans ( (show Xi T24 904 70 = Xi T23 904 70 from w472.x _ _ rfl).trans ( (show Xi T23 904 70 = Xi T22 904 70 from w451.x _ _ rfl).trans ((show Xi T22 904 70 = Xi U21 904 70 from w431.x _ _ rfl))))
        have w486 : 0 ≤ Xi U21 904 70 ∧ Xi U21 904 70 ≤ 20 := hHU21.c _ _
        have w487 : Xi U25 904 8 = Xi T24 904 8 := (show Xi U25 904 8 = Xi T24 904 8 from by rw [eU25]; exact Xi_ne (by omega))
        have w488 : 0 ≤ Xi T24 904 8 ∧ Xi T24 904 8 ≤ 5010 := hHT24.c _ _
        have w489 : Xi U25 904 93 = Xi S 904 93 := (show Xi U25 904 93 = Xi T24 904 93 from by rw [eU25]; exact Xi_ne (by omega)).trans ( (show Xi T24 904 93 = Xi T23 904 93 from w472.x _ _ rfl).trans ( (show Xi T23 904 93 = Xi T22 904 93 from w451.x _ _ rfl).trans ( (show Xi T22 904 93 = Xi U21 904 93 from w431.x _ _ rfl).trans ((show Xi U21 904 93 = Xi S 904 93 from by rw [eU21]; exact Xi_ne (by omega))))))
        have w490 : 0 ≤ Xi S 904 93 ∧ Xi S 904 93 ≤ 1700 := hH.c _ _
        exact Rl_weak (C125 U25 hHU25 hFU25  (by first | assumption | exact (AT_FR (FR_e eU25) rfl (by assumption : AT T24 _ _))) (by first | assumption | exact (RNV_FR (FR_e eU25) rfl (RNV_FR w472 rfl (RNV_FR w451 rfl (by assumption : RNV T22 _))))) (by omega) (by omega) (by omega) (by omega) (by omega) (by first | exact c119 | omega) (by first | assumption | exact (BDA_FR (FR_e eU25) rfl (by assumption : BDA T24)))) (And.intro rfl (True.intro))
    · refine l_aload_n rfl rfl ?_
      refine l_bipush rfl rfl ?_
      refine l_pfi rfl rfl rfl rfl ?_
      obtain ⟨U26, eU26⟩ : ∃ T : sS, T = uI S 904 70 (Int32.ofInt 18) := ⟨_, rfl⟩
      rw [← eU26]
      have hHU26 : HI U26 := by rw [eU26]; exact HI_w hH (show 0 ≤ 18 by omega) (show 18 ≤ 20 by omega)
      have hFU26 : FR md_mo_others__2 S U26 := by rw [eU26]; exact FR.wI hF (mdf_i (r := (904, 905, 70, 71)) (List.mem_of_getElem? (i := 4) rfl) (inR_i (by omega) (by omega) (by omega) (by omega)))
      have w491 : Xi U26 904 70 = 18 := by rw [eU26]; exact Xi_same (by unfold rg; omega)
      refine l_aload_n rfl rfl ?_
      have w492 : Xi U26 904 65 = Xi S 904 65 := (show Xi U26 904 65 = Xi S 904 65 from by rw [eU26]; exact Xi_ne (by omega))
      have w493 : 0 ≤ Xi S 904 65 ∧ Xi S 904 65 ≤ 1 := hH.c _ _
      have w494 : Xi U26 904 69 = Xi S 904 69 := (show Xi U26 904 69 = Xi S 904 69 from by rw [eU26]; exact Xi_ne (by omega))
      have w495 : 0 ≤ Xi S 904 69 ∧ Xi S 904 69 ≤ 2600 := hH.c _ _
      have w496 : 0 ≤ Xi U26 904 70 ∧ Xi U26 904 70 ≤ 20 := hHU26.c _ _
      have w497 : Xi U26 904 8 = Xi S 904 8 := (show Xi U26 904 8 = Xi S 904 8 from by rw [eU26]; exact Xi_ne (by omega))
      have w498 : 0 ≤ Xi S 904 8 ∧ Xi S 904 8 ≤ 5010 := hH.c _ _
      have w499 : Xi U26 904 93 = Xi S 904 93 := (show Xi U26 904 93 = Xi S 904 93 from by rw [eU26]; exact Xi_ne (by omega))
      have w500 : 0 ≤ Xi S 904 93 ∧ Xi S 904 93 ≤ 1700 := hH.c _ _
      refine l_callV rfl rfl rfl (t_mo_name__2 hHU26 n c (by first | assumption | exact (TK_FR hFU26 rfl (by assumption : TK S _))) (by first | assumption | exact (AT_FR (FR_e eU26) rfl (by assumption : AT S _ _))) (by first | assumption | exact (RNV_FR (FR_e eU26) rfl (by assumption : RNV S _))) (by first | assumption | exact (BDA_FR (FR_e eU26) rfl (by assumption : BDA S))) _) ?_
      rintro _ T27 ⟨hHT27, w508, z507, rfl, w507, w501, w502, w503, w504, w505, w506⟩
      have hFT27 : FR md_mo_others__2 S T27 := FR.tr hFU26 w508 rfl
      show Rl _ _ _ _ _ [iv z507] _ _
      have w510 : 0 ≤ Xi T27 904 8 ∧ Xi T27 904 8 ≤ 5010 := hHT27.c _ _
      have w511 : 0 ≤ Xi T27 904 65 ∧ Xi T27 904 65 ≤ 1 := hHT27.c _ _
      have w512 : 0 ≤ Xi T27 904 69 ∧ Xi T27 904 69 ≤ 2600 := hHT27.c _ _
      have w513 : Xi T27 904 93 = Xi S 904 93 := (show Xi T27 904 93 = Xi U26 904 93 from w508.x _ _ rfl).trans ((show Xi U26 904 93 = Xi S 904 93 from by rw [eU26]; exact Xi_ne (by omega)))
      have w514 : 0 ≤ Xi S 904 93 ∧ Xi S 904 93 ≤ 1700 := hH.c _ _
      have c59 : Xi T27 904 65 = 0 → Xi S 904 69 + 1 ≤ Xi T27 904 69 := by omega
      have w509 : Xi S 904 8 ≤ Xi T27 904 8 ∧ Xi T27 904 8 ≤ n ∧ Xi S 904 69 ≤ Xi T27 904 69 ∧ (Xi T27 904 65 = 0 → Xi S 904 65 = 0) := by omega
      clear w502 w504 w505
      refine l_pop rfl rfl ?_
      refine l_aload_n rfl rfl ?_
      refine l_bipush rfl rfl ?_
      have w515 : 0 ≤ Xi T27 904 65 ∧ Xi T27 904 65 ≤ 1 := hHT27.c _ _
      have w516 : 0 ≤ Xi T27 904 69 ∧ Xi T27 904 69 ≤ 2600 := hHT27.c _ _
      have w517 : Xi T27 904 70 = Xi U26 904 70 := (show Xi T27 904 70 = Xi U26 904 70 from w508.x _ _ rfl)
      have w518 : 0 ≤ Xi U26 904 70 ∧ Xi U26 904 70 ≤ 20 := hHU26.c _ _
      have w519 : 0 ≤ Xi T27 904 8 ∧ Xi T27 904 8 ≤ 5010 := hHT27.c _ _
      have w520 : Xi T27 904 93 = Xi S 904 93 := (show Xi T27 904 93 = Xi U26 904 93 from w508.x _ _ rfl).trans ((show Xi U26 904 93 = Xi S 904 93 from by rw [eU26]; exact Xi_ne (by omega)))
      have w521 : 0 ≤ Xi S 904 93 ∧ Xi S 904 93 ≤ 1700 := hH.c _ _
      refine l_callV rfl rfl rfl (t_mo_take__3 hHT27 n c 113 ⟨by omega, by omega⟩ (by first | assumption | exact (TK_FR hFT27 rfl (by assumption : TK S _))) (by first | assumption | exact (by assumption : AT T27 _ _)) (by first | assumption | omega) (by first | assumption | exact (by assumption : BDA T27)) _) ?_
      rintro _ T28 ⟨hHT28, w528, rfl, w522, w523, w524, w525, w526⟩
      have hFT28 : FR md_mo_others__2 S T28 := FR.tr hFT27 w528 rfl
      show Rl _ _ _ _ _ [] _ _
      have w530 : 0 ≤ Xi T28 904 8 ∧ Xi T28 904 8 ≤ 5010 := hHT28.c _ _
      have w531 : 0 ≤ Xi T28 904 65 ∧ Xi T28 904 65 ≤ 1 := hHT28.c _ _
      have w532 : Xi T28 904 69 = Xi T27 904 69 := (show Xi T28 904 69 = Xi T27 904 69 from w528.x _ _ rfl)
      have w533 : 0 ≤ Xi T27 904 69 ∧ Xi T27 904 69 ≤ 2600 := hHT27.c _ _
      have w534 : Xi T28 904 93 = Xi S 904 93 := (show Xi T28 904 93 = Xi T27 904 93 from w528.x _ _ rfl).trans ( (show Xi T27 904 93 = Xi U26 904 93 from w508.x _ _ rfl).trans ((show Xi U26 904 93 = Xi S 904 93 from by rw [eU26]; exact Xi_ne (by omega))))
      have w535 : 0 ≤ Xi S 904 93 ∧ Xi S 904 93 ≤ 1700 := hH.c _ _
      have c66 : Xi T28 904 65 = 0 → Xi S 904 69 + 1 ≤ Xi T28 904 69 := by omega
      clear c59
      have w529 : Xi S 904 8 ≤ Xi T28 904 8 ∧ Xi T28 904 8 ≤ n ∧ Xi S 904 69 ≤ Xi T28 904 69 ∧ (Xi T28 904 65 = 0 → Xi S 904 65 = 0) := by omega
      clear w523 w524 w525 w509
      refine l_aload_n rfl rfl ?_
      refine l_bipush rfl rfl ?_
      have w536 : 0 ≤ Xi T28 904 65 ∧ Xi T28 904 65 ≤ 1 := hHT28.c _ _
      have w537 : Xi T28 904 69 = Xi T27 904 69 := (show Xi T28 904 69 = Xi T27 904 69 from w528.x _ _ rfl)
      have w538 : 0 ≤ Xi T27 904 69 ∧ Xi T27 904 69 ≤ 2600 := hHT27.c _ _
      have w539 : Xi T28 904 70 = Xi U26 904 70 := (show Xi T28 904 70 = Xi T27 904 70 from w528.x _ _ rfl).trans ((show Xi T27 904 70 = Xi U26 904 70 from w508.x _ _ rfl))
      have w540 : 0 ≤ Xi U26 904 70 ∧ Xi U26 904 70 ≤ 20 := hHU26.c _ _
      have w541 : 0 ≤ Xi T28 904 8 ∧ Xi T28 904 8 ≤ 5010 := hHT28.c _ _
      have w542 : Xi T28 904 93 = Xi S 904 93 := (show Xi T28 904 93 = Xi T27 904 93 from w528.x _ _ rfl).trans ( (show Xi T27 904 93 = Xi U26 904 93 from w508.x _ _ rfl).trans ((show Xi U26 904 93 = Xi S 904 93 from by rw [eU26]; exact Xi_ne (by omega))))
      have w543 : 0 ≤ Xi S 904 93 ∧ Xi S 904 93 ≤ 1700 := hH.c _ _
      refine l_callV rfl rfl rfl (t_mo_take__3 hHT28 n c 114 ⟨by omega, by omega⟩ (by first | assumption | exact (TK_FR hFT28 rfl (by assumption : TK S _))) (by first | assumption | exact (by assumption : AT T28 _ _)) (by first | assumption | omega) (by first | assumption | exact (by assumption : BDA T28)) _) ?_
      rintro _ T29 ⟨hHT29, w550, rfl, w544, w545, w546, w547, w548⟩
      have hFT29 : FR md_mo_others__2 S T29 := FR.tr hFT28 w550 rfl
      show Rl _ _ _ _ _ [] _ _
      have w552 : 0 ≤ Xi T29 904 8 ∧ Xi T29 904 8 ≤ 5010 := hHT29.c _ _
      have w553 : 0 ≤ Xi T29 904 65 ∧ Xi T29 904 65 ≤ 1 := hHT29.c _ _
      have w554 : Xi T29 904 69 = Xi T27 904 69 := (show Xi T29 904 69 = Xi T28 904 69 from w550.x _ _ rfl).trans ((show Xi T28 904 69 = Xi T27 904 69 from w528.x _ _ rfl))
      have w555 : 0 ≤ Xi T27 904 69 ∧ Xi T27 904 69 ≤ 2600 := hHT27.c _ _
      have w556 : Xi T29 904 93 = Xi S 904 93 := (show Xi T29 904 93 = Xi T28 904 93 from w550.x _ _ rfl).trans ( (show Xi T28 904 93 = Xi T27 904 93 from w528.x _ _ rfl).trans ( (show Xi T27 904 93 = Xi U26 904 93 from w508.x _ _ rfl).trans ((show Xi U26 904 93 = Xi S 904 93 from by rw [eU26]; exact Xi_ne (by omega)))))
      have w557 : 0 ≤ Xi S 904 93 ∧ Xi S 904 93 ≤ 1700 := hH.c _ _
      have c72 : Xi T29 904 65 = 0 → Xi S 904 69 + 1 ≤ Xi T29 904 69 := by omega
      clear c66
      have w551 : Xi S 904 8 ≤ Xi T29 904 8 ∧ Xi T29 904 8 ≤ n ∧ Xi S 904 69 ≤ Xi T29 904 69 ∧ (Xi T29 904 65 = 0 → Xi S 904 65 = 0) := by omega
      clear w545 w546 w547 w529
      have w558 : 0 ≤ Xi T29 904 65 ∧ Xi T29 904 65 ≤ 1 := hHT29.c _ _
      have w559 : Xi T29 904 69 = Xi T27 904 69 := (show Xi T29 904 69 = Xi T28 904 69 from w550.x _ _ rfl).trans ((show Xi T28 904 69 = Xi T27 904 69 from w528.x _ _ rfl))
      have w560 : 0 ≤ Xi T27 904 69 ∧ Xi T27 904 69 ≤ 2600 := hHT27.c _ _
      have w561 : Xi T29 904 70 = Xi U26 904 70 := (show Xi T29 904 70 = Xi T28 904 70 from w550.x _ _ rfl).trans ( (show Xi T28 904 70 = Xi T27 904 70 from w528.x _ _ rfl).trans ((show Xi T27 904 70 = Xi U26 904 70 from w508.x _ _ rfl)))
      have w562 : 0 ≤ Xi U26 904 70 ∧ Xi U26 904 70 ≤ 20 := hHU26.c _ _
      have w563 : 0 ≤ Xi T29 904 8 ∧ Xi T29 904 8 ≤ 5010 := hHT29.c _ _
      have w564 : Xi T29 904 93 = Xi S 904 93 := (show Xi T29 904 93 = Xi T28 904 93 from w550.x _ _ rfl).trans ( (show Xi T28 904 93 = Xi T27 904 93 from w528.x _ _ rfl).trans ( (show Xi T27 904 93 = Xi U26 904 93 from w508.x _ _ rfl).trans ((show Xi U26 904 93 = Xi S 904 93 from by rw [eU26]; exact Xi_ne (by omega)))))
      have w565 : 0 ≤ Xi S 904 93 ∧ Xi S 904 93 ≤ 1700 := hH.c _ _
      exact Rl_weak (C75 T29 hHT29 hFT29  (by first | assumption | exact (by assumption : AT T29 _ _)) (by first | assumption | exact (RNV_FR w550 rfl (RNV_FR w528 rfl (by assumption : RNV T27 _)))) (by omega) (by omega) (by omega) (by omega) (by omega) (by first | exact c72 | omega) (by first | assumption | exact (by assumption : BDA T29))) (And.intro rfl (True.intro))
  · refine l_aload_n rfl rfl ?_
    refine l_bipush rfl rfl ?_
    refine l_pfi rfl rfl rfl rfl ?_
    obtain ⟨U30, eU30⟩ : ∃ T : sS, T = uI S 904 70 (Int32.ofInt 17) := ⟨_, rfl⟩
    rw [← eU30]
    have hHU30 : HI U30 := by rw [eU30]; exact HI_w hH (show 0 ≤ 17 by omega) (show 17 ≤ 20 by omega)
    have hFU30 : FR md_mo_others__2 S U30 := by rw [eU30]; exact FR.wI hF (mdf_i (r := (904, 905, 70, 71)) (List.mem_of_getElem? (i := 4) rfl) (inR_i (by omega) (by omega) (by omega) (by omega)))
    have w566 : Xi U30 904 70 = 17 := by rw [eU30]; exact Xi_same (by unfold rg; omega)
    refine l_aload_n rfl rfl ?_
    have w567 : Xi U30 904 65 = Xi S 904 65 := (show Xi U30 904 65 = Xi S 904 65 from by rw [eU30]; exact Xi_ne (by omega))
    have w568 : 0 ≤ Xi S 904 65 ∧ Xi S 904 65 ≤ 1 := hH.c _ _
    have w569 : Xi U30 904 69 = Xi S 904 69 := (show Xi U30 904 69 = Xi S 904 69 from by rw [eU30]; exact Xi_ne (by omega))
    have w570 : 0 ≤ Xi S 904 69 ∧ Xi S 904 69 ≤ 2600 := hH.c _ _
    have w571 : 0 ≤ Xi U30 904 70 ∧ Xi U30 904 70 ≤ 20 := hHU30.c _ _
    have w572 : Xi U30 904 8 = Xi S 904 8 := (show Xi U30 904 8 = Xi S 904 8 from by rw [eU30]; exact Xi_ne (by omega))
    have w573 : 0 ≤ Xi S 904 8 ∧ Xi S 904 8 ≤ 5010 := hH.c _ _
    have w574 : Xi U30 904 93 = Xi S 904 93 := (show Xi U30 904 93 = Xi S 904 93 from by rw [eU30]; exact Xi_ne (by omega))
    have w575 : 0 ≤ Xi S 904 93 ∧ Xi S 904 93 ≤ 1700 := hH.c _ _
    refine l_callV rfl rfl rfl (t_mo_name__2 hHU30 n c (by first | assumption | exact (TK_FR hFU30 rfl (by assumption : TK S _))) (by first | assumption | exact (AT_FR (FR_e eU30) rfl (by assumption : AT S _ _))) (by first | assumption | exact (RNV_FR (FR_e eU30) rfl (by assumption : RNV S _))) (by first | assumption | exact (BDA_FR (FR_e eU30) rfl (by assumption : BDA S))) _) ?_
    rintro _ T31 ⟨hHT31, w583, z582, rfl, w582, w576, w577, w578, w579, w580, w581⟩
    have hFT31 : FR md_mo_others__2 S T31 := FR.tr hFU30 w583 rfl
    show Rl _ _ _ _ _ [iv z582] _ _
    have w585 : 0 ≤ Xi T31 904 8 ∧ Xi T31 904 8 ≤ 5010 := hHT31.c _ _
    have w586 : 0 ≤ Xi T31 904 65 ∧ Xi T31 904 65 ≤ 1 := hHT31.c _ _
    have w587 : 0 ≤ Xi T31 904 69 ∧ Xi T31 904 69 ≤ 2600 := hHT31.c _ _
    have w588 : Xi T31 904 93 = Xi S 904 93 := (show Xi T31 904 93 = Xi U30 904 93 from w583.x _ _ rfl).trans ((show Xi U30 904 93 = Xi S 904 93 from by rw [eU30]; exact Xi_ne (by omega)))
    have w589 : 0 ≤ Xi S 904 93 ∧ Xi S 904 93 ≤ 1700 := hH.c _ _
    have c13 : Xi T31 904 65 = 0 → Xi S 904 69 + 1 ≤ Xi T31 904 69 := by omega
    have w584 : Xi S 904 8 ≤ Xi T31 904 8 ∧ Xi T31 904 8 ≤ n ∧ Xi S 904 69 ≤ Xi T31 904 69 ∧ (Xi T31 904 65 = 0 → Xi S 904 65 = 0) := by omega
    clear w577 w579 w580
    refine l_pop rfl rfl ?_
    refine l_aload_n rfl rfl ?_
    refine l_bipush rfl rfl ?_
    have w590 : 0 ≤ Xi T31 904 65 ∧ Xi T31 904 65 ≤ 1 := hHT31.c _ _
    have w591 : 0 ≤ Xi T31 904 69 ∧ Xi T31 904 69 ≤ 2600 := hHT31.c _ _
    have w592 : Xi T31 904 70 = Xi U30 904 70 := (show Xi T31 904 70 = Xi U30 904 70 from w583.x _ _ rfl)
    have w593 : 0 ≤ Xi U30 904 70 ∧ Xi U30 904 70 ≤ 20 := hHU30.c _ _
    have w594 : 0 ≤ Xi T31 904 8 ∧ Xi T31 904 8 ≤ 5010 := hHT31.c _ _
    have w595 : Xi T31 904 93 = Xi S 904 93 := (show Xi T31 904 93 = Xi U30 904 93 from w583.x _ _ rfl).trans ((show Xi U30 904 93 = Xi S 904 93 from by rw [eU30]; exact Xi_ne (by omega)))
    have w596 : 0 ≤ Xi S 904 93 ∧ Xi S 904 93 ≤ 1700 := hH.c _ _
    refine l_callV rfl rfl rfl (t_mo_take__3 hHT31 n c 112 ⟨by omega, by omega⟩ (by first | assumption | exact (TK_FR hFT31 rfl (by assumption : TK S _))) (by first | assumption | exact (by assumption : AT T31 _ _)) (by first | assumption | omega) (by first | assumption | exact (by assumption : BDA T31)) _) ?_
    rintro _ T32 ⟨hHT32, w603, rfl, w597, w598, w599, w600, w601⟩
    have hFT32 : FR md_mo_others__2 S T32 := FR.tr hFT31 w603 rfl
    show Rl _ _ _ _ _ [] _ _
    have w605 : 0 ≤ Xi T32 904 8 ∧ Xi T32 904 8 ≤ 5010 := hHT32.c _ _
    have w606 : 0 ≤ Xi T32 904 65 ∧ Xi T32 904 65 ≤ 1 := hHT32.c _ _
    have w607 : Xi T32 904 69 = Xi T31 904 69 := (show Xi T32 904 69 = Xi T31 904 69 from w603.x _ _ rfl)
    have w608 : 0 ≤ Xi T31 904 69 ∧ Xi T31 904 69 ≤ 2600 := hHT31.c _ _
    have w609 : Xi T32 904 93 = Xi S 904 93 := (show Xi T32 904 93 = Xi T31 904 93 from w603.x _ _ rfl).trans ( (show Xi T31 904 93 = Xi U30 904 93 from w583.x _ _ rfl).trans ((show Xi U30 904 93 = Xi S 904 93 from by rw [eU30]; exact Xi_ne (by omega))))
    have w610 : 0 ≤ Xi S 904 93 ∧ Xi S 904 93 ≤ 1700 := hH.c _ _
    have c20 : Xi T32 904 65 = 0 → Xi S 904 69 + 1 ≤ Xi T32 904 69 := by omega
    clear c13
    have w604 : Xi S 904 8 ≤ Xi T32 904 8 ∧ Xi T32 904 8 ≤ n ∧ Xi S 904 69 ≤ Xi T32 904 69 ∧ (Xi T32 904 65 = 0 → Xi S 904 65 = 0) := by omega
    clear w598 w599 w600 w584
    refine l_aload_n rfl rfl ?_
    have w611 : 0 ≤ Xi T32 904 65 ∧ Xi T32 904 65 ≤ 1 := hHT32.c _ _
    have w612 : Xi T32 904 69 = Xi T31 904 69 := (show Xi T32 904 69 = Xi T31 904 69 from w603.x _ _ rfl)
    have w613 : 0 ≤ Xi T31 904 69 ∧ Xi T31 904 69 ≤ 2600 := hHT31.c _ _
    have w614 : Xi T32 904 70 = Xi U30 904 70 := (show Xi T32 904 70 = Xi T31 904 70 from w603.x _ _ rfl).trans ((show Xi T31 904 70 = Xi U30 904 70 from w583.x _ _ rfl))
    have w615 : 0 ≤ Xi U30 904 70 ∧ Xi U30 904 70 ≤ 20 := hHU30.c _ _
    have w616 : 0 ≤ Xi T32 904 8 ∧ Xi T32 904 8 ≤ 5010 := hHT32.c _ _
    have w617 : Xi T32 904 93 = Xi S 904 93 := (show Xi T32 904 93 = Xi T31 904 93 from w603.x _ _ rfl).trans ( (show Xi T31 904 93 = Xi U30 904 93 from w583.x _ _ rfl).trans ((show Xi U30 904 93 = Xi S 904 93 from by rw [eU30]; exact Xi_ne (by omega))))
    have w618 : 0 ≤ Xi S 904 93 ∧ Xi S 904 93 ≤ 1700 := hH.c _ _
    refine l_callV rfl rfl rfl (t_mo_art__3 hHT32 n c (by first | assumption | exact (TK_FR hFT32 rfl (by assumption : TK S _))) (by first | assumption | exact (by assumption : AT T32 _ _)) (by first | assumption | exact (by assumption : BDA T32)) _) ?_
    rintro _ T33 ⟨hHT33, w624, rfl, w619, w620, w621, w622⟩
    have hFT33 : FR md_mo_others__2 S T33 := FR.tr hFT32 w624 rfl
    show Rl _ _ _ _ _ [] _ _
    have w626 : 0 ≤ Xi T33 904 8 ∧ Xi T33 904 8 ≤ 5010 := hHT33.c _ _
    have w627 : 0 ≤ Xi T33 904 65 ∧ Xi T33 904 65 ≤ 1 := hHT33.c _ _
    have w628 : Xi T33 904 69 = Xi T31 904 69 := (show Xi T33 904 69 = Xi T32 904 69 from w624.x _ _ rfl).trans ((show Xi T32 904 69 = Xi T31 904 69 from w603.x _ _ rfl))
    have w629 : 0 ≤ Xi T31 904 69 ∧ Xi T31 904 69 ≤ 2600 := hHT31.c _ _
    have w630 : Xi T33 904 93 = Xi S 904 93 := (show Xi T33 904 93 = Xi T32 904 93 from w624.x _ _ rfl).trans ( (show Xi T32 904 93 = Xi T31 904 93 from w603.x _ _ rfl).trans ( (show Xi T31 904 93 = Xi U30 904 93 from w583.x _ _ rfl).trans ((show Xi U30 904 93 = Xi S 904 93 from by rw [eU30]; exact Xi_ne (by omega)))))
    have w631 : 0 ≤ Xi S 904 93 ∧ Xi S 904 93 ≤ 1700 := hH.c _ _
    have c24 : Xi T33 904 65 = 0 → Xi S 904 69 + 1 ≤ Xi T33 904 69 := by omega
    clear c20
    have w625 : Xi S 904 8 ≤ Xi T33 904 8 ∧ Xi T33 904 8 ≤ n ∧ Xi S 904 69 ≤ Xi T33 904 69 ∧ (Xi T33 904 65 = 0 → Xi S 904 65 = 0) := by omega
    clear w620 w621 w604
    refine l_aload_n rfl rfl ?_
    have w632 : 0 ≤ Xi T33 904 65 ∧ Xi T33 904 65 ≤ 1 := hHT33.c _ _
    have w633 : Xi T33 904 69 = Xi T31 904 69 := (show Xi T33 904 69 = Xi T32 904 69 from w624.x _ _ rfl).trans ((show Xi T32 904 69 = Xi T31 904 69 from w603.x _ _ rfl))
    have w634 : 0 ≤ Xi T31 904 69 ∧ Xi T31 904 69 ≤ 2600 := hHT31.c _ _
    have w635 : Xi T33 904 70 = Xi U30 904 70 := (show Xi T33 904 70 = Xi T32 904 70 from w624.x _ _ rfl).trans ( (show Xi T32 904 70 = Xi T31 904 70 from w603.x _ _ rfl).trans ((show Xi T31 904 70 = Xi U30 904 70 from w583.x _ _ rfl)))
    have w636 : 0 ≤ Xi U30 904 70 ∧ Xi U30 904 70 ≤ 20 := hHU30.c _ _
    have w637 : 0 ≤ Xi T33 904 8 ∧ Xi T33 904 8 ≤ 5010 := hHT33.c _ _
    have w638 : Xi T33 904 93 = Xi S 904 93 := (show Xi T33 904 93 = Xi T32 904 93 from w624.x _ _ rfl).trans ( (show Xi T32 904 93 = Xi T31 904 93 from w603.x _ _ rfl).trans ( (show Xi T31 904 93 = Xi U30 904 93 from w583.x _ _ rfl).trans ((show Xi U30 904 93 = Xi S 904 93 from by rw [eU30]; exact Xi_ne (by omega)))))
    have w639 : 0 ≤ Xi S 904 93 ∧ Xi S 904 93 ≤ 1700 := hH.c _ _
    refine l_callV rfl rfl rfl (t_mo_run__2 hHT33 n c (by first | assumption | exact (TK_FR hFT33 rfl (by assumption : TK S _))) (by first | assumption | exact (by assumption : AT T33 _ _)) (by first | assumption | exact (RNV_FR w624 rfl (RNV_FR w603 rfl (by assumption : RNV T31 _)))) (by first | assumption | exact (by assumption : BDA T33)) _) ?_
    rintro _ T34 ⟨hHT34, w647, z646, rfl, w646, w640, w641, w642, w643, w644, w645⟩
    have hFT34 : FR md_mo_others__2 S T34 := FR.tr hFT33 w647 rfl
    show Rl _ _ _ _ _ [iv z646] _ _
    have w649 : 0 ≤ Xi T34 904 8 ∧ Xi T34 904 8 ≤ 5010 := hHT34.c _ _
    have w650 : 0 ≤ Xi T34 904 65 ∧ Xi T34 904 65 ≤ 1 := hHT34.c _ _
    have w651 : 0 ≤ Xi T34 904 69 ∧ Xi T34 904 69 ≤ 2600 := hHT34.c _ _
    have w652 : Xi T34 904 93 = Xi S 904 93 := (show Xi T34 904 93 = Xi T33 904 93 from w647.x _ _ rfl).trans ( (show Xi T33 904 93 = Xi T32 904 93 from w624.x _ _ rfl).trans ( (show Xi T32 904 93 = Xi T31 904 93 from w603.x _ _ rfl).trans ( (show Xi T31 904 93 = Xi U30 904 93 from w583.x _ _ rfl).trans ((show Xi U30 904 93 = Xi S 904 93 from by rw [eU30]; exact Xi_ne (by omega))))))
    have w653 : 0 ≤ Xi S 904 93 ∧ Xi S 904 93 ≤ 1700 := hH.c _ _
    have c28 : Xi T34 904 65 = 0 → Xi S 904 69 + 2 ≤ Xi T34 904 69 := by omega
    clear c24
    have w648 : Xi S 904 8 ≤ Xi T34 904 8 ∧ Xi T34 904 8 ≤ n ∧ Xi S 904 69 ≤ Xi T34 904 69 ∧ (Xi T34 904 65 = 0 → Xi S 904 65 = 0) := by omega
    clear w641 w643 w644 w625
    refine l_pop rfl rfl ?_
    have w654 : 0 ≤ Xi T34 904 65 ∧ Xi T34 904 65 ≤ 1 := hHT34.c _ _
    have w655 : 0 ≤ Xi T34 904 69 ∧ Xi T34 904 69 ≤ 2600 := hHT34.c _ _
    have w656 : Xi T34 904 70 = Xi U30 904 70 := (show Xi T34 904 70 = Xi T33 904 70 from w647.x _ _ rfl).trans ( (show Xi T33 904 70 = Xi T32 904 70 from w624.x _ _ rfl).trans ( (show Xi T32 904 70 = Xi T31 904 70 from w603.x _ _ rfl).trans ((show Xi T31 904 70 = Xi U30 904 70 from w583.x _ _ rfl))))
    have w657 : 0 ≤ Xi U30 904 70 ∧ Xi U30 904 70 ≤ 20 := hHU30.c _ _
    have w658 : 0 ≤ Xi T34 904 8 ∧ Xi T34 904 8 ≤ 5010 := hHT34.c _ _
    have w659 : Xi T34 904 93 = Xi S 904 93 := (show Xi T34 904 93 = Xi T33 904 93 from w647.x _ _ rfl).trans ( (show Xi T33 904 93 = Xi T32 904 93 from w624.x _ _ rfl).trans ( (show Xi T32 904 93 = Xi T31 904 93 from w603.x _ _ rfl).trans ( (show Xi T31 904 93 = Xi U30 904 93 from w583.x _ _ rfl).trans ((show Xi U30 904 93 = Xi S 904 93 from by rw [eU30]; exact Xi_ne (by omega))))))
    have w660 : 0 ≤ Xi S 904 93 ∧ Xi S 904 93 ≤ 1700 := hH.c _ _
    exact Rl_weak (C32 T34 hHT34 hFT34  (by first | assumption | exact (by assumption : AT T34 _ _)) (by first | assumption | exact (by assumption : RNV T34 _)) (by omega) (by omega) (by omega) (by omega) (by omega) (by first | exact c28 | omega) (by first | assumption | exact (by assumption : BDA T34))) (And.intro rfl (True.intro))

