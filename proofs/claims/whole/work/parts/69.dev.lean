/-! SAFETY of methods: printed by wip/safe (vc.py, decl.py) -/
def md_mo_common__2 : List rec := [(904, 905, 8, 9), (904, 905, 65, 66), (904, 905, 66, 67), (904, 905, 69, 70), (904, 905, 70, 71), (904, 905, 71, 72), (904, 905, 72, 73), (904, 905, 73, 74), (904, 905, 74, 75), (904, 905, 75, 76), (904, 905, 76, 77), (904, 905, 77, 78), (904, 905, 78, 79), (904, 905, 79, 80), (904, 905, 80, 81), (950, 951, 0, 100000), (951, 952, 0, 100000)]
abbrev Q_mo_common__2 (S : sS) (n : Nat) (c : Nat) : pst := fun r S1 => HI S1 ∧ FR md_mo_common__2 S S1 ∧ (r = none ∧ (AT S1 n c) ∧ (Xi S 904 8 ≤ Xi S1 904 8 ∧ Xi S1 904 8 ≤ n + 2) ∧ (RNV S1 n) ∧ (Xi S1 904 65 = 0 → Xi S 904 65 = 0) ∧ (Xi S 904 69 ≤ Xi S1 904 69) ∧ (Xi S1 904 65 = 0 → 9 ≤ Xi S1 904 70 ∧ Xi S1 904 70 ≤ 20) ∧ (Xi S1 904 65 = 0 → SNQ S1 n) ∧ (BDA S1))
set_option maxRecDepth 100000 in
set_option maxHeartbeats 4000000 in
theorem t_mo_common__2 {S : sS} (hH : HI S) (n : Nat) (c : Nat) (hT : TK S n) (hA : AT S n c) (hv : RNV S n) (hx : Xi S 904 8 ≤ n) (hb : Xi S 904 65 = 0) (hBDA : BDA S) (d : Nat) : Mt lay0 (d + 5) m_mo_common [.ref 904] S (Q_mo_common__2 S n c) := by
  refine Mt_R rfl rfl ?_
  have hF : FR md_mo_common__2 S S := FR.rf
  have w1 : 0 ≤ Xi S 904 65 ∧ Xi S 904 65 ≤ 1 := hH.c _ _
  have w2 : 0 ≤ Xi S 904 69 ∧ Xi S 904 69 ≤ 2600 := hH.c _ _
  have w3 : 0 ≤ Xi S 904 70 ∧ Xi S 904 70 ≤ 20 := hH.c _ _
  have w4 : 0 ≤ Xi S 904 8 ∧ Xi S 904 8 ≤ 5010 := hH.c _ _
  have hn5 := hT.1
  have hat := hA
  have h8 : 0 ≤ Xi S 904 8 ∧ Xi S 904 8 ≤ 5010 := hH.c _ _
  have h69 : 0 ≤ Xi S 904 69 ∧ Xi S 904 69 ≤ 2600 := hH.c _ _
  have ha0 : Xi S 904 65 = 0 → Xi S 904 8 ≤ n := fun q => (hA q).1
  have ha3 : Xi S 904 65 = 0 → 2 * Xi S 904 69 ≤ Xi S 904 8 + 1 := fun q => (hA q).2.1
  clear hat
  have C12 : ∀ (n12 : Nat) (v1 : Int) (v3 : Int), (0 ≤ v1 ∧ v1 ≤ 126) → (0 ≤ v3 ∧ v3 ≤ 5001) → (Xi S 904 8 ≤ v3 ∧ v3 ≤ n) → (BDA S) → n12 = (5002 - v3).toNat → Rl lay0 (d + 4) m_mo_common 12 [(0, .ref 904), (1, iv v1), (3, iv v3)] [] S (Q_mo_common__2 S n c) := by
    intro n12
    induction n12 using Nat.strongRecOn with
    | ind n12 ih12 =>
      intro v1 v3 w5 w6 w7 BDA_12 hm12
      have C95 : ∀  (v1 : Int), (0 ≤ v1 ∧ v1 ≤ 126) → (BDA S) → Rl lay0 (d + 4) m_mo_common 95 [(0, .ref 904), (1, iv v1)] [] S (Q_mo_common__2 S n c) := by
        intro v1 w8 BDA_95
        have C115 : (BDA S) → Rl lay0 (d + 4) m_mo_common 115 [(0, .ref 904)] [] S (Q_mo_common__2 S n c) := by
          intro BDA_115
          have C158 : ∀  (T1 : sS) (_ : HI T1) (_ : FR md_mo_common__2 S T1), (AT T1 n c) → (RNV T1 n) → (Xi S 904 8 ≤ Xi T1 904 8) → (Xi T1 904 8 ≤ n) → (Xi S 904 69 ≤ Xi T1 904 69) → (Xi T1 904 65 = 0 → Xi S 904 65 = 0) → (Xi T1 904 70 = 9) → (Xi T1 904 65 = 0 → Xi S 904 69 + 2 ≤ Xi T1 904 69) → (BDA T1) → Rl lay0 (d + 4) m_mo_common 158 [(0, .ref 904)] [] T1 (Q_mo_common__2 S n c) := by
            intro T1 hHT1 hFT1 A158 V158 w9 w10 w11 w12 w13 c158 BDA_158
            have w14 : 0 ≤ Xi T1 904 65 ∧ Xi T1 904 65 ≤ 1 := hHT1.c _ _
            have w15 : 0 ≤ Xi T1 904 69 ∧ Xi T1 904 69 ≤ 2600 := hHT1.c _ _
            have w16 : 0 ≤ Xi T1 904 70 ∧ Xi T1 904 70 ≤ 20 := hHT1.c _ _
            have w17 : 0 ≤ Xi T1 904 8 ∧ Xi T1 904 8 ≤ 5010 := hHT1.c _ _
            refine l_aload_n rfl rfl ?_
            have w18 : 0 ≤ Xi T1 904 65 ∧ Xi T1 904 65 ≤ 1 := hHT1.c _ _
            have w19 : 0 ≤ Xi T1 904 69 ∧ Xi T1 904 69 ≤ 2600 := hHT1.c _ _
            have w20 : 0 ≤ Xi T1 904 70 ∧ Xi T1 904 70 ≤ 20 := hHT1.c _ _
            have w21 : 0 ≤ Xi T1 904 71 ∧ Xi T1 904 71 ≤ 2600 := hHT1.c _ _
            have w22 : 0 ≤ Xi T1 904 72 ∧ Xi T1 904 72 ≤ 2600 := hHT1.c _ _
            have w23 : 0 ≤ Xi T1 904 73 ∧ Xi T1 904 73 ≤ 5 := hHT1.c _ _
            have w24 : 0 ≤ Xi T1 904 74 ∧ Xi T1 904 74 ≤ 2600 := hHT1.c _ _
            have w25 : -2 ≤ Xi T1 904 78 ∧ Xi T1 904 78 ≤ 5010 := hHT1.c _ _
            have w26 : 0 ≤ Xi T1 904 8 ∧ Xi T1 904 8 ≤ 5010 := hHT1.c _ _
            have w27 : 0 ≤ Xi T1 904 93 ∧ Xi T1 904 93 ≤ 1700 := hHT1.c _ _
            refine l_callV rfl rfl rfl (t_mo_be__3 hHT1 n c (by first | assumption | exact (TK_FR hFT1 rfl (by assumption : TK S _))) (by first | assumption | exact (by assumption : AT T1 _ _)) (by first | assumption | exact (by assumption : BDA T1)) _) ?_
            rintro _ T2 ⟨hHT2, w33, rfl, w28, w29, w30, w31⟩
            have hFT2 : FR md_mo_common__2 S T2 := FR.tr hFT1 w33 rfl
            show Rl _ _ _ _ _ [] _ _
            have w35 : 0 ≤ Xi T2 904 8 ∧ Xi T2 904 8 ≤ 5010 := hHT2.c _ _
            have w36 : 0 ≤ Xi T2 904 65 ∧ Xi T2 904 65 ≤ 1 := hHT2.c _ _
            have w37 : Xi T2 904 69 = Xi T1 904 69 := (show Xi T2 904 69 = Xi T1 904 69 from w33.x _ _ rfl)
            have w38 : 0 ≤ Xi T1 904 69 ∧ Xi T1 904 69 ≤ 2600 := hHT1.c _ _
            have w39 : Xi T2 904 93 = Xi T1 904 93 := (show Xi T2 904 93 = Xi T1 904 93 from w33.x _ _ rfl)
            have w40 : 0 ≤ Xi T1 904 93 ∧ Xi T1 904 93 ≤ 1700 := hHT1.c _ _
            have c159 : Xi T2 904 65 = 0 → Xi S 904 69 + 2 ≤ Xi T2 904 69 := by omega
            clear c158
            have w34 : Xi S 904 8 ≤ Xi T2 904 8 ∧ Xi T2 904 8 ≤ n ∧ Xi S 904 69 ≤ Xi T2 904 69 ∧ (Xi T2 904 65 = 0 → Xi S 904 65 = 0) := by omega
            clear w29 w30
            refine l_aload_n rfl rfl ?_
            have w41 : 0 ≤ Xi T2 904 65 ∧ Xi T2 904 65 ≤ 1 := hHT2.c _ _
            have w42 : Xi T2 904 69 = Xi T1 904 69 := (show Xi T2 904 69 = Xi T1 904 69 from w33.x _ _ rfl)
            have w43 : 0 ≤ Xi T1 904 69 ∧ Xi T1 904 69 ≤ 2600 := hHT1.c _ _
            have w44 : Xi T2 904 70 = Xi T1 904 70 := (show Xi T2 904 70 = Xi T1 904 70 from w33.x _ _ rfl)
            have w45 : 0 ≤ Xi T1 904 70 ∧ Xi T1 904 70 ≤ 20 := hHT1.c _ _
            have w46 : Xi T2 904 71 = Xi T1 904 71 := (show Xi T2 904 71 = Xi T1 904 71 from w33.x _ _ rfl)
            have w47 : 0 ≤ Xi T1 904 71 ∧ Xi T1 904 71 ≤ 2600 := hHT1.c _ _
            have w48 : Xi T2 904 72 = Xi T1 904 72 := (show Xi T2 904 72 = Xi T1 904 72 from w33.x _ _ rfl)
            have w49 : 0 ≤ Xi T1 904 72 ∧ Xi T1 904 72 ≤ 2600 := hHT1.c _ _
            have w50 : Xi T2 904 73 = Xi T1 904 73 := (show Xi T2 904 73 = Xi T1 904 73 from w33.x _ _ rfl)
            have w51 : 0 ≤ Xi T1 904 73 ∧ Xi T1 904 73 ≤ 5 := hHT1.c _ _
            have w52 : Xi T2 904 74 = Xi T1 904 74 := (show Xi T2 904 74 = Xi T1 904 74 from w33.x _ _ rfl)
            have w53 : 0 ≤ Xi T1 904 74 ∧ Xi T1 904 74 ≤ 2600 := hHT1.c _ _
            have w54 : Xi T2 904 78 = Xi T1 904 78 := (show Xi T2 904 78 = Xi T1 904 78 from w33.x _ _ rfl)
            have w55 : -2 ≤ Xi T1 904 78 ∧ Xi T1 904 78 ≤ 5010 := hHT1.c _ _
            have w56 : 0 ≤ Xi T2 904 8 ∧ Xi T2 904 8 ≤ 5010 := hHT2.c _ _
            have w57 : Xi T2 904 93 = Xi T1 904 93 := (show Xi T2 904 93 = Xi T1 904 93 from w33.x _ _ rfl)
            have w58 : 0 ≤ Xi T1 904 93 ∧ Xi T1 904 93 ≤ 1700 := hHT1.c _ _
            refine l_callV rfl rfl rfl (t_mo_what__3 hHT2 n c (by first | assumption | exact (TK_FR hFT2 rfl (by assumption : TK S _))) (by first | assumption | exact (by assumption : AT T2 _ _)) (by first | assumption | exact (RNV_FR w33 rfl (by assumption : RNV T1 _))) (by first | assumption | exact (by assumption : BDA T2)) _) ?_
            rintro _ T3 ⟨hHT3, w68, rfl, w59, w60, w61, w62, w63, w64, w65, w66⟩
            have hFT3 : FR md_mo_common__2 S T3 := FR.tr hFT2 w68 rfl
            show Rl _ _ _ _ _ [] _ _
            have w70 : 0 ≤ Xi T3 904 8 ∧ Xi T3 904 8 ≤ 5010 := hHT3.c _ _
            have w71 : 0 ≤ Xi T3 904 65 ∧ Xi T3 904 65 ≤ 1 := hHT3.c _ _
            have w72 : 0 ≤ Xi T3 904 69 ∧ Xi T3 904 69 ≤ 2600 := hHT3.c _ _
            have w73 : Xi T3 904 93 = Xi T1 904 93 := (show Xi T3 904 93 = Xi T2 904 93 from w68.x _ _ rfl).trans ((show Xi T2 904 93 = Xi T1 904 93 from w33.x _ _ rfl))
            have w74 : 0 ≤ Xi T1 904 93 ∧ Xi T1 904 93 ≤ 1700 := hHT1.c _ _
            have c163 : Xi T3 904 65 = 0 → Xi S 904 69 + 2 ≤ Xi T3 904 69 := by omega
            have W163 : Xi T3 904 65 = 0 → Xi T3 907 (Xi T3 904 78).toNat ≠ 4 → Xi T3 907 (Xi T3 904 78).toNat ≠ 5 → Xi S 904 69 + 3 ≤ Xi T3 904 69 := fun q a b => by have t := (by assumption : Xi T3 904 65 = 0 → Xi T2 907 (Xi T2 904 8).toNat ≠ 4 → Xi T2 907 (Xi T2 904 8).toNat ≠ 5 → _) q; rw [(hFT2.cx 907 rfl _).1, show Xi T2 904 8 = Xi T3 904 78 by omega, ← (hFT3.cx 907 rfl _).1] at t; have u := t a b; omega
            have L163 : Xi T3 904 65 = 0 → Xi T3 904 78 ≤ n := fun q => by have t := ((by assumption : AT T2 n c) (by omega)).1; omega
            clear c159
            have w69 : Xi S 904 8 ≤ Xi T3 904 8 ∧ Xi T3 904 8 ≤ n ∧ Xi S 904 69 ≤ Xi T3 904 69 ∧ (Xi T3 904 65 = 0 → Xi S 904 65 = 0) := by omega
            clear w60 w63 w64 w34
            refine l_goto rfl rfl ?_
            refine l_return rfl rfl ?_
            have w75 : 0 ≤ Xi T3 904 65 ∧ Xi T3 904 65 ≤ 1 := hHT3.c _ _
            have w76 : 0 ≤ Xi T3 904 69 ∧ Xi T3 904 69 ≤ 2600 := hHT3.c _ _
            have w77 : Xi T3 904 70 = Xi T1 904 70 := (show Xi T3 904 70 = Xi T2 904 70 from w68.x _ _ rfl).trans ((show Xi T2 904 70 = Xi T1 904 70 from w33.x _ _ rfl))
            have w78 : 0 ≤ Xi T1 904 70 ∧ Xi T1 904 70 ≤ 20 := hHT1.c _ _
            have w79 : Xi T3 904 71 = Xi T1 904 71 := (show Xi T3 904 71 = Xi T2 904 71 from w68.x _ _ rfl).trans ((show Xi T2 904 71 = Xi T1 904 71 from w33.x _ _ rfl))
            have w80 : 0 ≤ Xi T1 904 71 ∧ Xi T1 904 71 ≤ 2600 := hHT1.c _ _
            have w81 : Xi T3 904 72 = Xi T1 904 72 := (show Xi T3 904 72 = Xi T2 904 72 from w68.x _ _ rfl).trans ((show Xi T2 904 72 = Xi T1 904 72 from w33.x _ _ rfl))
            have w82 : 0 ≤ Xi T1 904 72 ∧ Xi T1 904 72 ≤ 2600 := hHT1.c _ _
            have w83 : Xi T3 904 73 = Xi T1 904 73 := (show Xi T3 904 73 = Xi T2 904 73 from w68.x _ _ rfl).trans ((show Xi T2 904 73 = Xi T1 904 73 from w33.x _ _ rfl))
            have w84 : 0 ≤ Xi T1 904 73 ∧ Xi T1 904 73 ≤ 5 := hHT1.c _ _
            have w85 : Xi T3 904 74 = Xi T1 904 74 := (show Xi T3 904 74 = Xi T2 904 74 from w68.x _ _ rfl).trans ((show Xi T2 904 74 = Xi T1 904 74 from w33.x _ _ rfl))
            have w86 : 0 ≤ Xi T1 904 74 ∧ Xi T1 904 74 ≤ 2600 := hHT1.c _ _
            have w87 : -2 ≤ Xi T3 904 78 ∧ Xi T3 904 78 ≤ 5010 := hHT3.c _ _
            have w88 : 0 ≤ Xi T3 904 8 ∧ Xi T3 904 8 ≤ 5010 := hHT3.c _ _
            have w89 : Xi T3 904 93 = Xi T1 904 93 := (show Xi T3 904 93 = Xi T2 904 93 from w68.x _ _ rfl).trans ((show Xi T2 904 93 = Xi T1 904 93 from w33.x _ _ rfl))
            have w90 : 0 ≤ Xi T1 904 93 ∧ Xi T1 904 93 ≤ 1700 := hHT1.c _ _
            exact ⟨hHT3, hFT3, rfl, (by first | assumption | exact AT_bad (by omega)), (by omega), (by first | assumption | exact (by assumption : RNV T3 _)), (by omega), (by omega), (by omega), (by first | exact q109 | exact q186 | exact (fun _ => fun q => by unfold SNQ; refine ⟨fun q1 => absurd q1 (by omega), by omega, by omega, by omega, fun q9 => ⟨by omega, by omega, fun x y => by have t := W163 (by omega) x y; omega⟩, by omega, by omega, by omega, by omega, by omega⟩) W163 | exact fun q => absurd q (by omega)), (by first | assumption | exact (by assumption : BDA T3))⟩
          refine l_aload_n rfl rfl ?_
          refine l_aload_n rfl rfl ?_
          refine l_gfi rfl rfl rfl rfl rfl ?_
          have w91 : 0 ≤ Xi S 904 65 ∧ Xi S 904 65 ≤ 1 := hH.c _ _
          have w92 : 0 ≤ Xi S 904 69 ∧ Xi S 904 69 ≤ 2600 := hH.c _ _
          have w93 : 0 ≤ Xi S 904 70 ∧ Xi S 904 70 ≤ 20 := hH.c _ _
          have w94 : 0 ≤ Xi S 904 71 ∧ Xi S 904 71 ≤ 2600 := hH.c _ _
          have w95 : 0 ≤ Xi S 904 72 ∧ Xi S 904 72 ≤ 2600 := hH.c _ _
          have w96 : 0 ≤ Xi S 904 73 ∧ Xi S 904 73 ≤ 5 := hH.c _ _
          have w97 : 0 ≤ Xi S 904 74 ∧ Xi S 904 74 ≤ 2600 := hH.c _ _
          have w98 : -2 ≤ Xi S 904 78 ∧ Xi S 904 78 ≤ 5010 := hH.c _ _
          have w99 : 0 ≤ Xi S 904 8 ∧ Xi S 904 8 ≤ 5010 := hH.c _ _
          have w100 : 0 ≤ Xi S 904 93 ∧ Xi S 904 93 ≤ 1700 := hH.c _ _
          refine l_callV rfl rfl rfl (t_mo_beginsOf__2 hH n (Xi S 904 8) ⟨by omega, by omega⟩ (by first | assumption | exact (TK_FR hF rfl (by assumption : TK S _))) (by first | assumption | omega) _) ?_
          rintro _ _ ⟨rfl, z102, rfl, w102, w101⟩
          show Rl _ _ _ _ _ [iv z102] _ _
          refine l_if_eq rfl rfl (by unfold rg; omega) (fun w103 => ?_) (fun w104 => ?_)
          · refine l_aload_n rfl rfl ?_
            refine l_iconst rfl ?_
            have w105 : 0 ≤ Xi S 904 65 ∧ Xi S 904 65 ≤ 1 := hH.c _ _
            have w106 : 0 ≤ Xi S 904 69 ∧ Xi S 904 69 ≤ 2600 := hH.c _ _
            have w107 : 0 ≤ Xi S 904 70 ∧ Xi S 904 70 ≤ 20 := hH.c _ _
            have w108 : 0 ≤ Xi S 904 71 ∧ Xi S 904 71 ≤ 2600 := hH.c _ _
            have w109 : 0 ≤ Xi S 904 72 ∧ Xi S 904 72 ≤ 2600 := hH.c _ _
            have w110 : 0 ≤ Xi S 904 73 ∧ Xi S 904 73 ≤ 5 := hH.c _ _
            have w111 : 0 ≤ Xi S 904 74 ∧ Xi S 904 74 ≤ 2600 := hH.c _ _
            have w112 : -2 ≤ Xi S 904 78 ∧ Xi S 904 78 ≤ 5010 := hH.c _ _
            have w113 : 0 ≤ Xi S 904 8 ∧ Xi S 904 8 ≤ 5010 := hH.c _ _
            have w114 : 0 ≤ Xi S 904 93 ∧ Xi S 904 93 ≤ 1700 := hH.c _ _
            refine l_callV rfl rfl rfl (t_mo_list__3 hH n c 1 ⟨by omega, by omega⟩ (by first | assumption | exact (TK_FR hF rfl (by assumption : TK S _))) (by first | assumption | exact (by assumption : AT S _ _)) (by first | assumption | exact (by assumption : RNV S _)) (by first | assumption | exact (by assumption : BDA S)) _) ?_
            rintro _ T4 ⟨hHT4, w124, rfl, w115, w116, w117, w118, w119, w120, w121, w122⟩
            have hFT4 : FR md_mo_common__2 S T4 := FR.tr hF w124 rfl
            show Rl _ _ _ _ _ [] _ _
            have w126 : 0 ≤ Xi T4 904 8 ∧ Xi T4 904 8 ≤ 5010 := hHT4.c _ _
            have w127 : 0 ≤ Xi T4 904 65 ∧ Xi T4 904 65 ≤ 1 := hHT4.c _ _
            have w128 : 0 ≤ Xi T4 904 69 ∧ Xi T4 904 69 ≤ 2600 := hHT4.c _ _
            have w129 : Xi T4 904 93 = Xi S 904 93 := (show Xi T4 904 93 = Xi S 904 93 from w124.x _ _ rfl)
            have w130 : 0 ≤ Xi S 904 93 ∧ Xi S 904 93 ≤ 1700 := hH.c _ _
            have f171 : Xi T4 904 71 + Xi T4 904 72 ≤ Xi T4 904 69 ∧ (Xi T4 904 65 = 0 → 1 ≤ Xi T4 904 72) := by omega
            have w125 : Xi S 904 8 ≤ Xi T4 904 8 ∧ Xi T4 904 8 ≤ n ∧ Xi S 904 69 ≤ Xi T4 904 69 ∧ (Xi T4 904 65 = 0 → Xi S 904 65 = 0) := by omega
            clear w116 w119 w120
            refine l_aload_n rfl rfl ?_
            have w131 : 0 ≤ Xi T4 904 65 ∧ Xi T4 904 65 ≤ 1 := hHT4.c _ _
            have w132 : 0 ≤ Xi T4 904 69 ∧ Xi T4 904 69 ≤ 2600 := hHT4.c _ _
            have w133 : Xi T4 904 70 = Xi S 904 70 := (show Xi T4 904 70 = Xi S 904 70 from w124.x _ _ rfl)
            have w134 : 0 ≤ Xi S 904 70 ∧ Xi S 904 70 ≤ 20 := hH.c _ _
            have w135 : 0 ≤ Xi T4 904 71 ∧ Xi T4 904 71 ≤ 2600 := hHT4.c _ _
            have w136 : 0 ≤ Xi T4 904 72 ∧ Xi T4 904 72 ≤ 2600 := hHT4.c _ _
            have w137 : Xi T4 904 73 = Xi S 904 73 := (show Xi T4 904 73 = Xi S 904 73 from w124.x _ _ rfl)
            have w138 : 0 ≤ Xi S 904 73 ∧ Xi S 904 73 ≤ 5 := hH.c _ _
            have w139 : Xi T4 904 74 = Xi S 904 74 := (show Xi T4 904 74 = Xi S 904 74 from w124.x _ _ rfl)
            have w140 : 0 ≤ Xi S 904 74 ∧ Xi S 904 74 ≤ 2600 := hH.c _ _
            have w141 : Xi T4 904 78 = Xi S 904 78 := (show Xi T4 904 78 = Xi S 904 78 from w124.x _ _ rfl)
            have w142 : -2 ≤ Xi S 904 78 ∧ Xi S 904 78 ≤ 5010 := hH.c _ _
            have w143 : 0 ≤ Xi T4 904 8 ∧ Xi T4 904 8 ≤ 5010 := hHT4.c _ _
            have w144 : Xi T4 904 93 = Xi S 904 93 := (show Xi T4 904 93 = Xi S 904 93 from w124.x _ _ rfl)
            have w145 : 0 ≤ Xi S 904 93 ∧ Xi S 904 93 ≤ 1700 := hH.c _ _
            refine l_callV rfl rfl rfl (t_mo_be__3 hHT4 n c (by first | assumption | exact (TK_FR hFT4 rfl (by assumption : TK S _))) (by first | assumption | exact (by assumption : AT T4 _ _)) (by first | assumption | exact (by assumption : BDA T4)) _) ?_
            rintro _ T5 ⟨hHT5, w151, rfl, w146, w147, w148, w149⟩
            have hFT5 : FR md_mo_common__2 S T5 := FR.tr hFT4 w151 rfl
            show Rl _ _ _ _ _ [] _ _
            have w153 : 0 ≤ Xi T5 904 8 ∧ Xi T5 904 8 ≤ 5010 := hHT5.c _ _
            have w154 : 0 ≤ Xi T5 904 65 ∧ Xi T5 904 65 ≤ 1 := hHT5.c _ _
            have w155 : Xi T5 904 69 = Xi T4 904 69 := (show Xi T5 904 69 = Xi T4 904 69 from w151.x _ _ rfl)
            have w156 : 0 ≤ Xi T4 904 69 ∧ Xi T4 904 69 ≤ 2600 := hHT4.c _ _
            have w157 : Xi T5 904 93 = Xi S 904 93 := (show Xi T5 904 93 = Xi T4 904 93 from w151.x _ _ rfl).trans ((show Xi T4 904 93 = Xi S 904 93 from w124.x _ _ rfl))
            have w158 : 0 ≤ Xi S 904 93 ∧ Xi S 904 93 ≤ 1700 := hH.c _ _
            have y175 : Xi T5 904 71 = Xi T4 904 71 ∧ Xi T5 904 72 = Xi T4 904 72 := ⟨(by assumption : FR md_mo_be T4 T5).x 904 71 rfl, (by assumption : FR md_mo_be T4 T5).x 904 72 rfl⟩
            have f175 : Xi T5 904 71 + Xi T5 904 72 ≤ Xi T5 904 69 ∧ (Xi T5 904 65 = 0 → 1 ≤ Xi T5 904 72) := by omega
            clear f171
            have w152 : Xi S 904 8 ≤ Xi T5 904 8 ∧ Xi T5 904 8 ≤ n ∧ Xi S 904 69 ≤ Xi T5 904 69 ∧ (Xi T5 904 65 = 0 → Xi S 904 65 = 0) := by omega
            clear w147 w148 w125
            refine l_aload_n rfl rfl ?_
            refine l_gfi rfl rfl rfl rfl rfl ?_
            have w159 : 0 ≤ (Xi T5 904 65) ∧ (Xi T5 904 65) ≤ 1 := hHT5.c _ _
            refine l_if_ne rfl rfl (by unfold rg; omega) (fun w160 => ?_) (fun w161 => ?_)
            · refine l_return rfl rfl ?_
              have w162 : 0 ≤ Xi T5 904 65 ∧ Xi T5 904 65 ≤ 1 := hHT5.c _ _
              have w163 : Xi T5 904 69 = Xi T4 904 69 := (show Xi T5 904 69 = Xi T4 904 69 from w151.x _ _ rfl)
              have w164 : 0 ≤ Xi T4 904 69 ∧ Xi T4 904 69 ≤ 2600 := hHT4.c _ _
              have w165 : Xi T5 904 70 = Xi S 904 70 := (show Xi T5 904 70 = Xi T4 904 70 from w151.x _ _ rfl).trans ((show Xi T4 904 70 = Xi S 904 70 from w124.x _ _ rfl))
              have w166 : 0 ≤ Xi S 904 70 ∧ Xi S 904 70 ≤ 20 := hH.c _ _
              have w167 : Xi T5 904 71 = Xi T4 904 71 := (show Xi T5 904 71 = Xi T4 904 71 from w151.x _ _ rfl)
              have w168 : 0 ≤ Xi T4 904 71 ∧ Xi T4 904 71 ≤ 2600 := hHT4.c _ _
              have w169 : Xi T5 904 72 = Xi T4 904 72 := (show Xi T5 904 72 = Xi T4 904 72 from w151.x _ _ rfl)
              have w170 : 0 ≤ Xi T4 904 72 ∧ Xi T4 904 72 ≤ 2600 := hHT4.c _ _
              have w171 : Xi T5 904 73 = Xi S 904 73 := (show Xi T5 904 73 = Xi T4 904 73 from w151.x _ _ rfl).trans ((show Xi T4 904 73 = Xi S 904 73 from w124.x _ _ rfl))
              have w172 : 0 ≤ Xi S 904 73 ∧ Xi S 904 73 ≤ 5 := hH.c _ _
              have w173 : Xi T5 904 74 = Xi S 904 74 := (show Xi T5 904 74 = Xi T4 904 74 from w151.x _ _ rfl).trans ((show Xi T4 904 74 = Xi S 904 74 from w124.x _ _ rfl))
              have w174 : 0 ≤ Xi S 904 74 ∧ Xi S 904 74 ≤ 2600 := hH.c _ _
              have w175 : Xi T5 904 78 = Xi S 904 78 := (show Xi T5 904 78 = Xi T4 904 78 from w151.x _ _ rfl).trans ((show Xi T4 904 78 = Xi S 904 78 from w124.x _ _ rfl))
              have w176 : -2 ≤ Xi S 904 78 ∧ Xi S 904 78 ≤ 5010 := hH.c _ _
              have w177 : 0 ≤ Xi T5 904 8 ∧ Xi T5 904 8 ≤ 5010 := hHT5.c _ _
              have w178 : Xi T5 904 93 = Xi S 904 93 := (show Xi T5 904 93 = Xi T4 904 93 from w151.x _ _ rfl).trans ((show Xi T4 904 93 = Xi S 904 93 from w124.x _ _ rfl))
              have w179 : 0 ≤ Xi S 904 93 ∧ Xi S 904 93 ≤ 1700 := hH.c _ _
              exact ⟨hHT5, hFT5, rfl, (by first | assumption | exact AT_bad (by omega)), (by omega), (by first | assumption | exact (RNV_FR w151 rfl (by assumption : RNV T4 _))), (by omega), (by omega), (by omega), (by first | exact q109 | exact q186 | exact (fun _ => fun q => by unfold SNQ; refine ⟨fun q1 => absurd q1 (by omega), by omega, by omega, by omega, fun q9 => ⟨by omega, by omega, fun x y => by have t := W163 (by omega) x y; omega⟩, by omega, by omega, by omega, by omega, by omega⟩) W163 | exact fun q => absurd q (by omega)), (by first | assumption | exact (by assumption : BDA T5))⟩
            · refine l_aload_n rfl rfl ?_
              have w180 : 0 ≤ Xi T5 904 65 ∧ Xi T5 904 65 ≤ 1 := hHT5.c _ _
              have w181 : Xi T5 904 69 = Xi T4 904 69 := (show Xi T5 904 69 = Xi T4 904 69 from w151.x _ _ rfl)
              have w182 : 0 ≤ Xi T4 904 69 ∧ Xi T4 904 69 ≤ 2600 := hHT4.c _ _
              have w183 : Xi T5 904 70 = Xi S 904 70 := (show Xi T5 904 70 = Xi T4 904 70 from w151.x _ _ rfl).trans ((show Xi T4 904 70 = Xi S 904 70 from w124.x _ _ rfl))
              have w184 : 0 ≤ Xi S 904 70 ∧ Xi S 904 70 ≤ 20 := hH.c _ _
              have w185 : Xi T5 904 71 = Xi T4 904 71 := (show Xi T5 904 71 = Xi T4 904 71 from w151.x _ _ rfl)
              have w186 : 0 ≤ Xi T4 904 71 ∧ Xi T4 904 71 ≤ 2600 := hHT4.c _ _
              have w187 : Xi T5 904 72 = Xi T4 904 72 := (show Xi T5 904 72 = Xi T4 904 72 from w151.x _ _ rfl)
              have w188 : 0 ≤ Xi T4 904 72 ∧ Xi T4 904 72 ≤ 2600 := hHT4.c _ _
              have w189 : Xi T5 904 73 = Xi S 904 73 := (show Xi T5 904 73 = Xi T4 904 73 from w151.x _ _ rfl).trans ((show Xi T4 904 73 = Xi S 904 73 from w124.x _ _ rfl))
              have w190 : 0 ≤ Xi S 904 73 ∧ Xi S 904 73 ≤ 5 := hH.c _ _
              have w191 : Xi T5 904 74 = Xi S 904 74 := (show Xi T5 904 74 = Xi T4 904 74 from w151.x _ _ rfl).trans ((show Xi T4 904 74 = Xi S 904 74 from w124.x _ _ rfl))
              have w192 : 0 ≤ Xi S 904 74 ∧ Xi S 904 74 ≤ 2600 := hH.c _ _
              have w193 : Xi T5 904 78 = Xi S 904 78 := (show Xi T5 904 78 = Xi T4 904 78 from w151.x _ _ rfl).trans ((show Xi T4 904 78 = Xi S 904 78 from w124.x _ _ rfl))
              have w194 : -2 ≤ Xi S 904 78 ∧ Xi S 904 78 ≤ 5010 := hH.c _ _
              have w195 : 0 ≤ Xi T5 904 8 ∧ Xi T5 904 8 ≤ 5010 := hHT5.c _ _
              have w196 : Xi T5 904 93 = Xi S 904 93 := (show Xi T5 904 93 = Xi T4 904 93 from w151.x _ _ rfl).trans ((show Xi T4 904 93 = Xi S 904 93 from w124.x _ _ rfl))
              have w197 : 0 ≤ Xi S 904 93 ∧ Xi S 904 93 ≤ 1700 := hH.c _ _
              refine l_callV rfl rfl rfl (t_mo_rest__2 hHT5 n c (by first | assumption | exact (TK_FR hFT5 rfl (by assumption : TK S _))) (by first | assumption | exact (by assumption : AT T5 _ _)) (by first | assumption | exact (RNV_FR w151 rfl (by assumption : RNV T4 _))) (by first | assumption | omega) (by first | assumption | omega) (by first | assumption | exact (by assumption : BDA T5)) _) ?_
              rintro _ T6 ⟨hHT6, w206, rfl, w198, w199, w200, w201, w202, w203, q186, w204⟩
              have hFT6 : FR md_mo_common__2 S T6 := FR.tr hFT5 w206 rfl
              show Rl _ _ _ _ _ [] _ _
              have w208 : 0 ≤ Xi T6 904 8 ∧ Xi T6 904 8 ≤ 5010 := hHT6.c _ _
              have w209 : 0 ≤ Xi T6 904 65 ∧ Xi T6 904 65 ≤ 1 := hHT6.c _ _
              have w210 : 0 ≤ Xi T6 904 69 ∧ Xi T6 904 69 ≤ 2600 := hHT6.c _ _
              have w211 : Xi T6 904 93 = Xi S 904 93 := (show Xi T6 904 93 = Xi T5 904 93 from w206.x _ _ rfl).trans ( (show Xi T5 904 93 = Xi T4 904 93 from w151.x _ _ rfl).trans ((show Xi T4 904 93 = Xi S 904 93 from w124.x _ _ rfl)))
              have w212 : 0 ≤ Xi S 904 93 ∧ Xi S 904 93 ≤ 1700 := hH.c _ _
              have w207 : Xi S 904 8 ≤ Xi T6 904 8 ∧ Xi T6 904 8 ≤ n ∧ Xi S 904 69 ≤ Xi T6 904 69 ∧ (Xi T6 904 65 = 0 → Xi S 904 65 = 0) := by omega
              clear w199 w201 w202 w152
              refine l_return rfl rfl ?_
              have w213 : 0 ≤ Xi T6 904 65 ∧ Xi T6 904 65 ≤ 1 := hHT6.c _ _
              have w214 : 0 ≤ Xi T6 904 69 ∧ Xi T6 904 69 ≤ 2600 := hHT6.c _ _
              have w215 : 0 ≤ Xi T6 904 70 ∧ Xi T6 904 70 ≤ 20 := hHT6.c _ _
              have w216 : Xi T6 904 71 = Xi T4 904 71 := (show Xi T6 904 71 = Xi T5 904 71 from w206.x _ _ rfl).trans ((show Xi T5 904 71 = Xi T4 904 71 from w151.x _ _ rfl))
              have w217 : 0 ≤ Xi T4 904 71 ∧ Xi T4 904 71 ≤ 2600 := hHT4.c _ _
              have w218 : Xi T6 904 72 = Xi T4 904 72 := (show Xi T6 904 72 = Xi T5 904 72 from w206.x _ _ rfl).trans ((show Xi T5 904 72 = Xi T4 904 72 from w151.x _ _ rfl))
              have w219 : 0 ≤ Xi T4 904 72 ∧ Xi T4 904 72 ≤ 2600 := hHT4.c _ _
              have w220 : 0 ≤ Xi T6 904 73 ∧ Xi T6 904 73 ≤ 5 := hHT6.c _ _
              have w221 : 0 ≤ Xi T6 904 74 ∧ Xi T6 904 74 ≤ 2600 := hHT6.c _ _
              have w222 : -2 ≤ Xi T6 904 78 ∧ Xi T6 904 78 ≤ 5010 := hHT6.c _ _
              have w223 : 0 ≤ Xi T6 904 8 ∧ Xi T6 904 8 ≤ 5010 := hHT6.c _ _
              have w224 : Xi T6 904 93 = Xi S 904 93 := (show Xi T6 904 93 = Xi T5 904 93 from w206.x _ _ rfl).trans ( (show Xi T5 904 93 = Xi T4 904 93 from w151.x _ _ rfl).trans ((show Xi T4 904 93 = Xi S 904 93 from w124.x _ _ rfl)))
              have w225 : 0 ≤ Xi S 904 93 ∧ Xi S 904 93 ≤ 1700 := hH.c _ _
              exact ⟨hHT6, hFT6, rfl, (by first | assumption | exact AT_bad (by omega)), (by omega), (by first | assumption | exact (by assumption : RNV T6 _)), (by omega), (by omega), (by omega), (by first | exact q109 | exact q186 | exact (fun _ => fun q => by unfold SNQ; refine ⟨fun q1 => absurd q1 (by omega), by omega, by omega, by omega, fun q9 => ⟨by omega, by omega, fun x y => by have t := W163 (by omega) x y; omega⟩, by omega, by omega, by omega, by omega, by omega⟩) W163 | exact fun q => absurd q (by omega)), (by first | assumption | exact (by assumption : BDA T6))⟩
          · refine l_aload_n rfl rfl ?_
            refine l_bipush rfl rfl ?_
            refine l_pfi rfl rfl rfl rfl ?_
            obtain ⟨U7, eU7⟩ : ∃ T : sS, T = uI S 904 70 (Int32.ofInt 9) := ⟨_, rfl⟩
            rw [← eU7]
            have hHU7 : HI U7 := by rw [eU7]; exact HI_w hH (show 0 ≤ 9 by omega) (show 9 ≤ 20 by omega)
            have hFU7 : FR md_mo_common__2 S U7 := by rw [eU7]; exact FR.wI hF (mdf_i (r := (904, 905, 70, 71)) (List.mem_of_getElem? (i := 4) rfl) (inR_i (by omega) (by omega) (by omega) (by omega)))
            have w226 : Xi U7 904 70 = 9 := by rw [eU7]; exact Xi_same (by unfold rg; omega)
            refine l_aload_n rfl rfl ?_
            refine l_dup rfl rfl ?_
            refine l_gfi rfl rfl rfl rfl rfl ?_
            have w227 : (Xi U7 904 8) = (Xi S 904 8) := (show Xi U7 904 8 = Xi S 904 8 from by rw [eU7]; exact Xi_ne (by omega))
            rw [w227]
            refine l_iconst rfl ?_
            refine l_iadd rfl ?_
            refine l_pfi rfl rfl rfl rfl ?_
            obtain ⟨U8, eU8⟩ : ∃ T : sS, T = uI U7 904 8 (Int32.ofInt ((Xi S 904 8) + 1)) := ⟨_, rfl⟩
            rw [← eU8]
            have hHU8 : HI U8 := by rw [eU8]; exact HI_w hHU7 (show 0 ≤ ((Xi S 904 8) + 1) by omega) (show ((Xi S 904 8) + 1) ≤ 5010 by omega)
            have hFU8 : FR md_mo_common__2 S U8 := by rw [eU8]; exact FR.wI hFU7 (mdf_i (r := (904, 905, 8, 9)) (List.mem_of_getElem? (i := 0) rfl) (inR_i (by omega) (by omega) (by omega) (by omega)))
            have w228 : Xi U8 904 8 = ((Xi S 904 8) + 1) := by rw [eU8]; exact Xi_same (by unfold rg; omega)
            have t139 : AT U8 n c ∧ _ := (at_mv (S := S) (P := U7) (TK_FR hF rfl (by assumption : TK S _)) (by first | assumption | exact (by assumption : AT S _ _)) (fun j => ((FR_e eU7).cx 907 rfl j).1) (fun j => ((FR_e eU7).cx 908 rfl j).1) ((show Xi U7 904 8 = Xi S 904 8 from by rw [eU7]; exact Xi_ne (by omega))) ((show Xi U7 904 65 = Xi S 904 65 from by rw [eU7]; exact Xi_ne (by omega))) ((show Xi U7 904 69 = Xi S 904 69 from by rw [eU7]; exact Xi_ne (by omega))) ((show Xi U7 904 93 = Xi S 904 93 from by rw [eU7]; exact Xi_ne (by omega))) eU8 (by omega) (by omega) (by omega) (by omega) (Or.inl rfl))
            have a139 : AT U8 n c := t139.1
            have l139 := t139.2
            refine l_aload_n rfl rfl ?_
            have w229 : Xi U8 904 65 = Xi S 904 65 := (show Xi U8 904 65 = Xi U7 904 65 from by rw [eU8]; exact Xi_ne (by omega)).trans ((show Xi U7 904 65 = Xi S 904 65 from by rw [eU7]; exact Xi_ne (by omega)))
            have w230 : 0 ≤ Xi S 904 65 ∧ Xi S 904 65 ≤ 1 := hH.c _ _
            have w231 : Xi U8 904 69 = Xi S 904 69 := (show Xi U8 904 69 = Xi U7 904 69 from by rw [eU8]; exact Xi_ne (by omega)).trans ((show Xi U7 904 69 = Xi S 904 69 from by rw [eU7]; exact Xi_ne (by omega)))
            have w232 : 0 ≤ Xi S 904 69 ∧ Xi S 904 69 ≤ 2600 := hH.c _ _
            have w233 : Xi U8 904 70 = Xi U7 904 70 := (show Xi U8 904 70 = Xi U7 904 70 from by rw [eU8]; exact Xi_ne (by omega))
            have w234 : 0 ≤ Xi U7 904 70 ∧ Xi U7 904 70 ≤ 20 := hHU7.c _ _
            have w235 : Xi U8 904 71 = Xi S 904 71 := (show Xi U8 904 71 = Xi U7 904 71 from by rw [eU8]; exact Xi_ne (by omega)).trans ((show Xi U7 904 71 = Xi S 904 71 from by rw [eU7]; exact Xi_ne (by omega)))
            have w236 : 0 ≤ Xi S 904 71 ∧ Xi S 904 71 ≤ 2600 := hH.c _ _
            have w237 : Xi U8 904 72 = Xi S 904 72 := (show Xi U8 904 72 = Xi U7 904 72 from by rw [eU8]; exact Xi_ne (by omega)).trans ((show Xi U7 904 72 = Xi S 904 72 from by rw [eU7]; exact Xi_ne (by omega)))
            have w238 : 0 ≤ Xi S 904 72 ∧ Xi S 904 72 ≤ 2600 := hH.c _ _
            have w239 : Xi U8 904 73 = Xi S 904 73 := (show Xi U8 904 73 = Xi U7 904 73 from by rw [eU8]; exact Xi_ne (by omega)).trans ((show Xi U7 904 73 = Xi S 904 73 from by rw [eU7]; exact Xi_ne (by omega)))
            have w240 : 0 ≤ Xi S 904 73 ∧ Xi S 904 73 ≤ 5 := hH.c _ _
            have w241 : Xi U8 904 74 = Xi S 904 74 := (show Xi U8 904 74 = Xi U7 904 74 from by rw [eU8]; exact Xi_ne (by omega)).trans ((show Xi U7 904 74 = Xi S 904 74 from by rw [eU7]; exact Xi_ne (by omega)))
            have w242 : 0 ≤ Xi S 904 74 ∧ Xi S 904 74 ≤ 2600 := hH.c _ _
            have w243 : Xi U8 904 78 = Xi S 904 78 := (show Xi U8 904 78 = Xi U7 904 78 from by rw [eU8]; exact Xi_ne (by omega)).trans ((show Xi U7 904 78 = Xi S 904 78 from by rw [eU7]; exact Xi_ne (by omega)))
            have w244 : -2 ≤ Xi S 904 78 ∧ Xi S 904 78 ≤ 5010 := hH.c _ _
            have w245 : 0 ≤ Xi U8 904 8 ∧ Xi U8 904 8 ≤ 5010 := hHU8.c _ _
            have w246 : Xi U8 904 93 = Xi S 904 93 := (show Xi U8 904 93 = Xi U7 904 93 from by rw [eU8]; exact Xi_ne (by omega)).trans ((show Xi U7 904 93 = Xi S 904 93 from by rw [eU7]; exact Xi_ne (by omega)))
            have w247 : 0 ≤ Xi S 904 93 ∧ Xi S 904 93 ≤ 1700 := hH.c _ _
            refine l_callV rfl rfl rfl (t_mo_run__2 hHU8 n c (by first | assumption | exact (TK_FR hFU8 rfl (by assumption : TK S _))) (by first | assumption | exact (by assumption : AT U8 _ _)) (by first | assumption | exact (RNV_FR (FR_e eU8) rfl (RNV_FR (FR_e eU7) rfl (by assumption : RNV S _)))) (by first | assumption | exact (BDA_FR (FR_e eU8) rfl (BDA_FR (FR_e eU7) rfl (by assumption : BDA S)))) _) ?_
            rintro _ T9 ⟨hHT9, w255, z254, rfl, w254, w248, w249, w250, w251, w252, w253⟩
            have hFT9 : FR md_mo_common__2 S T9 := FR.tr hFU8 w255 rfl
            show Rl _ _ _ _ _ [iv z254] _ _
            have w257 : 0 ≤ Xi T9 904 8 ∧ Xi T9 904 8 ≤ 5010 := hHT9.c _ _
            have w258 : 0 ≤ Xi T9 904 65 ∧ Xi T9 904 65 ≤ 1 := hHT9.c _ _
            have w259 : 0 ≤ Xi T9 904 69 ∧ Xi T9 904 69 ≤ 2600 := hHT9.c _ _
            have w260 : Xi T9 904 93 = Xi S 904 93 := (show Xi T9 904 93 = Xi U8 904 93 from w255.x _ _ rfl).trans ( (show Xi U8 904 93 = Xi U7 904 93 from by rw [eU8]; exact Xi_ne (by omega)).trans ((show Xi U7 904 93 = Xi S 904 93 from by rw [eU7]; exact Xi_ne (by omega))))
            have w261 : 0 ≤ Xi S 904 93 ∧ Xi S 904 93 ≤ 1700 := hH.c _ _
            have c143 : Xi T9 904 65 = 0 → Xi S 904 69 + 1 ≤ Xi T9 904 69 := by omega
            have w256 : Xi S 904 8 ≤ Xi T9 904 8 ∧ Xi T9 904 8 ≤ n ∧ Xi S 904 69 ≤ Xi T9 904 69 ∧ (Xi T9 904 65 = 0 → Xi S 904 65 = 0) := by omega
            clear w249 w251 w252
            refine l_pop rfl rfl ?_
            refine l_aload_n rfl rfl ?_
            refine l_bipush rfl rfl ?_
            have w262 : 0 ≤ Xi T9 904 65 ∧ Xi T9 904 65 ≤ 1 := hHT9.c _ _
            have w263 : 0 ≤ Xi T9 904 69 ∧ Xi T9 904 69 ≤ 2600 := hHT9.c _ _
            have w264 : Xi T9 904 70 = Xi U7 904 70 := (show Xi T9 904 70 = Xi U8 904 70 from w255.x _ _ rfl).trans ((show Xi U8 904 70 = Xi U7 904 70 from by rw [eU8]; exact Xi_ne (by omega)))
            have w265 : 0 ≤ Xi U7 904 70 ∧ Xi U7 904 70 ≤ 20 := hHU7.c _ _
            have w266 : Xi T9 904 71 = Xi S 904 71 := (show Xi T9 904 71 = Xi U8 904 71 from w255.x _ _ rfl).trans ( (show Xi U8 904 71 = Xi U7 904 71 from by rw [eU8]; exact Xi_ne (by omega)).trans ((show Xi U7 904 71 = Xi S 904 71 from by rw [eU7]; exact Xi_ne (by omega))))
            have w267 : 0 ≤ Xi S 904 71 ∧ Xi S 904 71 ≤ 2600 := hH.c _ _
            have w268 : Xi T9 904 72 = Xi S 904 72 := (show Xi T9 904 72 = Xi U8 904 72 from w255.x _ _ rfl).trans ( (show Xi U8 904 72 = Xi U7 904 72 from by rw [eU8]; exact Xi_ne (by omega)).trans ((show Xi U7 904 72 = Xi S 904 72 from by rw [eU7]; exact Xi_ne (by omega))))
            have w269 : 0 ≤ Xi S 904 72 ∧ Xi S 904 72 ≤ 2600 := hH.c _ _
            have w270 : Xi T9 904 73 = Xi S 904 73 := (show Xi T9 904 73 = Xi U8 904 73 from w255.x _ _ rfl).trans ( (show Xi U8 904 73 = Xi U7 904 73 from by rw [eU8]; exact Xi_ne (by omega)).trans ((show Xi U7 904 73 = Xi S 904 73 from by rw [eU7]; exact Xi_ne (by omega))))
            have w271 : 0 ≤ Xi S 904 73 ∧ Xi S 904 73 ≤ 5 := hH.c _ _
            have w272 : Xi T9 904 74 = Xi S 904 74 := (show Xi T9 904 74 = Xi U8 904 74 from w255.x _ _ rfl).trans ( (show Xi U8 904 74 = Xi U7 904 74 from by rw [eU8]; exact Xi_ne (by omega)).trans ((show Xi U7 904 74 = Xi S 904 74 from by rw [eU7]; exact Xi_ne (by omega))))
            have w273 : 0 ≤ Xi S 904 74 ∧ Xi S 904 74 ≤ 2600 := hH.c _ _
            have w274 : Xi T9 904 78 = Xi S 904 78 := (show Xi T9 904 78 = Xi U8 904 78 from w255.x _ _ rfl).trans ( (show Xi U8 904 78 = Xi U7 904 78 from by rw [eU8]; exact Xi_ne (by omega)).trans ((show Xi U7 904 78 = Xi S 904 78 from by rw [eU7]; exact Xi_ne (by omega))))
            have w275 : -2 ≤ Xi S 904 78 ∧ Xi S 904 78 ≤ 5010 := hH.c _ _
            have w276 : 0 ≤ Xi T9 904 8 ∧ Xi T9 904 8 ≤ 5010 := hHT9.c _ _
            have w277 : Xi T9 904 93 = Xi S 904 93 := (show Xi T9 904 93 = Xi U8 904 93 from w255.x _ _ rfl).trans ( (show Xi U8 904 93 = Xi U7 904 93 from by rw [eU8]; exact Xi_ne (by omega)).trans ((show Xi U7 904 93 = Xi S 904 93 from by rw [eU7]; exact Xi_ne (by omega))))
            have w278 : 0 ≤ Xi S 904 93 ∧ Xi S 904 93 ≤ 1700 := hH.c _ _
            refine l_callV rfl rfl rfl (t_mo_take__3 hHT9 n c 107 ⟨by omega, by omega⟩ (by first | assumption | exact (TK_FR hFT9 rfl (by assumption : TK S _))) (by first | assumption | exact (by assumption : AT T9 _ _)) (by first | assumption | omega) (by first | assumption | exact (by assumption : BDA T9)) _) ?_
            rintro _ T10 ⟨hHT10, w285, rfl, w279, w280, w281, w282, w283⟩
            have hFT10 : FR md_mo_common__2 S T10 := FR.tr hFT9 w285 rfl
            show Rl _ _ _ _ _ [] _ _
            have w287 : 0 ≤ Xi T10 904 8 ∧ Xi T10 904 8 ≤ 5010 := hHT10.c _ _
            have w288 : 0 ≤ Xi T10 904 65 ∧ Xi T10 904 65 ≤ 1 := hHT10.c _ _
            have w289 : Xi T10 904 69 = Xi T9 904 69 := (show Xi T10 904 69 = Xi T9 904 69 from w285.x _ _ rfl)
            have w290 : 0 ≤ Xi T9 904 69 ∧ Xi T9 904 69 ≤ 2600 := hHT9.c _ _
            have w291 : Xi T10 904 93 = Xi S 904 93 := (show Xi T10 904 93 = Xi T9 904 93 from w285.x _ _ rfl).trans ( (show Xi T9 904 93 = Xi U8 904 93 from w255.x _ _ rfl).trans ( (show Xi U8 904 93 = Xi U7 904 93 from by rw [eU8]; exact Xi_ne (by omega)).trans ((show Xi U7 904 93 = Xi S 904 93 from by rw [eU7]; exact Xi_ne (by omega)))))
            have w292 : 0 ≤ Xi S 904 93 ∧ Xi S 904 93 ≤ 1700 := hH.c _ _
            have c150 : Xi T10 904 65 = 0 → Xi S 904 69 + 1 ≤ Xi T10 904 69 := by omega
            clear c143
            have w286 : Xi S 904 8 ≤ Xi T10 904 8 ∧ Xi T10 904 8 ≤ n ∧ Xi S 904 69 ≤ Xi T10 904 69 ∧ (Xi T10 904 65 = 0 → Xi S 904 65 = 0) := by omega
            clear w280 w281 w282 w256
            refine l_aload_n rfl rfl ?_
            have w293 : 0 ≤ Xi T10 904 65 ∧ Xi T10 904 65 ≤ 1 := hHT10.c _ _
            have w294 : Xi T10 904 69 = Xi T9 904 69 := (show Xi T10 904 69 = Xi T9 904 69 from w285.x _ _ rfl)
            have w295 : 0 ≤ Xi T9 904 69 ∧ Xi T9 904 69 ≤ 2600 := hHT9.c _ _
            have w296 : Xi T10 904 70 = Xi U7 904 70 := (show Xi T10 904 70 = Xi T9 904 70 from w285.x _ _ rfl).trans ( (show Xi T9 904 70 = Xi U8 904 70 from w255.x _ _ rfl).trans ((show Xi U8 904 70 = Xi U7 904 70 from by rw [eU8]; exact Xi_ne (by omega))))
            have w297 : 0 ≤ Xi U7 904 70 ∧ Xi U7 904 70 ≤ 20 := hHU7.c _ _
            have w298 : Xi T10 904 71 = Xi S 904 71 := (show Xi T10 904 71 = Xi T9 904 71 from w285.x _ _ rfl).trans ( (show Xi T9 904 71 = Xi U8 904 71 from w255.x _ _ rfl).trans ( (show Xi U8 904 71 = Xi U7 904 71 from by rw [eU8]; exact Xi_ne (by omega)).trans ((show Xi U7 904 71 = Xi S 904 71 from by rw [eU7]; exact Xi_ne (by omega)))))
            have w299 : 0 ≤ Xi S 904 71 ∧ Xi S 904 71 ≤ 2600 := hH.c _ _
            have w300 : Xi T10 904 72 = Xi S 904 72 := (show Xi T10 904 72 = Xi T9 904 72 from w285.x _ _ rfl).trans ( (show Xi T9 904 72 = Xi U8 904 72 from w255.x _ _ rfl).trans ( (show Xi U8 904 72 = Xi U7 904 72 from by rw [eU8]; exact Xi_ne (by omega)).trans ((show Xi U7 904 72 = Xi S 904 72 from by rw [eU7]; exact Xi_ne (by omega)))))
            have w301 : 0 ≤ Xi S 904 72 ∧ Xi S 904 72 ≤ 2600 := hH.c _ _
            have w302 : Xi T10 904 73 = Xi S 904 73 := (show Xi T10 904 73 = Xi T9 904 73 from w285.x _ _ rfl).trans ( (show Xi T9 904 73 = Xi U8 904 73 from w255.x _ _ rfl).trans ( (show Xi U8 904 73 = Xi U7 904 73 from by rw [eU8]; exact Xi_ne (by omega)).trans ((show Xi U7 904 73 = Xi S 904 73 from by rw [eU7]; exact Xi_ne (by omega)))))
            have w303 : 0 ≤ Xi S 904 73 ∧ Xi S 904 73 ≤ 5 := hH.c _ _
            have w304 : Xi T10 904 74 = Xi S 904 74 := (show Xi T10 904 74 = Xi T9 904 74 from w285.x _ _ rfl).trans ( (show Xi T9 904 74 = Xi U8 904 74 from w255.x _ _ rfl).trans ( (show Xi U8 904 74 = Xi U7 904 74 from by rw [eU8]; exact Xi_ne (by omega)).trans ((show Xi U7 904 74 = Xi S 904 74 from by rw [eU7]; exact Xi_ne (by omega)))))
            have w305 : 0 ≤ Xi S 904 74 ∧ Xi S 904 74 ≤ 2600 := hH.c _ _
            have w306 : Xi T10 904 78 = Xi S 904 78 := (show Xi T10 904 78 = Xi T9 904 78 from w285.x _ _ rfl).trans ( (show Xi T9 904 78 = Xi U8 904 78 from w255.x _ _ rfl).trans ( (show Xi U8 904 78 = Xi U7 904 78 from by rw [eU8]; exact Xi_ne (by omega)).trans ((show Xi U7 904 78 = Xi S 904 78 from by rw [eU7]; exact Xi_ne (by omega)))))
            have w307 : -2 ≤ Xi S 904 78 ∧ Xi S 904 78 ≤ 5010 := hH.c _ _
            have w308 : 0 ≤ Xi T10 904 8 ∧ Xi T10 904 8 ≤ 5010 := hHT10.c _ _
            have w309 : Xi T10 904 93 = Xi S 904 93 := (show Xi T10 904 93 = Xi T9 904 93 from w285.x _ _ rfl).trans ( (show Xi T9 904 93 = Xi U8 904 93 from w255.x _ _ rfl).trans ( (show Xi U8 904 93 = Xi U7 904 93 from by rw [eU8]; exact Xi_ne (by omega)).trans ((show Xi U7 904 93 = Xi S 904 93 from by rw [eU7]; exact Xi_ne (by omega)))))
            have w310 : 0 ≤ Xi S 904 93 ∧ Xi S 904 93 ≤ 1700 := hH.c _ _
            refine l_callV rfl rfl rfl (t_mo_name__2 hHT10 n c (by first | assumption | exact (TK_FR hFT10 rfl (by assumption : TK S _))) (by first | assumption | exact (by assumption : AT T10 _ _)) (by first | assumption | exact (RNV_FR w285 rfl (by assumption : RNV T9 _))) (by first | assumption | exact (by assumption : BDA T10)) _) ?_
            rintro _ T11 ⟨hHT11, w318, z317, rfl, w317, w311, w312, w313, w314, w315, w316⟩
            have hFT11 : FR md_mo_common__2 S T11 := FR.tr hFT10 w318 rfl
            show Rl _ _ _ _ _ [iv z317] _ _
            have w320 : 0 ≤ Xi T11 904 8 ∧ Xi T11 904 8 ≤ 5010 := hHT11.c _ _
            have w321 : 0 ≤ Xi T11 904 65 ∧ Xi T11 904 65 ≤ 1 := hHT11.c _ _
            have w322 : 0 ≤ Xi T11 904 69 ∧ Xi T11 904 69 ≤ 2600 := hHT11.c _ _
            have w323 : Xi T11 904 93 = Xi S 904 93 := (show Xi T11 904 93 = Xi T10 904 93 from w318.x _ _ rfl).trans ( (show Xi T10 904 93 = Xi T9 904 93 from w285.x _ _ rfl).trans ( (show Xi T9 904 93 = Xi U8 904 93 from w255.x _ _ rfl).trans ( (show Xi U8 904 93 = Xi U7 904 93 from by rw [eU8]; exact Xi_ne (by omega)).trans ((show Xi U7 904 93 = Xi S 904 93 from by rw [eU7]; exact Xi_ne (by omega))))))
            have w324 : 0 ≤ Xi S 904 93 ∧ Xi S 904 93 ≤ 1700 := hH.c _ _
            have c154 : Xi T11 904 65 = 0 → Xi S 904 69 + 2 ≤ Xi T11 904 69 := by omega
            clear c150
            have w319 : Xi S 904 8 ≤ Xi T11 904 8 ∧ Xi T11 904 8 ≤ n ∧ Xi S 904 69 ≤ Xi T11 904 69 ∧ (Xi T11 904 65 = 0 → Xi S 904 65 = 0) := by omega
            clear w312 w314 w315 w286
            refine l_pop rfl rfl ?_
            have w325 : 0 ≤ Xi T11 904 65 ∧ Xi T11 904 65 ≤ 1 := hHT11.c _ _
            have w326 : 0 ≤ Xi T11 904 69 ∧ Xi T11 904 69 ≤ 2600 := hHT11.c _ _
            have w327 : Xi T11 904 70 = Xi U7 904 70 := (show Xi T11 904 70 = Xi T10 904 70 from w318.x _ _ rfl).trans ( (show Xi T10 904 70 = Xi T9 904 70 from w285.x _ _ rfl).trans ( (show Xi T9 904 70 = Xi U8 904 70 from w255.x _ _ rfl).trans ((show Xi U8 904 70 = Xi U7 904 70 from by rw [eU8]; exact Xi_ne (by omega)))))
            have w328 : 0 ≤ Xi U7 904 70 ∧ Xi U7 904 70 ≤ 20 := hHU7.c _ _
            have w329 : Xi T11 904 71 = Xi S 904 71 := (show Xi T11 904 71 = Xi T10 904 71 from w318.x _ _ rfl).trans ( (show Xi T10 904 71 = Xi T9 904 71 from w285.x _ _ rfl).trans ( (show Xi T9 904 71 = Xi U8 904 71 from w255.x _ _ rfl).trans ( (show Xi U8 904 71 = Xi U7 904 71 from by rw [eU8]; exact Xi_ne (by omega)).trans ((show Xi U7 904 71 = Xi S 904 71 from by rw [eU7]; exact Xi_ne (by omega))))))
            have w330 : 0 ≤ Xi S 904 71 ∧ Xi S 904 71 ≤ 2600 := hH.c _ _
            have w331 : Xi T11 904 72 = Xi S 904 72 := (show Xi T11 904 72 = Xi T10 904 72 from w318.x _ _ rfl).trans ( (show Xi T10 904 72 = Xi T9 904 72 from w285.x _ _ rfl).trans ( (show Xi T9 904 72 = Xi U8 904 72 from w255.x _ _ rfl).trans ( (show Xi U8 904 72 = Xi U7 904 72 from by rw [eU8]; exact Xi_ne (by omega)).trans ((show Xi U7 904 72 = Xi S 904 72 from by rw [eU7]; exact Xi_ne (by omega))))))
            have w332 : 0 ≤ Xi S 904 72 ∧ Xi S 904 72 ≤ 2600 := hH.c _ _
            have w333 : Xi T11 904 73 = Xi S 904 73 := (show Xi T11 904 73 = Xi T10 904 73 from w318.x _ _ rfl).trans ( (show Xi T10 904 73 = Xi T9 904 73 from w285.x _ _ rfl).trans ( (show Xi T9 904 73 = Xi U8 904 73 from w255.x _ _ rfl).trans ( (show Xi U8 904 73 = Xi U7 904 73 from by rw [eU8]; exact Xi_ne (by omega)).trans ((show Xi U7 904 73 = Xi S 904 73 from by rw [eU7]; exact Xi_ne (by omega))))))
            have w334 : 0 ≤ Xi S 904 73 ∧ Xi S 904 73 ≤ 5 := hH.c _ _
            have w335 : Xi T11 904 74 = Xi S 904 74 := (show Xi T11 904 74 = Xi T10 904 74 from w318.x _ _ rfl).trans ( (show Xi T10 904 74 = Xi T9 904 74 from w285.x _ _ rfl).trans ( (show Xi T9 904 74 = Xi U8 904 74 from w255.x _ _ rfl).trans ( (show Xi U8 904 74 = Xi U7 904 74 from by rw [eU8]; exact Xi_ne (by omega)).trans ((show Xi U7 904 74 = Xi S 904 74 from by rw [eU7]; exact Xi_ne (by omega))))))
            have w336 : 0 ≤ Xi S 904 74 ∧ Xi S 904 74 ≤ 2600 := hH.c _ _
            have w337 : Xi T11 904 78 = Xi S 904 78 := (show Xi T11 904 78 = Xi T10 904 78 from w318.x _ _ rfl).trans ( (show Xi T10 904 78 = Xi T9 904 78 from w285.x _ _ rfl).trans ( (show Xi T9 904 78 = Xi U8 904 78 from w255.x _ _ rfl).trans ( (show Xi U8 904 78 = Xi U7 904 78 from by rw [eU8]; exact Xi_ne (by omega)).trans ((show Xi U7 904 78 = Xi S 904 78 from by rw [eU7]; exact Xi_ne (by omega))))))
            have w338 : -2 ≤ Xi S 904 78 ∧ Xi S 904 78 ≤ 5010 := hH.c _ _
            have w339 : 0 ≤ Xi T11 904 8 ∧ Xi T11 904 8 ≤ 5010 := hHT11.c _ _
            have w340 : Xi T11 904 93 = Xi S 904 93 := (show Xi T11 904 93 = Xi T10 904 93 from w318.x _ _ rfl).trans ( (show Xi T10 904 93 = Xi T9 904 93 from w285.x _ _ rfl).trans ( (show Xi T9 904 93 = Xi U8 904 93 from w255.x _ _ rfl).trans ( (show Xi U8 904 93 = Xi U7 904 93 from by rw [eU8]; exact Xi_ne (by omega)).trans ((show Xi U7 904 93 = Xi S 904 93 from by rw [eU7]; exact Xi_ne (by omega))))))
            have w341 : 0 ≤ Xi S 904 93 ∧ Xi S 904 93 ≤ 1700 := hH.c _ _
            exact Rl_weak (C158 T11 hHT11 hFT11  (by first | assumption | exact (by assumption : AT T11 _ _)) (by first | assumption | exact (by assumption : RNV T11 _)) (by omega) (by omega) (by omega) (by omega) (by omega) (by first | exact c154 | omega) (by first | assumption | exact (by assumption : BDA T11))) (And.intro rfl (True.intro))
        refine l_iload_n rfl rfl ?_
        refine l_bipush rfl rfl ?_
        refine l_icmp_eq rfl rfl (by unfold rg; omega) (by unfold rg; omega) (fun w342 => ?_) (fun w343 => ?_)
        · have w344 : 0 ≤ Xi S 904 65 ∧ Xi S 904 65 ≤ 1 := hH.c _ _
          have w345 : 0 ≤ Xi S 904 69 ∧ Xi S 904 69 ≤ 2600 := hH.c _ _
          have w346 : 0 ≤ Xi S 904 70 ∧ Xi S 904 70 ≤ 20 := hH.c _ _
          have w347 : 0 ≤ Xi S 904 71 ∧ Xi S 904 71 ≤ 2600 := hH.c _ _
          have w348 : 0 ≤ Xi S 904 72 ∧ Xi S 904 72 ≤ 2600 := hH.c _ _
          have w349 : 0 ≤ Xi S 904 73 ∧ Xi S 904 73 ≤ 5 := hH.c _ _
          have w350 : 0 ≤ Xi S 904 74 ∧ Xi S 904 74 ≤ 2600 := hH.c _ _
          have w351 : -2 ≤ Xi S 904 78 ∧ Xi S 904 78 ≤ 5010 := hH.c _ _
          have w352 : 0 ≤ Xi S 904 8 ∧ Xi S 904 8 ≤ 5010 := hH.c _ _
          have w353 : 0 ≤ Xi S 904 93 ∧ Xi S 904 93 ≤ 1700 := hH.c _ _
          exact Rl_weak (C115  (by first | assumption | exact (by assumption : BDA S))) (And.intro rfl (True.intro))
        · refine l_iload_n rfl rfl ?_
          refine l_bipush rfl rfl ?_
          refine l_icmp_eq rfl rfl (by unfold rg; omega) (by unfold rg; omega) (fun w354 => ?_) (fun w355 => ?_)
          · have w356 : 0 ≤ Xi S 904 65 ∧ Xi S 904 65 ≤ 1 := hH.c _ _
            have w357 : 0 ≤ Xi S 904 69 ∧ Xi S 904 69 ≤ 2600 := hH.c _ _
            have w358 : 0 ≤ Xi S 904 70 ∧ Xi S 904 70 ≤ 20 := hH.c _ _
            have w359 : 0 ≤ Xi S 904 71 ∧ Xi S 904 71 ≤ 2600 := hH.c _ _
            have w360 : 0 ≤ Xi S 904 72 ∧ Xi S 904 72 ≤ 2600 := hH.c _ _
            have w361 : 0 ≤ Xi S 904 73 ∧ Xi S 904 73 ≤ 5 := hH.c _ _
            have w362 : 0 ≤ Xi S 904 74 ∧ Xi S 904 74 ≤ 2600 := hH.c _ _
            have w363 : -2 ≤ Xi S 904 78 ∧ Xi S 904 78 ≤ 5010 := hH.c _ _
            have w364 : 0 ≤ Xi S 904 8 ∧ Xi S 904 8 ≤ 5010 := hH.c _ _
            have w365 : 0 ≤ Xi S 904 93 ∧ Xi S 904 93 ≤ 1700 := hH.c _ _
            exact Rl_weak (C115  (by first | assumption | exact (by assumption : BDA S))) (And.intro rfl (True.intro))
          · refine l_aload_n rfl rfl ?_
            refine l_iload_n rfl rfl ?_
            have w366 : 0 ≤ Xi S 904 65 ∧ Xi S 904 65 ≤ 1 := hH.c _ _
            have w367 : 0 ≤ Xi S 904 69 ∧ Xi S 904 69 ≤ 2600 := hH.c _ _
            have w368 : 0 ≤ Xi S 904 70 ∧ Xi S 904 70 ≤ 20 := hH.c _ _
            have w369 : 0 ≤ Xi S 904 71 ∧ Xi S 904 71 ≤ 2600 := hH.c _ _
            have w370 : 0 ≤ Xi S 904 72 ∧ Xi S 904 72 ≤ 2600 := hH.c _ _
            have w371 : 0 ≤ Xi S 904 73 ∧ Xi S 904 73 ≤ 5 := hH.c _ _
            have w372 : 0 ≤ Xi S 904 74 ∧ Xi S 904 74 ≤ 2600 := hH.c _ _
            have w373 : -2 ≤ Xi S 904 78 ∧ Xi S 904 78 ≤ 5010 := hH.c _ _
            have w374 : 0 ≤ Xi S 904 8 ∧ Xi S 904 8 ≤ 5010 := hH.c _ _
            have w375 : 0 ≤ Xi S 904 93 ∧ Xi S 904 93 ≤ 1700 := hH.c _ _
            refine l_callV rfl rfl rfl (t_mo_others__2 hH n c v1 ⟨by omega, by omega⟩ (by first | assumption | exact (TK_FR hF rfl (by assumption : TK S _))) (by first | assumption | exact (by assumption : AT S _ _)) (by first | assumption | exact (by assumption : RNV S _)) (by first | assumption | omega) (by first | assumption | exact (by assumption : BDA S)) _) ?_
            rintro _ T12 ⟨hHT12, w384, rfl, w376, w377, w378, w379, w380, w381, q109, w382⟩
            have hFT12 : FR md_mo_common__2 S T12 := FR.tr hF w384 rfl
            show Rl _ _ _ _ _ [] _ _
            have w386 : 0 ≤ Xi T12 904 8 ∧ Xi T12 904 8 ≤ 5010 := hHT12.c _ _
            have w387 : 0 ≤ Xi T12 904 65 ∧ Xi T12 904 65 ≤ 1 := hHT12.c _ _
            have w388 : 0 ≤ Xi T12 904 69 ∧ Xi T12 904 69 ≤ 2600 := hHT12.c _ _
            have w389 : Xi T12 904 93 = Xi S 904 93 := (show Xi T12 904 93 = Xi S 904 93 from w384.x _ _ rfl)
            have w390 : 0 ≤ Xi S 904 93 ∧ Xi S 904 93 ≤ 1700 := hH.c _ _
            have w385 : Xi S 904 8 ≤ Xi T12 904 8 ∧ Xi T12 904 8 ≤ n + 2 ∧ Xi S 904 69 ≤ Xi T12 904 69 ∧ (Xi T12 904 65 = 0 → Xi S 904 65 = 0) := by omega
            clear w377 w379 w380
            refine l_goto rfl rfl ?_
            refine l_return rfl rfl ?_
            have w391 : 0 ≤ Xi T12 904 65 ∧ Xi T12 904 65 ≤ 1 := hHT12.c _ _
            have w392 : 0 ≤ Xi T12 904 69 ∧ Xi T12 904 69 ≤ 2600 := hHT12.c _ _
            have w393 : 0 ≤ Xi T12 904 70 ∧ Xi T12 904 70 ≤ 20 := hHT12.c _ _
            have w394 : Xi T12 904 71 = Xi S 904 71 := (show Xi T12 904 71 = Xi S 904 71 from w384.x _ _ rfl)
            have w395 : 0 ≤ Xi S 904 71 ∧ Xi S 904 71 ≤ 2600 := hH.c _ _
            have w396 : Xi T12 904 72 = Xi S 904 72 := (show Xi T12 904 72 = Xi S 904 72 from w384.x _ _ rfl)
            have w397 : 0 ≤ Xi S 904 72 ∧ Xi S 904 72 ≤ 2600 := hH.c _ _
            have w398 : Xi T12 904 73 = Xi S 904 73 := (show Xi T12 904 73 = Xi S 904 73 from w384.x _ _ rfl)
            have w399 : 0 ≤ Xi S 904 73 ∧ Xi S 904 73 ≤ 5 := hH.c _ _
            have w400 : Xi T12 904 74 = Xi S 904 74 := (show Xi T12 904 74 = Xi S 904 74 from w384.x _ _ rfl)
            have w401 : 0 ≤ Xi S 904 74 ∧ Xi S 904 74 ≤ 2600 := hH.c _ _
            have w402 : Xi T12 904 78 = Xi S 904 78 := (show Xi T12 904 78 = Xi S 904 78 from w384.x _ _ rfl)
            have w403 : -2 ≤ Xi S 904 78 ∧ Xi S 904 78 ≤ 5010 := hH.c _ _
            have w404 : 0 ≤ Xi T12 904 8 ∧ Xi T12 904 8 ≤ 5010 := hHT12.c _ _
            have w405 : Xi T12 904 93 = Xi S 904 93 := (show Xi T12 904 93 = Xi S 904 93 from w384.x _ _ rfl)
            have w406 : 0 ≤ Xi S 904 93 ∧ Xi S 904 93 ≤ 1700 := hH.c _ _
            exact ⟨hHT12, hFT12, rfl, (by first | assumption | exact AT_bad (by omega)), (by omega), (by first | assumption | exact (by assumption : RNV T12 _)), (by omega), (by omega), (by omega), (by first | exact q109 | exact q186 | exact (fun _ => fun q => by unfold SNQ; refine ⟨fun q1 => absurd q1 (by omega), by omega, by omega, by omega, fun q9 => ⟨by omega, by omega, fun x y => by have t := W163 (by omega) x y; omega⟩, by omega, by omega, by omega, by omega, by omega⟩) W163 | exact fun q => absurd q (by omega)), (by first | assumption | exact (by assumption : BDA T12))⟩
      refine l_aload_n rfl rfl ?_
      refine l_gfr rfl rfl rfl rfl rfl (hH.r 904 4 907 rfl) ?_
      refine l_iload_n rfl rfl ?_
      refine l_iaload (n := 5002) rfl rfl (by omega) (by omega) (by unfold rg; omega) ?_
      have w407 : 0 ≤ (Xi S 907 ((v3).toNat)) ∧ (Xi S 907 ((v3).toNat)) ≤ 154 := hH.c _ _
      refine l_bipush rfl rfl ?_
      refine l_icmp_eq rfl rfl (by unfold rg; omega) (by unfold rg; omega) (fun w408 => ?_) (fun w409 => ?_)
      · have w410 : 0 ≤ Xi S 904 65 ∧ Xi S 904 65 ≤ 1 := hH.c _ _
        have w411 : 0 ≤ Xi S 904 69 ∧ Xi S 904 69 ≤ 2600 := hH.c _ _
        have w412 : 0 ≤ Xi S 904 70 ∧ Xi S 904 70 ≤ 20 := hH.c _ _
        have w413 : 0 ≤ Xi S 904 71 ∧ Xi S 904 71 ≤ 2600 := hH.c _ _
        have w414 : 0 ≤ Xi S 904 72 ∧ Xi S 904 72 ≤ 2600 := hH.c _ _
        have w415 : 0 ≤ Xi S 904 73 ∧ Xi S 904 73 ≤ 5 := hH.c _ _
        have w416 : 0 ≤ Xi S 904 74 ∧ Xi S 904 74 ≤ 2600 := hH.c _ _
        have w417 : -2 ≤ Xi S 904 78 ∧ Xi S 904 78 ≤ 5010 := hH.c _ _
        have w418 : 0 ≤ Xi S 904 8 ∧ Xi S 904 8 ≤ 5010 := hH.c _ _
        have w419 : 0 ≤ Xi S 904 93 ∧ Xi S 904 93 ≤ 1700 := hH.c _ _
        exact Rl_weak (C95 (v1) (by omega) (by first | assumption | exact (by assumption : BDA S))) (And.intro rfl (And.intro rfl (True.intro)))
      · refine l_aload_n rfl rfl ?_
        refine l_gfr rfl rfl rfl rfl rfl (hH.r 904 4 907 rfl) ?_
        refine l_iload_n rfl rfl ?_
        refine l_iaload (n := 5002) rfl rfl (by omega) (by omega) (by unfold rg; omega) ?_
        have u28 : (Xi S 907 ((v3).toNat)) ≠ 1 → v3 < n := fun q => tk_lt hT (by omega) (by omega) q
        refine l_iconst rfl ?_
        refine l_icmp_eq rfl rfl (by unfold rg; omega) (by unfold rg; omega) (fun w420 => ?_) (fun w421 => ?_)
        · have w422 : 0 ≤ Xi S 904 65 ∧ Xi S 904 65 ≤ 1 := hH.c _ _
          have w423 : 0 ≤ Xi S 904 69 ∧ Xi S 904 69 ≤ 2600 := hH.c _ _
          have w424 : 0 ≤ Xi S 904 70 ∧ Xi S 904 70 ≤ 20 := hH.c _ _
          have w425 : 0 ≤ Xi S 904 71 ∧ Xi S 904 71 ≤ 2600 := hH.c _ _
          have w426 : 0 ≤ Xi S 904 72 ∧ Xi S 904 72 ≤ 2600 := hH.c _ _
          have w427 : 0 ≤ Xi S 904 73 ∧ Xi S 904 73 ≤ 5 := hH.c _ _
          have w428 : 0 ≤ Xi S 904 74 ∧ Xi S 904 74 ≤ 2600 := hH.c _ _
          have w429 : -2 ≤ Xi S 904 78 ∧ Xi S 904 78 ≤ 5010 := hH.c _ _
          have w430 : 0 ≤ Xi S 904 8 ∧ Xi S 904 8 ≤ 5010 := hH.c _ _
          have w431 : 0 ≤ Xi S 904 93 ∧ Xi S 904 93 ≤ 1700 := hH.c _ _
          exact Rl_weak (C95 (v1) (by omega) (by first | assumption | exact (by assumption : BDA S))) (And.intro rfl (And.intro rfl (True.intro)))
        · refine l_iload_n rfl rfl ?_
          refine l_if_ne rfl rfl (by unfold rg; omega) (fun w432 => ?_) (fun w433 => ?_)
          · have w434 : 0 ≤ Xi S 904 65 ∧ Xi S 904 65 ≤ 1 := hH.c _ _
            have w435 : 0 ≤ Xi S 904 69 ∧ Xi S 904 69 ≤ 2600 := hH.c _ _
            have w436 : 0 ≤ Xi S 904 70 ∧ Xi S 904 70 ≤ 20 := hH.c _ _
            have w437 : 0 ≤ Xi S 904 71 ∧ Xi S 904 71 ≤ 2600 := hH.c _ _
            have w438 : 0 ≤ Xi S 904 72 ∧ Xi S 904 72 ≤ 2600 := hH.c _ _
            have w439 : 0 ≤ Xi S 904 73 ∧ Xi S 904 73 ≤ 5 := hH.c _ _
            have w440 : 0 ≤ Xi S 904 74 ∧ Xi S 904 74 ≤ 2600 := hH.c _ _
            have w441 : -2 ≤ Xi S 904 78 ∧ Xi S 904 78 ≤ 5010 := hH.c _ _
            have w442 : 0 ≤ Xi S 904 8 ∧ Xi S 904 8 ≤ 5010 := hH.c _ _
            have w443 : 0 ≤ Xi S 904 93 ∧ Xi S 904 93 ≤ 1700 := hH.c _ _
            exact Rl_weak (C95 (v1) (by omega) (by first | assumption | exact (by assumption : BDA S))) (And.intro rfl (And.intro rfl (True.intro)))
          · refine l_aload_n rfl rfl ?_
            refine l_gfr rfl rfl rfl rfl rfl (hH.r 904 4 907 rfl) ?_
            refine l_iload_n rfl rfl ?_
            refine l_iaload (n := 5002) rfl rfl (by omega) (by omega) (by unfold rg; omega) ?_
            refine l_istore rfl rfl rfl ?_
            refine l_iload rfl rfl ?_
            refine l_bipush rfl rfl ?_
            refine l_icmp_eq rfl rfl (by unfold rg; omega) (by unfold rg; omega) (fun w444 => ?_) (fun w445 => ?_)
            · refine l_iload rfl rfl ?_
              refine l_goto rfl rfl ?_
              refine l_istore_n rfl rfl rfl ?_
              refine l_iload_n rfl rfl ?_
              refine l_istore_n rfl rfl rfl ?_
              refine l_iinc rfl rfl rfl rfl ?_
              refine l_goto rfl rfl ?_
              have w446 : 0 ≤ Xi S 904 65 ∧ Xi S 904 65 ≤ 1 := hH.c _ _
              have w447 : 0 ≤ Xi S 904 69 ∧ Xi S 904 69 ≤ 2600 := hH.c _ _
              have w448 : 0 ≤ Xi S 904 70 ∧ Xi S 904 70 ≤ 20 := hH.c _ _
              have w449 : 0 ≤ Xi S 904 71 ∧ Xi S 904 71 ≤ 2600 := hH.c _ _
              have w450 : 0 ≤ Xi S 904 72 ∧ Xi S 904 72 ≤ 2600 := hH.c _ _
              have w451 : 0 ≤ Xi S 904 73 ∧ Xi S 904 73 ≤ 5 := hH.c _ _
              have w452 : 0 ≤ Xi S 904 74 ∧ Xi S 904 74 ≤ 2600 := hH.c _ _
              have w453 : -2 ≤ Xi S 904 78 ∧ Xi S 904 78 ≤ 5010 := hH.c _ _
              have w454 : 0 ≤ Xi S 904 8 ∧ Xi S 904 8 ≤ 5010 := hH.c _ _
              have w455 : 0 ≤ Xi S 904 93 ∧ Xi S 904 93 ≤ 1700 := hH.c _ _
              exact Rl_weak (ih12 _ (by omega) ((Xi S 907 ((v3).toNat))) ((v3 + 1)) (by omega) (by omega) (by omega) (by first | assumption | exact (by assumption : BDA S)) rfl) (And.intro rfl (And.intro rfl (And.intro rfl (True.intro))))
            · refine l_iload rfl rfl ?_
              refine l_bipush rfl rfl ?_
              refine l_icmp_eq rfl rfl (by unfold rg; omega) (by unfold rg; omega) (fun w456 => ?_) (fun w457 => ?_)
              · refine l_iload rfl rfl ?_
                refine l_goto rfl rfl ?_
                refine l_istore_n rfl rfl rfl ?_
                refine l_iload_n rfl rfl ?_
                refine l_istore_n rfl rfl rfl ?_
                refine l_iinc rfl rfl rfl rfl ?_
                refine l_goto rfl rfl ?_
                have w458 : 0 ≤ Xi S 904 65 ∧ Xi S 904 65 ≤ 1 := hH.c _ _
                have w459 : 0 ≤ Xi S 904 69 ∧ Xi S 904 69 ≤ 2600 := hH.c _ _
                have w460 : 0 ≤ Xi S 904 70 ∧ Xi S 904 70 ≤ 20 := hH.c _ _
                have w461 : 0 ≤ Xi S 904 71 ∧ Xi S 904 71 ≤ 2600 := hH.c _ _
                have w462 : 0 ≤ Xi S 904 72 ∧ Xi S 904 72 ≤ 2600 := hH.c _ _
                have w463 : 0 ≤ Xi S 904 73 ∧ Xi S 904 73 ≤ 5 := hH.c _ _
                have w464 : 0 ≤ Xi S 904 74 ∧ Xi S 904 74 ≤ 2600 := hH.c _ _
                have w465 : -2 ≤ Xi S 904 78 ∧ Xi S 904 78 ≤ 5010 := hH.c _ _
                have w466 : 0 ≤ Xi S 904 8 ∧ Xi S 904 8 ≤ 5010 := hH.c _ _
                have w467 : 0 ≤ Xi S 904 93 ∧ Xi S 904 93 ≤ 1700 := hH.c _ _
                exact Rl_weak (ih12 _ (by omega) ((Xi S 907 ((v3).toNat))) ((v3 + 1)) (by omega) (by omega) (by omega) (by first | assumption | exact (by assumption : BDA S)) rfl) (And.intro rfl (And.intro rfl (And.intro rfl (True.intro))))
              · refine l_iload rfl rfl ?_
                refine l_bipush rfl rfl ?_
                refine l_icmp_eq rfl rfl (by unfold rg; omega) (by unfold rg; omega) (fun w468 => ?_) (fun w469 => ?_)
                · refine l_iload rfl rfl ?_
                  refine l_goto rfl rfl ?_
                  refine l_istore_n rfl rfl rfl ?_
                  refine l_iload_n rfl rfl ?_
                  refine l_istore_n rfl rfl rfl ?_
                  refine l_iinc rfl rfl rfl rfl ?_
                  refine l_goto rfl rfl ?_
                  have w470 : 0 ≤ Xi S 904 65 ∧ Xi S 904 65 ≤ 1 := hH.c _ _
                  have w471 : 0 ≤ Xi S 904 69 ∧ Xi S 904 69 ≤ 2600 := hH.c _ _
                  have w472 : 0 ≤ Xi S 904 70 ∧ Xi S 904 70 ≤ 20 := hH.c _ _
                  have w473 : 0 ≤ Xi S 904 71 ∧ Xi S 904 71 ≤ 2600 := hH.c _ _
                  have w474 : 0 ≤ Xi S 904 72 ∧ Xi S 904 72 ≤ 2600 := hH.c _ _
                  have w475 : 0 ≤ Xi S 904 73 ∧ Xi S 904 73 ≤ 5 := hH.c _ _
                  have w476 : 0 ≤ Xi S 904 74 ∧ Xi S 904 74 ≤ 2600 := hH.c _ _
                  have w477 : -2 ≤ Xi S 904 78 ∧ Xi S 904 78 ≤ 5010 := hH.c _ _
                  have w478 : 0 ≤ Xi S 904 8 ∧ Xi S 904 8 ≤ 5010 := hH.c _ _
                  have w479 : 0 ≤ Xi S 904 93 ∧ Xi S 904 93 ≤ 1700 := hH.c _ _
                  exact Rl_weak (ih12 _ (by omega) ((Xi S 907 ((v3).toNat))) ((v3 + 1)) (by omega) (by omega) (by omega) (by first | assumption | exact (by assumption : BDA S)) rfl) (And.intro rfl (And.intro rfl (And.intro rfl (True.intro))))
                · refine l_iload rfl rfl ?_
                  refine l_bipush rfl rfl ?_
                  refine l_icmp_eq rfl rfl (by unfold rg; omega) (by unfold rg; omega) (fun w480 => ?_) (fun w481 => ?_)
                  · refine l_iload rfl rfl ?_
                    refine l_goto rfl rfl ?_
                    refine l_istore_n rfl rfl rfl ?_
                    refine l_iload_n rfl rfl ?_
                    refine l_istore_n rfl rfl rfl ?_
                    refine l_iinc rfl rfl rfl rfl ?_
                    refine l_goto rfl rfl ?_
                    have w482 : 0 ≤ Xi S 904 65 ∧ Xi S 904 65 ≤ 1 := hH.c _ _
                    have w483 : 0 ≤ Xi S 904 69 ∧ Xi S 904 69 ≤ 2600 := hH.c _ _
                    have w484 : 0 ≤ Xi S 904 70 ∧ Xi S 904 70 ≤ 20 := hH.c _ _
                    have w485 : 0 ≤ Xi S 904 71 ∧ Xi S 904 71 ≤ 2600 := hH.c _ _
                    have w486 : 0 ≤ Xi S 904 72 ∧ Xi S 904 72 ≤ 2600 := hH.c _ _
                    have w487 : 0 ≤ Xi S 904 73 ∧ Xi S 904 73 ≤ 5 := hH.c _ _
                    have w488 : 0 ≤ Xi S 904 74 ∧ Xi S 904 74 ≤ 2600 := hH.c _ _
                    have w489 : -2 ≤ Xi S 904 78 ∧ Xi S 904 78 ≤ 5010 := hH.c _ _
                    have w490 : 0 ≤ Xi S 904 8 ∧ Xi S 904 8 ≤ 5010 := hH.c _ _
                    have w491 : 0 ≤ Xi S 904 93 ∧ Xi S 904 93 ≤ 1700 := hH.c _ _
                    exact Rl_weak (ih12 _ (by omega) ((Xi S 907 ((v3).toNat))) ((v3 + 1)) (by omega) (by omega) (by omega) (by first | assumption | exact (by assumption : BDA S)) rfl) (And.intro rfl (And.intro rfl (And.intro rfl (True.intro))))
                  · refine l_iload rfl rfl ?_
                    refine l_bipush rfl rfl ?_
                    refine l_icmp_ne rfl rfl (by unfold rg; omega) (by unfold rg; omega) (fun w492 => ?_) (fun w493 => ?_)
                    · refine l_iconst rfl ?_
                      refine l_istore_n rfl rfl rfl ?_
                      refine l_iload_n rfl rfl ?_
                      refine l_istore_n rfl rfl rfl ?_
                      refine l_iinc rfl rfl rfl rfl ?_
                      refine l_goto rfl rfl ?_
                      have w494 : 0 ≤ Xi S 904 65 ∧ Xi S 904 65 ≤ 1 := hH.c _ _
                      have w495 : 0 ≤ Xi S 904 69 ∧ Xi S 904 69 ≤ 2600 := hH.c _ _
                      have w496 : 0 ≤ Xi S 904 70 ∧ Xi S 904 70 ≤ 20 := hH.c _ _
                      have w497 : 0 ≤ Xi S 904 71 ∧ Xi S 904 71 ≤ 2600 := hH.c _ _
                      have w498 : 0 ≤ Xi S 904 72 ∧ Xi S 904 72 ≤ 2600 := hH.c _ _
                      have w499 : 0 ≤ Xi S 904 73 ∧ Xi S 904 73 ≤ 5 := hH.c _ _
                      have w500 : 0 ≤ Xi S 904 74 ∧ Xi S 904 74 ≤ 2600 := hH.c _ _
                      have w501 : -2 ≤ Xi S 904 78 ∧ Xi S 904 78 ≤ 5010 := hH.c _ _
                      have w502 : 0 ≤ Xi S 904 8 ∧ Xi S 904 8 ≤ 5010 := hH.c _ _
                      have w503 : 0 ≤ Xi S 904 93 ∧ Xi S 904 93 ≤ 1700 := hH.c _ _
                      exact Rl_weak (ih12 _ (by omega) (0) ((v3 + 1)) (by omega) (by omega) (by omega) (by first | assumption | exact (by assumption : BDA S)) rfl) (And.intro rfl (And.intro rfl (And.intro rfl (True.intro))))
                    · refine l_iload rfl rfl ?_
                      refine l_goto rfl rfl ?_
                      refine l_istore_n rfl rfl rfl ?_
                      refine l_iload_n rfl rfl ?_
                      refine l_istore_n rfl rfl rfl ?_
                      refine l_iinc rfl rfl rfl rfl ?_
                      refine l_goto rfl rfl ?_
                      have w504 : 0 ≤ Xi S 904 65 ∧ Xi S 904 65 ≤ 1 := hH.c _ _
                      have w505 : 0 ≤ Xi S 904 69 ∧ Xi S 904 69 ≤ 2600 := hH.c _ _
                      have w506 : 0 ≤ Xi S 904 70 ∧ Xi S 904 70 ≤ 20 := hH.c _ _
                      have w507 : 0 ≤ Xi S 904 71 ∧ Xi S 904 71 ≤ 2600 := hH.c _ _
                      have w508 : 0 ≤ Xi S 904 72 ∧ Xi S 904 72 ≤ 2600 := hH.c _ _
                      have w509 : 0 ≤ Xi S 904 73 ∧ Xi S 904 73 ≤ 5 := hH.c _ _
                      have w510 : 0 ≤ Xi S 904 74 ∧ Xi S 904 74 ≤ 2600 := hH.c _ _
                      have w511 : -2 ≤ Xi S 904 78 ∧ Xi S 904 78 ≤ 5010 := hH.c _ _
                      have w512 : 0 ≤ Xi S 904 8 ∧ Xi S 904 8 ≤ 5010 := hH.c _ _
                      have w513 : 0 ≤ Xi S 904 93 ∧ Xi S 904 93 ≤ 1700 := hH.c _ _
                      exact Rl_weak (ih12 _ (by omega) ((Xi S 907 ((v3).toNat))) ((v3 + 1)) (by omega) (by omega) (by omega) (by first | assumption | exact (by assumption : BDA S)) rfl) (And.intro rfl (And.intro rfl (And.intro rfl (True.intro))))
  refine l_iconst rfl ?_
  refine l_istore_n rfl rfl rfl ?_
  refine l_aload_n rfl rfl ?_
  refine l_gfi rfl rfl rfl rfl rfl ?_
  refine l_istore_n rfl rfl rfl ?_
  refine l_aload_n rfl rfl ?_
  refine l_gfi rfl rfl rfl rfl rfl ?_
  refine l_istore_n rfl rfl rfl ?_
  have w514 : 0 ≤ Xi S 904 65 ∧ Xi S 904 65 ≤ 1 := hH.c _ _
  have w515 : 0 ≤ Xi S 904 69 ∧ Xi S 904 69 ≤ 2600 := hH.c _ _
  have w516 : 0 ≤ Xi S 904 70 ∧ Xi S 904 70 ≤ 20 := hH.c _ _
  have w517 : 0 ≤ Xi S 904 71 ∧ Xi S 904 71 ≤ 2600 := hH.c _ _
  have w518 : 0 ≤ Xi S 904 72 ∧ Xi S 904 72 ≤ 2600 := hH.c _ _
  have w519 : 0 ≤ Xi S 904 73 ∧ Xi S 904 73 ≤ 5 := hH.c _ _
  have w520 : 0 ≤ Xi S 904 74 ∧ Xi S 904 74 ≤ 2600 := hH.c _ _
  have w521 : -2 ≤ Xi S 904 78 ∧ Xi S 904 78 ≤ 5010 := hH.c _ _
  have w522 : 0 ≤ Xi S 904 8 ∧ Xi S 904 8 ≤ 5010 := hH.c _ _
  have w523 : 0 ≤ Xi S 904 93 ∧ Xi S 904 93 ≤ 1700 := hH.c _ _
  exact Rl_weak (C12 _ (0) ((Xi S 904 8)) (by omega) (by omega) (by omega) (by first | assumption | exact (by assumption : BDA S)) rfl) (And.intro rfl (And.intro rfl (And.intro rfl (True.intro))))
