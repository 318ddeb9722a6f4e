/-! SAFETY of methods: printed by wip/safe (vc.py, decl.py) -/
def md_mo_sentence__3 : List rec := [(904, 905, 8, 9), (904, 905, 65, 66), (904, 905, 66, 67), (904, 905, 69, 70), (904, 905, 70, 71), (904, 905, 71, 72), (904, 905, 72, 73), (904, 905, 73, 74), (904, 905, 74, 75), (904, 905, 75, 76), (904, 905, 76, 77), (904, 905, 77, 78), (904, 905, 78, 79), (904, 905, 79, 80), (904, 905, 80, 81), (904, 905, 81, 82), (904, 905, 93, 94), (904, 905, 94, 95), (904, 905, 98, 99), (904, 905, 99, 100), (904, 905, 100, 101), (904, 905, 101, 102), (904, 905, 102, 103), (904, 905, 103, 104), (950, 951, 0, 100000), (951, 952, 0, 100000), (952, 953, 0, 100000), (953, 954, 0, 100000), (954, 955, 0, 100000), (955, 956, 0, 100000), (956, 957, 0, 100000), (957, 958, 0, 100000), (958, 959, 0, 100000), (959, 960, 0, 100000), (960, 961, 0, 100000), (961, 962, 0, 100000), (962, 963, 0, 100000), (963, 964, 0, 100000), (964, 965, 0, 100000), (965, 966, 0, 100000)]
abbrev Q_mo_sentence__3 (S : sS) (n : Nat) : pst := fun r S1 => HI S1 ∧ FR md_mo_sentence__3 S S1 ∧ (r = none ∧ (Xi S 904 8 ≤ Xi S1 904 8) ∧ (Xi S1 904 65 = 0 → Xi S 904 8 < Xi S1 904 8 ∧ Xi S1 904 8 ≤ n) ∧ (RNV S1 n) ∧ (Xi S1 904 65 = 0 → SNQ S1 n) ∧ (Xi S1 904 65 = 0 → Xi S1 904 70 ≤ 6 → 2 ≤ Xi S1 904 70 → TVA S1 n (Xi S1 904 94)) ∧ (Xi S1 904 65 = 0 → Xi S1 904 70 ≤ 6 → 3 ≤ Xi S1 904 70 → PVA S1 n (Xi S1 904 98)) ∧ (Xi S1 904 65 = 0 → Xi S1 904 70 ≤ 6 → 3 ≤ Xi S1 904 70 → Xi S1 904 94 + Xi S1 904 98 ≤ 1666) ∧ (Xi S1 904 65 = 0 → Xi S1 904 94 ≤ 1668) ∧ (Xi S1 904 65 = 0 → Xi S1 904 70 ≠ 0 → Xi S 907 (Xi S1 904 8 - 1).toNat = 46) ∧ (Xi S1 904 65 = 0 → Xi S1 904 70 = 11 → -1 ≤ Xi S1 904 78) ∧ (Xi S1 904 65 = 0 → Xi S1 904 70 = 2 → 1 ≤ Xi S1 904 94) ∧ (PF S1) ∧ (BDA S1))
set_option maxRecDepth 100000 in
set_option maxHeartbeats 8000000 in
theorem t_mo_sentence__3 {S : sS} (hH : HI S) (n : Nat) (hT : TK S n) (hx : Xi S 904 8 ≤ n) (hk : Xi S 907 (Xi S 904 8).toNat ≠ 1) (hPF : PF S) (hBDA : BDA S) (d : Nat) : Mt lay0 (d + 10) m_mo_sentence [.ref 904] S (Q_mo_sentence__3 S n) := by
  refine Mt_R rfl rfl ?_
  have hF : FR md_mo_sentence__3 S S := FR.rf
  have w1 : 0 ≤ Xi S 904 65 ∧ Xi S 904 65 ≤ 1 := hH.c _ _
  have w2 : 0 ≤ Xi S 904 69 ∧ Xi S 904 69 ≤ 2600 := hH.c _ _
  have w3 : 0 ≤ Xi S 904 70 ∧ Xi S 904 70 ≤ 20 := hH.c _ _
  have w4 : -2 ≤ Xi S 904 78 ∧ Xi S 904 78 ≤ 5010 := hH.c _ _
  have w5 : 0 ≤ Xi S 904 8 ∧ Xi S 904 8 ≤ 5010 := hH.c _ _
  have w6 : 0 ≤ Xi S 904 93 ∧ Xi S 904 93 ≤ 1700 := hH.c _ _
  have w7 : 0 ≤ Xi S 904 94 ∧ Xi S 904 94 ≤ 1700 := hH.c _ _
  have w8 : 0 ≤ Xi S 904 98 ∧ Xi S 904 98 ≤ 1700 := hH.c _ _
  have hn5 := hT.1
  have h8 : 0 ≤ Xi S 904 8 ∧ Xi S 904 8 ≤ 5010 := hH.c _ _
  have C35 : ∀  (T1 : sS) (_ : HI T1) (_ : FR md_mo_sentence__3 S T1), (AT T1 n 0) → (RNV T1 n) → (Xi T1 904 8 = Xi S 904 8) → (Xi T1 904 65 = 0) → (Xi T1 904 69 = 0) → (Xi T1 904 93 = 0) → (Xi T1 904 94 = 0) → (Xi T1 904 98 = 0) → (Xi T1 907 (Xi T1 904 8).toNat ≠ 1) → (PF T1) → (BDA T1) → Rl lay0 (d + 9) m_mo_sentence 35 [(0, .ref 904)] [] T1 (Q_mo_sentence__3 S n) := by
    intro T1 hHT1 hFT1 A35 V35 w9 w10 w11 w12 w13 w14 k35 PF_35 BDA_35
    have w15 : 0 ≤ Xi T1 904 65 ∧ Xi T1 904 65 ≤ 1 := hHT1.c _ _
    have w16 : 0 ≤ Xi T1 904 69 ∧ Xi T1 904 69 ≤ 2600 := hHT1.c _ _
    have w17 : 0 ≤ Xi T1 904 8 ∧ Xi T1 904 8 ≤ 5010 := hHT1.c _ _
    have w18 : 0 ≤ Xi T1 904 93 ∧ Xi T1 904 93 ≤ 1700 := hHT1.c _ _
    have w19 : 0 ≤ Xi T1 904 94 ∧ Xi T1 904 94 ≤ 1700 := hHT1.c _ _
    have w20 : 0 ≤ Xi T1 904 98 ∧ Xi T1 904 98 ≤ 1700 := hHT1.c _ _
    have C350 : ∀  (T2 : sS) (_ : HI T2) (_ : FR md_mo_sentence__3 S T2), (AT T2 n 0) → (RNV T2 n) → (Xi S 904 8 ≤ Xi T2 904 8 ∧ Xi T2 904 8 ≤ n + 2) → (Xi T2 904 65 = 0 → SNQ T2 n) → (Xi T2 904 65 = 0 → Xi T2 904 70 ≤ 6 → 2 ≤ Xi T2 904 70 → TVA T2 n (Xi T2 904 94)) → (Xi T2 904 65 = 0 → Xi T2 904 70 ≤ 6 → 3 ≤ Xi T2 904 70 → PVA T2 n (Xi T2 904 98)) → (Xi T2 904 65 = 0 → Xi T2 904 70 ≤ 6 → 3 ≤ Xi T2 904 70 → Xi T2 904 94 + Xi T2 904 98 ≤ 1666) → (Xi T2 904 65 = 0 → Xi T2 904 94 ≤ 1668) → (Xi T2 904 65 = 0 → Xi T2 904 70 = 11 → -1 ≤ Xi T2 904 78) → (Xi T2 904 65 = 0 → Xi T2 904 70 = 2 → 1 ≤ Xi T2 904 94) → (PF T2) → (BDA T2) → Rl lay0 (d + 9) m_mo_sentence 350 [(0, .ref 904)] [] T2 (Q_mo_sentence__3 S n) := by
      intro T2 hHT2 hFT2 A350 V350 w21 Q350 T350 P350 w22 w23 w24 w25 PF_350 BDA_350
      have w26 : 0 ≤ Xi T2 904 65 ∧ Xi T2 904 65 ≤ 1 := hHT2.c _ _
      have w27 : 0 ≤ Xi T2 904 70 ∧ Xi T2 904 70 ≤ 20 := hHT2.c _ _
      have w28 : -2 ≤ Xi T2 904 78 ∧ Xi T2 904 78 ≤ 5010 := hHT2.c _ _
      have w29 : 0 ≤ Xi T2 904 8 ∧ Xi T2 904 8 ≤ 5010 := hHT2.c _ _
      have w30 : 0 ≤ Xi T2 904 94 ∧ Xi T2 904 94 ≤ 1700 := hHT2.c _ _
      have w31 : 0 ≤ Xi T2 904 98 ∧ Xi T2 904 98 ≤ 1700 := hHT2.c _ _
      refine l_aload_n rfl rfl ?_
      refine l_bipush rfl rfl ?_
      have w32 : 0 ≤ Xi T2 904 102 ∧ Xi T2 904 102 ≤ 2600 := hHT2.c _ _
      have w33 : -1 ≤ Xi T2 904 103 ∧ Xi T2 904 103 ≤ 2600 := hHT2.c _ _
      have w34 : 0 ≤ Xi T2 904 65 ∧ Xi T2 904 65 ≤ 1 := hHT2.c _ _
      have w35 : 0 ≤ Xi T2 904 69 ∧ Xi T2 904 69 ≤ 2600 := hHT2.c _ _
      have w36 : 0 ≤ Xi T2 904 70 ∧ Xi T2 904 70 ≤ 20 := hHT2.c _ _
      have w37 : 0 ≤ Xi T2 904 71 ∧ Xi T2 904 71 ≤ 2600 := hHT2.c _ _
      have w38 : 0 ≤ Xi T2 904 72 ∧ Xi T2 904 72 ≤ 2600 := hHT2.c _ _
      have w39 : 0 ≤ Xi T2 904 73 ∧ Xi T2 904 73 ≤ 5 := hHT2.c _ _
      have w40 : 0 ≤ Xi T2 904 74 ∧ Xi T2 904 74 ≤ 2600 := hHT2.c _ _
      have w41 : -2 ≤ Xi T2 904 78 ∧ Xi T2 904 78 ≤ 5010 := hHT2.c _ _
      have w42 : 0 ≤ Xi T2 904 8 ∧ Xi T2 904 8 ≤ 5010 := hHT2.c _ _
      have w43 : 0 ≤ Xi T2 904 81 ∧ Xi T2 904 81 ≤ 5010 := hHT2.c _ _
      have w44 : 0 ≤ Xi T2 904 93 ∧ Xi T2 904 93 ≤ 1700 := hHT2.c _ _
      have w45 : 0 ≤ Xi T2 904 94 ∧ Xi T2 904 94 ≤ 1700 := hHT2.c _ _
      have w46 : 0 ≤ Xi T2 904 98 ∧ Xi T2 904 98 ≤ 1700 := hHT2.c _ _
      refine l_callV rfl rfl rfl (t_mo_take__3 hHT2 n 0 46 ⟨by omega, by omega⟩ (by first | assumption | exact (TK_FR hFT2 rfl (by assumption : TK S _))) (by first | assumption | exact (by assumption : AT T2 _ _)) (by omega) (by first | assumption | exact (by assumption : BDA T2)) _) ?_
      rintro _ T3 ⟨hHT3, w51, rfl, w47, w48, kb353, tk353, w49⟩
      have hFT3 : FR md_mo_sentence__3 S T3 := FR.tr hFT2 w51 rfl
      show Rl _ _ _ _ _ [] _ _
      have w53 : 0 ≤ Xi T3 904 8 ∧ Xi T3 904 8 ≤ 5010 := hHT3.c _ _
      have w54 : 0 ≤ Xi T3 904 65 ∧ Xi T3 904 65 ≤ 1 := hHT3.c _ _
      have w55 : Xi T3 904 69 = Xi T2 904 69 := (show Xi T3 904 69 = Xi T2 904 69 from w51.x _ _ rfl)
      have w56 : 0 ≤ Xi T2 904 69 ∧ Xi T2 904 69 ≤ 2600 := hHT2.c _ _
      have w57 : Xi T3 904 93 = Xi T2 904 93 := (show Xi T3 904 93 = Xi T2 904 93 from w51.x _ _ rfl)
      have w58 : 0 ≤ Xi T2 904 93 ∧ Xi T2 904 93 ≤ 1700 := hHT2.c _ _
      have d353 : Xi T3 904 65 = 0 → Xi S 907 (Xi T3 904 8 - 1).toNat = 46 := fun q => by have t := (by assumption : Xi T3 904 65 = 0 → Xi T3 904 8 = Xi T2 904 8 + 1 ∧ Xi T2 907 (Xi T2 904 8).toNat = 46) q; rw [(hFT2.cx 907 rfl _).1] at t; rw [show Xi T3 904 8 - 1 = Xi T2 904 8 by omega]; exact t.2
      have y353 : Xi T3 904 94 = Xi T2 904 94 ∧ Xi T3 904 98 = Xi T2 904 98 ∧ Xi T3 904 70 = Xi T2 904 70 := ⟨(by assumption : FR md_mo_take T2 T3).x 904 94 rfl, (by assumption : FR md_mo_take T2 T3).x 904 98 rfl, (by assumption : FR md_mo_take T2 T3).x 904 70 rfl⟩
      have Q353 : Xi T3 904 65 = 0 → SNQ T3 n := fun q => SNQ_FR (by assumption : FR md_mo_take T2 T3) rfl (Q350 (by omega))
      have T353 : Xi T3 904 65 = 0 → Xi T3 904 70 ≤ 6 → 2 ≤ Xi T3 904 70 → TVA T3 n (Xi T3 904 94) := fun q a b => by rw [y353.1]; exact TVA_FR (by assumption : FR md_mo_take T2 T3) rfl (T350 (by omega) (by omega) (by omega))
      have P353 : Xi T3 904 65 = 0 → Xi T3 904 70 ≤ 6 → 3 ≤ Xi T3 904 70 → PVA T3 n (Xi T3 904 98) := fun q a b => by rw [y353.2.1]; exact PVA_FR hHT2 (by assumption : FR md_mo_take T2 T3) rfl (P350 (by omega) (by omega) (by omega))
      have L353 : Xi T3 904 65 = 0 → Xi T2 904 65 = 0 ∧ Xi S 904 8 < Xi T3 904 8 ∧ Xi T3 904 8 ≤ n := fun q => ⟨kb353 q, by have t := tk353 q; omega, ((by assumption : AT T3 n 0) q).1⟩
      have z353 : Xi T3 904 78 = Xi T2 904 78 := (by assumption : FR md_mo_take T2 T3).x 904 78 rfl
      have w52 : Xi S 904 8 ≤ Xi T3 904 8 ∧ Xi T3 904 8 ≤ n + 2 := by omega
      clear w48 kb353
      refine l_return rfl rfl ?_
      have w59 : Xi T3 904 102 = Xi T2 904 102 := (show Xi T3 904 102 = Xi T2 904 102 from w51.x _ _ rfl)
      have w60 : 0 ≤ Xi T2 904 102 ∧ Xi T2 904 102 ≤ 2600 := hHT2.c _ _
      have w61 : Xi T3 904 103 = Xi T2 904 103 := (show Xi T3 904 103 = Xi T2 904 103 from w51.x _ _ rfl)
      have w62 : -1 ≤ Xi T2 904 103 ∧ Xi T2 904 103 ≤ 2600 := hHT2.c _ _
      have w63 : 0 ≤ Xi T3 904 65 ∧ Xi T3 904 65 ≤ 1 := hHT3.c _ _
      have w64 : Xi T3 904 69 = Xi T2 904 69 := (show Xi T3 904 69 = Xi T2 904 69 from w51.x _ _ rfl)
      have w65 : 0 ≤ Xi T2 904 69 ∧ Xi T2 904 69 ≤ 2600 := hHT2.c _ _
      have w66 : Xi T3 904 70 = Xi T2 904 70 := (show Xi T3 904 70 = Xi T2 904 70 from w51.x _ _ rfl)
      have w67 : 0 ≤ Xi T2 904 70 ∧ Xi T2 904 70 ≤ 20 := hHT2.c _ _
      have w68 : Xi T3 904 71 = Xi T2 904 71 := (show Xi T3 904 71 = Xi T2 904 71 from w51.x _ _ rfl)
      have w69 : 0 ≤ Xi T2 904 71 ∧ Xi T2 904 71 ≤ 2600 := hHT2.c _ _
      have w70 : Xi T3 904 72 = Xi T2 904 72 := (show Xi T3 904 72 = Xi T2 904 72 from w51.x _ _ rfl)
      have w71 : 0 ≤ Xi T2 904 72 ∧ Xi T2 904 72 ≤ 2600 := hHT2.c _ _
      have w72 : Xi T3 904 73 = Xi T2 904 73 := (show Xi T3 904 73 = Xi T2 904 73 from w51.x _ _ rfl)
      have w73 : 0 ≤ Xi T2 904 73 ∧ Xi T2 904 73 ≤ 5 := hHT2.c _ _
      have w74 : Xi T3 904 74 = Xi T2 904 74 := (show Xi T3 904 74 = Xi T2 904 74 from w51.x _ _ rfl)
      have w75 : 0 ≤ Xi T2 904 74 ∧ Xi T2 904 74 ≤ 2600 := hHT2.c _ _
      have w76 : Xi T3 904 78 = Xi T2 904 78 := (show Xi T3 904 78 = Xi T2 904 78 from w51.x _ _ rfl)
      have w77 : -2 ≤ Xi T2 904 78 ∧ Xi T2 904 78 ≤ 5010 := hHT2.c _ _
      have w78 : 0 ≤ Xi T3 904 8 ∧ Xi T3 904 8 ≤ 5010 := hHT3.c _ _
      have w79 : Xi T3 904 81 = Xi T2 904 81 := (show Xi T3 904 81 = Xi T2 904 81 from w51.x _ _ rfl)
      have w80 : 0 ≤ Xi T2 904 81 ∧ Xi T2 904 81 ≤ 5010 := hHT2.c _ _
      have w81 : Xi T3 904 93 = Xi T2 904 93 := (show Xi T3 904 93 = Xi T2 904 93 from w51.x _ _ rfl)
      have w82 : 0 ≤ Xi T2 904 93 ∧ Xi T2 904 93 ≤ 1700 := hHT2.c _ _
      have w83 : Xi T3 904 94 = Xi T2 904 94 := (show Xi T3 904 94 = Xi T2 904 94 from w51.x _ _ rfl)
      have w84 : 0 ≤ Xi T2 904 94 ∧ Xi T2 904 94 ≤ 1700 := hHT2.c _ _
      have w85 : Xi T3 904 98 = Xi T2 904 98 := (show Xi T3 904 98 = Xi T2 904 98 from w51.x _ _ rfl)
      have w86 : 0 ≤ Xi T2 904 98 ∧ Xi T2 904 98 ≤ 1700 := hHT2.c _ _
      exact ⟨hHT3, hFT3, rfl, (by omega), (by omega), (by first | assumption | exact (RNV_FR w51 rfl (by assumption : RNV T2 _))), (by first | exact Q353 | (exact fun q => by unfold SNQ; refine ⟨fun q1 => ⟨by omega, by rw [(hFT3.cx 907 rfl _).1, show Xi T3 904 81 = Xi S 904 8 by omega]; exact s5⟩, by omega, by omega, by omega, fun q9 => absurd q9 (by omega), by omega, by omega, by omega, by omega, by omega⟩)), (by first | exact T353 | exact fun q a b => absurd b (by omega)), (by first | exact P353 | exact fun q a b => absurd b (by omega)), (by omega), (by omega), (by first | exact fun q _ => d353 q | exact fun q a => absurd (by omega) a), (by omega), (by omega), (by first | assumption | exact (PF_FR w51 rfl (by assumption : PF T2))), (by first | assumption | exact (by assumption : BDA T3))⟩
    have C168 : ∀  (v1 : Int), (138 ≤ v1 ∧ v1 ≤ 141) → (AT T1 n 0) → (RNV T1 n) → (Xi T1 904 8 = Xi S 904 8) → (Xi T1 904 65 = 0) → (Xi T1 904 69 = 0) → (Xi T1 904 93 = 0) → (Xi T1 904 94 = 0) → (Xi T1 904 98 = 0) → (Xi T1 907 (Xi T1 904 8).toNat ≠ 1) → (v1 = 138 ∨ v1 = 139 ∨ v1 = 140 ∨ v1 = 141) → (v1 = Xi T1 907 (Xi T1 904 8).toNat) → (PF T1) → (BDA T1) → Rl lay0 (d + 9) m_mo_sentence 168 [(0, .ref 904), (1, iv v1)] [] T1 (Q_mo_sentence__3 S n) := by
      intro v1 w87 A168 V168 w88 w89 w90 w91 w92 w93 k168 w94 w95 PF_168 BDA_168
      refine l_aload_n rfl rfl ?_
      refine l_iload_n rfl rfl ?_
      refine l_sipush rfl rfl ?_
      refine l_icmp_ne rfl rfl (by unfold rg; omega) (by unfold rg; omega) (fun w96 => ?_) (fun w97 => ?_)
      · refine l_iload_n rfl rfl ?_
        refine l_sipush rfl rfl ?_
        refine l_icmp_ne rfl rfl (by unfold rg; omega) (by unfold rg; omega) (fun w98 => ?_) (fun w99 => ?_)
        · refine l_iload_n rfl rfl ?_
          refine l_sipush rfl rfl ?_
          refine l_icmp_ne rfl rfl (by unfold rg; omega) (by unfold rg; omega) (fun w100 => ?_) (fun w101 => ?_)
          · refine l_bipush rfl rfl ?_
            have w102 : 0 ≤ Xi T1 904 102 ∧ Xi T1 904 102 ≤ 2600 := hHT1.c _ _
            have w103 : -1 ≤ Xi T1 904 103 ∧ Xi T1 904 103 ≤ 2600 := hHT1.c _ _
            have w104 : 0 ≤ Xi T1 904 65 ∧ Xi T1 904 65 ≤ 1 := hHT1.c _ _
            have w105 : 0 ≤ Xi T1 904 69 ∧ Xi T1 904 69 ≤ 2600 := hHT1.c _ _
            have w106 : 0 ≤ Xi T1 904 70 ∧ Xi T1 904 70 ≤ 20 := hHT1.c _ _
            have w107 : 0 ≤ Xi T1 904 71 ∧ Xi T1 904 71 ≤ 2600 := hHT1.c _ _
            have w108 : 0 ≤ Xi T1 904 72 ∧ Xi T1 904 72 ≤ 2600 := hHT1.c _ _
            have w109 : 0 ≤ Xi T1 904 73 ∧ Xi T1 904 73 ≤ 5 := hHT1.c _ _
            have w110 : 0 ≤ Xi T1 904 74 ∧ Xi T1 904 74 ≤ 2600 := hHT1.c _ _
            have w111 : -2 ≤ Xi T1 904 78 ∧ Xi T1 904 78 ≤ 5010 := hHT1.c _ _
            have w112 : 0 ≤ Xi T1 904 8 ∧ Xi T1 904 8 ≤ 5010 := hHT1.c _ _
            have w113 : 0 ≤ Xi T1 904 81 ∧ Xi T1 904 81 ≤ 5010 := hHT1.c _ _
            have w114 : 0 ≤ Xi T1 904 93 ∧ Xi T1 904 93 ≤ 1700 := hHT1.c _ _
            have w115 : 0 ≤ Xi T1 904 94 ∧ Xi T1 904 94 ≤ 1700 := hHT1.c _ _
            have w116 : 0 ≤ Xi T1 904 98 ∧ Xi T1 904 98 ≤ 1700 := hHT1.c _ _
            refine l_callV rfl rfl rfl (t_mo_rule__3 hHT1 n 0 6 ⟨by omega, by omega⟩ (by first | assumption | exact (TK_FR hFT1 rfl (by assumption : TK S _))) (by first | assumption | exact (by assumption : AT T1 _ _)) (by first | assumption | exact (by assumption : RNV T1 _)) (by first | assumption | omega) (by first | assumption | omega | (rw [show ∀ j, Xi T1 907 j = Xi T1 907 j from fun j => by rw [rfl, Xi_ne (by omega)], show Xi T1 904 8 = Xi T1 904 8 by omega]; first | assumption | omega)) (by first | assumption | omega) (by first | assumption | omega) (by first | assumption | omega) (by first | assumption | exact (by assumption : PF T1)) (by first | assumption | exact (by assumption : BDA T1)) _) ?_
            rintro _ T4 ⟨hHT4, w127, rfl, w117, w118, w119, w120, w121, w122, tv204, pv204, w123, w124, w125⟩
            have hFT4 : FR md_mo_sentence__3 S T4 := FR.tr hFT1 w127 rfl
            show Rl _ _ _ _ _ [] _ _
            have w129 : 0 ≤ Xi T4 904 8 ∧ Xi T4 904 8 ≤ 5010 := hHT4.c _ _
            have w130 : 0 ≤ Xi T4 904 65 ∧ Xi T4 904 65 ≤ 1 := hHT4.c _ _
            have w131 : 0 ≤ Xi T4 904 69 ∧ Xi T4 904 69 ≤ 2600 := hHT4.c _ _
            have w132 : 0 ≤ Xi T4 904 93 ∧ Xi T4 904 93 ≤ 1700 := hHT4.c _ _
            have w128 : Xi S 904 8 ≤ Xi T4 904 8 ∧ Xi T4 904 8 ≤ n + 2 := by omega
            clear w118 w120
            refine l_goto rfl rfl ?_
            have w133 : 0 ≤ Xi T4 904 102 ∧ Xi T4 904 102 ≤ 2600 := hHT4.c _ _
            have w134 : -1 ≤ Xi T4 904 103 ∧ Xi T4 904 103 ≤ 2600 := hHT4.c _ _
            have w135 : 0 ≤ Xi T4 904 65 ∧ Xi T4 904 65 ≤ 1 := hHT4.c _ _
            have w136 : 0 ≤ Xi T4 904 69 ∧ Xi T4 904 69 ≤ 2600 := hHT4.c _ _
            have w137 : 0 ≤ Xi T4 904 70 ∧ Xi T4 904 70 ≤ 20 := hHT4.c _ _
            have w138 : Xi T4 904 71 = Xi T1 904 71 := (show Xi T4 904 71 = Xi T1 904 71 from w127.x _ _ rfl)
            have w139 : 0 ≤ Xi T1 904 71 ∧ Xi T1 904 71 ≤ 2600 := hHT1.c _ _
            have w140 : Xi T4 904 72 = Xi T1 904 72 := (show Xi T4 904 72 = Xi T1 904 72 from w127.x _ _ rfl)
            have w141 : 0 ≤ Xi T1 904 72 ∧ Xi T1 904 72 ≤ 2600 := hHT1.c _ _
            have w142 : Xi T4 904 73 = Xi T1 904 73 := (show Xi T4 904 73 = Xi T1 904 73 from w127.x _ _ rfl)
            have w143 : 0 ≤ Xi T1 904 73 ∧ Xi T1 904 73 ≤ 5 := hHT1.c _ _
            have w144 : Xi T4 904 74 = Xi T1 904 74 := (show Xi T4 904 74 = Xi T1 904 74 from w127.x _ _ rfl)
            have w145 : 0 ≤ Xi T1 904 74 ∧ Xi T1 904 74 ≤ 2600 := hHT1.c _ _
            have w146 : -2 ≤ Xi T4 904 78 ∧ Xi T4 904 78 ≤ 5010 := hHT4.c _ _
            have w147 : 0 ≤ Xi T4 904 8 ∧ Xi T4 904 8 ≤ 5010 := hHT4.c _ _
            have w148 : Xi T4 904 81 = Xi T1 904 81 := (show Xi T4 904 81 = Xi T1 904 81 from w127.x _ _ rfl)
            have w149 : 0 ≤ Xi T1 904 81 ∧ Xi T1 904 81 ≤ 5010 := hHT1.c _ _
            have w150 : 0 ≤ Xi T4 904 93 ∧ Xi T4 904 93 ≤ 1700 := hHT4.c _ _
            have w151 : 0 ≤ Xi T4 904 94 ∧ Xi T4 904 94 ≤ 1700 := hHT4.c _ _
            have w152 : 0 ≤ Xi T4 904 98 ∧ Xi T4 904 98 ≤ 1700 := hHT4.c _ _
            exact Rl_weak (C350 T4 hHT4 hFT4  (by assumption) (by first | assumption | exact (by assumption : RNV T4 _)) (by omega) (by first | exact q347 | exact (fun _ => fun q => by unfold SNQ; refine ⟨fun q1 => ⟨by omega, Q115 q⟩, by omega, by omega, by omega, fun q9 => absurd q9 (by omega), by omega, by omega, by omega, by omega, by omega⟩) Q115 | (exact fun q => by unfold SNQ; refine ⟨fun q1 => absurd q1 (by omega), by omega, by omega, by omega, fun q9 => absurd q9 (by omega), by omega, by omega, by omega, by omega, by omega⟩)) (by first | exact fun q _ _ => tv134 q | exact fun q _ _ => tv204 q | exact fun q a b => absurd b (by omega) | exact fun q a b => absurd a (by omega)) (by first | exact fun q _ _ => pv204 q | exact fun q a b => absurd b (by omega) | exact fun q a b => absurd a (by omega)) (by omega) (by omega) (by omega) (by omega) (by first | assumption | exact (by assumption : PF T4)) (by first | assumption | exact (by assumption : BDA T4))) (And.intro rfl (True.intro))
          · refine l_iconst rfl ?_
            refine l_goto rfl rfl ?_
            have w153 : 0 ≤ Xi T1 904 102 ∧ Xi T1 904 102 ≤ 2600 := hHT1.c _ _
            have w154 : -1 ≤ Xi T1 904 103 ∧ Xi T1 904 103 ≤ 2600 := hHT1.c _ _
            have w155 : 0 ≤ Xi T1 904 65 ∧ Xi T1 904 65 ≤ 1 := hHT1.c _ _
            have w156 : 0 ≤ Xi T1 904 69 ∧ Xi T1 904 69 ≤ 2600 := hHT1.c _ _
            have w157 : 0 ≤ Xi T1 904 70 ∧ Xi T1 904 70 ≤ 20 := hHT1.c _ _
            have w158 : 0 ≤ Xi T1 904 71 ∧ Xi T1 904 71 ≤ 2600 := hHT1.c _ _
            have w159 : 0 ≤ Xi T1 904 72 ∧ Xi T1 904 72 ≤ 2600 := hHT1.c _ _
            have w160 : 0 ≤ Xi T1 904 73 ∧ Xi T1 904 73 ≤ 5 := hHT1.c _ _
            have w161 : 0 ≤ Xi T1 904 74 ∧ Xi T1 904 74 ≤ 2600 := hHT1.c _ _
            have w162 : -2 ≤ Xi T1 904 78 ∧ Xi T1 904 78 ≤ 5010 := hHT1.c _ _
            have w163 : 0 ≤ Xi T1 904 8 ∧ Xi T1 904 8 ≤ 5010 := hHT1.c _ _
            have w164 : 0 ≤ Xi T1 904 81 ∧ Xi T1 904 81 ≤ 5010 := hHT1.c _ _
            have w165 : 0 ≤ Xi T1 904 93 ∧ Xi T1 904 93 ≤ 1700 := hHT1.c _ _
            have w166 : 0 ≤ Xi T1 904 94 ∧ Xi T1 904 94 ≤ 1700 := hHT1.c _ _
            have w167 : 0 ≤ Xi T1 904 98 ∧ Xi T1 904 98 ≤ 1700 := hHT1.c _ _
            refine l_callV rfl rfl rfl (t_mo_rule__3 hHT1 n 0 5 ⟨by omega, by omega⟩ (by first | assumption | exact (TK_FR hFT1 rfl (by assumption : TK S _))) (by first | assumption | exact (by assumption : AT T1 _ _)) (by first | assumption | exact (by assumption : RNV T1 _)) (by first | assumption | omega) (by first | assumption | omega | (rw [show ∀ j, Xi T1 907 j = Xi T1 907 j from fun j => by rw [rfl, Xi_ne (by omega)], show Xi T1 904 8 = Xi T1 904 8 by omega]; first | assumption | omega)) (by first | assumption | omega) (by first | assumption | omega) (by first | assumption | omega) (by first | assumption | exact (by assumption : PF T1)) (by first | assumption | exact (by assumption : BDA T1)) _) ?_
            rintro _ T5 ⟨hHT5, w178, rfl, w168, w169, w170, w171, w172, w173, tv204, pv204, w174, w175, w176⟩
            have hFT5 : FR md_mo_sentence__3 S T5 := FR.tr hFT1 w178 rfl
            show Rl _ _ _ _ _ [] _ _
            have w180 : 0 ≤ Xi T5 904 8 ∧ Xi T5 904 8 ≤ 5010 := hHT5.c _ _
            have w181 : 0 ≤ Xi T5 904 65 ∧ Xi T5 904 65 ≤ 1 := hHT5.c _ _
            have w182 : 0 ≤ Xi T5 904 69 ∧ Xi T5 904 69 ≤ 2600 := hHT5.c _ _
            have w183 : 0 ≤ Xi T5 904 93 ∧ Xi T5 904 93 ≤ 1700 := hHT5.c _ _
            have w179 : Xi S 904 8 ≤ Xi T5 904 8 ∧ Xi T5 904 8 ≤ n + 2 := by omega
            clear w169 w171
            refine l_goto rfl rfl ?_
            have w184 : 0 ≤ Xi T5 904 102 ∧ Xi T5 904 102 ≤ 2600 := hHT5.c _ _
            have w185 : -1 ≤ Xi T5 904 103 ∧ Xi T5 904 103 ≤ 2600 := hHT5.c _ _
            have w186 : 0 ≤ Xi T5 904 65 ∧ Xi T5 904 65 ≤ 1 := hHT5.c _ _
            have w187 : 0 ≤ Xi T5 904 69 ∧ Xi T5 904 69 ≤ 2600 := hHT5.c _ _
            have w188 : 0 ≤ Xi T5 904 70 ∧ Xi T5 904 70 ≤ 20 := hHT5.c _ _
            have w189 : Xi T5 904 71 = Xi T1 904 71 := (show Xi T5 904 71 = Xi T1 904 71 from w178.x _ _ rfl)
            have w190 : 0 ≤ Xi T1 904 71 ∧ Xi T1 904 71 ≤ 2600 := hHT1.c _ _
            have w191 : Xi T5 904 72 = Xi T1 904 72 := (show Xi T5 904 72 = Xi T1 904 72 from w178.x _ _ rfl)
            have w192 : 0 ≤ Xi T1 904 72 ∧ Xi T1 904 72 ≤ 2600 := hHT1.c _ _
            have w193 : Xi T5 904 73 = Xi T1 904 73 := (show Xi T5 904 73 = Xi T1 904 73 from w178.x _ _ rfl)
            have w194 : 0 ≤ Xi T1 904 73 ∧ Xi T1 904 73 ≤ 5 := hHT1.c _ _
            have w195 : Xi T5 904 74 = Xi T1 904 74 := (show Xi T5 904 74 = Xi T1 904 74 from w178.x _ _ rfl)
            have w196 : 0 ≤ Xi T1 904 74 ∧ Xi T1 904 74 ≤ 2600 := hHT1.c _ _
            have w197 : -2 ≤ Xi T5 904 78 ∧ Xi T5 904 78 ≤ 5010 := hHT5.c _ _
            have w198 : 0 ≤ Xi T5 904 8 ∧ Xi T5 904 8 ≤ 5010 := hHT5.c _ _
            have w199 : Xi T5 904 81 = Xi T1 904 81 := (show Xi T5 904 81 = Xi T1 904 81 from w178.x _ _ rfl)
            have w200 : 0 ≤ Xi T1 904 81 ∧ Xi T1 904 81 ≤ 5010 := hHT1.c _ _
            have w201 : 0 ≤ Xi T5 904 93 ∧ Xi T5 904 93 ≤ 1700 := hHT5.c _ _
            have w202 : 0 ≤ Xi T5 904 94 ∧ Xi T5 904 94 ≤ 1700 := hHT5.c _ _
            have w203 : 0 ≤ Xi T5 904 98 ∧ Xi T5 904 98 ≤ 1700 := hHT5.c _ _
            exact Rl_weak (C350 T5 hHT5 hFT5  (by assumption) (by first | assumption | exact (by assumption : RNV T5 _)) (by omega) (by first | exact q347 | exact (fun _ => fun q => by unfold SNQ; refine ⟨fun q1 => ⟨by omega, Q115 q⟩, by omega, by omega, by omega, fun q9 => absurd q9 (by omega), by omega, by omega, by omega, by omega, by omega⟩) Q115 | (exact fun q => by unfold SNQ; refine ⟨fun q1 => absurd q1 (by omega), by omega, by omega, by omega, fun q9 => absurd q9 (by omega), by omega, by omega, by omega, by omega, by omega⟩)) (by first | exact fun q _ _ => tv134 q | exact fun q _ _ => tv204 q | exact fun q a b => absurd b (by omega) | exact fun q a b => absurd a (by omega)) (by first | exact fun q _ _ => pv204 q | exact fun q a b => absurd b (by omega) | exact fun q a b => absurd a (by omega)) (by omega) (by omega) (by omega) (by omega) (by first | assumption | exact (by assumption : PF T5)) (by first | assumption | exact (by assumption : BDA T5))) (And.intro rfl (True.intro))
        · refine l_iconst rfl ?_
          refine l_goto rfl rfl ?_
          have w204 : 0 ≤ Xi T1 904 102 ∧ Xi T1 904 102 ≤ 2600 := hHT1.c _ _
          have w205 : -1 ≤ Xi T1 904 103 ∧ Xi T1 904 103 ≤ 2600 := hHT1.c _ _
          have w206 : 0 ≤ Xi T1 904 65 ∧ Xi T1 904 65 ≤ 1 := hHT1.c _ _
          have w207 : 0 ≤ Xi T1 904 69 ∧ Xi T1 904 69 ≤ 2600 := hHT1.c _ _
          have w208 : 0 ≤ Xi T1 904 70 ∧ Xi T1 904 70 ≤ 20 := hHT1.c _ _
          have w209 : 0 ≤ Xi T1 904 71 ∧ Xi T1 904 71 ≤ 2600 := hHT1.c _ _
          have w210 : 0 ≤ Xi T1 904 72 ∧ Xi T1 904 72 ≤ 2600 := hHT1.c _ _
          have w211 : 0 ≤ Xi T1 904 73 ∧ Xi T1 904 73 ≤ 5 := hHT1.c _ _
          have w212 : 0 ≤ Xi T1 904 74 ∧ Xi T1 904 74 ≤ 2600 := hHT1.c _ _
          have w213 : -2 ≤ Xi T1 904 78 ∧ Xi T1 904 78 ≤ 5010 := hHT1.c _ _
          have w214 : 0 ≤ Xi T1 904 8 ∧ Xi T1 904 8 ≤ 5010 := hHT1.c _ _
          have w215 : 0 ≤ Xi T1 904 81 ∧ Xi T1 904 81 ≤ 5010 := hHT1.c _ _
          have w216 : 0 ≤ Xi T1 904 93 ∧ Xi T1 904 93 ≤ 1700 := hHT1.c _ _
          have w217 : 0 ≤ Xi T1 904 94 ∧ Xi T1 904 94 ≤ 1700 := hHT1.c _ _
          have w218 : 0 ≤ Xi T1 904 98 ∧ Xi T1 904 98 ≤ 1700 := hHT1.c _ _
          refine l_callV rfl rfl rfl (t_mo_rule__3 hHT1 n 0 4 ⟨by omega, by omega⟩ (by first | assumption | exact (TK_FR hFT1 rfl (by assumption : TK S _))) (by first | assumption | exact (by assumption : AT T1 _ _)) (by first | assumption | exact (by assumption : RNV T1 _)) (by first | assumption | omega) (by first | assumption | omega | (rw [show ∀ j, Xi T1 907 j = Xi T1 907 j from fun j => by rw [rfl, Xi_ne (by omega)], show Xi T1 904 8 = Xi T1 904 8 by omega]; first | assumption | omega)) (by first | assumption | omega) (by first | assumption | omega) (by first | assumption | omega) (by first | assumption | exact (by assumption : PF T1)) (by first | assumption | exact (by assumption : BDA T1)) _) ?_
          rintro _ T6 ⟨hHT6, w229, rfl, w219, w220, w221, w222, w223, w224, tv204, pv204, w225, w226, w227⟩
          have hFT6 : FR md_mo_sentence__3 S T6 := FR.tr hFT1 w229 rfl
          show Rl _ _ _ _ _ [] _ _
          have w231 : 0 ≤ Xi T6 904 8 ∧ Xi T6 904 8 ≤ 5010 := hHT6.c _ _
          have w232 : 0 ≤ Xi T6 904 65 ∧ Xi T6 904 65 ≤ 1 := hHT6.c _ _
          have w233 : 0 ≤ Xi T6 904 69 ∧ Xi T6 904 69 ≤ 2600 := hHT6.c _ _
          have w234 : 0 ≤ Xi T6 904 93 ∧ Xi T6 904 93 ≤ 1700 := hHT6.c _ _
          have w230 : Xi S 904 8 ≤ Xi T6 904 8 ∧ Xi T6 904 8 ≤ n + 2 := by omega
          clear w220 w222
          refine l_goto rfl rfl ?_
          have w235 : 0 ≤ Xi T6 904 102 ∧ Xi T6 904 102 ≤ 2600 := hHT6.c _ _
          have w236 : -1 ≤ Xi T6 904 103 ∧ Xi T6 904 103 ≤ 2600 := hHT6.c _ _
          have w237 : 0 ≤ Xi T6 904 65 ∧ Xi T6 904 65 ≤ 1 := hHT6.c _ _
          have w238 : 0 ≤ Xi T6 904 69 ∧ Xi T6 904 69 ≤ 2600 := hHT6.c _ _
          have w239 : 0 ≤ Xi T6 904 70 ∧ Xi T6 904 70 ≤ 20 := hHT6.c _ _
          have w240 : Xi T6 904 71 = Xi T1 904 71 := (show Xi T6 904 71 = Xi T1 904 71 from w229.x _ _ rfl)
          have w241 : 0 ≤ Xi T1 904 71 ∧ Xi T1 904 71 ≤ 2600 := hHT1.c _ _
          have w242 : Xi T6 904 72 = Xi T1 904 72 := (show Xi T6 904 72 = Xi T1 904 72 from w229.x _ _ rfl)
          have w243 : 0 ≤ Xi T1 904 72 ∧ Xi T1 904 72 ≤ 2600 := hHT1.c _ _
          have w244 : Xi T6 904 73 = Xi T1 904 73 := (show Xi T6 904 73 = Xi T1 904 73 from w229.x _ _ rfl)
          have w245 : 0 ≤ Xi T1 904 73 ∧ Xi T1 904 73 ≤ 5 := hHT1.c _ _
          have w246 : Xi T6 904 74 = Xi T1 904 74 := (show Xi T6 904 74 = Xi T1 904 74 from w229.x _ _ rfl)
          have w247 : 0 ≤ Xi T1 904 74 ∧ Xi T1 904 74 ≤ 2600 := hHT1.c _ _
          have w248 : -2 ≤ Xi T6 904 78 ∧ Xi T6 904 78 ≤ 5010 := hHT6.c _ _
          have w249 : 0 ≤ Xi T6 904 8 ∧ Xi T6 904 8 ≤ 5010 := hHT6.c _ _
          have w250 : Xi T6 904 81 = Xi T1 904 81 := (show Xi T6 904 81 = Xi T1 904 81 from w229.x _ _ rfl)
          have w251 : 0 ≤ Xi T1 904 81 ∧ Xi T1 904 81 ≤ 5010 := hHT1.c _ _
          have w252 : 0 ≤ Xi T6 904 93 ∧ Xi T6 904 93 ≤ 1700 := hHT6.c _ _
          have w253 : 0 ≤ Xi T6 904 94 ∧ Xi T6 904 94 ≤ 1700 := hHT6.c _ _
          have w254 : 0 ≤ Xi T6 904 98 ∧ Xi T6 904 98 ≤ 1700 := hHT6.c _ _
          exact Rl_weak (C350 T6 hHT6 hFT6  (by assumption) (by first | assumption | exact (by assumption : RNV T6 _)) (by omega) (by first | exact q347 | exact (fun _ => fun q => by unfold SNQ; refine ⟨fun q1 => ⟨by omega, Q115 q⟩, by omega, by omega, by omega, fun q9 => absurd q9 (by omega), by omega, by omega, by omega, by omega, by omega⟩) Q115 | (exact fun q => by unfold SNQ; refine ⟨fun q1 => absurd q1 (by omega), by omega, by omega, by omega, fun q9 => absurd q9 (by omega), by omega, by omega, by omega, by omega, by omega⟩)) (by first | exact fun q _ _ => tv134 q | exact fun q _ _ => tv204 q | exact fun q a b => absurd b (by omega) | exact fun q a b => absurd a (by omega)) (by first | exact fun q _ _ => pv204 q | exact fun q a b => absurd b (by omega) | exact fun q a b => absurd a (by omega)) (by omega) (by omega) (by omega) (by omega) (by first | assumption | exact (by assumption : PF T6)) (by first | assumption | exact (by assumption : BDA T6))) (And.intro rfl (True.intro))
      · refine l_iconst rfl ?_
        refine l_goto rfl rfl ?_
        have w255 : 0 ≤ Xi T1 904 102 ∧ Xi T1 904 102 ≤ 2600 := hHT1.c _ _
        have w256 : -1 ≤ Xi T1 904 103 ∧ Xi T1 904 103 ≤ 2600 := hHT1.c _ _
        have w257 : 0 ≤ Xi T1 904 65 ∧ Xi T1 904 65 ≤ 1 := hHT1.c _ _
        have w258 : 0 ≤ Xi T1 904 69 ∧ Xi T1 904 69 ≤ 2600 := hHT1.c _ _
        have w259 : 0 ≤ Xi T1 904 70 ∧ Xi T1 904 70 ≤ 20 := hHT1.c _ _
        have w260 : 0 ≤ Xi T1 904 71 ∧ Xi T1 904 71 ≤ 2600 := hHT1.c _ _
        have w261 : 0 ≤ Xi T1 904 72 ∧ Xi T1 904 72 ≤ 2600 := hHT1.c _ _
        have w262 : 0 ≤ Xi T1 904 73 ∧ Xi T1 904 73 ≤ 5 := hHT1.c _ _
        have w263 : 0 ≤ Xi T1 904 74 ∧ Xi T1 904 74 ≤ 2600 := hHT1.c _ _
        have w264 : -2 ≤ Xi T1 904 78 ∧ Xi T1 904 78 ≤ 5010 := hHT1.c _ _
        have w265 : 0 ≤ Xi T1 904 8 ∧ Xi T1 904 8 ≤ 5010 := hHT1.c _ _
        have w266 : 0 ≤ Xi T1 904 81 ∧ Xi T1 904 81 ≤ 5010 := hHT1.c _ _
        have w267 : 0 ≤ Xi T1 904 93 ∧ Xi T1 904 93 ≤ 1700 := hHT1.c _ _
        have w268 : 0 ≤ Xi T1 904 94 ∧ Xi T1 904 94 ≤ 1700 := hHT1.c _ _
        have w269 : 0 ≤ Xi T1 904 98 ∧ Xi T1 904 98 ≤ 1700 := hHT1.c _ _
        refine l_callV rfl rfl rfl (t_mo_rule__3 hHT1 n 0 3 ⟨by omega, by omega⟩ (by first | assumption | exact (TK_FR hFT1 rfl (by assumption : TK S _))) (by first | assumption | exact (by assumption : AT T1 _ _)) (by first | assumption | exact (by assumption : RNV T1 _)) (by first | assumption | omega) (by first | assumption | omega | (rw [show ∀ j, Xi T1 907 j = Xi T1 907 j from fun j => by rw [rfl, Xi_ne (by omega)], show Xi T1 904 8 = Xi T1 904 8 by omega]; first | assumption | omega)) (by first | assumption | omega) (by first | assumption | omega) (by first | assumption | omega) (by first | assumption | exact (by assumption : PF T1)) (by first | assumption | exact (by assumption : BDA T1)) _) ?_
        rintro _ T7 ⟨hHT7, w280, rfl, w270, w271, w272, w273, w274, w275, tv204, pv204, w276, w277, w278⟩
        have hFT7 : FR md_mo_sentence__3 S T7 := FR.tr hFT1 w280 rfl
        show Rl _ _ _ _ _ [] _ _
        have w282 : 0 ≤ Xi T7 904 8 ∧ Xi T7 904 8 ≤ 5010 := hHT7.c _ _
        have w283 : 0 ≤ Xi T7 904 65 ∧ Xi T7 904 65 ≤ 1 := hHT7.c _ _
        have w284 : 0 ≤ Xi T7 904 69 ∧ Xi T7 904 69 ≤ 2600 := hHT7.c _ _
        have w285 : 0 ≤ Xi T7 904 93 ∧ Xi T7 904 93 ≤ 1700 := hHT7.c _ _
        have w281 : Xi S 904 8 ≤ Xi T7 904 8 ∧ Xi T7 904 8 ≤ n + 2 := by omega
        clear w271 w273
        refine l_goto rfl rfl ?_
        have w286 : 0 ≤ Xi T7 904 102 ∧ Xi T7 904 102 ≤ 2600 := hHT7.c _ _
        have w287 : -1 ≤ Xi T7 904 103 ∧ Xi T7 904 103 ≤ 2600 := hHT7.c _ _
        have w288 : 0 ≤ Xi T7 904 65 ∧ Xi T7 904 65 ≤ 1 := hHT7.c _ _
        have w289 : 0 ≤ Xi T7 904 69 ∧ Xi T7 904 69 ≤ 2600 := hHT7.c _ _
        have w290 : 0 ≤ Xi T7 904 70 ∧ Xi T7 904 70 ≤ 20 := hHT7.c _ _
        have w291 : Xi T7 904 71 = Xi T1 904 71 := (show Xi T7 904 71 = Xi T1 904 71 from w280.x _ _ rfl)
        have w292 : 0 ≤ Xi T1 904 71 ∧ Xi T1 904 71 ≤ 2600 := hHT1.c _ _
        have w293 : Xi T7 904 72 = Xi T1 904 72 := (show Xi T7 904 72 = Xi T1 904 72 from w280.x _ _ rfl)
        have w294 : 0 ≤ Xi T1 904 72 ∧ Xi T1 904 72 ≤ 2600 := hHT1.c _ _
        have w295 : Xi T7 904 73 = Xi T1 904 73 := (show Xi T7 904 73 = Xi T1 904 73 from w280.x _ _ rfl)
        have w296 : 0 ≤ Xi T1 904 73 ∧ Xi T1 904 73 ≤ 5 := hHT1.c _ _
        have w297 : Xi T7 904 74 = Xi T1 904 74 := (show Xi T7 904 74 = Xi T1 904 74 from w280.x _ _ rfl)
        have w298 : 0 ≤ Xi T1 904 74 ∧ Xi T1 904 74 ≤ 2600 := hHT1.c _ _
        have w299 : -2 ≤ Xi T7 904 78 ∧ Xi T7 904 78 ≤ 5010 := hHT7.c _ _
        have w300 : 0 ≤ Xi T7 904 8 ∧ Xi T7 904 8 ≤ 5010 := hHT7.c _ _
        have w301 : Xi T7 904 81 = Xi T1 904 81 := (show Xi T7 904 81 = Xi T1 904 81 from w280.x _ _ rfl)
        have w302 : 0 ≤ Xi T1 904 81 ∧ Xi T1 904 81 ≤ 5010 := hHT1.c _ _
        have w303 : 0 ≤ Xi T7 904 93 ∧ Xi T7 904 93 ≤ 1700 := hHT7.c _ _
        have w304 : 0 ≤ Xi T7 904 94 ∧ Xi T7 904 94 ≤ 1700 := hHT7.c _ _
        have w305 : 0 ≤ Xi T7 904 98 ∧ Xi T7 904 98 ≤ 1700 := hHT7.c _ _
        exact Rl_weak (C350 T7 hHT7 hFT7  (by assumption) (by first | assumption | exact (by assumption : RNV T7 _)) (by omega) (by first | exact q347 | exact (fun _ => fun q => by unfold SNQ; refine ⟨fun q1 => ⟨by omega, Q115 q⟩, by omega, by omega, by omega, fun q9 => absurd q9 (by omega), by omega, by omega, by omega, by omega, by omega⟩) Q115 | (exact fun q => by unfold SNQ; refine ⟨fun q1 => absurd q1 (by omega), by omega, by omega, by omega, fun q9 => absurd q9 (by omega), by omega, by omega, by omega, by omega, by omega⟩)) (by first | exact fun q _ _ => tv134 q | exact fun q _ _ => tv204 q | exact fun q a b => absurd b (by omega) | exact fun q a b => absurd a (by omega)) (by first | exact fun q _ _ => pv204 q | exact fun q a b => absurd b (by omega) | exact fun q a b => absurd a (by omega)) (by omega) (by omega) (by omega) (by omega) (by first | assumption | exact (by assumption : PF T7)) (by first | assumption | exact (by assumption : BDA T7))) (And.intro rfl (True.intro))
    have C265 : ∀  (T8 : sS) (_ : HI T8) (_ : FR md_mo_sentence__3 S T8), (AT T8 n 0) → (RNV T8 n) → (Xi S 904 8 ≤ Xi T8 904 8 ∧ Xi T8 904 8 ≤ n + 2) → (Xi T8 904 70 = 7) → (Xi T8 904 94 = 0) → (Xi T8 904 65 = 0 → 1 ≤ Xi T8 904 69) → (PF T8) → (BDA T8) → Rl lay0 (d + 9) m_mo_sentence 265 [(0, .ref 904)] [] T8 (Q_mo_sentence__3 S n) := by
      intro T8 hHT8 hFT8 A265 V265 w306 w307 w308 c265 PF_265 BDA_265
      have w309 : 0 ≤ Xi T8 904 65 ∧ Xi T8 904 65 ≤ 1 := hHT8.c _ _
      have w310 : 0 ≤ Xi T8 904 69 ∧ Xi T8 904 69 ≤ 2600 := hHT8.c _ _
      have w311 : 0 ≤ Xi T8 904 70 ∧ Xi T8 904 70 ≤ 20 := hHT8.c _ _
      have w312 : 0 ≤ Xi T8 904 8 ∧ Xi T8 904 8 ≤ 5010 := hHT8.c _ _
      have w313 : 0 ≤ Xi T8 904 94 ∧ Xi T8 904 94 ≤ 1700 := hHT8.c _ _
      refine l_aload_n rfl rfl ?_
      refine l_bipush rfl rfl ?_
      have w314 : 0 ≤ Xi T8 904 102 ∧ Xi T8 904 102 ≤ 2600 := hHT8.c _ _
      have w315 : -1 ≤ Xi T8 904 103 ∧ Xi T8 904 103 ≤ 2600 := hHT8.c _ _
      have w316 : 0 ≤ Xi T8 904 65 ∧ Xi T8 904 65 ≤ 1 := hHT8.c _ _
      have w317 : 0 ≤ Xi T8 904 69 ∧ Xi T8 904 69 ≤ 2600 := hHT8.c _ _
      have w318 : 0 ≤ Xi T8 904 70 ∧ Xi T8 904 70 ≤ 20 := hHT8.c _ _
      have w319 : 0 ≤ Xi T8 904 71 ∧ Xi T8 904 71 ≤ 2600 := hHT8.c _ _
      have w320 : 0 ≤ Xi T8 904 72 ∧ Xi T8 904 72 ≤ 2600 := hHT8.c _ _
      have w321 : 0 ≤ Xi T8 904 73 ∧ Xi T8 904 73 ≤ 5 := hHT8.c _ _
      have w322 : 0 ≤ Xi T8 904 74 ∧ Xi T8 904 74 ≤ 2600 := hHT8.c _ _
      have w323 : -2 ≤ Xi T8 904 78 ∧ Xi T8 904 78 ≤ 5010 := hHT8.c _ _
      have w324 : 0 ≤ Xi T8 904 8 ∧ Xi T8 904 8 ≤ 5010 := hHT8.c _ _
      have w325 : 0 ≤ Xi T8 904 81 ∧ Xi T8 904 81 ≤ 5010 := hHT8.c _ _
      have w326 : 0 ≤ Xi T8 904 93 ∧ Xi T8 904 93 ≤ 1700 := hHT8.c _ _
      have w327 : 0 ≤ Xi T8 904 94 ∧ Xi T8 904 94 ≤ 1700 := hHT8.c _ _
      have w328 : 0 ≤ Xi T8 904 98 ∧ Xi T8 904 98 ≤ 1700 := hHT8.c _ _
      refine l_callV rfl rfl rfl (t_mo_take__3 hHT8 n 0 102 ⟨by omega, by omega⟩ (by first | assumption | exact (TK_FR hFT8 rfl (by assumption : TK S _))) (by first | assumption | exact (by assumption : AT T8 _ _)) (by omega) (by first | assumption | exact (by assumption : BDA T8)) _) ?_
      rintro _ T9 ⟨hHT9, w334, rfl, w329, w330, w331, tk268, w332⟩
      have hFT9 : FR md_mo_sentence__3 S T9 := FR.tr hFT8 w334 rfl
      show Rl _ _ _ _ _ [] _ _
      have w336 : 0 ≤ Xi T9 904 8 ∧ Xi T9 904 8 ≤ 5010 := hHT9.c _ _
      have w337 : 0 ≤ Xi T9 904 65 ∧ Xi T9 904 65 ≤ 1 := hHT9.c _ _
      have w338 : Xi T9 904 69 = Xi T8 904 69 := (show Xi T9 904 69 = Xi T8 904 69 from w334.x _ _ rfl)
      have w339 : 0 ≤ Xi T8 904 69 ∧ Xi T8 904 69 ≤ 2600 := hHT8.c _ _
      have w340 : Xi T9 904 93 = Xi T8 904 93 := (show Xi T9 904 93 = Xi T8 904 93 from w334.x _ _ rfl)
      have w341 : 0 ≤ Xi T8 904 93 ∧ Xi T8 904 93 ≤ 1700 := hHT8.c _ _
      have c268 : Xi T9 904 65 = 0 → 1 ≤ Xi T9 904 69 := by omega
      clear c265
      clear tk268
      have w335 : Xi S 904 8 ≤ Xi T9 904 8 ∧ Xi T9 904 8 ≤ n + 2 := by omega
      clear w330 w331
      refine l_aload_n rfl rfl ?_
      have w342 : Xi T9 904 102 = Xi T8 904 102 := (show Xi T9 904 102 = Xi T8 904 102 from w334.x _ _ rfl)
      have w343 : 0 ≤ Xi T8 904 102 ∧ Xi T8 904 102 ≤ 2600 := hHT8.c _ _
      have w344 : Xi T9 904 103 = Xi T8 904 103 := (show Xi T9 904 103 = Xi T8 904 103 from w334.x _ _ rfl)
      have w345 : -1 ≤ Xi T8 904 103 ∧ Xi T8 904 103 ≤ 2600 := hHT8.c _ _
      have w346 : 0 ≤ Xi T9 904 65 ∧ Xi T9 904 65 ≤ 1 := hHT9.c _ _
      have w347 : Xi T9 904 69 = Xi T8 904 69 := (show Xi T9 904 69 = Xi T8 904 69 from w334.x _ _ rfl)
      have w348 : 0 ≤ Xi T8 904 69 ∧ Xi T8 904 69 ≤ 2600 := hHT8.c _ _
      have w349 : Xi T9 904 70 = Xi T8 904 70 := (show Xi T9 904 70 = Xi T8 904 70 from w334.x _ _ rfl)
      have w350 : 0 ≤ Xi T8 904 70 ∧ Xi T8 904 70 ≤ 20 := hHT8.c _ _
      have w351 : Xi T9 904 71 = Xi T8 904 71 := (show Xi T9 904 71 = Xi T8 904 71 from w334.x _ _ rfl)
      have w352 : 0 ≤ Xi T8 904 71 ∧ Xi T8 904 71 ≤ 2600 := hHT8.c _ _
      have w353 : Xi T9 904 72 = Xi T8 904 72 := (show Xi T9 904 72 = Xi T8 904 72 from w334.x _ _ rfl)
      have w354 : 0 ≤ Xi T8 904 72 ∧ Xi T8 904 72 ≤ 2600 := hHT8.c _ _
      have w355 : Xi T9 904 73 = Xi T8 904 73 := (show Xi T9 904 73 = Xi T8 904 73 from w334.x _ _ rfl)
      have w356 : 0 ≤ Xi T8 904 73 ∧ Xi T8 904 73 ≤ 5 := hHT8.c _ _
      have w357 : Xi T9 904 74 = Xi T8 904 74 := (show Xi T9 904 74 = Xi T8 904 74 from w334.x _ _ rfl)
      have w358 : 0 ≤ Xi T8 904 74 ∧ Xi T8 904 74 ≤ 2600 := hHT8.c _ _
      have w359 : Xi T9 904 78 = Xi T8 904 78 := (show Xi T9 904 78 = Xi T8 904 78 from w334.x _ _ rfl)
      have w360 : -2 ≤ Xi T8 904 78 ∧ Xi T8 904 78 ≤ 5010 := hHT8.c _ _
      have w361 : 0 ≤ Xi T9 904 8 ∧ Xi T9 904 8 ≤ 5010 := hHT9.c _ _
      have w362 : Xi T9 904 81 = Xi T8 904 81 := (show Xi T9 904 81 = Xi T8 904 81 from w334.x _ _ rfl)
      have w363 : 0 ≤ Xi T8 904 81 ∧ Xi T8 904 81 ≤ 5010 := hHT8.c _ _
      have w364 : Xi T9 904 93 = Xi T8 904 93 := (show Xi T9 904 93 = Xi T8 904 93 from w334.x _ _ rfl)
      have w365 : 0 ≤ Xi T8 904 93 ∧ Xi T8 904 93 ≤ 1700 := hHT8.c _ _
      have w366 : Xi T9 904 94 = Xi T8 904 94 := (show Xi T9 904 94 = Xi T8 904 94 from w334.x _ _ rfl)
      have w367 : 0 ≤ Xi T8 904 94 ∧ Xi T8 904 94 ≤ 1700 := hHT8.c _ _
      have w368 : Xi T9 904 98 = Xi T8 904 98 := (show Xi T9 904 98 = Xi T8 904 98 from w334.x _ _ rfl)
      have w369 : 0 ≤ Xi T8 904 98 ∧ Xi T8 904 98 ≤ 1700 := hHT8.c _ _
      refine l_callV rfl rfl rfl (t_mo_run__2 hHT9 n 0 (by first | assumption | exact (TK_FR hFT9 rfl (by assumption : TK S _))) (by first | assumption | exact (by assumption : AT T9 _ _)) (by first | assumption | exact (RNV_FR w334 rfl (by assumption : RNV T8 _))) (by first | assumption | exact (by assumption : BDA T9)) _) ?_
      rintro _ T10 ⟨hHT10, w377, z376, rfl, w376, w370, w371, w372, w373, w374, w375⟩
      have hFT10 : FR md_mo_sentence__3 S T10 := FR.tr hFT9 w377 rfl
      show Rl _ _ _ _ _ [iv z376] _ _
      have w379 : 0 ≤ Xi T10 904 8 ∧ Xi T10 904 8 ≤ 5010 := hHT10.c _ _
      have w380 : 0 ≤ Xi T10 904 65 ∧ Xi T10 904 65 ≤ 1 := hHT10.c _ _
      have w381 : 0 ≤ Xi T10 904 69 ∧ Xi T10 904 69 ≤ 2600 := hHT10.c _ _
      have w382 : Xi T10 904 93 = Xi T8 904 93 := (show Xi T10 904 93 = Xi T9 904 93 from w377.x _ _ rfl).trans ((show Xi T9 904 93 = Xi T8 904 93 from w334.x _ _ rfl))
      have w383 : 0 ≤ Xi T8 904 93 ∧ Xi T8 904 93 ≤ 1700 := hHT8.c _ _
      have c272 : Xi T10 904 65 = 0 → 2 ≤ Xi T10 904 69 := by omega
      clear c268
      have w378 : Xi S 904 8 ≤ Xi T10 904 8 ∧ Xi T10 904 8 ≤ n + 2 := by omega
      clear w371 w373 w374 w335
      refine l_pop rfl rfl ?_
      refine l_aload_n rfl rfl ?_
      refine l_bipush rfl rfl ?_
      have w384 : Xi T10 904 102 = Xi T8 904 102 := (show Xi T10 904 102 = Xi T9 904 102 from w377.x _ _ rfl).trans ((show Xi T9 904 102 = Xi T8 904 102 from w334.x _ _ rfl))
      have w385 : 0 ≤ Xi T8 904 102 ∧ Xi T8 904 102 ≤ 2600 := hHT8.c _ _
      have w386 : Xi T10 904 103 = Xi T8 904 103 := (show Xi T10 904 103 = Xi T9 904 103 from w377.x _ _ rfl).trans ((show Xi T9 904 103 = Xi T8 904 103 from w334.x _ _ rfl))
      have w387 : -1 ≤ Xi T8 904 103 ∧ Xi T8 904 103 ≤ 2600 := hHT8.c _ _
      have w388 : 0 ≤ Xi T10 904 65 ∧ Xi T10 904 65 ≤ 1 := hHT10.c _ _
      have w389 : 0 ≤ Xi T10 904 69 ∧ Xi T10 904 69 ≤ 2600 := hHT10.c _ _
      have w390 : Xi T10 904 70 = Xi T8 904 70 := (show Xi T10 904 70 = Xi T9 904 70 from w377.x _ _ rfl).trans ((show Xi T9 904 70 = Xi T8 904 70 from w334.x _ _ rfl))
      have w391 : 0 ≤ Xi T8 904 70 ∧ Xi T8 904 70 ≤ 20 := hHT8.c _ _
      have w392 : Xi T10 904 71 = Xi T8 904 71 := (show Xi T10 904 71 = Xi T9 904 71 from w377.x _ _ rfl).trans ((show Xi T9 904 71 = Xi T8 904 71 from w334.x _ _ rfl))
      have w393 : 0 ≤ Xi T8 904 71 ∧ Xi T8 904 71 ≤ 2600 := hHT8.c _ _
      have w394 : Xi T10 904 72 = Xi T8 904 72 := (show Xi T10 904 72 = Xi T9 904 72 from w377.x _ _ rfl).trans ((show Xi T9 904 72 = Xi T8 904 72 from w334.x _ _ rfl))
      have w395 : 0 ≤ Xi T8 904 72 ∧ Xi T8 904 72 ≤ 2600 := hHT8.c _ _
      have w396 : Xi T10 904 73 = Xi T8 904 73 := (show Xi T10 904 73 = Xi T9 904 73 from w377.x _ _ rfl).trans ((show Xi T9 904 73 = Xi T8 904 73 from w334.x _ _ rfl))
      have w397 : 0 ≤ Xi T8 904 73 ∧ Xi T8 904 73 ≤ 5 := hHT8.c _ _
      have w398 : Xi T10 904 74 = Xi T8 904 74 := (show Xi T10 904 74 = Xi T9 904 74 from w377.x _ _ rfl).trans ((show Xi T9 904 74 = Xi T8 904 74 from w334.x _ _ rfl))
      have w399 : 0 ≤ Xi T8 904 74 ∧ Xi T8 904 74 ≤ 2600 := hHT8.c _ _
      have w400 : Xi T10 904 78 = Xi T8 904 78 := (show Xi T10 904 78 = Xi T9 904 78 from w377.x _ _ rfl).trans ((show Xi T9 904 78 = Xi T8 904 78 from w334.x _ _ rfl))
      have w401 : -2 ≤ Xi T8 904 78 ∧ Xi T8 904 78 ≤ 5010 := hHT8.c _ _
      have w402 : 0 ≤ Xi T10 904 8 ∧ Xi T10 904 8 ≤ 5010 := hHT10.c _ _
      have w403 : Xi T10 904 81 = Xi T8 904 81 := (show Xi T10 904 81 = Xi T9 904 81 from w377.x _ _ rfl).trans ((show Xi T9 904 81 = Xi T8 904 81 from w334.x _ _ rfl))
      have w404 : 0 ≤ Xi T8 904 81 ∧ Xi T8 904 81 ≤ 5010 := hHT8.c _ _
      have w405 : Xi T10 904 93 = Xi T8 904 93 := (show Xi T10 904 93 = Xi T9 904 93 from w377.x _ _ rfl).trans ((show Xi T9 904 93 = Xi T8 904 93 from w334.x _ _ rfl))
      have w406 : 0 ≤ Xi T8 904 93 ∧ Xi T8 904 93 ≤ 1700 := hHT8.c _ _
      have w407 : Xi T10 904 94 = Xi T8 904 94 := (show Xi T10 904 94 = Xi T9 904 94 from w377.x _ _ rfl).trans ((show Xi T9 904 94 = Xi T8 904 94 from w334.x _ _ rfl))
      have w408 : 0 ≤ Xi T8 904 94 ∧ Xi T8 904 94 ≤ 1700 := hHT8.c _ _
      have w409 : Xi T10 904 98 = Xi T8 904 98 := (show Xi T10 904 98 = Xi T9 904 98 from w377.x _ _ rfl).trans ((show Xi T9 904 98 = Xi T8 904 98 from w334.x _ _ rfl))
      have w410 : 0 ≤ Xi T8 904 98 ∧ Xi T8 904 98 ≤ 1700 := hHT8.c _ _
      refine l_callV rfl rfl rfl (t_mo_take__3 hHT10 n 0 126 ⟨by omega, by omega⟩ (by first | assumption | exact (TK_FR hFT10 rfl (by assumption : TK S _))) (by first | assumption | exact (by assumption : AT T10 _ _)) (by omega) (by first | assumption | exact (by assumption : BDA T10)) _) ?_
      rintro _ T11 ⟨hHT11, w416, rfl, w411, w412, w413, tk279, w414⟩
      have hFT11 : FR md_mo_sentence__3 S T11 := FR.tr hFT10 w416 rfl
      show Rl _ _ _ _ _ [] _ _
      have w418 : 0 ≤ Xi T11 904 8 ∧ Xi T11 904 8 ≤ 5010 := hHT11.c _ _
      have w419 : 0 ≤ Xi T11 904 65 ∧ Xi T11 904 65 ≤ 1 := hHT11.c _ _
      have w420 : Xi T11 904 69 = Xi T10 904 69 := (show Xi T11 904 69 = Xi T10 904 69 from w416.x _ _ rfl)
      have w421 : 0 ≤ Xi T10 904 69 ∧ Xi T10 904 69 ≤ 2600 := hHT10.c _ _
      have w422 : Xi T11 904 93 = Xi T8 904 93 := (show Xi T11 904 93 = Xi T10 904 93 from w416.x _ _ rfl).trans ( (show Xi T10 904 93 = Xi T9 904 93 from w377.x _ _ rfl).trans ((show Xi T9 904 93 = Xi T8 904 93 from w334.x _ _ rfl)))
      have w423 : 0 ≤ Xi T8 904 93 ∧ Xi T8 904 93 ≤ 1700 := hHT8.c _ _
      have c279 : Xi T11 904 65 = 0 → 2 ≤ Xi T11 904 69 := by omega
      clear c272
      clear tk279
      have w417 : Xi S 904 8 ≤ Xi T11 904 8 ∧ Xi T11 904 8 ≤ n + 2 := by omega
      clear w412 w413 w378
      refine l_goto rfl rfl ?_
      have w424 : Xi T11 904 102 = Xi T8 904 102 := (show Xi T11 904 102 = Xi T10 904 102 from w416.x _ _ rfl).trans ( (show Xi T10 904 102 = Xi T9 904 102 from w377.x _ _ rfl).trans ((show Xi T9 904 102 = Xi T8 904 102 from w334.x _ _ rfl)))
      have w425 : 0 ≤ Xi T8 904 102 ∧ Xi T8 904 102 ≤ 2600 := hHT8.c _ _
      have w426 : Xi T11 904 103 = Xi T8 904 103 := (show Xi T11 904 103 = Xi T10 904 103 from w416.x _ _ rfl).trans ( (show Xi T10 904 103 = Xi T9 904 103 from w377.x _ _ rfl).trans ((show Xi T9 904 103 = Xi T8 904 103 from w334.x _ _ rfl)))
      have w427 : -1 ≤ Xi T8 904 103 ∧ Xi T8 904 103 ≤ 2600 := hHT8.c _ _
      have w428 : 0 ≤ Xi T11 904 65 ∧ Xi T11 904 65 ≤ 1 := hHT11.c _ _
      have w429 : Xi T11 904 69 = Xi T10 904 69 := (show Xi T11 904 69 = Xi T10 904 69 from w416.x _ _ rfl)
      have w430 : 0 ≤ Xi T10 904 69 ∧ Xi T10 904 69 ≤ 2600 := hHT10.c _ _
      have w431 : Xi T11 904 70 = Xi T8 904 70 := (show Xi T11 904 70 = Xi T10 904 70 from w416.x _ _ rfl).trans ( (show Xi T10 904 70 = Xi T9 904 70 from w377.x _ _ rfl).trans ((show Xi T9 904 70 = Xi T8 904 70 from w334.x _ _ rfl)))
      have w432 : 0 ≤ Xi T8 904 70 ∧ Xi T8 904 70 ≤ 20 := hHT8.c _ _
      have w433 : Xi T11 904 71 = Xi T8 904 71 := (show Xi T11 904 71 = Xi T10 904 71 from w416.x _ _ rfl).trans ( (show Xi T10 904 71 = Xi T9 904 71 from w377.x _ _ rfl).trans ((show Xi T9 904 71 = Xi T8 904 71 from w334.x _ _ rfl)))
      have w434 : 0 ≤ Xi T8 904 71 ∧ Xi T8 904 71 ≤ 2600 := hHT8.c _ _
      have w435 : Xi T11 904 72 = Xi T8 904 72 := (show Xi T11 904 72 = Xi T10 904 72 from w416.x _ _ rfl).trans ( (show Xi T10 904 72 = Xi T9 904 72 from w377.x _ _ rfl).trans ((show Xi T9 904 72 = Xi T8 904 72 from w334.x _ _ rfl)))
      have w436 : 0 ≤ Xi T8 904 72 ∧ Xi T8 904 72 ≤ 2600 := hHT8.c _ _
      have w437 : Xi T11 904 73 = Xi T8 904 73 := (show Xi T11 904 73 = Xi T10 904 73 from w416.x _ _ rfl).trans ( (show Xi T10 904 73 = Xi T9 904 73 from w377.x _ _ rfl).trans ((show Xi T9 904 73 = Xi T8 904 73 from w334.x _ _ rfl)))
      have w438 : 0 ≤ Xi T8 904 73 ∧ Xi T8 904 73 ≤ 5 := hHT8.c _ _
      have w439 : Xi T11 904 74 = Xi T8 904 74 := (show Xi T11 904 74 = Xi T10 904 74 from w416.x _ _ rfl).trans ( (show Xi T10 904 74 = Xi T9 904 74 from w377.x _ _ rfl).trans ((show Xi T9 904 74 = Xi T8 904 74 from w334.x _ _ rfl)))
      have w440 : 0 ≤ Xi T8 904 74 ∧ Xi T8 904 74 ≤ 2600 := hHT8.c _ _
      have w441 : Xi T11 904 78 = Xi T8 904 78 := (show Xi T11 904 78 = Xi T10 904 78 from w416.x _ _ rfl).trans ( (show Xi T10 904 78 = Xi T9 904 78 from w377.x _ _ rfl).trans ((show Xi T9 904 78 = Xi T8 904 78 from w334.x _ _ rfl)))
      have w442 : -2 ≤ Xi T8 904 78 ∧ Xi T8 904 78 ≤ 5010 := hHT8.c _ _
      have w443 : 0 ≤ Xi T11 904 8 ∧ Xi T11 904 8 ≤ 5010 := hHT11.c _ _
      have w444 : Xi T11 904 81 = Xi T8 904 81 := (show Xi T11 904 81 = Xi T10 904 81 from w416.x _ _ rfl).trans ( (show Xi T10 904 81 = Xi T9 904 81 from w377.x _ _ rfl).trans ((show Xi T9 904 81 = Xi T8 904 81 from w334.x _ _ rfl)))
      have w445 : 0 ≤ Xi T8 904 81 ∧ Xi T8 904 81 ≤ 5010 := hHT8.c _ _
      have w446 : Xi T11 904 93 = Xi T8 904 93 := (show Xi T11 904 93 = Xi T10 904 93 from w416.x _ _ rfl).trans ( (show Xi T10 904 93 = Xi T9 904 93 from w377.x _ _ rfl).trans ((show Xi T9 904 93 = Xi T8 904 93 from w334.x _ _ rfl)))
      have w447 : 0 ≤ Xi T8 904 93 ∧ Xi T8 904 93 ≤ 1700 := hHT8.c _ _
      have w448 : Xi T11 904 94 = Xi T8 904 94 := (show Xi T11 904 94 = Xi T10 904 94 from w416.x _ _ rfl).trans ( (show Xi T10 904 94 = Xi T9 904 94 from w377.x _ _ rfl).trans ((show Xi T9 904 94 = Xi T8 904 94 from w334.x _ _ rfl)))
      have w449 : 0 ≤ Xi T8 904 94 ∧ Xi T8 904 94 ≤ 1700 := hHT8.c _ _
      have w450 : Xi T11 904 98 = Xi T8 904 98 := (show Xi T11 904 98 = Xi T10 904 98 from w416.x _ _ rfl).trans ( (show Xi T10 904 98 = Xi T9 904 98 from w377.x _ _ rfl).trans ((show Xi T9 904 98 = Xi T8 904 98 from w334.x _ _ rfl)))
      have w451 : 0 ≤ Xi T8 904 98 ∧ Xi T8 904 98 ≤ 1700 := hHT8.c _ _
      exact Rl_weak (C350 T11 hHT11 hFT11  (by assumption) (by first | assumption | exact (RNV_FR w416 rfl (by assumption : RNV T10 _))) (by omega) (by first | exact q347 | exact (fun _ => fun q => by unfold SNQ; refine ⟨fun q1 => ⟨by omega, Q115 q⟩, by omega, by omega, by omega, fun q9 => absurd q9 (by omega), by omega, by omega, by omega, by omega, by omega⟩) Q115 | (exact fun q => by unfold SNQ; refine ⟨fun q1 => absurd q1 (by omega), by omega, by omega, by omega, fun q9 => absurd q9 (by omega), by omega, by omega, by omega, by omega, by omega⟩)) (by first | exact fun q _ _ => tv134 q | exact fun q _ _ => tv204 q | exact fun q a b => absurd b (by omega) | exact fun q a b => absurd a (by omega)) (by first | exact fun q _ _ => pv204 q | exact fun q a b => absurd b (by omega) | exact fun q a b => absurd a (by omega)) (by omega) (by omega) (by omega) (by omega) (by first | assumption | exact (PF_FR w416 rfl (PF_FR w377 rfl (PF_FR w334 rfl (by assumption : PF T8))))) (by first | assumption | exact (by assumption : BDA T11))) (And.intro rfl (True.intro))
    have C285 : ∀  (v1 : Int), (0 ≤ v1 ∧ v1 ≤ 154) → (AT T1 n 0) → (RNV T1 n) → (Xi T1 904 8 = Xi S 904 8) → (Xi T1 904 65 = 0) → (Xi T1 904 69 = 0) → (Xi T1 904 93 = 0) → (Xi T1 904 94 = 0) → (Xi T1 904 98 = 0) → (Xi T1 907 (Xi T1 904 8).toNat ≠ 1) → (v1 = Xi T1 907 (Xi T1 904 8).toNat) → (PF T1) → (BDA T1) → Rl lay0 (d + 9) m_mo_sentence 285 [(0, .ref 904), (1, iv v1)] [] T1 (Q_mo_sentence__3 S n) := by
      intro v1 w452 A285 V285 w453 w454 w455 w456 w457 w458 k285 w459 PF_285 BDA_285
      have C346 : (AT T1 n 0) → (RNV T1 n) → (Xi T1 904 8 = Xi S 904 8) → (Xi T1 904 65 = 0) → (Xi T1 904 69 = 0) → (Xi T1 904 93 = 0) → (Xi T1 904 94 = 0) → (Xi T1 904 98 = 0) → (Xi T1 907 (Xi T1 904 8).toNat ≠ 1) → (v1 = Xi T1 907 (Xi T1 904 8).toNat) → (PF T1) → (BDA T1) → Rl lay0 (d + 9) m_mo_sentence 346 [(0, .ref 904)] [] T1 (Q_mo_sentence__3 S n) := by
        intro A346 V346 w460 w461 w462 w463 w464 w465 k346 w466 PF_346 BDA_346
        refine l_aload_n rfl rfl ?_
        have w467 : 0 ≤ Xi T1 904 102 ∧ Xi T1 904 102 ≤ 2600 := hHT1.c _ _
        have w468 : -1 ≤ Xi T1 904 103 ∧ Xi T1 904 103 ≤ 2600 := hHT1.c _ _
        have w469 : 0 ≤ Xi T1 904 65 ∧ Xi T1 904 65 ≤ 1 := hHT1.c _ _
        have w470 : 0 ≤ Xi T1 904 69 ∧ Xi T1 904 69 ≤ 2600 := hHT1.c _ _
        have w471 : 0 ≤ Xi T1 904 70 ∧ Xi T1 904 70 ≤ 20 := hHT1.c _ _
        have w472 : 0 ≤ Xi T1 904 71 ∧ Xi T1 904 71 ≤ 2600 := hHT1.c _ _
        have w473 : 0 ≤ Xi T1 904 72 ∧ Xi T1 904 72 ≤ 2600 := hHT1.c _ _
        have w474 : 0 ≤ Xi T1 904 73 ∧ Xi T1 904 73 ≤ 5 := hHT1.c _ _
        have w475 : 0 ≤ Xi T1 904 74 ∧ Xi T1 904 74 ≤ 2600 := hHT1.c _ _
        have w476 : -2 ≤ Xi T1 904 78 ∧ Xi T1 904 78 ≤ 5010 := hHT1.c _ _
        have w477 : 0 ≤ Xi T1 904 8 ∧ Xi T1 904 8 ≤ 5010 := hHT1.c _ _
        have w478 : 0 ≤ Xi T1 904 81 ∧ Xi T1 904 81 ≤ 5010 := hHT1.c _ _
        have w479 : 0 ≤ Xi T1 904 93 ∧ Xi T1 904 93 ≤ 1700 := hHT1.c _ _
        have w480 : 0 ≤ Xi T1 904 94 ∧ Xi T1 904 94 ≤ 1700 := hHT1.c _ _
        have w481 : 0 ≤ Xi T1 904 98 ∧ Xi T1 904 98 ≤ 1700 := hHT1.c _ _
        refine l_callV rfl rfl rfl (t_mo_common__2 hHT1 n 0 (by first | assumption | exact (TK_FR hFT1 rfl (by assumption : TK S _))) (by first | assumption | exact (by assumption : AT T1 _ _)) (by first | assumption | exact (by assumption : RNV T1 _)) (by first | assumption | omega) (by first | assumption | omega) (by first | assumption | exact (by assumption : BDA T1)) _) ?_
        rintro _ T12 ⟨hHT12, w491, rfl, w482, w483, w484, w485, w486, w487, q347, w488, w489⟩
        have hFT12 : FR md_mo_sentence__3 S T12 := FR.tr hFT1 w491 rfl
        show Rl _ _ _ _ _ [] _ _
        have w493 : 0 ≤ Xi T12 904 8 ∧ Xi T12 904 8 ≤ 5010 := hHT12.c _ _
        have w494 : 0 ≤ Xi T12 904 65 ∧ Xi T12 904 65 ≤ 1 := hHT12.c _ _
        have w495 : 0 ≤ Xi T12 904 69 ∧ Xi T12 904 69 ≤ 2600 := hHT12.c _ _
        have w496 : Xi T12 904 93 = Xi T1 904 93 := (show Xi T12 904 93 = Xi T1 904 93 from w491.x _ _ rfl)
        have w497 : 0 ≤ Xi T1 904 93 ∧ Xi T1 904 93 ≤ 1700 := hHT1.c _ _
        have w492 : Xi S 904 8 ≤ Xi T12 904 8 ∧ Xi T12 904 8 ≤ n + 2 := by omega
        clear w483 w485 w486
        have w498 : Xi T12 904 102 = Xi T1 904 102 := (show Xi T12 904 102 = Xi T1 904 102 from w491.x _ _ rfl)
        have w499 : 0 ≤ Xi T1 904 102 ∧ Xi T1 904 102 ≤ 2600 := hHT1.c _ _
        have w500 : Xi T12 904 103 = Xi T1 904 103 := (show Xi T12 904 103 = Xi T1 904 103 from w491.x _ _ rfl)
        have w501 : -1 ≤ Xi T1 904 103 ∧ Xi T1 904 103 ≤ 2600 := hHT1.c _ _
        have w502 : 0 ≤ Xi T12 904 65 ∧ Xi T12 904 65 ≤ 1 := hHT12.c _ _
        have w503 : 0 ≤ Xi T12 904 69 ∧ Xi T12 904 69 ≤ 2600 := hHT12.c _ _
        have w504 : 0 ≤ Xi T12 904 70 ∧ Xi T12 904 70 ≤ 20 := hHT12.c _ _
        have w505 : 0 ≤ Xi T12 904 71 ∧ Xi T12 904 71 ≤ 2600 := hHT12.c _ _
        have w506 : 0 ≤ Xi T12 904 72 ∧ Xi T12 904 72 ≤ 2600 := hHT12.c _ _
        have w507 : 0 ≤ Xi T12 904 73 ∧ Xi T12 904 73 ≤ 5 := hHT12.c _ _
        have w508 : 0 ≤ Xi T12 904 74 ∧ Xi T12 904 74 ≤ 2600 := hHT12.c _ _
        have w509 : -2 ≤ Xi T12 904 78 ∧ Xi T12 904 78 ≤ 5010 := hHT12.c _ _
        have w510 : 0 ≤ Xi T12 904 8 ∧ Xi T12 904 8 ≤ 5010 := hHT12.c _ _
        have w511 : Xi T12 904 81 = Xi T1 904 81 := (show Xi T12 904 81 = Xi T1 904 81 from w491.x _ _ rfl)
        have w512 : 0 ≤ Xi T1 904 81 ∧ Xi T1 904 81 ≤ 5010 := hHT1.c _ _
        have w513 : Xi T12 904 93 = Xi T1 904 93 := (show Xi T12 904 93 = Xi T1 904 93 from w491.x _ _ rfl)
        have w514 : 0 ≤ Xi T1 904 93 ∧ Xi T1 904 93 ≤ 1700 := hHT1.c _ _
        have w515 : Xi T12 904 94 = Xi T1 904 94 := (show Xi T12 904 94 = Xi T1 904 94 from w491.x _ _ rfl)
        have w516 : 0 ≤ Xi T1 904 94 ∧ Xi T1 904 94 ≤ 1700 := hHT1.c _ _
        have w517 : Xi T12 904 98 = Xi T1 904 98 := (show Xi T12 904 98 = Xi T1 904 98 from w491.x _ _ rfl)
        have w518 : 0 ≤ Xi T1 904 98 ∧ Xi T1 904 98 ≤ 1700 := hHT1.c _ _
        exact Rl_weak (C350 T12 hHT12 hFT12  (by assumption) (by first | assumption | exact (by assumption : RNV T12 _)) (by omega) (by first | exact q347 | exact (fun _ => fun q => by unfold SNQ; refine ⟨fun q1 => ⟨by omega, Q115 q⟩, by omega, by omega, by omega, fun q9 => absurd q9 (by omega), by omega, by omega, by omega, by omega, by omega⟩) Q115 | (exact fun q => by unfold SNQ; refine ⟨fun q1 => absurd q1 (by omega), by omega, by omega, by omega, fun q9 => absurd q9 (by omega), by omega, by omega, by omega, by omega, by omega⟩)) (by first | exact fun q _ _ => tv134 q | exact fun q _ _ => tv204 q | exact fun q a b => absurd b (by omega) | exact fun q a b => absurd a (by omega)) (by first | exact fun q _ _ => pv204 q | exact fun q a b => absurd b (by omega) | exact fun q a b => absurd a (by omega)) (by omega) (by omega) (by omega) (by omega) (by first | assumption | exact (PF_FR w491 rfl (by assumption : PF T1))) (by first | assumption | exact (by assumption : BDA T12))) (And.intro rfl (True.intro))
      refine l_iload_n rfl rfl ?_
      refine l_bipush rfl rfl ?_
      refine l_icmp_ne rfl rfl (by unfold rg; omega) (by unfold rg; omega) (fun w519 => ?_) (fun w520 => ?_)
      · have w521 : 0 ≤ Xi T1 904 102 ∧ Xi T1 904 102 ≤ 2600 := hHT1.c _ _
        have w522 : -1 ≤ Xi T1 904 103 ∧ Xi T1 904 103 ≤ 2600 := hHT1.c _ _
        have w523 : 0 ≤ Xi T1 904 65 ∧ Xi T1 904 65 ≤ 1 := hHT1.c _ _
        have w524 : 0 ≤ Xi T1 904 69 ∧ Xi T1 904 69 ≤ 2600 := hHT1.c _ _
        have w525 : 0 ≤ Xi T1 904 70 ∧ Xi T1 904 70 ≤ 20 := hHT1.c _ _
        have w526 : 0 ≤ Xi T1 904 71 ∧ Xi T1 904 71 ≤ 2600 := hHT1.c _ _
        have w527 : 0 ≤ Xi T1 904 72 ∧ Xi T1 904 72 ≤ 2600 := hHT1.c _ _
        have w528 : 0 ≤ Xi T1 904 73 ∧ Xi T1 904 73 ≤ 5 := hHT1.c _ _
        have w529 : 0 ≤ Xi T1 904 74 ∧ Xi T1 904 74 ≤ 2600 := hHT1.c _ _
        have w530 : -2 ≤ Xi T1 904 78 ∧ Xi T1 904 78 ≤ 5010 := hHT1.c _ _
        have w531 : 0 ≤ Xi T1 904 8 ∧ Xi T1 904 8 ≤ 5010 := hHT1.c _ _
        have w532 : 0 ≤ Xi T1 904 81 ∧ Xi T1 904 81 ≤ 5010 := hHT1.c _ _
        have w533 : 0 ≤ Xi T1 904 93 ∧ Xi T1 904 93 ≤ 1700 := hHT1.c _ _
        have w534 : 0 ≤ Xi T1 904 94 ∧ Xi T1 904 94 ≤ 1700 := hHT1.c _ _
        have w535 : 0 ≤ Xi T1 904 98 ∧ Xi T1 904 98 ≤ 1700 := hHT1.c _ _
        exact Rl_weak (C346  (by first | assumption | exact (by assumption : AT T1 _ _)) (by first | assumption | exact (by assumption : RNV T1 _)) (by omega) (by omega) (by omega) (by omega) (by omega) (by omega) (by first | assumption | omega) (by omega) (by first | assumption | exact (by assumption : PF T1)) (by first | assumption | exact (by assumption : BDA T1))) (And.intro rfl (True.intro))
      · refine l_aload_n rfl rfl ?_
        refine l_gfr rfl rfl rfl rfl rfl (hHT1.r 904 4 907 rfl) ?_
        refine l_aload_n rfl rfl ?_
        refine l_gfi rfl rfl rfl rfl rfl ?_
        refine l_iconst rfl ?_
        refine l_iadd rfl ?_
        refine l_iaload (n := 5002) rfl rfl (by omega) (by omega) (by unfold rg; omega) ?_
        have w536 : 0 ≤ (Xi T1 907 ((((Xi T1 904 8) + 1)).toNat)) ∧ (Xi T1 907 ((((Xi T1 904 8) + 1)).toNat)) ≤ 154 := hHT1.c _ _
        refine l_bipush rfl rfl ?_
        refine l_icmp_ne rfl rfl (by unfold rg; omega) (by unfold rg; omega) (fun w537 => ?_) (fun w538 => ?_)
        · have w539 : 0 ≤ Xi T1 904 102 ∧ Xi T1 904 102 ≤ 2600 := hHT1.c _ _
          have w540 : -1 ≤ Xi T1 904 103 ∧ Xi T1 904 103 ≤ 2600 := hHT1.c _ _
          have w541 : 0 ≤ Xi T1 904 65 ∧ Xi T1 904 65 ≤ 1 := hHT1.c _ _
          have w542 : 0 ≤ Xi T1 904 69 ∧ Xi T1 904 69 ≤ 2600 := hHT1.c _ _
          have w543 : 0 ≤ Xi T1 904 70 ∧ Xi T1 904 70 ≤ 20 := hHT1.c _ _
          have w544 : 0 ≤ Xi T1 904 71 ∧ Xi T1 904 71 ≤ 2600 := hHT1.c _ _
          have w545 : 0 ≤ Xi T1 904 72 ∧ Xi T1 904 72 ≤ 2600 := hHT1.c _ _
          have w546 : 0 ≤ Xi T1 904 73 ∧ Xi T1 904 73 ≤ 5 := hHT1.c _ _
          have w547 : 0 ≤ Xi T1 904 74 ∧ Xi T1 904 74 ≤ 2600 := hHT1.c _ _
          have w548 : -2 ≤ Xi T1 904 78 ∧ Xi T1 904 78 ≤ 5010 := hHT1.c _ _
          have w549 : 0 ≤ Xi T1 904 8 ∧ Xi T1 904 8 ≤ 5010 := hHT1.c _ _
          have w550 : 0 ≤ Xi T1 904 81 ∧ Xi T1 904 81 ≤ 5010 := hHT1.c _ _
          have w551 : 0 ≤ Xi T1 904 93 ∧ Xi T1 904 93 ≤ 1700 := hHT1.c _ _
          have w552 : 0 ≤ Xi T1 904 94 ∧ Xi T1 904 94 ≤ 1700 := hHT1.c _ _
          have w553 : 0 ≤ Xi T1 904 98 ∧ Xi T1 904 98 ≤ 1700 := hHT1.c _ _
          exact Rl_weak (C346  (by first | assumption | exact (by assumption : AT T1 _ _)) (by first | assumption | exact (by assumption : RNV T1 _)) (by omega) (by omega) (by omega) (by omega) (by omega) (by omega) (by first | assumption | omega) (by omega) (by first | assumption | exact (by assumption : PF T1)) (by first | assumption | exact (by assumption : BDA T1))) (And.intro rfl (True.intro))
        · refine l_aload_n rfl rfl ?_
          refine l_bipush rfl rfl ?_
          refine l_pfi rfl rfl rfl rfl ?_
          obtain ⟨U13, eU13⟩ : ∃ T : sS, T = uI T1 904 70 (Int32.ofInt 8) := ⟨_, rfl⟩
          rw [← eU13]
          have hHU13 : HI U13 := by rw [eU13]; exact HI_w hHT1 (show 0 ≤ 8 by omega) (show 8 ≤ 20 by omega)
          have hFU13 : FR md_mo_sentence__3 S U13 := by rw [eU13]; exact FR.wI hFT1 (mdf_i (r := (904, 905, 70, 71)) (List.mem_of_getElem? (i := 4) rfl) (inR_i (by omega) (by omega) (by omega) (by omega)))
          have w554 : Xi U13 904 70 = 8 := by rw [eU13]; exact Xi_same (by unfold rg; omega)
          refine l_aload_n rfl rfl ?_
          refine l_dup rfl rfl ?_
          refine l_gfi rfl rfl rfl rfl rfl ?_
          have w555 : (Xi U13 904 8) = (Xi T1 904 8) := (show Xi U13 904 8 = Xi T1 904 8 from by rw [eU13]; exact Xi_ne (by omega))
          rw [w555]
          refine l_iconst rfl ?_
          refine l_iadd rfl ?_
          refine l_pfi rfl rfl rfl rfl ?_
          obtain ⟨U14, eU14⟩ : ∃ T : sS, T = uI U13 904 8 (Int32.ofInt ((Xi T1 904 8) + 2)) := ⟨_, rfl⟩
          rw [← eU14]
          have hHU14 : HI U14 := by rw [eU14]; exact HI_w hHU13 (show 0 ≤ ((Xi T1 904 8) + 2) by omega) (show ((Xi T1 904 8) + 2) ≤ 5010 by omega)
          have hFU14 : FR md_mo_sentence__3 S U14 := by rw [eU14]; exact FR.wI hFU13 (mdf_i (r := (904, 905, 8, 9)) (List.mem_of_getElem? (i := 0) rfl) (inR_i (by omega) (by omega) (by omega) (by omega)))
          have w556 : Xi U14 904 8 = ((Xi T1 904 8) + 2) := by rw [eU14]; exact Xi_same (by unfold rg; omega)
          have t320 : AT U14 n 0 ∧ _ := (at_mv2 (S := T1) (P := U13) (TK_FR hFT1 rfl (by assumption : TK S _)) (by first | assumption | exact (by assumption : AT T1 _ _)) (fun j => ((FR_e eU13).cx 907 rfl j).1) (fun j => ((FR_e eU13).cx 908 rfl j).1) ((show Xi U13 904 8 = Xi T1 904 8 from by rw [eU13]; exact Xi_ne (by omega))) ((show Xi U13 904 65 = Xi T1 904 65 from by rw [eU13]; exact Xi_ne (by omega))) ((show Xi U13 904 69 = Xi T1 904 69 from by rw [eU13]; exact Xi_ne (by omega))) ((show Xi U13 904 93 = Xi T1 904 93 from by rw [eU13]; exact Xi_ne (by omega))) eU14 (by omega) (by omega) (by omega) (by omega) (by omega))
          have a320 : AT U14 n 0 := t320.1
          have l320 := t320.2
          refine l_aload_n rfl rfl ?_
          refine l_bipush rfl rfl ?_
          have w557 : Xi U14 904 102 = Xi T1 904 102 := (show Xi U14 904 102 = Xi U13 904 102 from by rw [eU14]; exact Xi_ne (by omega)).trans ((show Xi U13 904 102 = Xi T1 904 102 from by rw [eU13]; exact Xi_ne (by omega)))
          have w558 : 0 ≤ Xi T1 904 102 ∧ Xi T1 904 102 ≤ 2600 := hHT1.c _ _
          have w559 : Xi U14 904 103 = Xi T1 904 103 := (show Xi U14 904 103 = Xi U13 904 103 from by rw [eU14]; exact Xi_ne (by omega)).trans ((show Xi U13 904 103 = Xi T1 904 103 from by rw [eU13]; exact Xi_ne (by omega)))
          have w560 : -1 ≤ Xi T1 904 103 ∧ Xi T1 904 103 ≤ 2600 := hHT1.c _ _
          have w561 : Xi U14 904 65 = Xi T1 904 65 := (show Xi U14 904 65 = Xi U13 904 65 from by rw [eU14]; exact Xi_ne (by omega)).trans ((show Xi U13 904 65 = Xi T1 904 65 from by rw [eU13]; exact Xi_ne (by omega)))
          have w562 : 0 ≤ Xi T1 904 65 ∧ Xi T1 904 65 ≤ 1 := hHT1.c _ _
          have w563 : Xi U14 904 69 = Xi T1 904 69 := (show Xi U14 904 69 = Xi U13 904 69 from by rw [eU14]; exact Xi_ne (by omega)).trans ((show Xi U13 904 69 = Xi T1 904 69 from by rw [eU13]; exact Xi_ne (by omega)))
          have w564 : 0 ≤ Xi T1 904 69 ∧ Xi T1 904 69 ≤ 2600 := hHT1.c _ _
          have w565 : Xi U14 904 70 = Xi U13 904 70 := (show Xi U14 904 70 = Xi U13 904 70 from by rw [eU14]; exact Xi_ne (by omega))
          have w566 : 0 ≤ Xi U13 904 70 ∧ Xi U13 904 70 ≤ 20 := hHU13.c _ _
          have w567 : Xi U14 904 71 = Xi T1 904 71 := (show Xi U14 904 71 = Xi U13 904 71 from by rw [eU14]; exact Xi_ne (by omega)).trans ((show Xi U13 904 71 = Xi T1 904 71 from by rw [eU13]; exact Xi_ne (by omega)))
          have w568 : 0 ≤ Xi T1 904 71 ∧ Xi T1 904 71 ≤ 2600 := hHT1.c _ _
          have w569 : Xi U14 904 72 = Xi T1 904 72 := (show Xi U14 904 72 = Xi U13 904 72 from by rw [eU14]; exact Xi_ne (by omega)).trans ((show Xi U13 904 72 = Xi T1 904 72 from by rw [eU13]; exact Xi_ne (by omega)))
          have w570 : 0 ≤ Xi T1 904 72 ∧ Xi T1 904 72 ≤ 2600 := hHT1.c _ _
          have w571 : Xi U14 904 73 = Xi T1 904 73 := (show Xi U14 904 73 = Xi U13 904 73 from by rw [eU14]; exact Xi_ne (by omega)).trans ((show Xi U13 904 73 = Xi T1 904 73 from by rw [eU13]; exact Xi_ne (by omega)))
          have w572 : 0 ≤ Xi T1 904 73 ∧ Xi T1 904 73 ≤ 5 := hHT1.c _ _
          have w573 : Xi U14 904 74 = Xi T1 904 74 := (show Xi U14 904 74 = Xi U13 904 74 from by rw [eU14]; exact Xi_ne (by omega)).trans ((show Xi U13 904 74 = Xi T1 904 74 from by rw [eU13]; exact Xi_ne (by omega)))
          have w574 : 0 ≤ Xi T1 904 74 ∧ Xi T1 904 74 ≤ 2600 := hHT1.c _ _
          have w575 : Xi U14 904 78 = Xi T1 904 78 := (show Xi U14 904 78 = Xi U13 904 78 from by rw [eU14]; exact Xi_ne (by omega)).trans ((show Xi U13 904 78 = Xi T1 904 78 from by rw [eU13]; exact Xi_ne (by omega)))
          have w576 : -2 ≤ Xi T1 904 78 ∧ Xi T1 904 78 ≤ 5010 := hHT1.c _ _
          have w577 : 0 ≤ Xi U14 904 8 ∧ Xi U14 904 8 ≤ 5010 := hHU14.c _ _
          have w578 : Xi U14 904 81 = Xi T1 904 81 := (show Xi U14 904 81 = Xi U13 904 81 from by rw [eU14]; exact Xi_ne (by omega)).trans ((show Xi U13 904 81 = Xi T1 904 81 from by rw [eU13]; exact Xi_ne (by omega)))
          have w579 : 0 ≤ Xi T1 904 81 ∧ Xi T1 904 81 ≤ 5010 := hHT1.c _ _
          have w580 : Xi U14 904 93 = Xi T1 904 93 := (show Xi U14 904 93 = Xi U13 904 93 from by rw [eU14]; exact Xi_ne (by omega)).trans ((show Xi U13 904 93 = Xi T1 904 93 from by rw [eU13]; exact Xi_ne (by omega)))
          have w581 : 0 ≤ Xi T1 904 93 ∧ Xi T1 904 93 ≤ 1700 := hHT1.c _ _
          have w582 : Xi U14 904 94 = Xi T1 904 94 := (show Xi U14 904 94 = Xi U13 904 94 from by rw [eU14]; exact Xi_ne (by omega)).trans ((show Xi U13 904 94 = Xi T1 904 94 from by rw [eU13]; exact Xi_ne (by omega)))
          have w583 : 0 ≤ Xi T1 904 94 ∧ Xi T1 904 94 ≤ 1700 := hHT1.c _ _
          have w584 : Xi U14 904 98 = Xi T1 904 98 := (show Xi U14 904 98 = Xi U13 904 98 from by rw [eU14]; exact Xi_ne (by omega)).trans ((show Xi U13 904 98 = Xi T1 904 98 from by rw [eU13]; exact Xi_ne (by omega)))
          have w585 : 0 ≤ Xi T1 904 98 ∧ Xi T1 904 98 ≤ 1700 := hHT1.c _ _
          refine l_callV rfl rfl rfl (t_mo_take__3 hHU14 n 0 107 ⟨by omega, by omega⟩ (by first | assumption | exact (TK_FR hFU14 rfl (by assumption : TK S _))) (by first | assumption | exact (by assumption : AT U14 _ _)) (by omega) (by first | assumption | exact (BDA_FR (FR_e eU14) rfl (BDA_FR (FR_e eU13) rfl (by assumption : BDA T1)))) _) ?_
          rintro _ T15 ⟨hHT15, w591, rfl, w586, w587, w588, tk326, w589⟩
          have hFT15 : FR md_mo_sentence__3 S T15 := FR.tr hFU14 w591 rfl
          show Rl _ _ _ _ _ [] _ _
          have w593 : 0 ≤ Xi T15 904 8 ∧ Xi T15 904 8 ≤ 5010 := hHT15.c _ _
          have w594 : 0 ≤ Xi T15 904 65 ∧ Xi T15 904 65 ≤ 1 := hHT15.c _ _
          have w595 : Xi T15 904 69 = Xi T1 904 69 := (show Xi T15 904 69 = Xi U14 904 69 from w591.x _ _ rfl).trans ( (show Xi U14 904 69 = Xi U13 904 69 from by rw [eU14]; exact Xi_ne (by omega)).trans ((show Xi U13 904 69 = Xi T1 904 69 from by rw [eU13]; exact Xi_ne (by omega))))
          have w596 : 0 ≤ Xi T1 904 69 ∧ Xi T1 904 69 ≤ 2600 := hHT1.c _ _
          have w597 : Xi T15 904 93 = Xi T1 904 93 := (show Xi T15 904 93 = Xi U14 904 93 from w591.x _ _ rfl).trans ( (show Xi U14 904 93 = Xi U13 904 93 from by rw [eU14]; exact Xi_ne (by omega)).trans ((show Xi U13 904 93 = Xi T1 904 93 from by rw [eU13]; exact Xi_ne (by omega))))
          have w598 : 0 ≤ Xi T1 904 93 ∧ Xi T1 904 93 ≤ 1700 := hHT1.c _ _
          have c326 : Xi T15 904 65 = 0 → 0 ≤ Xi T15 904 69 := by omega
          clear tk326
          have w592 : Xi S 904 8 ≤ Xi T15 904 8 ∧ Xi T15 904 8 ≤ n + 2 := by omega
          clear w587 w588
          refine l_aload_n rfl rfl ?_
          have w599 : Xi T15 904 102 = Xi T1 904 102 := (show Xi T15 904 102 = Xi U14 904 102 from w591.x _ _ rfl).trans ( (show Xi U14 904 102 = Xi U13 904 102 from by rw [eU14]; exact Xi_ne (by omega)).trans ((show Xi U13 904 102 = Xi T1 904 102 from by rw [eU13]; exact Xi_ne (by omega))))
          have w600 : 0 ≤ Xi T1 904 102 ∧ Xi T1 904 102 ≤ 2600 := hHT1.c _ _
          have w601 : Xi T15 904 103 = Xi T1 904 103 := (show Xi T15 904 103 = Xi U14 904 103 from w591.x _ _ rfl).trans ( (show Xi U14 904 103 = Xi U13 904 103 from by rw [eU14]; exact Xi_ne (by omega)).trans ((show Xi U13 904 103 = Xi T1 904 103 from by rw [eU13]; exact Xi_ne (by omega))))
          have w602 : -1 ≤ Xi T1 904 103 ∧ Xi T1 904 103 ≤ 2600 := hHT1.c _ _
          have w603 : 0 ≤ Xi T15 904 65 ∧ Xi T15 904 65 ≤ 1 := hHT15.c _ _
          have w604 : Xi T15 904 69 = Xi T1 904 69 := (show Xi T15 904 69 = Xi U14 904 69 from w591.x _ _ rfl).trans ( (show Xi U14 904 69 = Xi U13 904 69 from by rw [eU14]; exact Xi_ne (by omega)).trans ((show Xi U13 904 69 = Xi T1 904 69 from by rw [eU13]; exact Xi_ne (by omega))))
          have w605 : 0 ≤ Xi T1 904 69 ∧ Xi T1 904 69 ≤ 2600 := hHT1.c _ _
          have w606 : Xi T15 904 70 = Xi U13 904 70 := (show Xi T15 904 70 = Xi U14 904 70 from w591.x _ _ rfl).trans ((show Xi U14 904 70 = Xi U13 904 70 from by rw [eU14]; exact Xi_ne (by omega)))
          have w607 : 0 ≤ Xi U13 904 70 ∧ Xi U13 904 70 ≤ 20 := hHU13.c _ _
          have w608 : Xi T15 904 71 = Xi T1 904 71 := (show Xi T15 904 71 = Xi U14 904 71 from w591.x _ _ rfl).trans ( (show Xi U14 904 71 = Xi U13 904 71 from by rw [eU14]; exact Xi_ne (by omega)).trans ((show Xi U13 904 71 = Xi T1 904 71 from by rw [eU13]; exact Xi_ne (by omega))))
          have w609 : 0 ≤ Xi T1 904 71 ∧ Xi T1 904 71 ≤ 2600 := hHT1.c _ _
          have w610 : Xi T15 904 72 = Xi T1 904 72 := (show Xi T15 904 72 = Xi U14 904 72 from w591.x _ _ rfl).trans ( (show Xi U14 904 72 = Xi U13 904 72 from by rw [eU14]; exact Xi_ne (by omega)).trans ((show Xi U13 904 72 = Xi T1 904 72 from by rw [eU13]; exact Xi_ne (by omega))))
          have w611 : 0 ≤ Xi T1 904 72 ∧ Xi T1 904 72 ≤ 2600 := hHT1.c _ _
          have w612 : Xi T15 904 73 = Xi T1 904 73 := (show Xi T15 904 73 = Xi U14 904 73 from w591.x _ _ rfl).trans ( (show Xi U14 904 73 = Xi U13 904 73 from by rw [eU14]; exact Xi_ne (by omega)).trans ((show Xi U13 904 73 = Xi T1 904 73 from by rw [eU13]; exact Xi_ne (by omega))))
          have w613 : 0 ≤ Xi T1 904 73 ∧ Xi T1 904 73 ≤ 5 := hHT1.c _ _
          have w614 : Xi T15 904 74 = Xi T1 904 74 := (show Xi T15 904 74 = Xi U14 904 74 from w591.x _ _ rfl).trans ( (show Xi U14 904 74 = Xi U13 904 74 from by rw [eU14]; exact Xi_ne (by omega)).trans ((show Xi U13 904 74 = Xi T1 904 74 from by rw [eU13]; exact Xi_ne (by omega))))
          have w615 : 0 ≤ Xi T1 904 74 ∧ Xi T1 904 74 ≤ 2600 := hHT1.c _ _
          have w616 : Xi T15 904 78 = Xi T1 904 78 := (show Xi T15 904 78 = Xi U14 904 78 from w591.x _ _ rfl).trans ( (show Xi U14 904 78 = Xi U13 904 78 from by rw [eU14]; exact Xi_ne (by omega)).trans ((show Xi U13 904 78 = Xi T1 904 78 from by rw [eU13]; exact Xi_ne (by omega))))
          have w617 : -2 ≤ Xi T1 904 78 ∧ Xi T1 904 78 ≤ 5010 := hHT1.c _ _
          have w618 : 0 ≤ Xi T15 904 8 ∧ Xi T15 904 8 ≤ 5010 := hHT15.c _ _
          have w619 : Xi T15 904 81 = Xi T1 904 81 := (show Xi T15 904 81 = Xi U14 904 81 from w591.x _ _ rfl).trans ( (show Xi U14 904 81 = Xi U13 904 81 from by rw [eU14]; exact Xi_ne (by omega)).trans ((show Xi U13 904 81 = Xi T1 904 81 from by rw [eU13]; exact Xi_ne (by omega))))
          have w620 : 0 ≤ Xi T1 904 81 ∧ Xi T1 904 81 ≤ 5010 := hHT1.c _ _
          have w621 : Xi T15 904 93 = Xi T1 904 93 := (show Xi T15 904 93 = Xi U14 904 93 from w591.x _ _ rfl).trans ( (show Xi U14 904 93 = Xi U13 904 93 from by rw [eU14]; exact Xi_ne (by omega)).trans ((show Xi U13 904 93 = Xi T1 904 93 from by rw [eU13]; exact Xi_ne (by omega))))
          have w622 : 0 ≤ Xi T1 904 93 ∧ Xi T1 904 93 ≤ 1700 := hHT1.c _ _
          have w623 : Xi T15 904 94 = Xi T1 904 94 := (show Xi T15 904 94 = Xi U14 904 94 from w591.x _ _ rfl).trans ( (show Xi U14 904 94 = Xi U13 904 94 from by rw [eU14]; exact Xi_ne (by omega)).trans ((show Xi U13 904 94 = Xi T1 904 94 from by rw [eU13]; exact Xi_ne (by omega))))
          have w624 : 0 ≤ Xi T1 904 94 ∧ Xi T1 904 94 ≤ 1700 := hHT1.c _ _
          have w625 : Xi T15 904 98 = Xi T1 904 98 := (show Xi T15 904 98 = Xi U14 904 98 from w591.x _ _ rfl).trans ( (show Xi U14 904 98 = Xi U13 904 98 from by rw [eU14]; exact Xi_ne (by omega)).trans ((show Xi U13 904 98 = Xi T1 904 98 from by rw [eU13]; exact Xi_ne (by omega))))
          have w626 : 0 ≤ Xi T1 904 98 ∧ Xi T1 904 98 ≤ 1700 := hHT1.c _ _
          refine l_callV rfl rfl rfl (t_mo_name__2 hHT15 n 0 (by first | assumption | exact (TK_FR hFT15 rfl (by assumption : TK S _))) (by first | assumption | exact (by assumption : AT T15 _ _)) (by first | assumption | exact (RNV_FR w591 rfl (RNV_FR (FR_e eU14) rfl (RNV_FR (FR_e eU13) rfl (by assumption : RNV T1 _))))) (by first | assumption | exact (by assumption : BDA T15)) _) ?_
          rintro _ T16 ⟨hHT16, w634, z633, rfl, w633, w627, w628, w629, w630, w631, w632⟩
          have hFT16 : FR md_mo_sentence__3 S T16 := FR.tr hFT15 w634 rfl
          show Rl _ _ _ _ _ [iv z633] _ _
          have w636 : 0 ≤ Xi T16 904 8 ∧ Xi T16 904 8 ≤ 5010 := hHT16.c _ _
          have w637 : 0 ≤ Xi T16 904 65 ∧ Xi T16 904 65 ≤ 1 := hHT16.c _ _
          have w638 : 0 ≤ Xi T16 904 69 ∧ Xi T16 904 69 ≤ 2600 := hHT16.c _ _
          have w639 : Xi T16 904 93 = Xi T1 904 93 := (show Xi T16 904 93 = Xi T15 904 93 from w634.x _ _ rfl).trans ( (show Xi T15 904 93 = Xi U14 904 93 from w591.x _ _ rfl).trans ( (show Xi U14 904 93 = Xi U13 904 93 from by rw [eU14]; exact Xi_ne (by omega)).trans ((show Xi U13 904 93 = Xi T1 904 93 from by rw [eU13]; exact Xi_ne (by omega)))))
          have w640 : 0 ≤ Xi T1 904 93 ∧ Xi T1 904 93 ≤ 1700 := hHT1.c _ _
          have c330 : Xi T16 904 65 = 0 → 1 ≤ Xi T16 904 69 := by omega
          clear c326
          have w635 : Xi S 904 8 ≤ Xi T16 904 8 ∧ Xi T16 904 8 ≤ n + 2 := by omega
          clear w628 w630 w631 w592
          refine l_pop rfl rfl ?_
          refine l_aload_n rfl rfl ?_
          have w641 : Xi T16 904 102 = Xi T1 904 102 := (show Xi T16 904 102 = Xi T15 904 102 from w634.x _ _ rfl).trans ( (show Xi T15 904 102 = Xi U14 904 102 from w591.x _ _ rfl).trans ( (show Xi U14 904 102 = Xi U13 904 102 from by rw [eU14]; exact Xi_ne (by omega)).trans ((show Xi U13 904 102 = Xi T1 904 102 from by rw [eU13]; exact Xi_ne (by omega)))))
          have w642 : 0 ≤ Xi T1 904 102 ∧ Xi T1 904 102 ≤ 2600 := hHT1.c _ _
          have w643 : Xi T16 904 103 = Xi T1 904 103 := (show Xi T16 904 103 = Xi T15 904 103 from w634.x _ _ rfl).trans ( (show Xi T15 904 103 = Xi U14 904 103 from w591.x _ _ rfl).trans ( (show Xi U14 904 103 = Xi U13 904 103 from by rw [eU14]; exact Xi_ne (by omega)).trans ((show Xi U13 904 103 = Xi T1 904 103 from by rw [eU13]; exact Xi_ne (by omega)))))
          have w644 : -1 ≤ Xi T1 904 103 ∧ Xi T1 904 103 ≤ 2600 := hHT1.c _ _
          have w645 : 0 ≤ Xi T16 904 65 ∧ Xi T16 904 65 ≤ 1 := hHT16.c _ _
          have w646 : 0 ≤ Xi T16 904 69 ∧ Xi T16 904 69 ≤ 2600 := hHT16.c _ _
          have w647 : Xi T16 904 70 = Xi U13 904 70 := (show Xi T16 904 70 = Xi T15 904 70 from w634.x _ _ rfl).trans ( (show Xi T15 904 70 = Xi U14 904 70 from w591.x _ _ rfl).trans ((show Xi U14 904 70 = Xi U13 904 70 from by rw [eU14]; exact Xi_ne (by omega))))
          have w648 : 0 ≤ Xi U13 904 70 ∧ Xi U13 904 70 ≤ 20 := hHU13.c _ _
          have w649 : Xi T16 904 71 = Xi T1 904 71 := (show Xi T16 904 71 = Xi T15 904 71 from w634.x _ _ rfl).trans ( (show Xi T15 904 71 = Xi U14 904 71 from w591.x _ _ rfl).trans ( (show Xi U14 904 71 = Xi U13 904 71 from by rw [eU14]; exact Xi_ne (by omega)).trans ((show Xi U13 904 71 = Xi T1 904 71 from by rw [eU13]; exact Xi_ne (by omega)))))
          have w650 : 0 ≤ Xi T1 904 71 ∧ Xi T1 904 71 ≤ 2600 := hHT1.c _ _
          have w651 : Xi T16 904 72 = Xi T1 904 72 := (show Xi T16 904 72 = Xi T15 904 72 from w634.x _ _ rfl).trans ( (show Xi T15 904 72 = Xi U14 904 72 from w591.x _ _ rfl).trans ( (show Xi U14 904 72 = Xi U13 904 72 from by rw [eU14]; exact Xi_ne (by omega)).trans ((show Xi U13 904 72 = Xi T1 904 72 from by rw [eU13]; exact Xi_ne (by omega)))))
          have w652 : 0 ≤ Xi T1 904 72 ∧ Xi T1 904 72 ≤ 2600 := hHT1.c _ _
          have w653 : Xi T16 904 73 = Xi T1 904 73 := (show Xi T16 904 73 = Xi T15 904 73 from w634.x _ _ rfl).trans ( (show Xi T15 904 73 = Xi U14 904 73 from w591.x _ _ rfl).trans ( (show Xi U14 904 73 = Xi U13 904 73 from by rw [eU14]; exact Xi_ne (by omega)).trans ((show Xi U13 904 73 = Xi T1 904 73 from by rw [eU13]; exact Xi_ne (by omega)))))
          have w654 : 0 ≤ Xi T1 904 73 ∧ Xi T1 904 73 ≤ 5 := hHT1.c _ _
          have w655 : Xi T16 904 74 = Xi T1 904 74 := (show Xi T16 904 74 = Xi T15 904 74 from w634.x _ _ rfl).trans ( (show Xi T15 904 74 = Xi U14 904 74 from w591.x _ _ rfl).trans ( (show Xi U14 904 74 = Xi U13 904 74 from by rw [eU14]; exact Xi_ne (by omega)).trans ((show Xi U13 904 74 = Xi T1 904 74 from by rw [eU13]; exact Xi_ne (by omega)))))
          have w656 : 0 ≤ Xi T1 904 74 ∧ Xi T1 904 74 ≤ 2600 := hHT1.c _ _
          have w657 : Xi T16 904 78 = Xi T1 904 78 := (show Xi T16 904 78 = Xi T15 904 78 from w634.x _ _ rfl).trans ( (show Xi T15 904 78 = Xi U14 904 78 from w591.x _ _ rfl).trans ( (show Xi U14 904 78 = Xi U13 904 78 from by rw [eU14]; exact Xi_ne (by omega)).trans ((show Xi U13 904 78 = Xi T1 904 78 from by rw [eU13]; exact Xi_ne (by omega)))))
          have w658 : -2 ≤ Xi T1 904 78 ∧ Xi T1 904 78 ≤ 5010 := hHT1.c _ _
          have w659 : 0 ≤ Xi T16 904 8 ∧ Xi T16 904 8 ≤ 5010 := hHT16.c _ _
          have w660 : Xi T16 904 81 = Xi T1 904 81 := (show Xi T16 904 81 = Xi T15 904 81 from w634.x _ _ rfl).trans ( (show Xi T15 904 81 = Xi U14 904 81 from w591.x _ _ rfl).trans ( (show Xi U14 904 81 = Xi U13 904 81 from by rw [eU14]; exact Xi_ne (by omega)).trans ((show Xi U13 904 81 = Xi T1 904 81 from by rw [eU13]; exact Xi_ne (by omega)))))
          have w661 : 0 ≤ Xi T1 904 81 ∧ Xi T1 904 81 ≤ 5010 := hHT1.c _ _
          have w662 : Xi T16 904 93 = Xi T1 904 93 := (show Xi T16 904 93 = Xi T15 904 93 from w634.x _ _ rfl).trans ( (show Xi T15 904 93 = Xi U14 904 93 from w591.x _ _ rfl).trans ( (show Xi U14 904 93 = Xi U13 904 93 from by rw [eU14]; exact Xi_ne (by omega)).trans ((show Xi U13 904 93 = Xi T1 904 93 from by rw [eU13]; exact Xi_ne (by omega)))))
          have w663 : 0 ≤ Xi T1 904 93 ∧ Xi T1 904 93 ≤ 1700 := hHT1.c _ _
          have w664 : Xi T16 904 94 = Xi T1 904 94 := (show Xi T16 904 94 = Xi T15 904 94 from w634.x _ _ rfl).trans ( (show Xi T15 904 94 = Xi U14 904 94 from w591.x _ _ rfl).trans ( (show Xi U14 904 94 = Xi U13 904 94 from by rw [eU14]; exact Xi_ne (by omega)).trans ((show Xi U13 904 94 = Xi T1 904 94 from by rw [eU13]; exact Xi_ne (by omega)))))
          have w665 : 0 ≤ Xi T1 904 94 ∧ Xi T1 904 94 ≤ 1700 := hHT1.c _ _
          have w666 : Xi T16 904 98 = Xi T1 904 98 := (show Xi T16 904 98 = Xi T15 904 98 from w634.x _ _ rfl).trans ( (show Xi T15 904 98 = Xi U14 904 98 from w591.x _ _ rfl).trans ( (show Xi U14 904 98 = Xi U13 904 98 from by rw [eU14]; exact Xi_ne (by omega)).trans ((show Xi U13 904 98 = Xi T1 904 98 from by rw [eU13]; exact Xi_ne (by omega)))))
          have w667 : 0 ≤ Xi T1 904 98 ∧ Xi T1 904 98 ≤ 1700 := hHT1.c _ _
          refine l_callV rfl rfl rfl (t_mo_be__3 hHT16 n 0 (by first | assumption | exact (TK_FR hFT16 rfl (by assumption : TK S _))) (by first | assumption | exact (by assumption : AT T16 _ _)) (by first | assumption | exact (by assumption : BDA T16)) _) ?_
          rintro _ T17 ⟨hHT17, w673, rfl, w668, w669, w670, w671⟩
          have hFT17 : FR md_mo_sentence__3 S T17 := FR.tr hFT16 w673 rfl
          show Rl _ _ _ _ _ [] _ _
          have w675 : 0 ≤ Xi T17 904 8 ∧ Xi T17 904 8 ≤ 5010 := hHT17.c _ _
          have w676 : 0 ≤ Xi T17 904 65 ∧ Xi T17 904 65 ≤ 1 := hHT17.c _ _
          have w677 : Xi T17 904 69 = Xi T16 904 69 := (show Xi T17 904 69 = Xi T16 904 69 from w673.x _ _ rfl)
          have w678 : 0 ≤ Xi T16 904 69 ∧ Xi T16 904 69 ≤ 2600 := hHT16.c _ _
          have w679 : Xi T17 904 93 = Xi T1 904 93 := (show Xi T17 904 93 = Xi T16 904 93 from w673.x _ _ rfl).trans ( (show Xi T16 904 93 = Xi T15 904 93 from w634.x _ _ rfl).trans ( (show Xi T15 904 93 = Xi U14 904 93 from w591.x _ _ rfl).trans ( (show Xi U14 904 93 = Xi U13 904 93 from by rw [eU14]; exact Xi_ne (by omega)).trans ((show Xi U13 904 93 = Xi T1 904 93 from by rw [eU13]; exact Xi_ne (by omega))))))
          have w680 : 0 ≤ Xi T1 904 93 ∧ Xi T1 904 93 ≤ 1700 := hHT1.c _ _
          have c335 : Xi T17 904 65 = 0 → 1 ≤ Xi T17 904 69 := by omega
          clear c330
          have w674 : Xi S 904 8 ≤ Xi T17 904 8 ∧ Xi T17 904 8 ≤ n + 2 := by omega
          clear w669 w670 w635
          refine l_aload_n rfl rfl ?_
          have w681 : Xi T17 904 102 = Xi T1 904 102 := (show Xi T17 904 102 = Xi T16 904 102 from w673.x _ _ rfl).trans ( (show Xi T16 904 102 = Xi T15 904 102 from w634.x _ _ rfl).trans ( (show Xi T15 904 102 = Xi U14 904 102 from w591.x _ _ rfl).trans ( (show Xi U14 904 102 = Xi U13 904 102 from by rw [eU14]; exact Xi_ne (by omega)).trans ((show Xi U13 904 102 = Xi T1 904 102 from by rw [eU13]; exact Xi_ne (by omega))))))
          have w682 : 0 ≤ Xi T1 904 102 ∧ Xi T1 904 102 ≤ 2600 := hHT1.c _ _
          have w683 : Xi T17 904 103 = Xi T1 904 103 := (show Xi T17 904 103 = Xi T16 904 103 from w673.x _ _ rfl).trans ( (show Xi T16 904 103 = Xi T15 904 103 from w634.x _ _ rfl).trans ( (show Xi T15 904 103 = Xi U14 904 103 from w591.x _ _ rfl).trans ( (show Xi U14 904 103 = Xi U13 904 103 from by rw [eU14]; exact Xi_ne (by omega)).trans ((show Xi U13 904 103 = Xi T1 904 103 from by rw [eU13]; exact Xi_ne (by omega))))))
          have w684 : -1 ≤ Xi T1 904 103 ∧ Xi T1 904 103 ≤ 2600 := hHT1.c _ _
          have w685 : 0 ≤ Xi T17 904 65 ∧ Xi T17 904 65 ≤ 1 := hHT17.c _ _
          have w686 : Xi T17 904 69 = Xi T16 904 69 := (show Xi T17 904 69 = Xi T16 904 69 from w673.x _ _ rfl)
          have w687 : 0 ≤ Xi T16 904 69 ∧ Xi T16 904 69 ≤ 2600 := hHT16.c _ _
          have w688 : Xi T17 904 70 = Xi U13 904 70 := (show Xi T17 904 70 = Xi T16 904 70 from w673.x _ _ rfl).trans ( (show Xi T16 904 70 = Xi T15 904 70 from w634.x _ _ rfl).trans ( (show Xi T15 904 70 = Xi U14 904 70 from w591.x _ _ rfl).trans ((show Xi U14 904 70 = Xi U13 904 70 from by rw [eU14]; exact Xi_ne (by omega)))))
          have w689 : 0 ≤ Xi U13 904 70 ∧ Xi U13 904 70 ≤ 20 := hHU13.c _ _
          have w690 : Xi T17 904 71 = Xi T1 904 71 := (show Xi T17 904 71 = Xi T16 904 71 from w673.x _ _ rfl).trans ( (show Xi T16 904 71 = Xi T15 904 71 from w634.x _ _ rfl).trans ( (show Xi T15 904 71 = Xi U14 904 71 from w591.x _ _ rfl).trans ( (show Xi U14 904 71 = Xi U13 904 71 from by rw [eU14]; exact Xi_ne (by omega)).trans ((show Xi U13 904 71 = Xi T1 904 71 from by rw [eU13]; exact Xi_ne (by omega))))))
          have w691 : 0 ≤ Xi T1 904 71 ∧ Xi T1 904 71 ≤ 2600 := hHT1.c _ _
          have w692 : Xi T17 904 72 = Xi T1 904 72 := (show Xi T17 904 72 = Xi T16 904 72 from w673.x _ _ rfl).trans ( (show Xi T16 904 72 = Xi T15 904 72 from w634.x _ _ rfl).trans ( (show Xi T15 904 72 = Xi U14 904 72 from w591.x _ _ rfl).trans ( (show Xi U14 904 72 = Xi U13 904 72 from by rw [eU14]; exact Xi_ne (by omega)).trans ((show Xi U13 904 72 = Xi T1 904 72 from by rw [eU13]; exact Xi_ne (by omega))))))
          have w693 : 0 ≤ Xi T1 904 72 ∧ Xi T1 904 72 ≤ 2600 := hHT1.c _ _
          have w694 : Xi T17 904 73 = Xi T1 904 73 := (show Xi T17 904 73 = Xi T16 904 73 from w673.x _ _ rfl).trans ( (show Xi T16 904 73 = Xi T15 904 73 from w634.x _ _ rfl).trans ( (show Xi T15 904 73 = Xi U14 904 73 from w591.x _ _ rfl).trans ( (show Xi U14 904 73 = Xi U13 904 73 from by rw [eU14]; exact Xi_ne (by omega)).trans ((show Xi U13 904 73 = Xi T1 904 73 from by rw [eU13]; exact Xi_ne (by omega))))))
          have w695 : 0 ≤ Xi T1 904 73 ∧ Xi T1 904 73 ≤ 5 := hHT1.c _ _
          have w696 : Xi T17 904 74 = Xi T1 904 74 := (show Xi T17 904 74 = Xi T16 904 74 from w673.x _ _ rfl).trans ( (show Xi T16 904 74 = Xi T15 904 74 from w634.x _ _ rfl).trans ( (show Xi T15 904 74 = Xi U14 904 74 from w591.x _ _ rfl).trans ( (show Xi U14 904 74 = Xi U13 904 74 from by rw [eU14]; exact Xi_ne (by omega)).trans ((show Xi U13 904 74 = Xi T1 904 74 from by rw [eU13]; exact Xi_ne (by omega))))))
          have w697 : 0 ≤ Xi T1 904 74 ∧ Xi T1 904 74 ≤ 2600 := hHT1.c _ _
          have w698 : Xi T17 904 78 = Xi T1 904 78 := (show Xi T17 904 78 = Xi T16 904 78 from w673.x _ _ rfl).trans ( (show Xi T16 904 78 = Xi T15 904 78 from w634.x _ _ rfl).trans ( (show Xi T15 904 78 = Xi U14 904 78 from w591.x _ _ rfl).trans ( (show Xi U14 904 78 = Xi U13 904 78 from by rw [eU14]; exact Xi_ne (by omega)).trans ((show Xi U13 904 78 = Xi T1 904 78 from by rw [eU13]; exact Xi_ne (by omega))))))
          have w699 : -2 ≤ Xi T1 904 78 ∧ Xi T1 904 78 ≤ 5010 := hHT1.c _ _
          have w700 : 0 ≤ Xi T17 904 8 ∧ Xi T17 904 8 ≤ 5010 := hHT17.c _ _
          have w701 : Xi T17 904 81 = Xi T1 904 81 := (show Xi T17 904 81 = Xi T16 904 81 from w673.x _ _ rfl).trans ( (show Xi T16 904 81 = Xi T15 904 81 from w634.x _ _ rfl).trans ( (show Xi T15 904 81 = Xi U14 904 81 from w591.x _ _ rfl).trans ( (show Xi U14 904 81 = Xi U13 904 81 from by rw [eU14]; exact Xi_ne (by omega)).trans ((show Xi U13 904 81 = Xi T1 904 81 from by rw [eU13]; exact Xi_ne (by omega))))))
          have w702 : 0 ≤ Xi T1 904 81 ∧ Xi T1 904 81 ≤ 5010 := hHT1.c _ _
          have w703 : Xi T17 904 93 = Xi T1 904 93 := (show Xi T17 904 93 = Xi T16 904 93 from w673.x _ _ rfl).trans ( (show Xi T16 904 93 = Xi T15 904 93 from w634.x _ _ rfl).trans ( (show Xi T15 904 93 = Xi U14 904 93 from w591.x _ _ rfl).trans ( (show Xi U14 904 93 = Xi U13 904 93 from by rw [eU14]; exact Xi_ne (by omega)).trans ((show Xi U13 904 93 = Xi T1 904 93 from by rw [eU13]; exact Xi_ne (by omega))))))
          have w704 : 0 ≤ Xi T1 904 93 ∧ Xi T1 904 93 ≤ 1700 := hHT1.c _ _
          have w705 : Xi T17 904 94 = Xi T1 904 94 := (show Xi T17 904 94 = Xi T16 904 94 from w673.x _ _ rfl).trans ( (show Xi T16 904 94 = Xi T15 904 94 from w634.x _ _ rfl).trans ( (show Xi T15 904 94 = Xi U14 904 94 from w591.x _ _ rfl).trans ( (show Xi U14 904 94 = Xi U13 904 94 from by rw [eU14]; exact Xi_ne (by omega)).trans ((show Xi U13 904 94 = Xi T1 904 94 from by rw [eU13]; exact Xi_ne (by omega))))))
          have w706 : 0 ≤ Xi T1 904 94 ∧ Xi T1 904 94 ≤ 1700 := hHT1.c _ _
          have w707 : Xi T17 904 98 = Xi T1 904 98 := (show Xi T17 904 98 = Xi T16 904 98 from w673.x _ _ rfl).trans ( (show Xi T16 904 98 = Xi T15 904 98 from w634.x _ _ rfl).trans ( (show Xi T15 904 98 = Xi U14 904 98 from w591.x _ _ rfl).trans ( (show Xi U14 904 98 = Xi U13 904 98 from by rw [eU14]; exact Xi_ne (by omega)).trans ((show Xi U13 904 98 = Xi T1 904 98 from by rw [eU13]; exact Xi_ne (by omega))))))
          have w708 : 0 ≤ Xi T1 904 98 ∧ Xi T1 904 98 ≤ 1700 := hHT1.c _ _
          refine l_callV rfl rfl rfl (t_mo_run__2 hHT17 n 0 (by first | assumption | exact (TK_FR hFT17 rfl (by assumption : TK S _))) (by first | assumption | exact (by assumption : AT T17 _ _)) (by first | assumption | exact (RNV_FR w673 rfl (by assumption : RNV T16 _))) (by first | assumption | exact (by assumption : BDA T17)) _) ?_
          rintro _ T18 ⟨hHT18, w716, z715, rfl, w715, w709, w710, w711, w712, w713, w714⟩
          have hFT18 : FR md_mo_sentence__3 S T18 := FR.tr hFT17 w716 rfl
          show Rl _ _ _ _ _ [iv z715] _ _
          have w718 : 0 ≤ Xi T18 904 8 ∧ Xi T18 904 8 ≤ 5010 := hHT18.c _ _
          have w719 : 0 ≤ Xi T18 904 65 ∧ Xi T18 904 65 ≤ 1 := hHT18.c _ _
          have w720 : 0 ≤ Xi T18 904 69 ∧ Xi T18 904 69 ≤ 2600 := hHT18.c _ _
          have w721 : Xi T18 904 93 = Xi T1 904 93 := (show Xi T18 904 93 = Xi T17 904 93 from w716.x _ _ rfl).trans ( (show Xi T17 904 93 = Xi T16 904 93 from w673.x _ _ rfl).trans ( (show Xi T16 904 93 = Xi T15 904 93 from w634.x _ _ rfl).trans ( (show Xi T15 904 93 = Xi U14 904 93 from w591.x _ _ rfl).trans ( (show Xi U14 904 93 = Xi U13 904 93 from by rw [eU14]; exact Xi_ne (by omega)).trans ((show Xi U13 904 93 = Xi T1 904 93 from by rw [eU13]; exact Xi_ne (by omega)))))))
          have w722 : 0 ≤ Xi T1 904 93 ∧ Xi T1 904 93 ≤ 1700 := hHT1.c _ _
          have c339 : Xi T18 904 65 = 0 → 2 ≤ Xi T18 904 69 := by omega
          clear c335
          have w717 : Xi S 904 8 ≤ Xi T18 904 8 ∧ Xi T18 904 8 ≤ n + 2 := by omega
          clear w710 w712 w713 w674
          refine l_pop rfl rfl ?_
          refine l_goto rfl rfl ?_
          have w723 : Xi T18 904 102 = Xi T1 904 102 := (show Xi T18 904 102 = Xi T17 904 102 from w716.x _ _ rfl).trans ( (show Xi T17 904 102 = Xi T16 904 102 from w673.x _ _ rfl).trans ( (show Xi T16 904 102 = Xi T15 904 102 from w634.x _ _ rfl).trans ( (show Xi T15 904 102 = Xi U14 904 102 from w591.x _ _ rfl).trans ( (show Xi U14 904 102 = Xi U13 904 102 from by rw [eU14]; exact Xi_ne (by omega)).trans ((show Xi U13 904 102 = Xi T1 904 102 from by rw [eU13]; exact Xi_ne (by omega)))))))
          have w724 : 0 ≤ Xi T1 904 102 ∧ Xi T1 904 102 ≤ 2600 := hHT1.c _ _
          have w725 : Xi T18 904 103 = Xi T1 904 103 := (show Xi T18 904 103 = Xi T17 904 103 from w716.x _ _ rfl).trans ( (show Xi T17 904 103 = Xi T16 904 103 from w673.x _ _ rfl).trans ( (show Xi T16 904 103 = Xi T15 904 103 from w634.x _ _ rfl).trans ( (show Xi T15 904 103 = Xi U14 904 103 from w591.x _ _ rfl).trans ( (show Xi U14 904 103 = Xi U13 904 103 from by rw [eU14]; exact Xi_ne (by omega)).trans ((show Xi U13 904 103 = Xi T1 904 103 from by rw [eU13]; exact Xi_ne (by omega)))))))
          have w726 : -1 ≤ Xi T1 904 103 ∧ Xi T1 904 103 ≤ 2600 := hHT1.c _ _
          have w727 : 0 ≤ Xi T18 904 65 ∧ Xi T18 904 65 ≤ 1 := hHT18.c _ _
          have w728 : 0 ≤ Xi T18 904 69 ∧ Xi T18 904 69 ≤ 2600 := hHT18.c _ _
          have w729 : Xi T18 904 70 = Xi U13 904 70 := (show Xi T18 904 70 = Xi T17 904 70 from w716.x _ _ rfl).trans ( (show Xi T17 904 70 = Xi T16 904 70 from w673.x _ _ rfl).trans ( (show Xi T16 904 70 = Xi T15 904 70 from w634.x _ _ rfl).trans ( (show Xi T15 904 70 = Xi U14 904 70 from w591.x _ _ rfl).trans ((show Xi U14 904 70 = Xi U13 904 70 from by rw [eU14]; exact Xi_ne (by omega))))))
          have w730 : 0 ≤ Xi U13 904 70 ∧ Xi U13 904 70 ≤ 20 := hHU13.c _ _
          have w731 : Xi T18 904 71 = Xi T1 904 71 := (show Xi T18 904 71 = Xi T17 904 71 from w716.x _ _ rfl).trans ( (show Xi T17 904 71 = Xi T16 904 71 from w673.x _ _ rfl).trans ( (show Xi T16 904 71 = Xi T15 904 71 from w634.x _ _ rfl).trans ( (show Xi T15 904 71 = Xi U14 904 71 from w591.x _ _ rfl).trans ( (show Xi U14 904 71 = Xi U13 904 71 from by rw [eU14]; exact Xi_ne (by omega)).trans ((show Xi U13 904 71 = Xi T1 904 71 from by rw [eU13]; exact Xi_ne (by omega)))))))
          have w732 : 0 ≤ Xi T1 904 71 ∧ Xi T1 904 71 ≤ 2600 := hHT1.c _ _
          have w733 : Xi T18 904 72 = Xi T1 904 72 := (show Xi T18 904 72 = Xi T17 904 72 from w716.x _ _ rfl).trans ( (show Xi T17 904 72 = Xi T16 904 72 from w673.x _ _ rfl).trans ( (show Xi T16 904 72 = Xi T15 904 72 from w634.x _ _ rfl).trans ( (show Xi T15 904 72 = Xi U14 904 72 from w591.x _ _ rfl).trans ( (show Xi U14 904 72 = Xi U13 904 72 from by rw [eU14]; exact Xi_ne (by omega)).trans ((show Xi U13 904 72 = Xi T1 904 72 from by rw [eU13]; exact Xi_ne (by omega)))))))
          have w734 : 0 ≤ Xi T1 904 72 ∧ Xi T1 904 72 ≤ 2600 := hHT1.c _ _
          have w735 : Xi T18 904 73 = Xi T1 904 73 := (show Xi T18 904 73 = Xi T17 904 73 from w716.x _ _ rfl).trans ( (show Xi T17 904 73 = Xi T16 904 73 from w673.x _ _ rfl).trans ( (show Xi T16 904 73 = Xi T15 904 73 from w634.x _ _ rfl).trans ( (show Xi T15 904 73 = Xi U14 904 73 from w591.x _ _ rfl).trans ( (show Xi U14 904 73 = Xi U13 904 73 from by rw [eU14]; exact Xi_ne (by omega)).trans ((show Xi U13 904 73 = Xi T1 904 73 from by rw [eU13]; exact Xi_ne (by omega)))))))
          have w736 : 0 ≤ Xi T1 904 73 ∧ Xi T1 904 73 ≤ 5 := hHT1.c _ _
          have w737 : Xi T18 904 74 = Xi T1 904 74 := (show Xi T18 904 74 = Xi T17 904 74 from w716.x _ _ rfl).trans ( (show Xi T17 904 74 = Xi T16 904 74 from w673.x _ _ rfl).trans ( (show Xi T16 904 74 = Xi T15 904 74 from w634.x _ _ rfl).trans ( (show Xi T15 904 74 = Xi U14 904 74 from w591.x _ _ rfl).trans ( (show Xi U14 904 74 = Xi U13 904 74 from by rw [eU14]; exact Xi_ne (by omega)).trans ((show Xi U13 904 74 = Xi T1 904 74 from by rw [eU13]; exact Xi_ne (by omega)))))))
          have w738 : 0 ≤ Xi T1 904 74 ∧ Xi T1 904 74 ≤ 2600 := hHT1.c _ _
          have w739 : Xi T18 904 78 = Xi T1 904 78 := (show Xi T18 904 78 = Xi T17 904 78 from w716.x _ _ rfl).trans ( (show Xi T17 904 78 = Xi T16 904 78 from w673.x _ _ rfl).trans ( (show Xi T16 904 78 = Xi T15 904 78 from w634.x _ _ rfl).trans ( (show Xi T15 904 78 = Xi U14 904 78 from w591.x _ _ rfl).trans ( (show Xi U14 904 78 = Xi U13 904 78 from by rw [eU14]; exact Xi_ne (by omega)).trans ((show Xi U13 904 78 = Xi T1 904 78 from by rw [eU13]; exact Xi_ne (by omega)))))))
          have w740 : -2 ≤ Xi T1 904 78 ∧ Xi T1 904 78 ≤ 5010 := hHT1.c _ _
          have w741 : 0 ≤ Xi T18 904 8 ∧ Xi T18 904 8 ≤ 5010 := hHT18.c _ _
          have w742 : Xi T18 904 81 = Xi T1 904 81 := (show Xi T18 904 81 = Xi T17 904 81 from w716.x _ _ rfl).trans ( (show Xi T17 904 81 = Xi T16 904 81 from w673.x _ _ rfl).trans ( (show Xi T16 904 81 = Xi T15 904 81 from w634.x _ _ rfl).trans ( (show Xi T15 904 81 = Xi U14 904 81 from w591.x _ _ rfl).trans ( (show Xi U14 904 81 = Xi U13 904 81 from by rw [eU14]; exact Xi_ne (by omega)).trans ((show Xi U13 904 81 = Xi T1 904 81 from by rw [eU13]; exact Xi_ne (by omega)))))))
          have w743 : 0 ≤ Xi T1 904 81 ∧ Xi T1 904 81 ≤ 5010 := hHT1.c _ _
          have w744 : Xi T18 904 93 = Xi T1 904 93 := (show Xi T18 904 93 = Xi T17 904 93 from w716.x _ _ rfl).trans ( (show Xi T17 904 93 = Xi T16 904 93 from w673.x _ _ rfl).trans ( (show Xi T16 904 93 = Xi T15 904 93 from w634.x _ _ rfl).trans ( (show Xi T15 904 93 = Xi U14 904 93 from w591.x _ _ rfl).trans ( (show Xi U14 904 93 = Xi U13 904 93 from by rw [eU14]; exact Xi_ne (by omega)).trans ((show Xi U13 904 93 = Xi T1 904 93 from by rw [eU13]; exact Xi_ne (by omega)))))))
          have w745 : 0 ≤ Xi T1 904 93 ∧ Xi T1 904 93 ≤ 1700 := hHT1.c _ _
          have w746 : Xi T18 904 94 = Xi T1 904 94 := (show Xi T18 904 94 = Xi T17 904 94 from w716.x _ _ rfl).trans ( (show Xi T17 904 94 = Xi T16 904 94 from w673.x _ _ rfl).trans ( (show Xi T16 904 94 = Xi T15 904 94 from w634.x _ _ rfl).trans ( (show Xi T15 904 94 = Xi U14 904 94 from w591.x _ _ rfl).trans ( (show Xi U14 904 94 = Xi U13 904 94 from by rw [eU14]; exact Xi_ne (by omega)).trans ((show Xi U13 904 94 = Xi T1 904 94 from by rw [eU13]; exact Xi_ne (by omega)))))))
          have w747 : 0 ≤ Xi T1 904 94 ∧ Xi T1 904 94 ≤ 1700 := hHT1.c _ _
          have w748 : Xi T18 904 98 = Xi T1 904 98 := (show Xi T18 904 98 = Xi T17 904 98 from w716.x _ _ rfl).trans ( (show Xi T17 904 98 = Xi T16 904 98 from w673.x _ _ rfl).trans ( (show Xi T16 904 98 = Xi T15 904 98 from w634.x _ _ rfl).trans ( (show Xi T15 904 98 = Xi U14 904 98 from w591.x _ _ rfl).trans ( (show Xi U14 904 98 = Xi U13 904 98 from by rw [eU14]; exact Xi_ne (by omega)).trans ((show Xi U13 904 98 = Xi T1 904 98 from by rw [eU13]; exact Xi_ne (by omega)))))))
          have w749 : 0 ≤ Xi T1 904 98 ∧ Xi T1 904 98 ≤ 1700 := hHT1.c _ _
          exact Rl_weak (C350 T18 hHT18 hFT18  (by assumption) (by first | assumption | exact (by assumption : RNV T18 _)) (by omega) (by first | exact q347 | exact (fun _ => fun q => by unfold SNQ; refine ⟨fun q1 => ⟨by omega, Q115 q⟩, by omega, by omega, by omega, fun q9 => absurd q9 (by omega), by omega, by omega, by omega, by omega, by omega⟩) Q115 | (exact fun q => by unfold SNQ; refine ⟨fun q1 => absurd q1 (by omega), by omega, by omega, by omega, fun q9 => absurd q9 (by omega), by omega, by omega, by omega, by omega, by omega⟩)) (by first | exact fun q _ _ => tv134 q | exact fun q _ _ => tv204 q | exact fun q a b => absurd b (by omega) | exact fun q a b => absurd a (by omega)) (by first | exact fun q _ _ => pv204 q | exact fun q a b => absurd b (by omega) | exact fun q a b => absurd a (by omega)) (by omega) (by omega) (by omega) (by omega) (by first | assumption | exact (PF_FR w716 rfl (PF_FR w673 rfl (PF_FR w634 rfl (PF_FR w591 rfl (PF_FR (FR_e eU14) rfl (PF_FR (FR_e eU13) rfl (by assumption : PF T1)))))))) (by first | assumption | exact (by assumption : BDA T18))) (And.intro rfl (True.intro))
    refine l_aload_n rfl rfl ?_
    refine l_gfr rfl rfl rfl rfl rfl (hHT1.r 904 4 907 rfl) ?_
    refine l_aload_n rfl rfl ?_
    refine l_gfi rfl rfl rfl rfl rfl ?_
    refine l_iaload (n := 5002) rfl rfl (by omega) (by omega) (by unfold rg; omega) ?_
    have w750 : 0 ≤ (Xi T1 907 (((Xi T1 904 8)).toNat)) ∧ (Xi T1 907 (((Xi T1 904 8)).toNat)) ≤ 154 := hHT1.c _ _
    refine l_istore_n rfl rfl rfl ?_
    refine l_iload_n rfl rfl ?_
    refine l_iconst rfl ?_
    refine l_icmp_ne rfl rfl (by unfold rg; omega) (by unfold rg; omega) (fun w751 => ?_) (fun w752 => ?_)
    · refine l_iload_n rfl rfl ?_
      refine l_sipush rfl rfl ?_
      refine l_icmp_ne rfl rfl (by unfold rg; omega) (by unfold rg; omega) (fun w753 => ?_) (fun w754 => ?_)
      · refine l_iload_n rfl rfl ?_
        refine l_sipush rfl rfl ?_
        refine l_icmp_ne rfl rfl (by unfold rg; omega) (by unfold rg; omega) (fun w755 => ?_) (fun w756 => ?_)
        · refine l_iload_n rfl rfl ?_
          refine l_sipush rfl rfl ?_
          refine l_icmp_eq rfl rfl (by unfold rg; omega) (by unfold rg; omega) (fun w757 => ?_) (fun w758 => ?_)
          · have w759 : 0 ≤ Xi T1 904 102 ∧ Xi T1 904 102 ≤ 2600 := hHT1.c _ _
            have w760 : -1 ≤ Xi T1 904 103 ∧ Xi T1 904 103 ≤ 2600 := hHT1.c _ _
            have w761 : 0 ≤ Xi T1 904 65 ∧ Xi T1 904 65 ≤ 1 := hHT1.c _ _
            have w762 : 0 ≤ Xi T1 904 69 ∧ Xi T1 904 69 ≤ 2600 := hHT1.c _ _
            have w763 : 0 ≤ Xi T1 904 70 ∧ Xi T1 904 70 ≤ 20 := hHT1.c _ _
            have w764 : 0 ≤ Xi T1 904 71 ∧ Xi T1 904 71 ≤ 2600 := hHT1.c _ _
            have w765 : 0 ≤ Xi T1 904 72 ∧ Xi T1 904 72 ≤ 2600 := hHT1.c _ _
            have w766 : 0 ≤ Xi T1 904 73 ∧ Xi T1 904 73 ≤ 5 := hHT1.c _ _
            have w767 : 0 ≤ Xi T1 904 74 ∧ Xi T1 904 74 ≤ 2600 := hHT1.c _ _
            have w768 : -2 ≤ Xi T1 904 78 ∧ Xi T1 904 78 ≤ 5010 := hHT1.c _ _
            have w769 : 0 ≤ Xi T1 904 8 ∧ Xi T1 904 8 ≤ 5010 := hHT1.c _ _
            have w770 : 0 ≤ Xi T1 904 81 ∧ Xi T1 904 81 ≤ 5010 := hHT1.c _ _
            have w771 : 0 ≤ Xi T1 904 93 ∧ Xi T1 904 93 ≤ 1700 := hHT1.c _ _
            have w772 : 0 ≤ Xi T1 904 94 ∧ Xi T1 904 94 ≤ 1700 := hHT1.c _ _
            have w773 : 0 ≤ Xi T1 904 98 ∧ Xi T1 904 98 ≤ 1700 := hHT1.c _ _
            exact Rl_weak (C168 ((Xi T1 907 (((Xi T1 904 8)).toNat))) (by omega) (by first | assumption | exact (by assumption : AT T1 _ _)) (by first | assumption | exact (by assumption : RNV T1 _)) (by omega) (by omega) (by omega) (by omega) (by omega) (by omega) (by first | assumption | omega) (by omega) (by omega) (by first | assumption | exact (by assumption : PF T1)) (by first | assumption | exact (by assumption : BDA T1))) (And.intro rfl (And.intro rfl (True.intro)))
          · refine l_iload_n rfl rfl ?_
            refine l_sipush rfl rfl ?_
            refine l_icmp_eq rfl rfl (by unfold rg; omega) (by unfold rg; omega) (fun w774 => ?_) (fun w775 => ?_)
            · have w776 : 0 ≤ Xi T1 904 102 ∧ Xi T1 904 102 ≤ 2600 := hHT1.c _ _
              have w777 : -1 ≤ Xi T1 904 103 ∧ Xi T1 904 103 ≤ 2600 := hHT1.c _ _
              have w778 : 0 ≤ Xi T1 904 65 ∧ Xi T1 904 65 ≤ 1 := hHT1.c _ _
              have w779 : 0 ≤ Xi T1 904 69 ∧ Xi T1 904 69 ≤ 2600 := hHT1.c _ _
              have w780 : 0 ≤ Xi T1 904 70 ∧ Xi T1 904 70 ≤ 20 := hHT1.c _ _
              have w781 : 0 ≤ Xi T1 904 71 ∧ Xi T1 904 71 ≤ 2600 := hHT1.c _ _
              have w782 : 0 ≤ Xi T1 904 72 ∧ Xi T1 904 72 ≤ 2600 := hHT1.c _ _
              have w783 : 0 ≤ Xi T1 904 73 ∧ Xi T1 904 73 ≤ 5 := hHT1.c _ _
              have w784 : 0 ≤ Xi T1 904 74 ∧ Xi T1 904 74 ≤ 2600 := hHT1.c _ _
              have w785 : -2 ≤ Xi T1 904 78 ∧ Xi T1 904 78 ≤ 5010 := hHT1.c _ _
              have w786 : 0 ≤ Xi T1 904 8 ∧ Xi T1 904 8 ≤ 5010 := hHT1.c _ _
              have w787 : 0 ≤ Xi T1 904 81 ∧ Xi T1 904 81 ≤ 5010 := hHT1.c _ _
              have w788 : 0 ≤ Xi T1 904 93 ∧ Xi T1 904 93 ≤ 1700 := hHT1.c _ _
              have w789 : 0 ≤ Xi T1 904 94 ∧ Xi T1 904 94 ≤ 1700 := hHT1.c _ _
              have w790 : 0 ≤ Xi T1 904 98 ∧ Xi T1 904 98 ≤ 1700 := hHT1.c _ _
              exact Rl_weak (C168 ((Xi T1 907 (((Xi T1 904 8)).toNat))) (by omega) (by first | assumption | exact (by assumption : AT T1 _ _)) (by first | assumption | exact (by assumption : RNV T1 _)) (by omega) (by omega) (by omega) (by omega) (by omega) (by omega) (by first | assumption | omega) (by omega) (by omega) (by first | assumption | exact (by assumption : PF T1)) (by first | assumption | exact (by assumption : BDA T1))) (And.intro rfl (And.intro rfl (True.intro)))
            · refine l_iload_n rfl rfl ?_
              refine l_sipush rfl rfl ?_
              refine l_icmp_eq rfl rfl (by unfold rg; omega) (by unfold rg; omega) (fun w791 => ?_) (fun w792 => ?_)
              · have w793 : 0 ≤ Xi T1 904 102 ∧ Xi T1 904 102 ≤ 2600 := hHT1.c _ _
                have w794 : -1 ≤ Xi T1 904 103 ∧ Xi T1 904 103 ≤ 2600 := hHT1.c _ _
                have w795 : 0 ≤ Xi T1 904 65 ∧ Xi T1 904 65 ≤ 1 := hHT1.c _ _
                have w796 : 0 ≤ Xi T1 904 69 ∧ Xi T1 904 69 ≤ 2600 := hHT1.c _ _
                have w797 : 0 ≤ Xi T1 904 70 ∧ Xi T1 904 70 ≤ 20 := hHT1.c _ _
                have w798 : 0 ≤ Xi T1 904 71 ∧ Xi T1 904 71 ≤ 2600 := hHT1.c _ _
                have w799 : 0 ≤ Xi T1 904 72 ∧ Xi T1 904 72 ≤ 2600 := hHT1.c _ _
                have w800 : 0 ≤ Xi T1 904 73 ∧ Xi T1 904 73 ≤ 5 := hHT1.c _ _
                have w801 : 0 ≤ Xi T1 904 74 ∧ Xi T1 904 74 ≤ 2600 := hHT1.c _ _
                have w802 : -2 ≤ Xi T1 904 78 ∧ Xi T1 904 78 ≤ 5010 := hHT1.c _ _
                have w803 : 0 ≤ Xi T1 904 8 ∧ Xi T1 904 8 ≤ 5010 := hHT1.c _ _
                have w804 : 0 ≤ Xi T1 904 81 ∧ Xi T1 904 81 ≤ 5010 := hHT1.c _ _
                have w805 : 0 ≤ Xi T1 904 93 ∧ Xi T1 904 93 ≤ 1700 := hHT1.c _ _
                have w806 : 0 ≤ Xi T1 904 94 ∧ Xi T1 904 94 ≤ 1700 := hHT1.c _ _
                have w807 : 0 ≤ Xi T1 904 98 ∧ Xi T1 904 98 ≤ 1700 := hHT1.c _ _
                exact Rl_weak (C168 ((Xi T1 907 (((Xi T1 904 8)).toNat))) (by omega) (by first | assumption | exact (by assumption : AT T1 _ _)) (by first | assumption | exact (by assumption : RNV T1 _)) (by omega) (by omega) (by omega) (by omega) (by omega) (by omega) (by first | assumption | omega) (by omega) (by omega) (by first | assumption | exact (by assumption : PF T1)) (by first | assumption | exact (by assumption : BDA T1))) (And.intro rfl (And.intro rfl (True.intro)))
              · refine l_iload_n rfl rfl ?_
                refine l_sipush rfl rfl ?_
                refine l_icmp_ne rfl rfl (by unfold rg; omega) (by unfold rg; omega) (fun w808 => ?_) (fun w809 => ?_)
                · refine l_iload_n rfl rfl ?_
                  refine l_bipush rfl rfl ?_
                  refine l_icmp_ne rfl rfl (by unfold rg; omega) (by unfold rg; omega) (fun w810 => ?_) (fun w811 => ?_)
                  · have w812 : 0 ≤ Xi T1 904 102 ∧ Xi T1 904 102 ≤ 2600 := hHT1.c _ _
                    have w813 : -1 ≤ Xi T1 904 103 ∧ Xi T1 904 103 ≤ 2600 := hHT1.c _ _
                    have w814 : 0 ≤ Xi T1 904 65 ∧ Xi T1 904 65 ≤ 1 := hHT1.c _ _
                    have w815 : 0 ≤ Xi T1 904 69 ∧ Xi T1 904 69 ≤ 2600 := hHT1.c _ _
                    have w816 : 0 ≤ Xi T1 904 70 ∧ Xi T1 904 70 ≤ 20 := hHT1.c _ _
                    have w817 : 0 ≤ Xi T1 904 71 ∧ Xi T1 904 71 ≤ 2600 := hHT1.c _ _
                    have w818 : 0 ≤ Xi T1 904 72 ∧ Xi T1 904 72 ≤ 2600 := hHT1.c _ _
                    have w819 : 0 ≤ Xi T1 904 73 ∧ Xi T1 904 73 ≤ 5 := hHT1.c _ _
                    have w820 : 0 ≤ Xi T1 904 74 ∧ Xi T1 904 74 ≤ 2600 := hHT1.c _ _
                    have w821 : -2 ≤ Xi T1 904 78 ∧ Xi T1 904 78 ≤ 5010 := hHT1.c _ _
                    have w822 : 0 ≤ Xi T1 904 8 ∧ Xi T1 904 8 ≤ 5010 := hHT1.c _ _
                    have w823 : 0 ≤ Xi T1 904 81 ∧ Xi T1 904 81 ≤ 5010 := hHT1.c _ _
                    have w824 : 0 ≤ Xi T1 904 93 ∧ Xi T1 904 93 ≤ 1700 := hHT1.c _ _
                    have w825 : 0 ≤ Xi T1 904 94 ∧ Xi T1 904 94 ≤ 1700 := hHT1.c _ _
                    have w826 : 0 ≤ Xi T1 904 98 ∧ Xi T1 904 98 ≤ 1700 := hHT1.c _ _
                    exact Rl_weak (C285 ((Xi T1 907 (((Xi T1 904 8)).toNat))) (by omega) (by first | assumption | exact (by assumption : AT T1 _ _)) (by first | assumption | exact (by assumption : RNV T1 _)) (by omega) (by omega) (by omega) (by omega) (by omega) (by omega) (by first | assumption | omega) (by omega) (by first | assumption | exact (by assumption : PF T1)) (by first | assumption | exact (by assumption : BDA T1))) (And.intro rfl (And.intro rfl (True.intro)))
                  · refine l_aload_n rfl rfl ?_
                    refine l_gfr rfl rfl rfl rfl rfl (hHT1.r 904 4 907 rfl) ?_
                    refine l_aload_n rfl rfl ?_
                    refine l_gfi rfl rfl rfl rfl rfl ?_
                    refine l_iconst rfl ?_
                    refine l_iadd rfl ?_
                    refine l_iaload (n := 5002) rfl rfl (by omega) (by omega) (by unfold rg; omega) ?_
                    have w827 : 0 ≤ (Xi T1 907 ((((Xi T1 904 8) + 1)).toNat)) ∧ (Xi T1 907 ((((Xi T1 904 8) + 1)).toNat)) ≤ 154 := hHT1.c _ _
                    refine l_bipush rfl rfl ?_
                    refine l_icmp_ne rfl rfl (by unfold rg; omega) (by unfold rg; omega) (fun w828 => ?_) (fun w829 => ?_)
                    · have w830 : 0 ≤ Xi T1 904 102 ∧ Xi T1 904 102 ≤ 2600 := hHT1.c _ _
                      have w831 : -1 ≤ Xi T1 904 103 ∧ Xi T1 904 103 ≤ 2600 := hHT1.c _ _
                      have w832 : 0 ≤ Xi T1 904 65 ∧ Xi T1 904 65 ≤ 1 := hHT1.c _ _
                      have w833 : 0 ≤ Xi T1 904 69 ∧ Xi T1 904 69 ≤ 2600 := hHT1.c _ _
                      have w834 : 0 ≤ Xi T1 904 70 ∧ Xi T1 904 70 ≤ 20 := hHT1.c _ _
                      have w835 : 0 ≤ Xi T1 904 71 ∧ Xi T1 904 71 ≤ 2600 := hHT1.c _ _
                      have w836 : 0 ≤ Xi T1 904 72 ∧ Xi T1 904 72 ≤ 2600 := hHT1.c _ _
                      have w837 : 0 ≤ Xi T1 904 73 ∧ Xi T1 904 73 ≤ 5 := hHT1.c _ _
                      have w838 : 0 ≤ Xi T1 904 74 ∧ Xi T1 904 74 ≤ 2600 := hHT1.c _ _
                      have w839 : -2 ≤ Xi T1 904 78 ∧ Xi T1 904 78 ≤ 5010 := hHT1.c _ _
                      have w840 : 0 ≤ Xi T1 904 8 ∧ Xi T1 904 8 ≤ 5010 := hHT1.c _ _
                      have w841 : 0 ≤ Xi T1 904 81 ∧ Xi T1 904 81 ≤ 5010 := hHT1.c _ _
                      have w842 : 0 ≤ Xi T1 904 93 ∧ Xi T1 904 93 ≤ 1700 := hHT1.c _ _
                      have w843 : 0 ≤ Xi T1 904 94 ∧ Xi T1 904 94 ≤ 1700 := hHT1.c _ _
                      have w844 : 0 ≤ Xi T1 904 98 ∧ Xi T1 904 98 ≤ 1700 := hHT1.c _ _
                      exact Rl_weak (C285 ((Xi T1 907 (((Xi T1 904 8)).toNat))) (by omega) (by first | assumption | exact (by assumption : AT T1 _ _)) (by first | assumption | exact (by assumption : RNV T1 _)) (by omega) (by omega) (by omega) (by omega) (by omega) (by omega) (by first | assumption | omega) (by omega) (by first | assumption | exact (by assumption : PF T1)) (by first | assumption | exact (by assumption : BDA T1))) (And.intro rfl (And.intro rfl (True.intro)))
                    · refine l_aload_n rfl rfl ?_
                      refine l_bipush rfl rfl ?_
                      refine l_pfi rfl rfl rfl rfl ?_
                      obtain ⟨U19, eU19⟩ : ∃ T : sS, T = uI T1 904 70 (Int32.ofInt 7) := ⟨_, rfl⟩
                      rw [← eU19]
                      have hHU19 : HI U19 := by rw [eU19]; exact HI_w hHT1 (show 0 ≤ 7 by omega) (show 7 ≤ 20 by omega)
                      have hFU19 : FR md_mo_sentence__3 S U19 := by rw [eU19]; exact FR.wI hFT1 (mdf_i (r := (904, 905, 70, 71)) (List.mem_of_getElem? (i := 4) rfl) (inR_i (by omega) (by omega) (by omega) (by omega)))
                      have w845 : Xi U19 904 70 = 7 := by rw [eU19]; exact Xi_same (by unfold rg; omega)
                      refine l_aload_n rfl rfl ?_
                      refine l_dup rfl rfl ?_
                      refine l_gfi rfl rfl rfl rfl rfl ?_
                      have w846 : (Xi U19 904 8) = (Xi T1 904 8) := (show Xi U19 904 8 = Xi T1 904 8 from by rw [eU19]; exact Xi_ne (by omega))
                      rw [w846]
                      refine l_iconst rfl ?_
                      refine l_iadd rfl ?_
                      refine l_pfi rfl rfl rfl rfl ?_
                      obtain ⟨U20, eU20⟩ : ∃ T : sS, T = uI U19 904 8 (Int32.ofInt ((Xi T1 904 8) + 2)) := ⟨_, rfl⟩
                      rw [← eU20]
                      have hHU20 : HI U20 := by rw [eU20]; exact HI_w hHU19 (show 0 ≤ ((Xi T1 904 8) + 2) by omega) (show ((Xi T1 904 8) + 2) ≤ 5010 by omega)
                      have hFU20 : FR md_mo_sentence__3 S U20 := by rw [eU20]; exact FR.wI hFU19 (mdf_i (r := (904, 905, 8, 9)) (List.mem_of_getElem? (i := 0) rfl) (inR_i (by omega) (by omega) (by omega) (by omega)))
                      have w847 : Xi U20 904 8 = ((Xi T1 904 8) + 2) := by rw [eU20]; exact Xi_same (by unfold rg; omega)
                      have t245 : AT U20 n 0 ∧ _ := (at_mv2 (S := T1) (P := U19) (TK_FR hFT1 rfl (by assumption : TK S _)) (by first | assumption | exact (by assumption : AT T1 _ _)) (fun j => ((FR_e eU19).cx 907 rfl j).1) (fun j => ((FR_e eU19).cx 908 rfl j).1) ((show Xi U19 904 8 = Xi T1 904 8 from by rw [eU19]; exact Xi_ne (by omega))) ((show Xi U19 904 65 = Xi T1 904 65 from by rw [eU19]; exact Xi_ne (by omega))) ((show Xi U19 904 69 = Xi T1 904 69 from by rw [eU19]; exact Xi_ne (by omega))) ((show Xi U19 904 93 = Xi T1 904 93 from by rw [eU19]; exact Xi_ne (by omega))) eU20 (by omega) (by omega) (by omega) (by omega) (by omega))
                      have a245 : AT U20 n 0 := t245.1
                      have l245 := t245.2
                      refine l_aload_n rfl rfl ?_
                      refine l_bipush rfl rfl ?_
                      have w848 : Xi U20 904 102 = Xi T1 904 102 := (show Xi U20 904 102 = Xi U19 904 102 from by rw [eU20]; exact Xi_ne (by omega)).trans ((show Xi U19 904 102 = Xi T1 904 102 from by rw [eU19]; exact Xi_ne (by omega)))
                      have w849 : 0 ≤ Xi T1 904 102 ∧ Xi T1 904 102 ≤ 2600 := hHT1.c _ _
                      have w850 : Xi U20 904 103 = Xi T1 904 103 := (show Xi U20 904 103 = Xi U19 904 103 from by rw [eU20]; exact Xi_ne (by omega)).trans ((show Xi U19 904 103 = Xi T1 904 103 from by rw [eU19]; exact Xi_ne (by omega)))
                      have w851 : -1 ≤ Xi T1 904 103 ∧ Xi T1 904 103 ≤ 2600 := hHT1.c _ _
                      have w852 : Xi U20 904 65 = Xi T1 904 65 := (show Xi U20 904 65 = Xi U19 904 65 from by rw [eU20]; exact Xi_ne (by omega)).trans ((show Xi U19 904 65 = Xi T1 904 65 from by rw [eU19]; exact Xi_ne (by omega)))
                      have w853 : 0 ≤ Xi T1 904 65 ∧ Xi T1 904 65 ≤ 1 := hHT1.c _ _
                      have w854 : Xi U20 904 69 = Xi T1 904 69 := (show Xi U20 904 69 = Xi U19 904 69 from by rw [eU20]; exact Xi_ne (by omega)).trans ((show Xi U19 904 69 = Xi T1 904 69 from by rw [eU19]; exact Xi_ne (by omega)))
                      have w855 : 0 ≤ Xi T1 904 69 ∧ Xi T1 904 69 ≤ 2600 := hHT1.c _ _
                      have w856 : Xi U20 904 70 = Xi U19 904 70 := (show Xi U20 904 70 = Xi U19 904 70 from by rw [eU20]; exact Xi_ne (by omega))
                      have w857 : 0 ≤ Xi U19 904 70 ∧ Xi U19 904 70 ≤ 20 := hHU19.c _ _
                      have w858 : Xi U20 904 71 = Xi T1 904 71 := (show Xi U20 904 71 = Xi U19 904 71 from by rw [eU20]; exact Xi_ne (by omega)).trans ((show Xi U19 904 71 = Xi T1 904 71 from by rw [eU19]; exact Xi_ne (by omega)))
                      have w859 : 0 ≤ Xi T1 904 71 ∧ Xi T1 904 71 ≤ 2600 := hHT1.c _ _
                      have w860 : Xi U20 904 72 = Xi T1 904 72 := (show Xi U20 904 72 = Xi U19 904 72 from by rw [eU20]; exact Xi_ne (by omega)).trans ((show Xi U19 904 72 = Xi T1 904 72 from by rw [eU19]; exact Xi_ne (by omega)))
                      have w861 : 0 ≤ Xi T1 904 72 ∧ Xi T1 904 72 ≤ 2600 := hHT1.c _ _
                      have w862 : Xi U20 904 73 = Xi T1 904 73 := (show Xi U20 904 73 = Xi U19 904 73 from by rw [eU20]; exact Xi_ne (by omega)).trans ((show Xi U19 904 73 = Xi T1 904 73 from by rw [eU19]; exact Xi_ne (by omega)))
                      have w863 : 0 ≤ Xi T1 904 73 ∧ Xi T1 904 73 ≤ 5 := hHT1.c _ _
                      have w864 : Xi U20 904 74 = Xi T1 904 74 := (show Xi U20 904 74 = Xi U19 904 74 from by rw [eU20]; exact Xi_ne (by omega)).trans ((show Xi U19 904 74 = Xi T1 904 74 from by rw [eU19]; exact Xi_ne (by omega)))
                      have w865 : 0 ≤ Xi T1 904 74 ∧ Xi T1 904 74 ≤ 2600 := hHT1.c _ _
                      have w866 : Xi U20 904 78 = Xi T1 904 78 := (show Xi U20 904 78 = Xi U19 904 78 from by rw [eU20]; exact Xi_ne (by omega)).trans ((show Xi U19 904 78 = Xi T1 904 78 from by rw [eU19]; exact Xi_ne (by omega)))
                      have w867 : -2 ≤ Xi T1 904 78 ∧ Xi T1 904 78 ≤ 5010 := hHT1.c _ _
                      have w868 : 0 ≤ Xi U20 904 8 ∧ Xi U20 904 8 ≤ 5010 := hHU20.c _ _
                      have w869 : Xi U20 904 81 = Xi T1 904 81 := (show Xi U20 904 81 = Xi U19 904 81 from by rw [eU20]; exact Xi_ne (by omega)).trans ((show Xi U19 904 81 = Xi T1 904 81 from by rw [eU19]; exact Xi_ne (by omega)))
                      have w870 : 0 ≤ Xi T1 904 81 ∧ Xi T1 904 81 ≤ 5010 := hHT1.c _ _
                      have w871 : Xi U20 904 93 = Xi T1 904 93 := (show Xi U20 904 93 = Xi U19 904 93 from by rw [eU20]; exact Xi_ne (by omega)).trans ((show Xi U19 904 93 = Xi T1 904 93 from by rw [eU19]; exact Xi_ne (by omega)))
                      have w872 : 0 ≤ Xi T1 904 93 ∧ Xi T1 904 93 ≤ 1700 := hHT1.c _ _
                      have w873 : Xi U20 904 94 = Xi T1 904 94 := (show Xi U20 904 94 = Xi U19 904 94 from by rw [eU20]; exact Xi_ne (by omega)).trans ((show Xi U19 904 94 = Xi T1 904 94 from by rw [eU19]; exact Xi_ne (by omega)))
                      have w874 : 0 ≤ Xi T1 904 94 ∧ Xi T1 904 94 ≤ 1700 := hHT1.c _ _
                      have w875 : Xi U20 904 98 = Xi T1 904 98 := (show Xi U20 904 98 = Xi U19 904 98 from by rw [eU20]; exact Xi_ne (by omega)).trans ((show Xi U19 904 98 = Xi T1 904 98 from by rw [eU19]; exact Xi_ne (by omega)))
                      have w876 : 0 ≤ Xi T1 904 98 ∧ Xi T1 904 98 ≤ 1700 := hHT1.c _ _
                      refine l_callV rfl rfl rfl (t_mo_take__3 hHU20 n 0 111 ⟨by omega, by omega⟩ (by first | assumption | exact (TK_FR hFU20 rfl (by assumption : TK S _))) (by first | assumption | exact (by assumption : AT U20 _ _)) (by omega) (by first | assumption | exact (BDA_FR (FR_e eU20) rfl (BDA_FR (FR_e eU19) rfl (by assumption : BDA T1)))) _) ?_
                      rintro _ T21 ⟨hHT21, w882, rfl, w877, w878, w879, tk251, w880⟩
                      have hFT21 : FR md_mo_sentence__3 S T21 := FR.tr hFU20 w882 rfl
                      show Rl _ _ _ _ _ [] _ _
                      have w884 : 0 ≤ Xi T21 904 8 ∧ Xi T21 904 8 ≤ 5010 := hHT21.c _ _
                      have w885 : 0 ≤ Xi T21 904 65 ∧ Xi T21 904 65 ≤ 1 := hHT21.c _ _
                      have w886 : Xi T21 904 69 = Xi T1 904 69 := (show Xi T21 904 69 = Xi U20 904 69 from w882.x _ _ rfl).trans ( (show Xi U20 904 69 = Xi U19 904 69 from by rw [eU20]; exact Xi_ne (by omega)).trans ((show Xi U19 904 69 = Xi T1 904 69 from by rw [eU19]; exact Xi_ne (by omega))))
                      have w887 : 0 ≤ Xi T1 904 69 ∧ Xi T1 904 69 ≤ 2600 := hHT1.c _ _
                      have w888 : Xi T21 904 93 = Xi T1 904 93 := (show Xi T21 904 93 = Xi U20 904 93 from w882.x _ _ rfl).trans ( (show Xi U20 904 93 = Xi U19 904 93 from by rw [eU20]; exact Xi_ne (by omega)).trans ((show Xi U19 904 93 = Xi T1 904 93 from by rw [eU19]; exact Xi_ne (by omega))))
                      have w889 : 0 ≤ Xi T1 904 93 ∧ Xi T1 904 93 ≤ 1700 := hHT1.c _ _
                      have c251 : Xi T21 904 65 = 0 → 0 ≤ Xi T21 904 69 := by omega
                      clear tk251
                      have w883 : Xi S 904 8 ≤ Xi T21 904 8 ∧ Xi T21 904 8 ≤ n + 2 := by omega
                      clear w878 w879
                      refine l_aload_n rfl rfl ?_
                      have w890 : Xi T21 904 102 = Xi T1 904 102 := (show Xi T21 904 102 = Xi U20 904 102 from w882.x _ _ rfl).trans ( (show Xi U20 904 102 = Xi U19 904 102 from by rw [eU20]; exact Xi_ne (by omega)).trans ((show Xi U19 904 102 = Xi T1 904 102 from by rw [eU19]; exact Xi_ne (by omega))))
                      have w891 : 0 ≤ Xi T1 904 102 ∧ Xi T1 904 102 ≤ 2600 := hHT1.c _ _
                      have w892 : Xi T21 904 103 = Xi T1 904 103 := (show Xi T21 904 103 = Xi U20 904 103 from w882.x _ _ rfl).trans ( (show Xi U20 904 103 = Xi U19 904 103 from by rw [eU20]; exact Xi_ne (by omega)).trans ((show Xi U19 904 103 = Xi T1 904 103 from by rw [eU19]; exact Xi_ne (by omega))))
                      have w893 : -1 ≤ Xi T1 904 103 ∧ Xi T1 904 103 ≤ 2600 := hHT1.c _ _
                      have w894 : 0 ≤ Xi T21 904 65 ∧ Xi T21 904 65 ≤ 1 := hHT21.c _ _
                      have w895 : Xi T21 904 69 = Xi T1 904 69 := (show Xi T21 904 69 = Xi U20 904 69 from w882.x _ _ rfl).trans ( (show Xi U20 904 69 = Xi U19 904 69 from by rw [eU20]; exact Xi_ne (by omega)).trans ((show Xi U19 904 69 = Xi T1 904 69 from by rw [eU19]; exact Xi_ne (by omega))))
                      have w896 : 0 ≤ Xi T1 904 69 ∧ Xi T1 904 69 ≤ 2600 := hHT1.c _ _
                      have w897 : Xi T21 904 70 = Xi U19 904 70 := (show Xi T21 904 70 = Xi U20 904 70 from w882.x _ _ rfl).trans ((show Xi U20 904 70 = Xi U19 904 70 from by rw [eU20]; exact Xi_ne (by omega)))
                      have w898 : 0 ≤ Xi U19 904 70 ∧ Xi U19 904 70 ≤ 20 := hHU19.c _ _
                      have w899 : Xi T21 904 71 = Xi T1 904 71 := (show Xi T21 904 71 = Xi U20 904 71 from w882.x _ _ rfl).trans ( (show Xi U20 904 71 = Xi U19 904 71 from by rw [eU20]; exact Xi_ne (by omega)).trans ((show Xi U19 904 71 = Xi T1 904 71 from by rw [eU19]; exact Xi_ne (by omega))))
                      have w900 : 0 ≤ Xi T1 904 71 ∧ Xi T1 904 71 ≤ 2600 := hHT1.c _ _
                      have w901 : Xi T21 904 72 = Xi T1 904 72 := (show Xi T21 904 72 = Xi U20 904 72 from w882.x _ _ rfl).trans ( (show Xi U20 904 72 = Xi U19 904 72 from by rw [eU20]; exact Xi_ne (by omega)).trans ((show Xi U19 904 72 = Xi T1 904 72 from by rw [eU19]; exact Xi_ne (by omega))))
                      have w902 : 0 ≤ Xi T1 904 72 ∧ Xi T1 904 72 ≤ 2600 := hHT1.c _ _
                      have w903 : Xi T21 904 73 = Xi T1 904 73 := (show Xi T21 904 73 = Xi U20 904 73 from w882.x _ _ rfl).trans ( (show Xi U20 904 73 = Xi U19 904 73 from by rw [eU20]; exact Xi_ne (by omega)).trans ((show Xi U19 904 73 = Xi T1 904 73 from by rw [eU19]; exact Xi_ne (by omega))))
                      have w904 : 0 ≤ Xi T1 904 73 ∧ Xi T1 904 73 ≤ 5 := hHT1.c _ _
                      have w905 : Xi T21 904 74 = Xi T1 904 74 := (show Xi T21 904 74 = Xi U20 904 74 from w882.x _ _ rfl).trans ( (show Xi U20 904 74 = Xi U19 904 74 from by rw [eU20]; exact Xi_ne (by omega)).trans ((show Xi U19 904 74 = Xi T1 904 74 from by rw [eU19]; exact Xi_ne (by omega))))
                      have w906 : 0 ≤ Xi T1 904 74 ∧ Xi T1 904 74 ≤ 2600 := hHT1.c _ _
                      have w907 : Xi T21 904 78 = Xi T1 904 78 := (show Xi T21 904 78 = Xi U20 904 78 from w882.x _ _ rfl).trans ( (show Xi U20 904 78 = Xi U19 904 78 from by rw [eU20]; exact Xi_ne (by omega)).trans ((show Xi U19 904 78 = Xi T1 904 78 from by rw [eU19]; exact Xi_ne (by omega))))
                      have w908 : -2 ≤ Xi T1 904 78 ∧ Xi T1 904 78 ≤ 5010 := hHT1.c _ _
                      have w909 : 0 ≤ Xi T21 904 8 ∧ Xi T21 904 8 ≤ 5010 := hHT21.c _ _
                      have w910 : Xi T21 904 81 = Xi T1 904 81 := (show Xi T21 904 81 = Xi U20 904 81 from w882.x _ _ rfl).trans ( (show Xi U20 904 81 = Xi U19 904 81 from by rw [eU20]; exact Xi_ne (by omega)).trans ((show Xi U19 904 81 = Xi T1 904 81 from by rw [eU19]; exact Xi_ne (by omega))))
                      have w911 : 0 ≤ Xi T1 904 81 ∧ Xi T1 904 81 ≤ 5010 := hHT1.c _ _
                      have w912 : Xi T21 904 93 = Xi T1 904 93 := (show Xi T21 904 93 = Xi U20 904 93 from w882.x _ _ rfl).trans ( (show Xi U20 904 93 = Xi U19 904 93 from by rw [eU20]; exact Xi_ne (by omega)).trans ((show Xi U19 904 93 = Xi T1 904 93 from by rw [eU19]; exact Xi_ne (by omega))))
                      have w913 : 0 ≤ Xi T1 904 93 ∧ Xi T1 904 93 ≤ 1700 := hHT1.c _ _
                      have w914 : Xi T21 904 94 = Xi T1 904 94 := (show Xi T21 904 94 = Xi U20 904 94 from w882.x _ _ rfl).trans ( (show Xi U20 904 94 = Xi U19 904 94 from by rw [eU20]; exact Xi_ne (by omega)).trans ((show Xi U19 904 94 = Xi T1 904 94 from by rw [eU19]; exact Xi_ne (by omega))))
                      have w915 : 0 ≤ Xi T1 904 94 ∧ Xi T1 904 94 ≤ 1700 := hHT1.c _ _
                      have w916 : Xi T21 904 98 = Xi T1 904 98 := (show Xi T21 904 98 = Xi U20 904 98 from w882.x _ _ rfl).trans ( (show Xi U20 904 98 = Xi U19 904 98 from by rw [eU20]; exact Xi_ne (by omega)).trans ((show Xi U19 904 98 = Xi T1 904 98 from by rw [eU19]; exact Xi_ne (by omega))))
                      have w917 : 0 ≤ Xi T1 904 98 ∧ Xi T1 904 98 ≤ 1700 := hHT1.c _ _
                      refine l_callV rfl rfl rfl (t_mo_run__2 hHT21 n 0 (by first | assumption | exact (TK_FR hFT21 rfl (by assumption : TK S _))) (by first | assumption | exact (by assumption : AT T21 _ _)) (by first | assumption | exact (RNV_FR w882 rfl (RNV_FR (FR_e eU20) rfl (RNV_FR (FR_e eU19) rfl (by assumption : RNV T1 _))))) (by first | assumption | exact (by assumption : BDA T21)) _) ?_
                      rintro _ T22 ⟨hHT22, w925, z924, rfl, w924, w918, w919, w920, w921, w922, w923⟩
                      have hFT22 : FR md_mo_sentence__3 S T22 := FR.tr hFT21 w925 rfl
                      show Rl _ _ _ _ _ [iv z924] _ _
                      have w927 : 0 ≤ Xi T22 904 8 ∧ Xi T22 904 8 ≤ 5010 := hHT22.c _ _
                      have w928 : 0 ≤ Xi T22 904 65 ∧ Xi T22 904 65 ≤ 1 := hHT22.c _ _
                      have w929 : 0 ≤ Xi T22 904 69 ∧ Xi T22 904 69 ≤ 2600 := hHT22.c _ _
                      have w930 : Xi T22 904 93 = Xi T1 904 93 := (show Xi T22 904 93 = Xi T21 904 93 from w925.x _ _ rfl).trans ( (show Xi T21 904 93 = Xi U20 904 93 from w882.x _ _ rfl).trans ( (show Xi U20 904 93 = Xi U19 904 93 from by rw [eU20]; exact Xi_ne (by omega)).trans ((show Xi U19 904 93 = Xi T1 904 93 from by rw [eU19]; exact Xi_ne (by omega)))))
                      have w931 : 0 ≤ Xi T1 904 93 ∧ Xi T1 904 93 ≤ 1700 := hHT1.c _ _
                      have c255 : Xi T22 904 65 = 0 → 1 ≤ Xi T22 904 69 := by omega
                      clear c251
                      have w926 : Xi S 904 8 ≤ Xi T22 904 8 ∧ Xi T22 904 8 ≤ n + 2 := by omega
                      clear w919 w921 w922 w883
                      refine l_pop rfl rfl ?_
                      refine l_aload_n rfl rfl ?_
                      refine l_bipush rfl rfl ?_
                      have w932 : Xi T22 904 102 = Xi T1 904 102 := (show Xi T22 904 102 = Xi T21 904 102 from w925.x _ _ rfl).trans ( (show Xi T21 904 102 = Xi U20 904 102 from w882.x _ _ rfl).trans ( (show Xi U20 904 102 = Xi U19 904 102 from by rw [eU20]; exact Xi_ne (by omega)).trans ((show Xi U19 904 102 = Xi T1 904 102 from by rw [eU19]; exact Xi_ne (by omega)))))
                      have w933 : 0 ≤ Xi T1 904 102 ∧ Xi T1 904 102 ≤ 2600 := hHT1.c _ _
                      have w934 : Xi T22 904 103 = Xi T1 904 103 := (show Xi T22 904 103 = Xi T21 904 103 from w925.x _ _ rfl).trans ( (show Xi T21 904 103 = Xi U20 904 103 from w882.x _ _ rfl).trans ( (show Xi U20 904 103 = Xi U19 904 103 from by rw [eU20]; exact Xi_ne (by omega)).trans ((show Xi U19 904 103 = Xi T1 904 103 from by rw [eU19]; exact Xi_ne (by omega)))))
                      have w935 : -1 ≤ Xi T1 904 103 ∧ Xi T1 904 103 ≤ 2600 := hHT1.c _ _
                      have w936 : 0 ≤ Xi T22 904 65 ∧ Xi T22 904 65 ≤ 1 := hHT22.c _ _
                      have w937 : 0 ≤ Xi T22 904 69 ∧ Xi T22 904 69 ≤ 2600 := hHT22.c _ _
                      have w938 : Xi T22 904 70 = Xi U19 904 70 := (show Xi T22 904 70 = Xi T21 904 70 from w925.x _ _ rfl).trans ( (show Xi T21 904 70 = Xi U20 904 70 from w882.x _ _ rfl).trans ((show Xi U20 904 70 = Xi U19 904 70 from by rw [eU20]; exact Xi_ne (by omega))))
                      have w939 : 0 ≤ Xi U19 904 70 ∧ Xi U19 904 70 ≤ 20 := hHU19.c _ _
                      have w940 : Xi T22 904 71 = Xi T1 904 71 := (show Xi T22 904 71 = Xi T21 904 71 from w925.x _ _ rfl).trans ( (show Xi T21 904 71 = Xi U20 904 71 from w882.x _ _ rfl).trans ( (show Xi U20 904 71 = Xi U19 904 71 from by rw [eU20]; exact Xi_ne (by omega)).trans ((show Xi U19 904 71 = Xi T1 904 71 from by rw [eU19]; exact Xi_ne (by omega)))))
                      have w941 : 0 ≤ Xi T1 904 71 ∧ Xi T1 904 71 ≤ 2600 := hHT1.c _ _
                      have w942 : Xi T22 904 72 = Xi T1 904 72 := (show Xi T22 904 72 = Xi T21 904 72 from w925.x _ _ rfl).trans ( (show Xi T21 904 72 = Xi U20 904 72 from w882.x _ _ rfl).trans ( (show Xi U20 904 72 = Xi U19 904 72 from by rw [eU20]; exact Xi_ne (by omega)).trans ((show Xi U19 904 72 = Xi T1 904 72 from by rw [eU19]; exact Xi_ne (by omega)))))
                      have w943 : 0 ≤ Xi T1 904 72 ∧ Xi T1 904 72 ≤ 2600 := hHT1.c _ _
                      have w944 : Xi T22 904 73 = Xi T1 904 73 := (show Xi T22 904 73 = Xi T21 904 73 from w925.x _ _ rfl).trans ( (show Xi T21 904 73 = Xi U20 904 73 from w882.x _ _ rfl).trans ( (show Xi U20 904 73 = Xi U19 904 73 from by rw [eU20]; exact Xi_ne (by omega)).trans ((show Xi U19 904 73 = Xi T1 904 73 from by rw [eU19]; exact Xi_ne (by omega)))))
                      have w945 : 0 ≤ Xi T1 904 73 ∧ Xi T1 904 73 ≤ 5 := hHT1.c _ _
                      have w946 : Xi T22 904 74 = Xi T1 904 74 := (show Xi T22 904 74 = Xi T21 904 74 from w925.x _ _ rfl).trans ( (show Xi T21 904 74 = Xi U20 904 74 from w882.x _ _ rfl).trans ( (show Xi U20 904 74 = Xi U19 904 74 from by rw [eU20]; exact Xi_ne (by omega)).trans ((show Xi U19 904 74 = Xi T1 904 74 from by rw [eU19]; exact Xi_ne (by omega)))))
                      have w947 : 0 ≤ Xi T1 904 74 ∧ Xi T1 904 74 ≤ 2600 := hHT1.c _ _
                      have w948 : Xi T22 904 78 = Xi T1 904 78 := (show Xi T22 904 78 = Xi T21 904 78 from w925.x _ _ rfl).trans ( (show Xi T21 904 78 = Xi U20 904 78 from w882.x _ _ rfl).trans ( (show Xi U20 904 78 = Xi U19 904 78 from by rw [eU20]; exact Xi_ne (by omega)).trans ((show Xi U19 904 78 = Xi T1 904 78 from by rw [eU19]; exact Xi_ne (by omega)))))
                      have w949 : -2 ≤ Xi T1 904 78 ∧ Xi T1 904 78 ≤ 5010 := hHT1.c _ _
                      have w950 : 0 ≤ Xi T22 904 8 ∧ Xi T22 904 8 ≤ 5010 := hHT22.c _ _
                      have w951 : Xi T22 904 81 = Xi T1 904 81 := (show Xi T22 904 81 = Xi T21 904 81 from w925.x _ _ rfl).trans ( (show Xi T21 904 81 = Xi U20 904 81 from w882.x _ _ rfl).trans ( (show Xi U20 904 81 = Xi U19 904 81 from by rw [eU20]; exact Xi_ne (by omega)).trans ((show Xi U19 904 81 = Xi T1 904 81 from by rw [eU19]; exact Xi_ne (by omega)))))
                      have w952 : 0 ≤ Xi T1 904 81 ∧ Xi T1 904 81 ≤ 5010 := hHT1.c _ _
                      have w953 : Xi T22 904 93 = Xi T1 904 93 := (show Xi T22 904 93 = Xi T21 904 93 from w925.x _ _ rfl).trans ( (show Xi T21 904 93 = Xi U20 904 93 from w882.x _ _ rfl).trans ( (show Xi U20 904 93 = Xi U19 904 93 from by rw [eU20]; exact Xi_ne (by omega)).trans ((show Xi U19 904 93 = Xi T1 904 93 from by rw [eU19]; exact Xi_ne (by omega)))))
                      have w954 : 0 ≤ Xi T1 904 93 ∧ Xi T1 904 93 ≤ 1700 := hHT1.c _ _
                      have w955 : Xi T22 904 94 = Xi T1 904 94 := (show Xi T22 904 94 = Xi T21 904 94 from w925.x _ _ rfl).trans ( (show Xi T21 904 94 = Xi U20 904 94 from w882.x _ _ rfl).trans ( (show Xi U20 904 94 = Xi U19 904 94 from by rw [eU20]; exact Xi_ne (by omega)).trans ((show Xi U19 904 94 = Xi T1 904 94 from by rw [eU19]; exact Xi_ne (by omega)))))
                      have w956 : 0 ≤ Xi T1 904 94 ∧ Xi T1 904 94 ≤ 1700 := hHT1.c _ _
                      have w957 : Xi T22 904 98 = Xi T1 904 98 := (show Xi T22 904 98 = Xi T21 904 98 from w925.x _ _ rfl).trans ( (show Xi T21 904 98 = Xi U20 904 98 from w882.x _ _ rfl).trans ( (show Xi U20 904 98 = Xi U19 904 98 from by rw [eU20]; exact Xi_ne (by omega)).trans ((show Xi U19 904 98 = Xi T1 904 98 from by rw [eU19]; exact Xi_ne (by omega)))))
                      have w958 : 0 ≤ Xi T1 904 98 ∧ Xi T1 904 98 ≤ 1700 := hHT1.c _ _
                      refine l_callV rfl rfl rfl (t_mo_take__3 hHT22 n 0 124 ⟨by omega, by omega⟩ (by first | assumption | exact (TK_FR hFT22 rfl (by assumption : TK S _))) (by first | assumption | exact (by assumption : AT T22 _ _)) (by omega) (by first | assumption | exact (by assumption : BDA T22)) _) ?_
                      rintro _ T23 ⟨hHT23, w964, rfl, w959, w960, w961, tk262, w962⟩
                      have hFT23 : FR md_mo_sentence__3 S T23 := FR.tr hFT22 w964 rfl
                      show Rl _ _ _ _ _ [] _ _
                      have w966 : 0 ≤ Xi T23 904 8 ∧ Xi T23 904 8 ≤ 5010 := hHT23.c _ _
                      have w967 : 0 ≤ Xi T23 904 65 ∧ Xi T23 904 65 ≤ 1 := hHT23.c _ _
                      have w968 : Xi T23 904 69 = Xi T22 904 69 := (show Xi T23 904 69 = Xi T22 904 69 from w964.x _ _ rfl)
                      have w969 : 0 ≤ Xi T22 904 69 ∧ Xi T22 904 69 ≤ 2600 := hHT22.c _ _
                      have w970 : Xi T23 904 93 = Xi T1 904 93 := (show Xi T23 904 93 = Xi T22 904 93 from w964.x _ _ rfl).trans ( (show Xi T22 904 93 = Xi T21 904 93 from w925.x _ _ rfl).trans ( (show Xi T21 904 93 = Xi U20 904 93 from w882.x _ _ rfl).trans ( (show Xi U20 904 93 = Xi U19 904 93 from by rw [eU20]; exact Xi_ne (by omega)).trans ((show Xi U19 904 93 = Xi T1 904 93 from by rw [eU19]; exact Xi_ne (by omega))))))
                      have w971 : 0 ≤ Xi T1 904 93 ∧ Xi T1 904 93 ≤ 1700 := hHT1.c _ _
                      have c262 : Xi T23 904 65 = 0 → 1 ≤ Xi T23 904 69 := by omega
                      clear c255
                      clear tk262
                      have w965 : Xi S 904 8 ≤ Xi T23 904 8 ∧ Xi T23 904 8 ≤ n + 2 := by omega
                      clear w960 w961 w926
                      have w972 : Xi T23 904 102 = Xi T1 904 102 := (show Xi T23 904 102 = Xi T22 904 102 from w964.x _ _ rfl).trans ( (show Xi T22 904 102 = Xi T21 904 102 from w925.x _ _ rfl).trans ( (show Xi T21 904 102 = Xi U20 904 102 from w882.x _ _ rfl).trans ( (show Xi U20 904 102 = Xi U19 904 102 from by rw [eU20]; exact Xi_ne (by omega)).trans ((show Xi U19 904 102 = Xi T1 904 102 from by rw [eU19]; exact Xi_ne (by omega))))))
                      have w973 : 0 ≤ Xi T1 904 102 ∧ Xi T1 904 102 ≤ 2600 := hHT1.c _ _
                      have w974 : Xi T23 904 103 = Xi T1 904 103 := (show Xi T23 904 103 = Xi T22 904 103 from w964.x _ _ rfl).trans ( (show Xi T22 904 103 = Xi T21 904 103 from w925.x _ _ rfl).trans ( (show Xi T21 904 103 = Xi U20 904 103 from w882.x _ _ rfl).trans ( (show Xi U20 904 103 = Xi U19 904 103 from by rw [eU20]; exact Xi_ne (by omega)).trans ((show Xi U19 904 103 = Xi T1 904 103 from by rw [eU19]; exact Xi_ne (by omega))))))
                      have w975 : -1 ≤ Xi T1 904 103 ∧ Xi T1 904 103 ≤ 2600 := hHT1.c _ _
                      have w976 : 0 ≤ Xi T23 904 65 ∧ Xi T23 904 65 ≤ 1 := hHT23.c _ _
                      have w977 : Xi T23 904 69 = Xi T22 904 69 := (show Xi T23 904 69 = Xi T22 904 69 from w964.x _ _ rfl)
                      have w978 : 0 ≤ Xi T22 904 69 ∧ Xi T22 904 69 ≤ 2600 := hHT22.c _ _
                      have w979 : Xi T23 904 70 = Xi U19 904 70 := (show Xi T23 904 70 = Xi T22 904 70 from w964.x _ _ rfl).trans ( (show Xi T22 904 70 = Xi T21 904 70 from w925.x _ _ rfl).trans ( (show Xi T21 904 70 = Xi U20 904 70 from w882.x _ _ rfl).trans ((show Xi U20 904 70 = Xi U19 904 70 from by rw [eU20]; exact Xi_ne (by omega)))))
                      have w980 : 0 ≤ Xi U19 904 70 ∧ Xi U19 904 70 ≤ 20 := hHU19.c _ _
                      have w981 : Xi T23 904 71 = Xi T1 904 71 := (show Xi T23 904 71 = Xi T22 904 71 from w964.x _ _ rfl).trans ( (show Xi T22 904 71 = Xi T21 904 71 from w925.x _ _ rfl).trans ( (show Xi T21 904 71 = Xi U20 904 71 from w882.x _ _ rfl).trans ( (show Xi U20 904 71 = Xi U19 904 71 from by rw [eU20]; exact Xi_ne (by omega)).trans ((show Xi U19 904 71 = Xi T1 904 71 from by rw [eU19]; exact Xi_ne (by omega))))))
                      have w982 : 0 ≤ Xi T1 904 71 ∧ Xi T1 904 71 ≤ 2600 := hHT1.c _ _
                      have w983 : Xi T23 904 72 = Xi T1 904 72 := (show Xi T23 904 72 = Xi T22 904 72 from w964.x _ _ rfl).trans ( (show Xi T22 904 72 = Xi T21 904 72 from w925.x _ _ rfl).trans ( (show Xi T21 904 72 = Xi U20 904 72 from w882.x _ _ rfl).trans ( (show Xi U20 904 72 = Xi U19 904 72 from by rw [eU20]; exact Xi_ne (by omega)).trans ((show Xi U19 904 72 = Xi T1 904 72 from by rw [eU19]; exact Xi_ne (by omega))))))
                      have w984 : 0 ≤ Xi T1 904 72 ∧ Xi T1 904 72 ≤ 2600 := hHT1.c _ _
                      have w985 : Xi T23 904 73 = Xi T1 904 73 := (show Xi T23 904 73 = Xi T22 904 73 from w964.x _ _ rfl).trans ( (show Xi T22 904 73 = Xi T21 904 73 from w925.x _ _ rfl).trans ( (show Xi T21 904 73 = Xi U20 904 73 from w882.x _ _ rfl).trans ( (show Xi U20 904 73 = Xi U19 904 73 from by rw [eU20]; exact Xi_ne (by omega)).trans ((show Xi U19 904 73 = Xi T1 904 73 from by rw [eU19]; exact Xi_ne (by omega))))))
                      have w986 : 0 ≤ Xi T1 904 73 ∧ Xi T1 904 73 ≤ 5 := hHT1.c _ _
                      have w987 : Xi T23 904 74 = Xi T1 904 74 := (show Xi T23 904 74 = Xi T22 904 74 from w964.x _ _ rfl).trans ( (show Xi T22 904 74 = Xi T21 904 74 from w925.x _ _ rfl).trans ( (show Xi T21 904 74 = Xi U20 904 74 from w882.x _ _ rfl).trans ( (show Xi U20 904 74 = Xi U19 904 74 from by rw [eU20]; exact Xi_ne (by omega)).trans ((show Xi U19 904 74 = Xi T1 904 74 from by rw [eU19]; exact Xi_ne (by omega))))))
                      have w988 : 0 ≤ Xi T1 904 74 ∧ Xi T1 904 74 ≤ 2600 := hHT1.c _ _
                      have w989 : Xi T23 904 78 = Xi T1 904 78 := (show Xi T23 904 78 = Xi T22 904 78 from w964.x _ _ rfl).trans ( (show Xi T22 904 78 = Xi T21 904 78 from w925.x _ _ rfl).trans ( (show Xi T21 904 78 = Xi U20 904 78 from w882.x _ _ rfl).trans ( (show Xi U20 904 78 = Xi U19 904 78 from by rw [eU20]; exact Xi_ne (by omega)).trans ((show Xi U19 904 78 = Xi T1 904 78 from by rw [eU19]; exact Xi_ne (by omega))))))
                      have w990 : -2 ≤ Xi T1 904 78 ∧ Xi T1 904 78 ≤ 5010 := hHT1.c _ _
                      have w991 : 0 ≤ Xi T23 904 8 ∧ Xi T23 904 8 ≤ 5010 := hHT23.c _ _
                      have w992 : Xi T23 904 81 = Xi T1 904 81 := (show Xi T23 904 81 = Xi T22 904 81 from w964.x _ _ rfl).trans ( (show Xi T22 904 81 = Xi T21 904 81 from w925.x _ _ rfl).trans ( (show Xi T21 904 81 = Xi U20 904 81 from w882.x _ _ rfl).trans ( (show Xi U20 904 81 = Xi U19 904 81 from by rw [eU20]; exact Xi_ne (by omega)).trans ((show Xi U19 904 81 = Xi T1 904 81 from by rw [eU19]; exact Xi_ne (by omega))))))
                      have w993 : 0 ≤ Xi T1 904 81 ∧ Xi T1 904 81 ≤ 5010 := hHT1.c _ _
                      have w994 : Xi T23 904 93 = Xi T1 904 93 := (show Xi T23 904 93 = Xi T22 904 93 from w964.x _ _ rfl).trans ( (show Xi T22 904 93 = Xi T21 904 93 from w925.x _ _ rfl).trans ( (show Xi T21 904 93 = Xi U20 904 93 from w882.x _ _ rfl).trans ( (show Xi U20 904 93 = Xi U19 904 93 from by rw [eU20]; exact Xi_ne (by omega)).trans ((show Xi U19 904 93 = Xi T1 904 93 from by rw [eU19]; exact Xi_ne (by omega))))))
                      have w995 : 0 ≤ Xi T1 904 93 ∧ Xi T1 904 93 ≤ 1700 := hHT1.c _ _
                      have w996 : Xi T23 904 94 = Xi T1 904 94 := (show Xi T23 904 94 = Xi T22 904 94 from w964.x _ _ rfl).trans ( (show Xi T22 904 94 = Xi T21 904 94 from w925.x _ _ rfl).trans ( (show Xi T21 904 94 = Xi U20 904 94 from w882.x _ _ rfl).trans ( (show Xi U20 904 94 = Xi U19 904 94 from by rw [eU20]; exact Xi_ne (by omega)).trans ((show Xi U19 904 94 = Xi T1 904 94 from by rw [eU19]; exact Xi_ne (by omega))))))
                      have w997 : 0 ≤ Xi T1 904 94 ∧ Xi T1 904 94 ≤ 1700 := hHT1.c _ _
                      have w998 : Xi T23 904 98 = Xi T1 904 98 := (show Xi T23 904 98 = Xi T22 904 98 from w964.x _ _ rfl).trans ( (show Xi T22 904 98 = Xi T21 904 98 from w925.x _ _ rfl).trans ( (show Xi T21 904 98 = Xi U20 904 98 from w882.x _ _ rfl).trans ( (show Xi U20 904 98 = Xi U19 904 98 from by rw [eU20]; exact Xi_ne (by omega)).trans ((show Xi U19 904 98 = Xi T1 904 98 from by rw [eU19]; exact Xi_ne (by omega))))))
                      have w999 : 0 ≤ Xi T1 904 98 ∧ Xi T1 904 98 ≤ 1700 := hHT1.c _ _
                      exact Rl_weak (C265 T23 hHT23 hFT23  (by first | assumption | exact (by assumption : AT T23 _ _)) (by first | assumption | exact (RNV_FR w964 rfl (by assumption : RNV T22 _))) (by omega) (by omega) (by omega) (c262) (by first | assumption | exact (PF_FR w964 rfl (PF_FR w925 rfl (PF_FR w882 rfl (PF_FR (FR_e eU20) rfl (PF_FR (FR_e eU19) rfl (by assumption : PF T1))))))) (by first | assumption | exact (by assumption : BDA T23))) (And.intro rfl (True.intro))
                · have w1000 : 0 ≤ Xi T1 904 102 ∧ Xi T1 904 102 ≤ 2600 := hHT1.c _ _
                  have w1001 : -1 ≤ Xi T1 904 103 ∧ Xi T1 904 103 ≤ 2600 := hHT1.c _ _
                  have w1002 : 0 ≤ Xi T1 904 65 ∧ Xi T1 904 65 ≤ 1 := hHT1.c _ _
                  have w1003 : 0 ≤ Xi T1 904 69 ∧ Xi T1 904 69 ≤ 2600 := hHT1.c _ _
                  have w1004 : 0 ≤ Xi T1 904 70 ∧ Xi T1 904 70 ≤ 20 := hHT1.c _ _
                  have w1005 : 0 ≤ Xi T1 904 71 ∧ Xi T1 904 71 ≤ 2600 := hHT1.c _ _
                  have w1006 : 0 ≤ Xi T1 904 72 ∧ Xi T1 904 72 ≤ 2600 := hHT1.c _ _
                  have w1007 : 0 ≤ Xi T1 904 73 ∧ Xi T1 904 73 ≤ 5 := hHT1.c _ _
                  have w1008 : 0 ≤ Xi T1 904 74 ∧ Xi T1 904 74 ≤ 2600 := hHT1.c _ _
                  have w1009 : -2 ≤ Xi T1 904 78 ∧ Xi T1 904 78 ≤ 5010 := hHT1.c _ _
                  have w1010 : 0 ≤ Xi T1 904 8 ∧ Xi T1 904 8 ≤ 5010 := hHT1.c _ _
                  have w1011 : 0 ≤ Xi T1 904 81 ∧ Xi T1 904 81 ≤ 5010 := hHT1.c _ _
                  have w1012 : 0 ≤ Xi T1 904 93 ∧ Xi T1 904 93 ≤ 1700 := hHT1.c _ _
                  have w1013 : 0 ≤ Xi T1 904 94 ∧ Xi T1 904 94 ≤ 1700 := hHT1.c _ _
                  have w1014 : 0 ≤ Xi T1 904 98 ∧ Xi T1 904 98 ≤ 1700 := hHT1.c _ _
                  exact Rl_weak (C168 ((Xi T1 907 (((Xi T1 904 8)).toNat))) (by omega) (by first | assumption | exact (by assumption : AT T1 _ _)) (by first | assumption | exact (by assumption : RNV T1 _)) (by omega) (by omega) (by omega) (by omega) (by omega) (by omega) (by first | assumption | omega) (by omega) (by omega) (by first | assumption | exact (by assumption : PF T1)) (by first | assumption | exact (by assumption : BDA T1))) (And.intro rfl (And.intro rfl (True.intro)))
        · refine l_aload_n rfl rfl ?_
          refine l_iconst rfl ?_
          refine l_pfi rfl rfl rfl rfl ?_
          obtain ⟨U24, eU24⟩ : ∃ T : sS, T = uI T1 904 70 (Int32.ofInt 2) := ⟨_, rfl⟩
          rw [← eU24]
          have hHU24 : HI U24 := by rw [eU24]; exact HI_w hHT1 (show 0 ≤ 2 by omega) (show 2 ≤ 20 by omega)
          have hFU24 : FR md_mo_sentence__3 S U24 := by rw [eU24]; exact FR.wI hFT1 (mdf_i (r := (904, 905, 70, 71)) (List.mem_of_getElem? (i := 4) rfl) (inR_i (by omega) (by omega) (by omega) (by omega)))
          have w1015 : Xi U24 904 70 = 2 := by rw [eU24]; exact Xi_same (by unfold rg; omega)
          refine l_aload_n rfl rfl ?_
          have w1016 : Xi U24 904 102 = Xi T1 904 102 := (show Xi U24 904 102 = Xi T1 904 102 from by rw [eU24]; exact Xi_ne (by omega))
          have w1017 : 0 ≤ Xi T1 904 102 ∧ Xi T1 904 102 ≤ 2600 := hHT1.c _ _
          have w1018 : Xi U24 904 103 = Xi T1 904 103 := (show Xi U24 904 103 = Xi T1 904 103 from by rw [eU24]; exact Xi_ne (by omega))
          have w1019 : -1 ≤ Xi T1 904 103 ∧ Xi T1 904 103 ≤ 2600 := hHT1.c _ _
          have w1020 : Xi U24 904 65 = Xi T1 904 65 := (show Xi U24 904 65 = Xi T1 904 65 from by rw [eU24]; exact Xi_ne (by omega))
          have w1021 : 0 ≤ Xi T1 904 65 ∧ Xi T1 904 65 ≤ 1 := hHT1.c _ _
          have w1022 : Xi U24 904 69 = Xi T1 904 69 := (show Xi U24 904 69 = Xi T1 904 69 from by rw [eU24]; exact Xi_ne (by omega))
          have w1023 : 0 ≤ Xi T1 904 69 ∧ Xi T1 904 69 ≤ 2600 := hHT1.c _ _
          have w1024 : 0 ≤ Xi U24 904 70 ∧ Xi U24 904 70 ≤ 20 := hHU24.c _ _
          have w1025 : Xi U24 904 71 = Xi T1 904 71 := (show Xi U24 904 71 = Xi T1 904 71 from by rw [eU24]; exact Xi_ne (by omega))
          have w1026 : 0 ≤ Xi T1 904 71 ∧ Xi T1 904 71 ≤ 2600 := hHT1.c _ _
          have w1027 : Xi U24 904 72 = Xi T1 904 72 := (show Xi U24 904 72 = Xi T1 904 72 from by rw [eU24]; exact Xi_ne (by omega))
          have w1028 : 0 ≤ Xi T1 904 72 ∧ Xi T1 904 72 ≤ 2600 := hHT1.c _ _
          have w1029 : Xi U24 904 73 = Xi T1 904 73 := (show Xi U24 904 73 = Xi T1 904 73 from by rw [eU24]; exact Xi_ne (by omega))
          have w1030 : 0 ≤ Xi T1 904 73 ∧ Xi T1 904 73 ≤ 5 := hHT1.c _ _
          have w1031 : Xi U24 904 74 = Xi T1 904 74 := (show Xi U24 904 74 = Xi T1 904 74 from by rw [eU24]; exact Xi_ne (by omega))
          have w1032 : 0 ≤ Xi T1 904 74 ∧ Xi T1 904 74 ≤ 2600 := hHT1.c _ _
          have w1033 : Xi U24 904 78 = Xi T1 904 78 := (show Xi U24 904 78 = Xi T1 904 78 from by rw [eU24]; exact Xi_ne (by omega))
          have w1034 : -2 ≤ Xi T1 904 78 ∧ Xi T1 904 78 ≤ 5010 := hHT1.c _ _
          have w1035 : Xi U24 904 8 = Xi T1 904 8 := (show Xi U24 904 8 = Xi T1 904 8 from by rw [eU24]; exact Xi_ne (by omega))
          have w1036 : 0 ≤ Xi T1 904 8 ∧ Xi T1 904 8 ≤ 5010 := hHT1.c _ _
          have w1037 : Xi U24 904 81 = Xi T1 904 81 := (show Xi U24 904 81 = Xi T1 904 81 from by rw [eU24]; exact Xi_ne (by omega))
          have w1038 : 0 ≤ Xi T1 904 81 ∧ Xi T1 904 81 ≤ 5010 := hHT1.c _ _
          have w1039 : Xi U24 904 93 = Xi T1 904 93 := (show Xi U24 904 93 = Xi T1 904 93 from by rw [eU24]; exact Xi_ne (by omega))
          have w1040 : 0 ≤ Xi T1 904 93 ∧ Xi T1 904 93 ≤ 1700 := hHT1.c _ _
          have w1041 : Xi U24 904 94 = Xi T1 904 94 := (show Xi U24 904 94 = Xi T1 904 94 from by rw [eU24]; exact Xi_ne (by omega))
          have w1042 : 0 ≤ Xi T1 904 94 ∧ Xi T1 904 94 ≤ 1700 := hHT1.c _ _
          have w1043 : Xi U24 904 98 = Xi T1 904 98 := (show Xi U24 904 98 = Xi T1 904 98 from by rw [eU24]; exact Xi_ne (by omega))
          have w1044 : 0 ≤ Xi T1 904 98 ∧ Xi T1 904 98 ≤ 1700 := hHT1.c _ _
          refine l_callV rfl rfl rfl (t_mo_partTwo__3 hHU24 n 0 (by first | assumption | exact (TK_FR hFU24 rfl (by assumption : TK S _))) (by first | assumption | exact (AT_FR (FR_e eU24) rfl (by assumption : AT T1 _ _))) (by first | assumption | exact (RNV_FR (FR_e eU24) rfl (by assumption : RNV T1 _))) (by first | assumption | omega) (by first | assumption | omega | (rw [show ∀ j, Xi U24 907 j = Xi T1 907 j from fun j => by rw [eU24, Xi_ne (by omega)], show Xi U24 904 8 = Xi T1 904 8 by omega]; first | assumption | omega)) (by first | assumption | omega) (by first | assumption | exact (BDA_FR (FR_e eU24) rfl (by assumption : BDA T1))) _) ?_
          rintro _ T25 ⟨hHT25, w1054, rfl, w1045, w1046, w1047, w1048, w1049, w1050, tv134, w1051, w1052⟩
          have hFT25 : FR md_mo_sentence__3 S T25 := FR.tr hFU24 w1054 rfl
          show Rl _ _ _ _ _ [] _ _
          have w1056 : 0 ≤ Xi T25 904 8 ∧ Xi T25 904 8 ≤ 5010 := hHT25.c _ _
          have w1057 : 0 ≤ Xi T25 904 65 ∧ Xi T25 904 65 ≤ 1 := hHT25.c _ _
          have w1058 : 0 ≤ Xi T25 904 69 ∧ Xi T25 904 69 ≤ 2600 := hHT25.c _ _
          have w1059 : 0 ≤ Xi T25 904 93 ∧ Xi T25 904 93 ≤ 1700 := hHT25.c _ _
          have w1055 : Xi S 904 8 ≤ Xi T25 904 8 ∧ Xi T25 904 8 ≤ n + 2 := by omega
          clear w1046 w1048
          refine l_goto rfl rfl ?_
          have w1060 : Xi T25 904 102 = Xi T1 904 102 := (show Xi T25 904 102 = Xi U24 904 102 from w1054.x _ _ rfl).trans ((show Xi U24 904 102 = Xi T1 904 102 from by rw [eU24]; exact Xi_ne (by omega)))
          have w1061 : 0 ≤ Xi T1 904 102 ∧ Xi T1 904 102 ≤ 2600 := hHT1.c _ _
          have w1062 : Xi T25 904 103 = Xi T1 904 103 := (show Xi T25 904 103 = Xi U24 904 103 from w1054.x _ _ rfl).trans ((show Xi U24 904 103 = Xi T1 904 103 from by rw [eU24]; exact Xi_ne (by omega)))
          have w1063 : -1 ≤ Xi T1 904 103 ∧ Xi T1 904 103 ≤ 2600 := hHT1.c _ _
          have w1064 : 0 ≤ Xi T25 904 65 ∧ Xi T25 904 65 ≤ 1 := hHT25.c _ _
          have w1065 : 0 ≤ Xi T25 904 69 ∧ Xi T25 904 69 ≤ 2600 := hHT25.c _ _
          have w1066 : Xi T25 904 70 = Xi U24 904 70 := (show Xi T25 904 70 = Xi U24 904 70 from w1054.x _ _ rfl)
          have w1067 : 0 ≤ Xi U24 904 70 ∧ Xi U24 904 70 ≤ 20 := hHU24.c _ _
          have w1068 : Xi T25 904 71 = Xi T1 904 71 := (show Xi T25 904 71 = Xi U24 904 71 from w1054.x _ _ rfl).trans ((show Xi U24 904 71 = Xi T1 904 71 from by rw [eU24]; exact Xi_ne (by omega)))
          have w1069 : 0 ≤ Xi T1 904 71 ∧ Xi T1 904 71 ≤ 2600 := hHT1.c _ _
          have w1070 : Xi T25 904 72 = Xi T1 904 72 := (show Xi T25 904 72 = Xi U24 904 72 from w1054.x _ _ rfl).trans ((show Xi U24 904 72 = Xi T1 904 72 from by rw [eU24]; exact Xi_ne (by omega)))
          have w1071 : 0 ≤ Xi T1 904 72 ∧ Xi T1 904 72 ≤ 2600 := hHT1.c _ _
          have w1072 : Xi T25 904 73 = Xi T1 904 73 := (show Xi T25 904 73 = Xi U24 904 73 from w1054.x _ _ rfl).trans ((show Xi U24 904 73 = Xi T1 904 73 from by rw [eU24]; exact Xi_ne (by omega)))
          have w1073 : 0 ≤ Xi T1 904 73 ∧ Xi T1 904 73 ≤ 5 := hHT1.c _ _
          have w1074 : Xi T25 904 74 = Xi T1 904 74 := (show Xi T25 904 74 = Xi U24 904 74 from w1054.x _ _ rfl).trans ((show Xi U24 904 74 = Xi T1 904 74 from by rw [eU24]; exact Xi_ne (by omega)))
          have w1075 : 0 ≤ Xi T1 904 74 ∧ Xi T1 904 74 ≤ 2600 := hHT1.c _ _
          have w1076 : -2 ≤ Xi T25 904 78 ∧ Xi T25 904 78 ≤ 5010 := hHT25.c _ _
          have w1077 : 0 ≤ Xi T25 904 8 ∧ Xi T25 904 8 ≤ 5010 := hHT25.c _ _
          have w1078 : Xi T25 904 81 = Xi T1 904 81 := (show Xi T25 904 81 = Xi U24 904 81 from w1054.x _ _ rfl).trans ((show Xi U24 904 81 = Xi T1 904 81 from by rw [eU24]; exact Xi_ne (by omega)))
          have w1079 : 0 ≤ Xi T1 904 81 ∧ Xi T1 904 81 ≤ 5010 := hHT1.c _ _
          have w1080 : 0 ≤ Xi T25 904 93 ∧ Xi T25 904 93 ≤ 1700 := hHT25.c _ _
          have w1081 : 0 ≤ Xi T25 904 94 ∧ Xi T25 904 94 ≤ 1700 := hHT25.c _ _
          have w1082 : Xi T25 904 98 = Xi T1 904 98 := (show Xi T25 904 98 = Xi U24 904 98 from w1054.x _ _ rfl).trans ((show Xi U24 904 98 = Xi T1 904 98 from by rw [eU24]; exact Xi_ne (by omega)))
          have w1083 : 0 ≤ Xi T1 904 98 ∧ Xi T1 904 98 ≤ 1700 := hHT1.c _ _
          exact Rl_weak (C350 T25 hHT25 hFT25  (by assumption) (by first | assumption | exact (by assumption : RNV T25 _)) (by omega) (by first | exact q347 | exact (fun _ => fun q => by unfold SNQ; refine ⟨fun q1 => ⟨by omega, Q115 q⟩, by omega, by omega, by omega, fun q9 => absurd q9 (by omega), by omega, by omega, by omega, by omega, by omega⟩) Q115 | (exact fun q => by unfold SNQ; refine ⟨fun q1 => absurd q1 (by omega), by omega, by omega, by omega, fun q9 => absurd q9 (by omega), by omega, by omega, by omega, by omega, by omega⟩)) (by first | exact fun q _ _ => tv134 q | exact fun q _ _ => tv204 q | exact fun q a b => absurd b (by omega) | exact fun q a b => absurd a (by omega)) (by first | exact fun q _ _ => pv204 q | exact fun q a b => absurd b (by omega) | exact fun q a b => absurd a (by omega)) (by omega) (by omega) (by omega) (by omega) (by first | assumption | exact (PF_FR w1054 rfl (PF_FR (FR_e eU24) rfl (by assumption : PF T1)))) (by first | assumption | exact (by assumption : BDA T25))) (And.intro rfl (True.intro))
      · refine l_aload_n rfl rfl ?_
        refine l_iconst rfl ?_
        refine l_pfi rfl rfl rfl rfl ?_
        obtain ⟨U26, eU26⟩ : ∃ T : sS, T = uI T1 904 70 (Int32.ofInt 1) := ⟨_, rfl⟩
        rw [← eU26]
        have hHU26 : HI U26 := by rw [eU26]; exact HI_w hHT1 (show 0 ≤ 1 by omega) (show 1 ≤ 20 by omega)
        have hFU26 : FR md_mo_sentence__3 S U26 := by rw [eU26]; exact FR.wI hFT1 (mdf_i (r := (904, 905, 70, 71)) (List.mem_of_getElem? (i := 4) rfl) (inR_i (by omega) (by omega) (by omega) (by omega)))
        have w1084 : Xi U26 904 70 = 1 := by rw [eU26]; exact Xi_same (by unfold rg; omega)
        refine l_aload_n rfl rfl ?_
        have w1085 : Xi U26 904 102 = Xi T1 904 102 := (show Xi U26 904 102 = Xi T1 904 102 from by rw [eU26]; exact Xi_ne (by omega))
        have w1086 : 0 ≤ Xi T1 904 102 ∧ Xi T1 904 102 ≤ 2600 := hHT1.c _ _
        have w1087 : Xi U26 904 103 = Xi T1 904 103 := (show Xi U26 904 103 = Xi T1 904 103 from by rw [eU26]; exact Xi_ne (by omega))
        have w1088 : -1 ≤ Xi T1 904 103 ∧ Xi T1 904 103 ≤ 2600 := hHT1.c _ _
        have w1089 : Xi U26 904 65 = Xi T1 904 65 := (show Xi U26 904 65 = Xi T1 904 65 from by rw [eU26]; exact Xi_ne (by omega))
        have w1090 : 0 ≤ Xi T1 904 65 ∧ Xi T1 904 65 ≤ 1 := hHT1.c _ _
        have w1091 : Xi U26 904 69 = Xi T1 904 69 := (show Xi U26 904 69 = Xi T1 904 69 from by rw [eU26]; exact Xi_ne (by omega))
        have w1092 : 0 ≤ Xi T1 904 69 ∧ Xi T1 904 69 ≤ 2600 := hHT1.c _ _
        have w1093 : 0 ≤ Xi U26 904 70 ∧ Xi U26 904 70 ≤ 20 := hHU26.c _ _
        have w1094 : Xi U26 904 71 = Xi T1 904 71 := (show Xi U26 904 71 = Xi T1 904 71 from by rw [eU26]; exact Xi_ne (by omega))
        have w1095 : 0 ≤ Xi T1 904 71 ∧ Xi T1 904 71 ≤ 2600 := hHT1.c _ _
        have w1096 : Xi U26 904 72 = Xi T1 904 72 := (show Xi U26 904 72 = Xi T1 904 72 from by rw [eU26]; exact Xi_ne (by omega))
        have w1097 : 0 ≤ Xi T1 904 72 ∧ Xi T1 904 72 ≤ 2600 := hHT1.c _ _
        have w1098 : Xi U26 904 73 = Xi T1 904 73 := (show Xi U26 904 73 = Xi T1 904 73 from by rw [eU26]; exact Xi_ne (by omega))
        have w1099 : 0 ≤ Xi T1 904 73 ∧ Xi T1 904 73 ≤ 5 := hHT1.c _ _
        have w1100 : Xi U26 904 74 = Xi T1 904 74 := (show Xi U26 904 74 = Xi T1 904 74 from by rw [eU26]; exact Xi_ne (by omega))
        have w1101 : 0 ≤ Xi T1 904 74 ∧ Xi T1 904 74 ≤ 2600 := hHT1.c _ _
        have w1102 : Xi U26 904 78 = Xi T1 904 78 := (show Xi U26 904 78 = Xi T1 904 78 from by rw [eU26]; exact Xi_ne (by omega))
        have w1103 : -2 ≤ Xi T1 904 78 ∧ Xi T1 904 78 ≤ 5010 := hHT1.c _ _
        have w1104 : Xi U26 904 8 = Xi T1 904 8 := (show Xi U26 904 8 = Xi T1 904 8 from by rw [eU26]; exact Xi_ne (by omega))
        have w1105 : 0 ≤ Xi T1 904 8 ∧ Xi T1 904 8 ≤ 5010 := hHT1.c _ _
        have w1106 : Xi U26 904 81 = Xi T1 904 81 := (show Xi U26 904 81 = Xi T1 904 81 from by rw [eU26]; exact Xi_ne (by omega))
        have w1107 : 0 ≤ Xi T1 904 81 ∧ Xi T1 904 81 ≤ 5010 := hHT1.c _ _
        have w1108 : Xi U26 904 93 = Xi T1 904 93 := (show Xi U26 904 93 = Xi T1 904 93 from by rw [eU26]; exact Xi_ne (by omega))
        have w1109 : 0 ≤ Xi T1 904 93 ∧ Xi T1 904 93 ≤ 1700 := hHT1.c _ _
        have w1110 : Xi U26 904 94 = Xi T1 904 94 := (show Xi U26 904 94 = Xi T1 904 94 from by rw [eU26]; exact Xi_ne (by omega))
        have w1111 : 0 ≤ Xi T1 904 94 ∧ Xi T1 904 94 ≤ 1700 := hHT1.c _ _
        have w1112 : Xi U26 904 98 = Xi T1 904 98 := (show Xi U26 904 98 = Xi T1 904 98 from by rw [eU26]; exact Xi_ne (by omega))
        have w1113 : 0 ≤ Xi T1 904 98 ∧ Xi T1 904 98 ≤ 1700 := hHT1.c _ _
        refine l_callV rfl rfl rfl (t_mo_partOne__2 hHU26 n 0 (by first | assumption | exact (TK_FR hFU26 rfl (by assumption : TK S _))) (by first | assumption | exact (AT_FR (FR_e eU26) rfl (by assumption : AT T1 _ _))) (by first | assumption | exact (RNV_FR (FR_e eU26) rfl (by assumption : RNV T1 _))) (by first | assumption | omega) (by first | assumption | omega | (rw [show ∀ j, Xi U26 907 j = Xi T1 907 j from fun j => by rw [eU26, Xi_ne (by omega)], show Xi U26 904 8 = Xi T1 904 8 by omega]; first | assumption | omega)) (by first | assumption | exact (BDA_FR (FR_e eU26) rfl (by assumption : BDA T1))) _) ?_
        rintro _ T27 ⟨hHT27, w1120, rfl, w1114, w1115, w1116, w1117, q115, w1118⟩
        have hFT27 : FR md_mo_sentence__3 S T27 := FR.tr hFU26 w1120 rfl
        show Rl _ _ _ _ _ [] _ _
        have w1122 : 0 ≤ Xi T27 904 8 ∧ Xi T27 904 8 ≤ 5010 := hHT27.c _ _
        have w1123 : 0 ≤ Xi T27 904 65 ∧ Xi T27 904 65 ≤ 1 := hHT27.c _ _
        have w1124 : 0 ≤ Xi T27 904 69 ∧ Xi T27 904 69 ≤ 2600 := hHT27.c _ _
        have w1125 : Xi T27 904 93 = Xi T1 904 93 := (show Xi T27 904 93 = Xi U26 904 93 from w1120.x _ _ rfl).trans ((show Xi U26 904 93 = Xi T1 904 93 from by rw [eU26]; exact Xi_ne (by omega)))
        have w1126 : 0 ≤ Xi T1 904 93 ∧ Xi T1 904 93 ≤ 1700 := hHT1.c _ _
        have Q115 : Xi T27 904 65 = 0 → Xi T27 907 (Xi T27 904 81).toNat = 5 := fun q => by rw [(hFT27.cx 907 rfl _).1, ← (hFU26.cx 907 rfl _).1]; exact (q115 q).2.1
        have R115 : Xi T27 904 65 = 0 → Xi T27 904 81 ≤ n ∧ 1 ≤ Xi T27 904 69 := fun q => ⟨(q115 q).1, (q115 q).2.2⟩
        clear q115
        have w1121 : Xi S 904 8 ≤ Xi T27 904 8 ∧ Xi T27 904 8 ≤ n + 2 := by omega
        clear w1115 w1117
        refine l_goto rfl rfl ?_
        have w1127 : Xi T27 904 102 = Xi T1 904 102 := (show Xi T27 904 102 = Xi U26 904 102 from w1120.x _ _ rfl).trans ((show Xi U26 904 102 = Xi T1 904 102 from by rw [eU26]; exact Xi_ne (by omega)))
        have w1128 : 0 ≤ Xi T1 904 102 ∧ Xi T1 904 102 ≤ 2600 := hHT1.c _ _
        have w1129 : Xi T27 904 103 = Xi T1 904 103 := (show Xi T27 904 103 = Xi U26 904 103 from w1120.x _ _ rfl).trans ((show Xi U26 904 103 = Xi T1 904 103 from by rw [eU26]; exact Xi_ne (by omega)))
        have w1130 : -1 ≤ Xi T1 904 103 ∧ Xi T1 904 103 ≤ 2600 := hHT1.c _ _
        have w1131 : 0 ≤ Xi T27 904 65 ∧ Xi T27 904 65 ≤ 1 := hHT27.c _ _
        have w1132 : 0 ≤ Xi T27 904 69 ∧ Xi T27 904 69 ≤ 2600 := hHT27.c _ _
        have w1133 : Xi T27 904 70 = Xi U26 904 70 := (show Xi T27 904 70 = Xi U26 904 70 from w1120.x _ _ rfl)
        have w1134 : 0 ≤ Xi U26 904 70 ∧ Xi U26 904 70 ≤ 20 := hHU26.c _ _
        have w1135 : Xi T27 904 71 = Xi T1 904 71 := (show Xi T27 904 71 = Xi U26 904 71 from w1120.x _ _ rfl).trans ((show Xi U26 904 71 = Xi T1 904 71 from by rw [eU26]; exact Xi_ne (by omega)))
        have w1136 : 0 ≤ Xi T1 904 71 ∧ Xi T1 904 71 ≤ 2600 := hHT1.c _ _
        have w1137 : Xi T27 904 72 = Xi T1 904 72 := (show Xi T27 904 72 = Xi U26 904 72 from w1120.x _ _ rfl).trans ((show Xi U26 904 72 = Xi T1 904 72 from by rw [eU26]; exact Xi_ne (by omega)))
        have w1138 : 0 ≤ Xi T1 904 72 ∧ Xi T1 904 72 ≤ 2600 := hHT1.c _ _
        have w1139 : Xi T27 904 73 = Xi T1 904 73 := (show Xi T27 904 73 = Xi U26 904 73 from w1120.x _ _ rfl).trans ((show Xi U26 904 73 = Xi T1 904 73 from by rw [eU26]; exact Xi_ne (by omega)))
        have w1140 : 0 ≤ Xi T1 904 73 ∧ Xi T1 904 73 ≤ 5 := hHT1.c _ _
        have w1141 : Xi T27 904 74 = Xi T1 904 74 := (show Xi T27 904 74 = Xi U26 904 74 from w1120.x _ _ rfl).trans ((show Xi U26 904 74 = Xi T1 904 74 from by rw [eU26]; exact Xi_ne (by omega)))
        have w1142 : 0 ≤ Xi T1 904 74 ∧ Xi T1 904 74 ≤ 2600 := hHT1.c _ _
        have w1143 : Xi T27 904 78 = Xi T1 904 78 := (show Xi T27 904 78 = Xi U26 904 78 from w1120.x _ _ rfl).trans ((show Xi U26 904 78 = Xi T1 904 78 from by rw [eU26]; exact Xi_ne (by omega)))
        have w1144 : -2 ≤ Xi T1 904 78 ∧ Xi T1 904 78 ≤ 5010 := hHT1.c _ _
        have w1145 : 0 ≤ Xi T27 904 8 ∧ Xi T27 904 8 ≤ 5010 := hHT27.c _ _
        have w1146 : 0 ≤ Xi T27 904 81 ∧ Xi T27 904 81 ≤ 5010 := hHT27.c _ _
        have w1147 : Xi T27 904 93 = Xi T1 904 93 := (show Xi T27 904 93 = Xi U26 904 93 from w1120.x _ _ rfl).trans ((show Xi U26 904 93 = Xi T1 904 93 from by rw [eU26]; exact Xi_ne (by omega)))
        have w1148 : 0 ≤ Xi T1 904 93 ∧ Xi T1 904 93 ≤ 1700 := hHT1.c _ _
        have w1149 : Xi T27 904 94 = Xi T1 904 94 := (show Xi T27 904 94 = Xi U26 904 94 from w1120.x _ _ rfl).trans ((show Xi U26 904 94 = Xi T1 904 94 from by rw [eU26]; exact Xi_ne (by omega)))
        have w1150 : 0 ≤ Xi T1 904 94 ∧ Xi T1 904 94 ≤ 1700 := hHT1.c _ _
        have w1151 : Xi T27 904 98 = Xi T1 904 98 := (show Xi T27 904 98 = Xi U26 904 98 from w1120.x _ _ rfl).trans ((show Xi U26 904 98 = Xi T1 904 98 from by rw [eU26]; exact Xi_ne (by omega)))
        have w1152 : 0 ≤ Xi T1 904 98 ∧ Xi T1 904 98 ≤ 1700 := hHT1.c _ _
        exact Rl_weak (C350 T27 hHT27 hFT27  (by assumption) (by first | assumption | exact (by assumption : RNV T27 _)) (by omega) (by first | exact q347 | exact (fun _ => fun q => by unfold SNQ; refine ⟨fun q1 => ⟨by omega, Q115 q⟩, by omega, by omega, by omega, fun q9 => absurd q9 (by omega), by omega, by omega, by omega, by omega, by omega⟩) Q115 | (exact fun q => by unfold SNQ; refine ⟨fun q1 => absurd q1 (by omega), by omega, by omega, by omega, fun q9 => absurd q9 (by omega), by omega, by omega, by omega, by omega, by omega⟩)) (by first | exact fun q _ _ => tv134 q | exact fun q _ _ => tv204 q | exact fun q a b => absurd b (by omega) | exact fun q a b => absurd a (by omega)) (by first | exact fun q _ _ => pv204 q | exact fun q a b => absurd b (by omega) | exact fun q a b => absurd a (by omega)) (by omega) (by omega) (by omega) (by omega) (by first | assumption | exact (PF_FR w1120 rfl (PF_FR (FR_e eU26) rfl (by assumption : PF T1)))) (by first | assumption | exact (by assumption : BDA T27))) (And.intro rfl (True.intro))
    · refine l_aload_n rfl rfl ?_
      have s5 : Xi S 907 (Xi S 904 8).toNat = 5 := by have t : Xi T1 907 (Xi T1 904 8).toNat = 5 := (by omega); rw [(hFT1.cx 907 rfl _).1, show Xi T1 904 8 = Xi S 904 8 by omega] at t; exact t
      refine l_iconst rfl ?_
      refine l_pfi rfl rfl rfl rfl ?_
      obtain ⟨U28, eU28⟩ : ∃ T : sS, T = uI T1 904 70 (Int32.ofInt 0) := ⟨_, rfl⟩
      rw [← eU28]
      have hHU28 : HI U28 := by rw [eU28]; exact HI_w hHT1 (show 0 ≤ 0 by omega) (show 0 ≤ 20 by omega)
      have hFU28 : FR md_mo_sentence__3 S U28 := by rw [eU28]; exact FR.wI hFT1 (mdf_i (r := (904, 905, 70, 71)) (List.mem_of_getElem? (i := 4) rfl) (inR_i (by omega) (by omega) (by omega) (by omega)))
      have w1153 : Xi U28 904 70 = 0 := by rw [eU28]; exact Xi_same (by unfold rg; omega)
      refine l_aload_n rfl rfl ?_
      refine l_aload_n rfl rfl ?_
      refine l_gfi rfl rfl rfl rfl rfl ?_
      have w1154 : (Xi U28 904 8) = (Xi T1 904 8) := (show Xi U28 904 8 = Xi T1 904 8 from by rw [eU28]; exact Xi_ne (by omega))
      rw [w1154]
      refine l_pfi rfl rfl rfl rfl ?_
      obtain ⟨U29, eU29⟩ : ∃ T : sS, T = uI U28 904 81 (Int32.ofInt (Xi T1 904 8)) := ⟨_, rfl⟩
      rw [← eU29]
      have hHU29 : HI U29 := by rw [eU29]; exact HI_w hHU28 (show 0 ≤ (Xi T1 904 8) by omega) (show (Xi T1 904 8) ≤ 5010 by omega)
      have hFU29 : FR md_mo_sentence__3 S U29 := by rw [eU29]; exact FR.wI hFU28 (mdf_i (r := (904, 905, 81, 82)) (List.mem_of_getElem? (i := 15) rfl) (inR_i (by omega) (by omega) (by omega) (by omega)))
      have w1155 : Xi U29 904 81 = (Xi T1 904 8) := by rw [eU29]; exact Xi_same (by unfold rg; omega)
      refine l_aload_n rfl rfl ?_
      refine l_dup rfl rfl ?_
      refine l_gfi rfl rfl rfl rfl rfl ?_
      have w1156 : (Xi U29 904 8) = (Xi T1 904 8) := (show Xi U29 904 8 = Xi U28 904 8 from by rw [eU29]; exact Xi_ne (by omega)).trans ((show Xi U28 904 8 = Xi T1 904 8 from by rw [eU28]; exact Xi_ne (by omega)))
      rw [w1156]
      refine l_iconst rfl ?_
      refine l_iadd rfl ?_
      refine l_pfi rfl rfl rfl rfl ?_
      obtain ⟨U30, eU30⟩ : ∃ T : sS, T = uI U29 904 8 (Int32.ofInt ((Xi T1 904 8) + 1)) := ⟨_, rfl⟩
      rw [← eU30]
      have hHU30 : HI U30 := by rw [eU30]; exact HI_w hHU29 (show 0 ≤ ((Xi T1 904 8) + 1) by omega) (show ((Xi T1 904 8) + 1) ≤ 5010 by omega)
      have hFU30 : FR md_mo_sentence__3 S U30 := by rw [eU30]; exact FR.wI hFU29 (mdf_i (r := (904, 905, 8, 9)) (List.mem_of_getElem? (i := 0) rfl) (inR_i (by omega) (by omega) (by omega) (by omega)))
      have w1157 : Xi U30 904 8 = ((Xi T1 904 8) + 1) := by rw [eU30]; exact Xi_same (by unfold rg; omega)
      have t70 : AT U30 n 0 ∧ _ := (at_mv (S := T1) (P := U29) (TK_FR hFT1 rfl (by assumption : TK S _)) (by first | assumption | exact (by assumption : AT T1 _ _)) (fun j => ((FR_e eU29).cx 907 rfl j).1.trans (((FR_e eU28).cx 907 rfl j).1)) (fun j => ((FR_e eU29).cx 908 rfl j).1.trans (((FR_e eU28).cx 908 rfl j).1)) ((show Xi U29 904 8 = Xi U28 904 8 from by rw [eU29]; exact Xi_ne (by omega)).trans ((show Xi U28 904 8 = Xi T1 904 8 from by rw [eU28]; exact Xi_ne (by omega)))) ((show Xi U29 904 65 = Xi U28 904 65 from by rw [eU29]; exact Xi_ne (by omega)).trans ((show Xi U28 904 65 = Xi T1 904 65 from by rw [eU28]; exact Xi_ne (by omega)))) ((show Xi U29 904 69 = Xi U28 904 69 from by rw [eU29]; exact Xi_ne (by omega)).trans ((show Xi U28 904 69 = Xi T1 904 69 from by rw [eU28]; exact Xi_ne (by omega)))) ((show Xi U29 904 93 = Xi U28 904 93 from by rw [eU29]; exact Xi_ne (by omega)).trans ((show Xi U28 904 93 = Xi T1 904 93 from by rw [eU28]; exact Xi_ne (by omega)))) eU30 (by omega) (by omega) (by omega) (by omega) (Or.inl rfl))
      have a70 : AT U30 n 0 := t70.1
      have l70 := t70.2
      have b70 : Xi U30 904 65 = 0 := by rw [eU30, Xi_ne (by omega), eU29, Xi_ne (by omega), eU28, Xi_ne (by omega)]; omega
      refine l_aload_n rfl rfl ?_
      refine l_dup rfl rfl ?_
      refine l_gfi rfl rfl rfl rfl rfl ?_
      refine l_aload_n rfl rfl ?_
      refine l_gfr rfl rfl rfl rfl rfl (hHU30.r 904 4 907 rfl) ?_
      refine l_aload_n rfl rfl ?_
      refine l_gfi rfl rfl rfl rfl rfl ?_
      refine l_iaload (n := 5002) rfl rfl (by omega) (by omega) (by unfold rg; omega) ?_
      have w1158 : 0 ≤ (Xi U30 907 (((Xi U30 904 8)).toNat)) ∧ (Xi U30 907 (((Xi U30 904 8)).toNat)) ≤ 154 := hHU30.c _ _
      have e86 : (Xi U30 907 (((Xi U30 904 8)).toNat)) = Xi U30 907 (Xi U30 904 8).toNat := by first | rfl | exact congrArg (fun t : Int => Xi U30 907 t.toNat) (by omega)
      refine l_bipush rfl rfl ?_
      refine l_icmp_ne rfl rfl (by unfold rg; omega) (by unfold rg; omega) (fun w1159 => ?_) (fun w1160 => ?_)
      · refine l_iconst rfl ?_
        refine l_iadd rfl ?_
        refine l_pfi rfl rfl rfl rfl ?_
        obtain ⟨U31, eU31⟩ : ∃ T : sS, T = uI U30 904 8 (Int32.ofInt ((Xi U30 904 8) + 0)) := ⟨_, rfl⟩
        rw [← eU31]
        have hHU31 : HI U31 := by rw [eU31]; exact HI_w hHU30 (show 0 ≤ ((Xi U30 904 8) + 0) by omega) (show ((Xi U30 904 8) + 0) ≤ 5010 by omega)
        have hFU31 : FR md_mo_sentence__3 S U31 := by rw [eU31]; exact FR.wI hFU30 (mdf_i (r := (904, 905, 8, 9)) (List.mem_of_getElem? (i := 0) rfl) (inR_i (by omega) (by omega) (by omega) (by omega)))
        have w1161 : Xi U31 904 8 = ((Xi U30 904 8) + 0) := by rw [eU31]; exact Xi_same (by unfold rg; omega)
        have t98 : AT U31 n 0 ∧ Xi U30 904 8 ≤ Xi U31 904 8 ∧ (Xi U31 904 8 ≤ n ∨ Xi U31 904 8 = Xi U30 904 8) := at_opt (TK_FR hFU30 rfl hT) a70 eU31 (by omega) (by omega)
        refine l_return rfl rfl ?_
        have w1162 : Xi U31 904 102 = Xi T1 904 102 := (show Xi U31 904 102 = Xi U30 904 102 from by rw [eU31]; exact Xi_ne (by omega)).trans ( (show Xi U30 904 102 = Xi U29 904 102 from by rw [eU30]; exact Xi_ne (by omega)).trans ( (show Xi U29 904 102 = Xi U28 904 102 from by rw [eU29]; exact Xi_ne (by omega)).trans ((show Xi U28 904 102 = Xi T1 904 102 from by rw [eU28]; exact Xi_ne (by omega)))))
        have w1163 : 0 ≤ Xi T1 904 102 ∧ Xi T1 904 102 ≤ 2600 := hHT1.c _ _
        have w1164 : Xi U31 904 103 = Xi T1 904 103 := (show Xi U31 904 103 = Xi U30 904 103 from by rw [eU31]; exact Xi_ne (by omega)).trans ( (show Xi U30 904 103 = Xi U29 904 103 from by rw [eU30]; exact Xi_ne (by omega)).trans ( (show Xi U29 904 103 = Xi U28 904 103 from by rw [eU29]; exact Xi_ne (by omega)).trans ((show Xi U28 904 103 = Xi T1 904 103 from by rw [eU28]; exact Xi_ne (by omega)))))
        have w1165 : -1 ≤ Xi T1 904 103 ∧ Xi T1 904 103 ≤ 2600 := hHT1.c _ _
        have w1166 : Xi U31 904 65 = Xi T1 904 65 := (show Xi U31 904 65 = Xi U30 904 65 from by rw [eU31]; exact Xi_ne (by omega)).trans ( (show Xi U30 904 65 = Xi U29 904 65 from by rw [eU30]; exact Xi_ne (by omega)).trans ( (show Xi U29 904 65 = Xi U28 904 65 from by rw [eU29]; exact Xi_ne (by omega)).trans ((show Xi U28 904 65 = Xi T1 904 65 from by rw [eU28]; exact Xi_ne (by omega)))))
        have w1167 : 0 ≤ Xi T1 904 65 ∧ Xi T1 904 65 ≤ 1 := hHT1.c _ _
        have w1168 : Xi U31 904 69 = Xi T1 904 69 := (show Xi U31 904 69 = Xi U30 904 69 from by rw [eU31]; exact Xi_ne (by omega)).trans ( (show Xi U30 904 69 = Xi U29 904 69 from by rw [eU30]; exact Xi_ne (by omega)).trans ( (show Xi U29 904 69 = Xi U28 904 69 from by rw [eU29]; exact Xi_ne (by omega)).trans ((show Xi U28 904 69 = Xi T1 904 69 from by rw [eU28]; exact Xi_ne (by omega)))))
        have w1169 : 0 ≤ Xi T1 904 69 ∧ Xi T1 904 69 ≤ 2600 := hHT1.c _ _
        have w1170 : Xi U31 904 70 = Xi U28 904 70 := (show Xi U31 904 70 = Xi U30 904 70 from by rw [eU31]; exact Xi_ne (by omega)).trans ( (show Xi U30 904 70 = Xi U29 904 70 from by rw [eU30]; exact Xi_ne (by omega)).trans ((show Xi U29 904 70 = Xi U28 904 70 from by rw [eU29]; exact Xi_ne (by omega))))
        have w1171 : 0 ≤ Xi U28 904 70 ∧ Xi U28 904 70 ≤ 20 := hHU28.c _ _
        have w1172 : Xi U31 904 71 = Xi T1 904 71 := (show Xi U31 904 71 = Xi U30 904 71 from by rw [eU31]; exact Xi_ne (by omega)).trans ( (show Xi U30 904 71 = Xi U29 904 71 from by rw [eU30]; exact Xi_ne (by omega)).trans ( (show Xi U29 904 71 = Xi U28 904 71 from by rw [eU29]; exact Xi_ne (by omega)).trans ((show Xi U28 904 71 = Xi T1 904 71 from by rw [eU28]; exact Xi_ne (by omega)))))
        have w1173 : 0 ≤ Xi T1 904 71 ∧ Xi T1 904 71 ≤ 2600 := hHT1.c _ _
        have w1174 : Xi U31 904 72 = Xi T1 904 72 := (show Xi U31 904 72 = Xi U30 904 72 from by rw [eU31]; exact Xi_ne (by omega)).trans ( (show Xi U30 904 72 = Xi U29 904 72 from by rw [eU30]; exact Xi_ne (by omega)).trans ( (show Xi U29 904 72 = Xi U28 904 72 from by rw [eU29]; exact Xi_ne (by omega)).trans ((show Xi U28 904 72 = Xi T1 904 72 from by rw [eU28]; exact Xi_ne (by omega)))))
        have w1175 : 0 ≤ Xi T1 904 72 ∧ Xi T1 904 72 ≤ 2600 := hHT1.c _ _
        have w1176 : Xi U31 904 73 = Xi T1 904 73 := (show Xi U31 904 73 = Xi U30 904 73 from by rw [eU31]; exact Xi_ne (by omega)).trans ( (show Xi U30 904 73 = Xi U29 904 73 from by rw [eU30]; exact Xi_ne (by omega)).trans ( (show Xi U29 904 73 = Xi U28 904 73 from by rw [eU29]; exact Xi_ne (by omega)).trans ((show Xi U28 904 73 = Xi T1 904 73 from by rw [eU28]; exact Xi_ne (by omega)))))
        have w1177 : 0 ≤ Xi T1 904 73 ∧ Xi T1 904 73 ≤ 5 := hHT1.c _ _
        have w1178 : Xi U31 904 74 = Xi T1 904 74 := (show Xi U31 904 74 = Xi U30 904 74 from by rw [eU31]; exact Xi_ne (by omega)).trans ( (show Xi U30 904 74 = Xi U29 904 74 from by rw [eU30]; exact Xi_ne (by omega)).trans ( (show Xi U29 904 74 = Xi U28 904 74 from by rw [eU29]; exact Xi_ne (by omega)).trans ((show Xi U28 904 74 = Xi T1 904 74 from by rw [eU28]; exact Xi_ne (by omega)))))
        have w1179 : 0 ≤ Xi T1 904 74 ∧ Xi T1 904 74 ≤ 2600 := hHT1.c _ _
        have w1180 : Xi U31 904 78 = Xi T1 904 78 := (show Xi U31 904 78 = Xi U30 904 78 from by rw [eU31]; exact Xi_ne (by omega)).trans ( (show Xi U30 904 78 = Xi U29 904 78 from by rw [eU30]; exact Xi_ne (by omega)).trans ( (show Xi U29 904 78 = Xi U28 904 78 from by rw [eU29]; exact Xi_ne (by omega)).trans ((show Xi U28 904 78 = Xi T1 904 78 from by rw [eU28]; exact Xi_ne (by omega)))))
        have w1181 : -2 ≤ Xi T1 904 78 ∧ Xi T1 904 78 ≤ 5010 := hHT1.c _ _
        have w1182 : 0 ≤ Xi U31 904 8 ∧ Xi U31 904 8 ≤ 5010 := hHU31.c _ _
        have w1183 : Xi U31 904 81 = Xi U29 904 81 := (show Xi U31 904 81 = Xi U30 904 81 from by rw [eU31]; exact Xi_ne (by omega)).trans ((show Xi U30 904 81 = Xi U29 904 81 from by rw [eU30]; exact Xi_ne (by omega)))
        have w1184 : 0 ≤ Xi U29 904 81 ∧ Xi U29 904 81 ≤ 5010 := hHU29.c _ _
        have w1185 : Xi U31 904 93 = Xi T1 904 93 := (show Xi U31 904 93 = Xi U30 904 93 from by rw [eU31]; exact Xi_ne (by omega)).trans ( (show Xi U30 904 93 = Xi U29 904 93 from by rw [eU30]; exact Xi_ne (by omega)).trans ( (show Xi U29 904 93 = Xi U28 904 93 from by rw [eU29]; exact Xi_ne (by omega)).trans ((show Xi U28 904 93 = Xi T1 904 93 from by rw [eU28]; exact Xi_ne (by omega)))))
        have w1186 : 0 ≤ Xi T1 904 93 ∧ Xi T1 904 93 ≤ 1700 := hHT1.c _ _
        have w1187 : Xi U31 904 94 = Xi T1 904 94 := (show Xi U31 904 94 = Xi U30 904 94 from by rw [eU31]; exact Xi_ne (by omega)).trans ( (show Xi U30 904 94 = Xi U29 904 94 from by rw [eU30]; exact Xi_ne (by omega)).trans ( (show Xi U29 904 94 = Xi U28 904 94 from by rw [eU29]; exact Xi_ne (by omega)).trans ((show Xi U28 904 94 = Xi T1 904 94 from by rw [eU28]; exact Xi_ne (by omega)))))
        have w1188 : 0 ≤ Xi T1 904 94 ∧ Xi T1 904 94 ≤ 1700 := hHT1.c _ _
        have w1189 : Xi U31 904 98 = Xi T1 904 98 := (show Xi U31 904 98 = Xi U30 904 98 from by rw [eU31]; exact Xi_ne (by omega)).trans ( (show Xi U30 904 98 = Xi U29 904 98 from by rw [eU30]; exact Xi_ne (by omega)).trans ( (show Xi U29 904 98 = Xi U28 904 98 from by rw [eU29]; exact Xi_ne (by omega)).trans ((show Xi U28 904 98 = Xi T1 904 98 from by rw [eU28]; exact Xi_ne (by omega)))))
        have w1190 : 0 ≤ Xi T1 904 98 ∧ Xi T1 904 98 ≤ 1700 := hHT1.c _ _
        exact ⟨hHU31, hFU31, rfl, (by omega), (by omega), (by first | assumption | exact (RNV_FR (FR_e eU31) rfl (RNV_FR (FR_e eU30) rfl (RNV_FR (FR_e eU29) rfl (RNV_FR (FR_e eU28) rfl (by assumption : RNV T1 _)))))), (by first | exact Q353 | (exact fun q => by unfold SNQ; refine ⟨fun q1 => ⟨by omega, by rw [(hFU31.cx 907 rfl _).1, show Xi U31 904 81 = Xi S 904 8 by omega]; exact s5⟩, by omega, by omega, by omega, fun q9 => absurd q9 (by omega), by omega, by omega, by omega, by omega, by omega⟩)), (by first | exact T353 | exact fun q a b => absurd b (by omega)), (by first | exact P353 | exact fun q a b => absurd b (by omega)), (by omega), (by omega), (by first | exact fun q _ => d353 q | exact fun q a => absurd (by omega) a), (by omega), (by omega), (by first | assumption | exact (PF_FR (FR_e eU31) rfl (PF_FR (FR_e eU30) rfl (PF_FR (FR_e eU29) rfl (PF_FR (FR_e eU28) rfl (by assumption : PF T1)))))), (by first | assumption | exact (BDA_FR (FR_e eU31) rfl (BDA_FR (FR_e eU30) rfl (BDA_FR (FR_e eU29) rfl (BDA_FR (FR_e eU28) rfl (by assumption : BDA T1))))))⟩
      · refine l_iconst rfl ?_
        refine l_goto rfl rfl ?_
        refine l_iadd rfl ?_
        refine l_pfi rfl rfl rfl rfl ?_
        obtain ⟨U32, eU32⟩ : ∃ T : sS, T = uI U30 904 8 (Int32.ofInt ((Xi U30 904 8) + 1)) := ⟨_, rfl⟩
        rw [← eU32]
        have hHU32 : HI U32 := by rw [eU32]; exact HI_w hHU30 (show 0 ≤ ((Xi U30 904 8) + 1) by omega) (show ((Xi U30 904 8) + 1) ≤ 5010 by omega)
        have hFU32 : FR md_mo_sentence__3 S U32 := by rw [eU32]; exact FR.wI hFU30 (mdf_i (r := (904, 905, 8, 9)) (List.mem_of_getElem? (i := 0) rfl) (inR_i (by omega) (by omega) (by omega) (by omega)))
        have w1191 : Xi U32 904 8 = ((Xi U30 904 8) + 1) := by rw [eU32]; exact Xi_same (by unfold rg; omega)
        have t98 : AT U32 n 0 ∧ Xi U30 904 8 ≤ Xi U32 904 8 ∧ (Xi U32 904 8 ≤ n ∨ Xi U32 904 8 = Xi U30 904 8) := at_opt (TK_FR hFU30 rfl hT) a70 eU32 (by omega) (by omega)
        refine l_return rfl rfl ?_
        have w1192 : Xi U32 904 102 = Xi T1 904 102 := (show Xi U32 904 102 = Xi U30 904 102 from by rw [eU32]; exact Xi_ne (by omega)).trans ( (show Xi U30 904 102 = Xi U29 904 102 from by rw [eU30]; exact Xi_ne (by omega)).trans ( (show Xi U29 904 102 = Xi U28 904 102 from by rw [eU29]; exact Xi_ne (by omega)).trans ((show Xi U28 904 102 = Xi T1 904 102 from by rw [eU28]; exact Xi_ne (by omega)))))
        have w1193 : 0 ≤ Xi T1 904 102 ∧ Xi T1 904 102 ≤ 2600 := hHT1.c _ _
        have w1194 : Xi U32 904 103 = Xi T1 904 103 := (show Xi U32 904 103 = Xi U30 904 103 from by rw [eU32]; exact Xi_ne (by omega)).trans ( (show Xi U30 904 103 = Xi U29 904 103 from by rw [eU30]; exact Xi_ne (by omega)).trans ( (show Xi U29 904 103 = Xi U28 904 103 from by rw [eU29]; exact Xi_ne (by omega)).trans ((show Xi U28 904 103 = Xi T1 904 103 from by rw [eU28]; exact Xi_ne (by omega)))))
        have w1195 : -1 ≤ Xi T1 904 103 ∧ Xi T1 904 103 ≤ 2600 := hHT1.c _ _
        have w1196 : Xi U32 904 65 = Xi T1 904 65 := (show Xi U32 904 65 = Xi U30 904 65 from by rw [eU32]; exact Xi_ne (by omega)).trans ( (show Xi U30 904 65 = Xi U29 904 65 from by rw [eU30]; exact Xi_ne (by omega)).trans ( (show Xi U29 904 65 = Xi U28 904 65 from by rw [eU29]; exact Xi_ne (by omega)).trans ((show Xi U28 904 65 = Xi T1 904 65 from by rw [eU28]; exact Xi_ne (by omega)))))
        have w1197 : 0 ≤ Xi T1 904 65 ∧ Xi T1 904 65 ≤ 1 := hHT1.c _ _
        have w1198 : Xi U32 904 69 = Xi T1 904 69 := (show Xi U32 904 69 = Xi U30 904 69 from by rw [eU32]; exact Xi_ne (by omega)).trans ( (show Xi U30 904 69 = Xi U29 904 69 from by rw [eU30]; exact Xi_ne (by omega)).trans ( (show Xi U29 904 69 = Xi U28 904 69 from by rw [eU29]; exact Xi_ne (by omega)).trans ((show Xi U28 904 69 = Xi T1 904 69 from by rw [eU28]; exact Xi_ne (by omega)))))
        have w1199 : 0 ≤ Xi T1 904 69 ∧ Xi T1 904 69 ≤ 2600 := hHT1.c _ _
        have w1200 : Xi U32 904 70 = Xi U28 904 70 := (show Xi U32 904 70 = Xi U30 904 70 from by rw [eU32]; exact Xi_ne (by omega)).trans ( (show Xi U30 904 70 = Xi U29 904 70 from by rw [eU30]; exact Xi_ne (by omega)).trans ((show Xi U29 904 70 = Xi U28 904 70 from by rw [eU29]; exact Xi_ne (by omega))))
        have w1201 : 0 ≤ Xi U28 904 70 ∧ Xi U28 904 70 ≤ 20 := hHU28.c _ _
        have w1202 : Xi U32 904 71 = Xi T1 904 71 := (show Xi U32 904 71 = Xi U30 904 71 from by rw [eU32]; exact Xi_ne (by omega)).trans ( (show Xi U30 904 71 = Xi U29 904 71 from by rw [eU30]; exact Xi_ne (by omega)).trans ( (show Xi U29 904 71 = Xi U28 904 71 from by rw [eU29]; exact Xi_ne (by omega)).trans ((show Xi U28 904 71 = Xi T1 904 71 from by rw [eU28]; exact Xi_ne (by omega)))))
        have w1203 : 0 ≤ Xi T1 904 71 ∧ Xi T1 904 71 ≤ 2600 := hHT1.c _ _
        have w1204 : Xi U32 904 72 = Xi T1 904 72 := (show Xi U32 904 72 = Xi U30 904 72 from by rw [eU32]; exact Xi_ne (by omega)).trans ( (show Xi U30 904 72 = Xi U29 904 72 from by rw [eU30]; exact Xi_ne (by omega)).trans ( (show Xi U29 904 72 = Xi U28 904 72 from by rw [eU29]; exact Xi_ne (by omega)).trans ((show Xi U28 904 72 = Xi T1 904 72 from by rw [eU28]; exact Xi_ne (by omega)))))
        have w1205 : 0 ≤ Xi T1 904 72 ∧ Xi T1 904 72 ≤ 2600 := hHT1.c _ _
        have w1206 : Xi U32 904 73 = Xi T1 904 73 := (show Xi U32 904 73 = Xi U30 904 73 from by rw [eU32]; exact Xi_ne (by omega)).trans ( (show Xi U30 904 73 = Xi U29 904 73 from by rw [eU30]; exact Xi_ne (by omega)).trans ( (show Xi U29 904 73 = Xi U28 904 73 from by rw [eU29]; exact Xi_ne (by omega)).trans ((show Xi U28 904 73 = Xi T1 904 73 from by rw [eU28]; exact Xi_ne (by omega)))))
        have w1207 : 0 ≤ Xi T1 904 73 ∧ Xi T1 904 73 ≤ 5 := hHT1.c _ _
        have w1208 : Xi U32 904 74 = Xi T1 904 74 := (show Xi U32 904 74 = Xi U30 904 74 from by rw [eU32]; exact Xi_ne (by omega)).trans ( (show Xi U30 904 74 = Xi U29 904 74 from by rw [eU30]; exact Xi_ne (by omega)).trans ( (show Xi U29 904 74 = Xi U28 904 74 from by rw [eU29]; exact Xi_ne (by omega)).trans ((show Xi U28 904 74 = Xi T1 904 74 from by rw [eU28]; exact Xi_ne (by omega)))))
        have w1209 : 0 ≤ Xi T1 904 74 ∧ Xi T1 904 74 ≤ 2600 := hHT1.c _ _
        have w1210 : Xi U32 904 78 = Xi T1 904 78 := (show Xi U32 904 78 = Xi U30 904 78 from by rw [eU32]; exact Xi_ne (by omega)).trans ( (show Xi U30 904 78 = Xi U29 904 78 from by rw [eU30]; exact Xi_ne (by omega)).trans ( (show Xi U29 904 78 = Xi U28 904 78 from by rw [eU29]; exact Xi_ne (by omega)).trans ((show Xi U28 904 78 = Xi T1 904 78 from by rw [eU28]; exact Xi_ne (by omega)))))
        have w1211 : -2 ≤ Xi T1 904 78 ∧ Xi T1 904 78 ≤ 5010 := hHT1.c _ _
        have w1212 : 0 ≤ Xi U32 904 8 ∧ Xi U32 904 8 ≤ 5010 := hHU32.c _ _
        have w1213 : Xi U32 904 81 = Xi U29 904 81 := (show Xi U32 904 81 = Xi U30 904 81 from by rw [eU32]; exact Xi_ne (by omega)).trans ((show Xi U30 904 81 = Xi U29 904 81 from by rw [eU30]; exact Xi_ne (by omega)))
        have w1214 : 0 ≤ Xi U29 904 81 ∧ Xi U29 904 81 ≤ 5010 := hHU29.c _ _
        have w1215 : Xi U32 904 93 = Xi T1 904 93 := (show Xi U32 904 93 = Xi U30 904 93 from by rw [eU32]; exact Xi_ne (by omega)).trans ( (show Xi U30 904 93 = Xi U29 904 93 from by rw [eU30]; exact Xi_ne (by omega)).trans ( (show Xi U29 904 93 = Xi U28 904 93 from by rw [eU29]; exact Xi_ne (by omega)).trans ((show Xi U28 904 93 = Xi T1 904 93 from by rw [eU28]; exact Xi_ne (by omega)))))
        have w1216 : 0 ≤ Xi T1 904 93 ∧ Xi T1 904 93 ≤ 1700 := hHT1.c _ _
        have w1217 : Xi U32 904 94 = Xi T1 904 94 := (show Xi U32 904 94 = Xi U30 904 94 from by rw [eU32]; exact Xi_ne (by omega)).trans ( (show Xi U30 904 94 = Xi U29 904 94 from by rw [eU30]; exact Xi_ne (by omega)).trans ( (show Xi U29 904 94 = Xi U28 904 94 from by rw [eU29]; exact Xi_ne (by omega)).trans ((show Xi U28 904 94 = Xi T1 904 94 from by rw [eU28]; exact Xi_ne (by omega)))))
        have w1218 : 0 ≤ Xi T1 904 94 ∧ Xi T1 904 94 ≤ 1700 := hHT1.c _ _
        have w1219 : Xi U32 904 98 = Xi T1 904 98 := (show Xi U32 904 98 = Xi U30 904 98 from by rw [eU32]; exact Xi_ne (by omega)).trans ( (show Xi U30 904 98 = Xi U29 904 98 from by rw [eU30]; exact Xi_ne (by omega)).trans ( (show Xi U29 904 98 = Xi U28 904 98 from by rw [eU29]; exact Xi_ne (by omega)).trans ((show Xi U28 904 98 = Xi T1 904 98 from by rw [eU28]; exact Xi_ne (by omega)))))
        have w1220 : 0 ≤ Xi T1 904 98 ∧ Xi T1 904 98 ≤ 1700 := hHT1.c _ _
        exact ⟨hHU32, hFU32, rfl, (by omega), (by omega), (by first | assumption | exact (RNV_FR (FR_e eU32) rfl (RNV_FR (FR_e eU30) rfl (RNV_FR (FR_e eU29) rfl (RNV_FR (FR_e eU28) rfl (by assumption : RNV T1 _)))))), (by first | exact Q353 | (exact fun q => by unfold SNQ; refine ⟨fun q1 => ⟨by omega, by rw [(hFU32.cx 907 rfl _).1, show Xi U32 904 81 = Xi S 904 8 by omega]; exact s5⟩, by omega, by omega, by omega, fun q9 => absurd q9 (by omega), by omega, by omega, by omega, by omega, by omega⟩)), (by first | exact T353 | exact fun q a b => absurd b (by omega)), (by first | exact P353 | exact fun q a b => absurd b (by omega)), (by omega), (by omega), (by first | exact fun q _ => d353 q | exact fun q a => absurd (by omega) a), (by omega), (by omega), (by first | assumption | exact (PF_FR (FR_e eU32) rfl (PF_FR (FR_e eU30) rfl (PF_FR (FR_e eU29) rfl (PF_FR (FR_e eU28) rfl (by assumption : PF T1)))))), (by first | assumption | exact (BDA_FR (FR_e eU32) rfl (BDA_FR (FR_e eU30) rfl (BDA_FR (FR_e eU29) rfl (BDA_FR (FR_e eU28) rfl (by assumption : BDA T1))))))⟩
  refine l_aload_n rfl rfl ?_
  refine l_iconst rfl ?_
  refine l_pfz rfl rfl rfl rfl (by omega) ?_
  obtain ⟨U33, eU33⟩ : ∃ T : sS, T = uI S 904 65 (Int32.ofInt 0) := ⟨_, rfl⟩
  rw [← eU33]
  have hHU33 : HI U33 := by rw [eU33]; exact HI_w hH (show 0 ≤ 0 by omega) (show 0 ≤ 1 by omega)
  have hFU33 : FR md_mo_sentence__3 S U33 := by rw [eU33]; exact FR.wI hF (mdf_i (r := (904, 905, 65, 66)) (List.mem_of_getElem? (i := 1) rfl) (inR_i (by omega) (by omega) (by omega) (by omega)))
  have w1221 : Xi U33 904 65 = 0 := by rw [eU33]; exact Xi_same (by unfold rg; omega)
  refine l_aload_n rfl rfl ?_
  refine l_iconst rfl ?_
  refine l_pfi rfl rfl rfl rfl ?_
  obtain ⟨U34, eU34⟩ : ∃ T : sS, T = uI U33 904 69 (Int32.ofInt 0) := ⟨_, rfl⟩
  rw [← eU34]
  have hHU34 : HI U34 := by rw [eU34]; exact HI_w hHU33 (show 0 ≤ 0 by omega) (show 0 ≤ 2600 by omega)
  have hFU34 : FR md_mo_sentence__3 S U34 := by rw [eU34]; exact FR.wI hFU33 (mdf_i (r := (904, 905, 69, 70)) (List.mem_of_getElem? (i := 3) rfl) (inR_i (by omega) (by omega) (by omega) (by omega)))
  have w1222 : Xi U34 904 69 = 0 := by rw [eU34]; exact Xi_same (by unfold rg; omega)
  refine l_aload_n rfl rfl ?_
  refine l_iconst rfl ?_
  refine l_pfi rfl rfl rfl rfl ?_
  obtain ⟨U35, eU35⟩ : ∃ T : sS, T = uI U34 904 93 (Int32.ofInt 0) := ⟨_, rfl⟩
  rw [← eU35]
  have hHU35 : HI U35 := by rw [eU35]; exact HI_w hHU34 (show 0 ≤ 0 by omega) (show 0 ≤ 1700 by omega)
  have hFU35 : FR md_mo_sentence__3 S U35 := by rw [eU35]; exact FR.wI hFU34 (mdf_i (r := (904, 905, 93, 94)) (List.mem_of_getElem? (i := 16) rfl) (inR_i (by omega) (by omega) (by omega) (by omega)))
  have w1223 : Xi U35 904 93 = 0 := by rw [eU35]; exact Xi_same (by unfold rg; omega)
  refine l_aload_n rfl rfl ?_
  refine l_iconst rfl ?_
  refine l_pfi rfl rfl rfl rfl ?_
  obtain ⟨U36, eU36⟩ : ∃ T : sS, T = uI U35 904 94 (Int32.ofInt 0) := ⟨_, rfl⟩
  rw [← eU36]
  have hHU36 : HI U36 := by rw [eU36]; exact HI_w hHU35 (show 0 ≤ 0 by omega) (show 0 ≤ 1700 by omega)
  have hFU36 : FR md_mo_sentence__3 S U36 := by rw [eU36]; exact FR.wI hFU35 (mdf_i (r := (904, 905, 94, 95)) (List.mem_of_getElem? (i := 17) rfl) (inR_i (by omega) (by omega) (by omega) (by omega)))
  have w1224 : Xi U36 904 94 = 0 := by rw [eU36]; exact Xi_same (by unfold rg; omega)
  refine l_aload_n rfl rfl ?_
  refine l_iconst rfl ?_
  refine l_pfi rfl rfl rfl rfl ?_
  obtain ⟨U37, eU37⟩ : ∃ T : sS, T = uI U36 904 98 (Int32.ofInt 0) := ⟨_, rfl⟩
  rw [← eU37]
  have hHU37 : HI U37 := by rw [eU37]; exact HI_w hHU36 (show 0 ≤ 0 by omega) (show 0 ≤ 1700 by omega)
  have hFU37 : FR md_mo_sentence__3 S U37 := by rw [eU37]; exact FR.wI hFU36 (mdf_i (r := (904, 905, 98, 99)) (List.mem_of_getElem? (i := 18) rfl) (inR_i (by omega) (by omega) (by omega) (by omega)))
  have w1225 : Xi U37 904 98 = 0 := by rw [eU37]; exact Xi_same (by unfold rg; omega)
  refine l_aload_n rfl rfl ?_
  refine l_iconst rfl ?_
  refine l_pfz rfl rfl rfl rfl (by omega) ?_
  obtain ⟨U38, eU38⟩ : ∃ T : sS, T = uI U37 904 75 (Int32.ofInt 0) := ⟨_, rfl⟩
  rw [← eU38]
  have hHU38 : HI U38 := by rw [eU38]; exact HI_w hHU37 (show 0 ≤ 0 by omega) (show 0 ≤ 1 by omega)
  have hFU38 : FR md_mo_sentence__3 S U38 := by rw [eU38]; exact FR.wI hFU37 (mdf_i (r := (904, 905, 75, 76)) (List.mem_of_getElem? (i := 9) rfl) (inR_i (by omega) (by omega) (by omega) (by omega)))
  have w1226 : Xi U38 904 75 = 0 := by rw [eU38]; exact Xi_same (by unfold rg; omega)
  refine l_aload_n rfl rfl ?_
  refine l_iconst rfl ?_
  refine l_pfz rfl rfl rfl rfl (by omega) ?_
  obtain ⟨U39, eU39⟩ : ∃ T : sS, T = uI U38 904 76 (Int32.ofInt 0) := ⟨_, rfl⟩
  rw [← eU39]
  have hHU39 : HI U39 := by rw [eU39]; exact HI_w hHU38 (show 0 ≤ 0 by omega) (show 0 ≤ 1 by omega)
  have hFU39 : FR md_mo_sentence__3 S U39 := by rw [eU39]; exact FR.wI hFU38 (mdf_i (r := (904, 905, 76, 77)) (List.mem_of_getElem? (i := 10) rfl) (inR_i (by omega) (by omega) (by omega) (by omega)))
  have w1227 : Xi U39 904 76 = 0 := by rw [eU39]; exact Xi_same (by unfold rg; omega)
  have w1228 : Xi U39 904 102 = Xi S 904 102 := (show Xi U39 904 102 = Xi U38 904 102 from by rw [eU39]; exact Xi_ne (by omega)).trans ( (show Xi U38 904 102 = Xi U37 904 102 from by rw [eU38]; exact Xi_ne (by omega)).trans ( (show Xi U37 904 102 = Xi U36 904 102 from by rw [eU37]; exact Xi_ne (by omega)).trans ( (show Xi U36 904 102 = Xi U35 904 102 from by rw [eU36]; exact Xi_ne (by omega)).trans ( (show Xi U35 904 102 = Xi U34 904 102 from by rw [eU35]; exact Xi_ne (by omega)).trans ( (show Xi U34 904 102 = Xi U33 904 102 from by rw [eU34]; exact Xi_ne (by omega)).trans ((show Xi U33 904 102 = Xi S 904 102 from by rw [eU33]; exact Xi_ne (by omega))))))))
  have w1229 : 0 ≤ Xi S 904 102 ∧ Xi S 904 102 ≤ 2600 := hH.c _ _
  have w1230 : Xi U39 904 103 = Xi S 904 103 := (show Xi U39 904 103 = Xi U38 904 103 from by rw [eU39]; exact Xi_ne (by omega)).trans ( (show Xi U38 904 103 = Xi U37 904 103 from by rw [eU38]; exact Xi_ne (by omega)).trans ( (show Xi U37 904 103 = Xi U36 904 103 from by rw [eU37]; exact Xi_ne (by omega)).trans ( (show Xi U36 904 103 = Xi U35 904 103 from by rw [eU36]; exact Xi_ne (by omega)).trans ( (show Xi U35 904 103 = Xi U34 904 103 from by rw [eU35]; exact Xi_ne (by omega)).trans ( (show Xi U34 904 103 = Xi U33 904 103 from by rw [eU34]; exact Xi_ne (by omega)).trans ((show Xi U33 904 103 = Xi S 904 103 from by rw [eU33]; exact Xi_ne (by omega))))))))
  have w1231 : -1 ≤ Xi S 904 103 ∧ Xi S 904 103 ≤ 2600 := hH.c _ _
  have w1232 : Xi U39 904 65 = Xi U33 904 65 := (show Xi U39 904 65 = Xi U38 904 65 from by rw [eU39]; exact Xi_ne (by omega)).trans ( (show Xi U38 904 65 = Xi U37 904 65 from by rw [eU38]; exact Xi_ne (by omega)).trans ( (show Xi U37 904 65 = Xi U36 904 65 from by rw [eU37]; exact Xi_ne (by omega)).trans ( (show Xi U36 904 65 = Xi U35 904 65 from by rw [eU36]; exact Xi_ne (by omega)).trans ( (show Xi U35 904 65 = Xi U34 904 65 from by rw [eU35]; exact Xi_ne (by omega)).trans ((show Xi U34 904 65 = Xi U33 904 65 from by rw [eU34]; exact Xi_ne (by omega)))))))
  have w1233 : 0 ≤ Xi U33 904 65 ∧ Xi U33 904 65 ≤ 1 := hHU33.c _ _
  have w1234 : Xi U39 904 69 = Xi U34 904 69 := (show Xi U39 904 69 = Xi U38 904 69 from by rw [eU39]; exact Xi_ne (by omega)).trans ( (show Xi U38 904 69 = Xi U37 904 69 from by rw [eU38]; exact Xi_ne (by omega)).trans ( (show Xi U37 904 69 = Xi U36 904 69 from by rw [eU37]; exact Xi_ne (by omega)).trans ( (show Xi U36 904 69 = Xi U35 904 69 from by rw [eU36]; exact Xi_ne (by omega)).trans ((show Xi U35 904 69 = Xi U34 904 69 from by rw [eU35]; exact Xi_ne (by omega))))))
  have w1235 : 0 ≤ Xi U34 904 69 ∧ Xi U34 904 69 ≤ 2600 := hHU34.c _ _
  have w1236 : Xi U39 904 70 = Xi S 904 70 := (show Xi U39 904 70 = Xi U38 904 70 from by rw [eU39]; exact Xi_ne (by omega)).trans ( (show Xi U38 904 70 = Xi U37 904 70 from by rw [eU38]; exact Xi_ne (by omega)).trans ( (show Xi U37 904 70 = Xi U36 904 70 from by rw [eU37]; exact Xi_ne (by omega)).trans ( (show Xi U36 904 70 = Xi U35 904 70 from by rw [eU36]; exact Xi_ne (by omega)).trans ( (show Xi U35 904 70 = Xi U34 904 70 from by rw [eU35]; exact Xi_ne (by omega)).trans ( (show Xi U34 904 70 = Xi U33 904 70 from by rw [eU34]; exact Xi_ne (by omega)).trans ((show Xi U33 904 70 = Xi S 904 70 from by rw [eU33]; exact Xi_ne (by omega))))))))
  have w1237 : 0 ≤ Xi S 904 70 ∧ Xi S 904 70 ≤ 20 := hH.c _ _
  have w1238 : Xi U39 904 71 = Xi S 904 71 := (show Xi U39 904 71 = Xi U38 904 71 from by rw [eU39]; exact Xi_ne (by omega)).trans ( (show Xi U38 904 71 = Xi U37 904 71 from by rw [eU38]; exact Xi_ne (by omega)).trans ( (show Xi U37 904 71 = Xi U36 904 71 from by rw [eU37]; exact Xi_ne (by omega)).trans ( (show Xi U36 904 71 = Xi U35 904 71 from by rw [eU36]; exact Xi_ne (by omega)).trans ( (show Xi U35 904 71 = Xi U34 904 71 from by rw [eU35]; exact Xi_ne (by omega)).trans ( (show Xi U34 904 71 = Xi U33 904 71 from by rw [eU34]; exact Xi_ne (by omega)).trans ((show Xi U33 904 71 = Xi S 904 71 from by rw [eU33]; exact Xi_ne (by omega))))))))
  have w1239 : 0 ≤ Xi S 904 71 ∧ Xi S 904 71 ≤ 2600 := hH.c _ _
  have w1240 : Xi U39 904 72 = Xi S 904 72 := (show Xi U39 904 72 = Xi U38 904 72 from by rw [eU39]; exact Xi_ne (by omega)).trans ( (show Xi U38 904 72 = Xi U37 904 72 from by rw [eU38]; exact Xi_ne (by omega)).trans ( (show Xi U37 904 72 = Xi U36 904 72 from by rw [eU37]; exact Xi_ne (by omega)).trans ( (show Xi U36 904 72 = Xi U35 904 72 from by rw [eU36]; exact Xi_ne (by omega)).trans ( (show Xi U35 904 72 = Xi U34 904 72 from by rw [eU35]; exact Xi_ne (by omega)).trans ( (show Xi U34 904 72 = Xi U33 904 72 from by rw [eU34]; exact Xi_ne (by omega)).trans ((show Xi U33 904 72 = Xi S 904 72 from by rw [eU33]; exact Xi_ne (by omega))))))))
  have w1241 : 0 ≤ Xi S 904 72 ∧ Xi S 904 72 ≤ 2600 := hH.c _ _
  have w1242 : Xi U39 904 73 = Xi S 904 73 := (show Xi U39 904 73 = Xi U38 904 73 from by rw [eU39]; exact Xi_ne (by omega)).trans ( (show Xi U38 904 73 = Xi U37 904 73 from by rw [eU38]; exact Xi_ne (by omega)).trans ( (show Xi U37 904 73 = Xi U36 904 73 from by rw [eU37]; exact Xi_ne (by omega)).trans ( (show Xi U36 904 73 = Xi U35 904 73 from by rw [eU36]; exact Xi_ne (by omega)).trans ( (show Xi U35 904 73 = Xi U34 904 73 from by rw [eU35]; exact Xi_ne (by omega)).trans ( (show Xi U34 904 73 = Xi U33 904 73 from by rw [eU34]; exact Xi_ne (by omega)).trans ((show Xi U33 904 73 = Xi S 904 73 from by rw [eU33]; exact Xi_ne (by omega))))))))
  have w1243 : 0 ≤ Xi S 904 73 ∧ Xi S 904 73 ≤ 5 := hH.c _ _
  have w1244 : Xi U39 904 74 = Xi S 904 74 := (show Xi U39 904 74 = Xi U38 904 74 from by rw [eU39]; exact Xi_ne (by omega)).trans ( (show Xi U38 904 74 = Xi U37 904 74 from by rw [eU38]; exact Xi_ne (by omega)).trans ( (show Xi U37 904 74 = Xi U36 904 74 from by rw [eU37]; exact Xi_ne (by omega)).trans ( (show Xi U36 904 74 = Xi U35 904 74 from by rw [eU36]; exact Xi_ne (by omega)).trans ( (show Xi U35 904 74 = Xi U34 904 74 from by rw [eU35]; exact Xi_ne (by omega)).trans ( (show Xi U34 904 74 = Xi U33 904 74 from by rw [eU34]; exact Xi_ne (by omega)).trans ((show Xi U33 904 74 = Xi S 904 74 from by rw [eU33]; exact Xi_ne (by omega))))))))
  have w1245 : 0 ≤ Xi S 904 74 ∧ Xi S 904 74 ≤ 2600 := hH.c _ _
  have w1246 : Xi U39 904 78 = Xi S 904 78 := (show Xi U39 904 78 = Xi U38 904 78 from by rw [eU39]; exact Xi_ne (by omega)).trans ( (show Xi U38 904 78 = Xi U37 904 78 from by rw [eU38]; exact Xi_ne (by omega)).trans ( (show Xi U37 904 78 = Xi U36 904 78 from by rw [eU37]; exact Xi_ne (by omega)).trans ( (show Xi U36 904 78 = Xi U35 904 78 from by rw [eU36]; exact Xi_ne (by omega)).trans ( (show Xi U35 904 78 = Xi U34 904 78 from by rw [eU35]; exact Xi_ne (by omega)).trans ( (show Xi U34 904 78 = Xi U33 904 78 from by rw [eU34]; exact Xi_ne (by omega)).trans ((show Xi U33 904 78 = Xi S 904 78 from by rw [eU33]; exact Xi_ne (by omega))))))))
  have w1247 : -2 ≤ Xi S 904 78 ∧ Xi S 904 78 ≤ 5010 := hH.c _ _
  have w1248 : Xi U39 904 8 = Xi S 904 8 := (show Xi U39 904 8 = Xi U38 904 8 from by rw [eU39]; exact Xi_ne (by omega)).trans ( (show Xi U38 904 8 = Xi U37 904 8 from by rw [eU38]; exact Xi_ne (by omega)).trans ( (show Xi U37 904 8 = Xi U36 904 8 from by rw [eU37]; exact Xi_ne (by omega)).trans ( (show Xi U36 904 8 = Xi U35 904 8 from by rw [eU36]; exact Xi_ne (by omega)).trans ( (show Xi U35 904 8 = Xi U34 904 8 from by rw [eU35]; exact Xi_ne (by omega)).trans ( (show Xi U34 904 8 = Xi U33 904 8 from by rw [eU34]; exact Xi_ne (by omega)).trans ((show Xi U33 904 8 = Xi S 904 8 from by rw [eU33]; exact Xi_ne (by omega))))))))
  have w1249 : 0 ≤ Xi S 904 8 ∧ Xi S 904 8 ≤ 5010 := hH.c _ _
  have w1250 : Xi U39 904 81 = Xi S 904 81 := (show Xi U39 904 81 = Xi U38 904 81 from by rw [eU39]; exact Xi_ne (by omega)).trans ( (show Xi U38 904 81 = Xi U37 904 81 from by rw [eU38]; exact Xi_ne (by omega)).trans ( (show Xi U37 904 81 = Xi U36 904 81 from by rw [eU37]; exact Xi_ne (by omega)).trans ( (show Xi U36 904 81 = Xi U35 904 81 from by rw [eU36]; exact Xi_ne (by omega)).trans ( (show Xi U35 904 81 = Xi U34 904 81 from by rw [eU35]; exact Xi_ne (by omega)).trans ( (show Xi U34 904 81 = Xi U33 904 81 from by rw [eU34]; exact Xi_ne (by omega)).trans ((show Xi U33 904 81 = Xi S 904 81 from by rw [eU33]; exact Xi_ne (by omega))))))))
  have w1251 : 0 ≤ Xi S 904 81 ∧ Xi S 904 81 ≤ 5010 := hH.c _ _
  have w1252 : Xi U39 904 93 = Xi U35 904 93 := (show Xi U39 904 93 = Xi U38 904 93 from by rw [eU39]; exact Xi_ne (by omega)).trans ( (show Xi U38 904 93 = Xi U37 904 93 from by rw [eU38]; exact Xi_ne (by omega)).trans ( (show Xi U37 904 93 = Xi U36 904 93 from by rw [eU37]; exact Xi_ne (by omega)).trans ((show Xi U36 904 93 = Xi U35 904 93 from by rw [eU36]; exact Xi_ne (by omega)))))
  have w1253 : 0 ≤ Xi U35 904 93 ∧ Xi U35 904 93 ≤ 1700 := hHU35.c _ _
  have w1254 : Xi U39 904 94 = Xi U36 904 94 := (show Xi U39 904 94 = Xi U38 904 94 from by rw [eU39]; exact Xi_ne (by omega)).trans ( (show Xi U38 904 94 = Xi U37 904 94 from by rw [eU38]; exact Xi_ne (by omega)).trans ((show Xi U37 904 94 = Xi U36 904 94 from by rw [eU37]; exact Xi_ne (by omega))))
  have w1255 : 0 ≤ Xi U36 904 94 ∧ Xi U36 904 94 ≤ 1700 := hHU36.c _ _
  have w1256 : Xi U39 904 98 = Xi U37 904 98 := (show Xi U39 904 98 = Xi U38 904 98 from by rw [eU39]; exact Xi_ne (by omega)).trans ((show Xi U38 904 98 = Xi U37 904 98 from by rw [eU38]; exact Xi_ne (by omega)))
  have w1257 : 0 ≤ Xi U37 904 98 ∧ Xi U37 904 98 ≤ 1700 := hHU37.c _ _
  exact Rl_weak (C35 U39 hHU39 hFU39  (at_0 hHU39 (by omega) (by omega) (by omega)) (fun r hr => absurd hr (by omega)) (by omega) (by omega) (by omega) (by omega) (by omega) (by omega) (by rw [(hFU39.cx 907 rfl _).1, show Xi U39 904 8 = Xi S 904 8 by omega]; exact hk) (by first | assumption | exact (PF_FR (FR_e eU39) rfl (PF_FR (FR_e eU38) rfl (PF_FR (FR_e eU37) rfl (PF_FR (FR_e eU36) rfl (PF_FR (FR_e eU35) rfl (PF_FR (FR_e eU34) rfl (PF_FR (FR_e eU33) rfl (by assumption : PF S))))))))) (by first | assumption | exact (BDA_FR (FR_e eU39) rfl (BDA_FR (FR_e eU38) rfl (BDA_FR (FR_e eU37) rfl (BDA_FR (FR_e eU36) rfl (BDA_FR (FR_e eU35) rfl (BDA_FR (FR_e eU34) rfl (BDA_FR (FR_e eU33) rfl (by assumption : BDA S)))))))))) (And.intro rfl (True.intro))

