section
def md_mo_doKinds__p : List rec := [(904, 905, 15, 16), (904, 905, 16, 17), (904, 905, 18, 19), (912, 913, 0, 100000), (913, 914, 0, 100000), (914, 915, 0, 100000), (915, 916, 0, 100000), (916, 917, 0, 100000), (917, 918, 0, 100000), (926, 927, 0, 100000), (929, 930, 0, 100000), (933, 934, 0, 100000)]
abbrev Q_mo_doKinds__p (S : sS) : pst := fun r S1 => RI S1 ∧ FR md_mo_doKinds__p S S1 ∧ (r = none ∧ (RD10 S S1))
set_option maxRecDepth 100000 in
theorem t_mo_doKinds__p {S : sS} (hH : RI S) (hLS : LSP S) (h15 : 0 ≤ Xi S 904 15) (hRB : RBD S) (hLX : LXR S) (hl : 0 ≤ Xi S 904 71 ∧ Xi S 904 71 ≤ 2600 ∧ 0 ≤ Xi S 904 72 ∧ Xi S 904 72 ≤ 2600) (ha : 0 ≤ Xi S 904 16 ∧ Xi S 904 16 ≤ 16 ∧ 0 ≤ Xi S 904 18 ∧ Xi S 904 18 ≤ 8) (hb : cKR S + Xi S 904 72 ≤ 16) (h15b : Xi S 904 15 ≤ 100000) (d : Nat) : Mp lay0 (d + 5) m_mo_doKinds [.ref 904] S (Q_mo_doKinds__p S) := by
  refine Mp_R rfl rfl (fun fu => ?_)
  have hF : FR md_mo_doKinds__p S S := FR.rf
  have w1 : -2147483648 ≤ Xi S 904 15 ∧ Xi S 904 15 ≤ 2147483647 := Xi_rgI
  have w2 : -2147483648 ≤ Xi S 904 16 ∧ Xi S 904 16 ≤ 2147483647 := Xi_rgI
  have w3 : -2147483648 ≤ Xi S 904 18 ∧ Xi S 904 18 ≤ 2147483647 := Xi_rgI
  have w4 : -2147483648 ≤ Xi S 904 71 ∧ Xi S 904 71 ≤ 2147483647 := Xi_rgI
  have w5 : -2147483648 ≤ Xi S 904 72 ∧ Xi S 904 72 ≤ 2147483647 := Xi_rgI
  have w6 : -2147483648 ≤ Xi S 904 78 ∧ Xi S 904 78 ≤ 2147483647 := Xi_rgI
  have ir := it_rg (S := S)
  have par : rg (pa10 S) := pa_rg hLX h15
  have C55 : ∀ (n55 : Nat) (_ : n55 ≤ fu) (T1 : sS) (_ : RI T1) (_ : FR md_mo_doKinds__p S T1) (v1 : Int) (v2 : Int) (v3 : Int) (v4 : Int) (v5 : Int), (0 ≤ v1 ∧ v1 ≤ 100) → (0 ≤ v2 ∧ v2 ≤ 100) → (0 ≤ v3 ∧ v3 ≤ 1) → (-2147483648 ≤ v4 ∧ v4 ≤ 2147483647) → (0 ≤ v5 ∧ v5 ≤ 2600) → (v1 = Xi S 904 16) → (v2 = Xi S 904 18) → (v3 = iT S) → (v4 = pa10 S) → (0 ≤ v5 ∧ v5 ≤ Xi S 904 72) → (Hid (TLL S (2 * iT S) (cKR S) (Xi S 904 71) (v5).toNat T1)) → (Hid (KNR S T1 (v5).toNat)) → (LSP T1) → (Xi T1 904 15 = Xi S 904 15 + v5) → (Xi T1 904 71 = Xi S 904 71) → (Xi T1 904 72 = Xi S 904 72) → Pl n55 lay0 (d + 4) m_mo_doKinds 55 [(0, .ref 904), (1, iv v1), (2, iv v2), (3, iv v3), (4, iv v4), (5, iv v5)] [] T1 (Q_mo_doKinds__p S) := by
    intro n55
    induction n55 with
    | zero => intros; exact Pl_0
    | succ n55 ih55 =>
      intro hm55 T1 hHT1 hFT1 v1 v2 v3 v4 v5 w7 w8 w9 w10 w11 i1 i2 i3 i4 w12 M55 N55 L55 w13 w14 w15
      have w16 : Xi T1 904 69 = Xi S 904 69 := hFT1.x _ _ rfl
      have w17 : Xi T1 904 71 = Xi S 904 71 := hFT1.x _ _ rfl
      have w18 : Xi T1 904 72 = Xi S 904 72 := hFT1.x _ _ rfl
      have w19 : -2147483648 ≤ Xi T1 904 15 ∧ Xi T1 904 15 ≤ 2147483647 := Xi_rgI
      have w20 : -2147483648 ≤ Xi T1 904 16 ∧ Xi T1 904 16 ≤ 2147483647 := Xi_rgI
      have w21 : -2147483648 ≤ Xi T1 904 18 ∧ Xi T1 904 18 ≤ 2147483647 := Xi_rgI
      have w22 : -2147483648 ≤ Xi T1 904 71 ∧ Xi T1 904 71 ≤ 2147483647 := Xi_rgI
      have w23 : -2147483648 ≤ Xi T1 904 72 ∧ Xi T1 904 72 ≤ 2147483647 := Xi_rgI
      have w24 : -2147483648 ≤ Xi T1 904 78 ∧ Xi T1 904 78 ≤ 2147483647 := Xi_rgI
      have C124 : ∀ (n124 : Nat) (_ : n124 ≤ n55) (T2 : sS) (_ : RI T2) (_ : FR md_mo_doKinds__p S T2) (v1 : Int) (v2 : Int) (v3 : Int) (v5 : Int), (0 ≤ v1 ∧ v1 ≤ 100) → (0 ≤ v2 ∧ v2 ≤ 100) → (0 ≤ v3 ∧ v3 ≤ 1) → (0 ≤ v5 ∧ v5 ≤ 2600) → (v1 = Xi S 904 16) → (v2 = Xi S 904 18) → (v3 = iT S) → (0 ≤ v5 ∧ v5 ≤ Xi S 904 72) → (Hid (∃ B : sS, TLL S (2 * iT S) (cKR S) (Xi S 904 71) (Xi S 904 72).toNat B ∧ TPR S (1 + 2 * iT S) (cKR S) (Xi S 904 71) B (v5).toNat T2)) → (Hid (KNR S T2 (Xi S 904 72).toNat)) → (LSP T2) → (0 ≤ Xi T2 904 15 ∧ Xi T2 904 15 ≤ Xi S 904 15 + Xi S 904 72 + v5) → (Xi T2 904 71 = Xi S 904 71) → (Xi T2 904 72 = Xi S 904 72) → Pl n124 lay0 (d + 4) m_mo_doKinds 124 [(0, .ref 904), (1, iv v1), (2, iv v2), (3, iv v3), (5, iv v5)] [] T2 (Q_mo_doKinds__p S) := by
        intro n124
        induction n124 with
        | zero => intros; exact Pl_0
        | succ n124 ih124 =>
          intro hm124 T2 hHT2 hFT2 v1 v2 v3 v5 w25 w26 w27 w28 j1 j2 j3 w29 P124 N124 L124 w30 w31 w32
          have w33 : Xi T2 904 69 = Xi S 904 69 := hFT2.x _ _ rfl
          have w34 : Xi T2 904 71 = Xi S 904 71 := hFT2.x _ _ rfl
          have w35 : Xi T2 904 72 = Xi S 904 72 := hFT2.x _ _ rfl
          have w36 : -2147483648 ≤ Xi T2 904 15 ∧ Xi T2 904 15 ≤ 2147483647 := Xi_rgI
          have w37 : -2147483648 ≤ Xi T2 904 16 ∧ Xi T2 904 16 ≤ 2147483647 := Xi_rgI
          have w38 : -2147483648 ≤ Xi T2 904 18 ∧ Xi T2 904 18 ≤ 2147483647 := Xi_rgI
          have w39 : -2147483648 ≤ Xi T2 904 71 ∧ Xi T2 904 71 ≤ 2147483647 := Xi_rgI
          have w40 : -2147483648 ≤ Xi T2 904 72 ∧ Xi T2 904 72 ≤ 2147483647 := Xi_rgI
          have w41 : -2147483648 ≤ Xi T2 904 78 ∧ Xi T2 904 78 ≤ 2147483647 := Xi_rgI
          have C212 : ∀  (T3 : sS) (_ : RI T3) (_ : FR md_mo_doKinds__p S T3) (v1 : Int) (v2 : Int) (v3 : Int) (v5 : Int) (v6 : Int) (v7 : Int) (v10 : Int) (v11 : Int), (0 ≤ v1 ∧ v1 ≤ 100) → (0 ≤ v2 ∧ v2 ≤ 100) → (0 ≤ v3 ∧ v3 ≤ 1) → (0 ≤ v5 ∧ v5 ≤ 2600) → (-2147483648 ≤ v6 ∧ v6 ≤ 2147483600) → (-2147483648 ≤ v7 ∧ v7 ≤ 2147483600) → (0 ≤ v10 ∧ v10 ≤ 1) → (v1 = Xi S 904 16) → (v2 = Xi S 904 18) → (v3 = iT S) → (0 ≤ v5 ∧ v5 < Xi S 904 72) → (Hid (∃ B : sS, TLL S (2 * iT S) (cKR S) (Xi S 904 71) (Xi S 904 72).toNat B ∧ TPR S (1 + 2 * iT S) (cKR S) (Xi S 904 71) B (v5).toNat T3)) → (Hid (KNR S T3 (Xi S 904 72).toNat)) → (LSP T3) → (0 ≤ Xi T3 904 15 ∧ Xi T3 904 15 ≤ Xi S 904 15 + Xi S 904 72 + v5) → (Xi T3 904 71 = Xi S 904 71) → (Xi T3 904 72 = Xi S 904 72) → (v6 = Xi S 950 (Xi S 904 71 + v5).toNat) → (v7 = Xi S 951 (Xi S 904 71 + v5).toNat) → (v10 = lgI S (Xi S 904 71 + v5)) → (v11 = wPl S (Xi S 904 71 + v5)) → (rgL v11) → (Hid ((∀ j, Xj T3 910 j = Xj S 910 j) ∧ (∀ j, Xi T3 950 j = Xi S 950 j) ∧ ∀ j, Xi T3 951 j = Xi S 951 j)) → Pl n124 lay0 (d + 4) m_mo_doKinds 212 [(0, .ref 904), (1, iv v1), (2, iv v2), (3, iv v3), (5, iv v5), (6, iv v6), (7, iv v7), (10, iv v10), (11, jw v11)] [] T3 (Q_mo_doKinds__p S) := by
            intro T3 hHT3 hFT3 v1 v2 v3 v5 v6 v7 v10 v11 w42 w43 w44 w45 w46 w47 w48 j1_212 j2_212 j3_212 w49 P212 N212 L212 w50 w51 w52 g212 h212 l212 p212 r212 A212
            have w53 : Xi T3 904 69 = Xi S 904 69 := hFT3.x _ _ rfl
            have w54 : Xi T3 904 71 = Xi S 904 71 := hFT3.x _ _ rfl
            have w55 : Xi T3 904 72 = Xi S 904 72 := hFT3.x _ _ rfl
            have w56 : -2147483648 ≤ Xi T3 904 15 ∧ Xi T3 904 15 ≤ 2147483647 := Xi_rgI
            have w57 : -2147483648 ≤ Xi T3 904 16 ∧ Xi T3 904 16 ≤ 2147483647 := Xi_rgI
            have w58 : -2147483648 ≤ Xi T3 904 18 ∧ Xi T3 904 18 ≤ 2147483647 := Xi_rgI
            have w59 : -2147483648 ≤ Xi T3 904 71 ∧ Xi T3 904 71 ≤ 2147483647 := Xi_rgI
            have w60 : -2147483648 ≤ Xi T3 904 72 ∧ Xi T3 904 72 ≤ 2147483647 := Xi_rgI
            have w61 : -2147483648 ≤ Xi T3 904 78 ∧ Xi T3 904 78 ≤ 2147483647 := Xi_rgI
            have C232 : ∀  (T4 : sS) (_ : RI T4) (_ : FR md_mo_doKinds__p S T4) (v1 : Int) (v2 : Int) (v3 : Int) (v5 : Int) (v6 : Int) (v7 : Int) (v10 : Int) (v11 : Int) (v13 : Int), (0 ≤ v1 ∧ v1 ≤ 100) → (0 ≤ v2 ∧ v2 ≤ 100) → (0 ≤ v3 ∧ v3 ≤ 1) → (0 ≤ v5 ∧ v5 ≤ 2600) → (-2147483648 ≤ v6 ∧ v6 ≤ 2147483600) → (-2147483648 ≤ v7 ∧ v7 ≤ 2147483600) → (0 ≤ v10 ∧ v10 ≤ 1) → (v1 = Xi S 904 16) → (v2 = Xi S 904 18) → (v3 = iT S) → (0 ≤ v5 ∧ v5 < Xi S 904 72) → (Hid (∃ B : sS, TLL S (2 * iT S) (cKR S) (Xi S 904 71) (Xi S 904 72).toNat B ∧ TPR S (1 + 2 * iT S) (cKR S) (Xi S 904 71) B (v5).toNat T4)) → (Hid (KNR S T4 (Xi S 904 72).toNat)) → (LSP T4) → (0 ≤ Xi T4 904 15 ∧ Xi T4 904 15 ≤ Xi S 904 15 + Xi S 904 72 + v5) → (Xi T4 904 71 = Xi S 904 71) → (Xi T4 904 72 = Xi S 904 72) → (v6 = Xi S 950 (Xi S 904 71 + v5).toNat) → (v7 = Xi S 951 (Xi S 904 71 + v5).toNat) → (v10 = lgI S (Xi S 904 71 + v5)) → (v11 = wPl S (Xi S 904 71 + v5)) → (rgL v11) → (v13 = wPa S (Xi S 904 71 + v5)) → (rgL v13) → (Hid ((∀ j, Xj T4 910 j = Xj S 910 j) ∧ (∀ j, Xi T4 950 j = Xi S 950 j) ∧ ∀ j, Xi T4 951 j = Xi S 951 j)) → Pl n124 lay0 (d + 4) m_mo_doKinds 232 [(0, .ref 904), (1, iv v1), (2, iv v2), (3, iv v3), (5, iv v5), (6, iv v6), (7, iv v7), (10, iv v10), (11, jw v11), (13, jw v13)] [] T4 (Q_mo_doKinds__p S) := by
              intro T4 hHT4 hFT4 v1 v2 v3 v5 v6 v7 v10 v11 v13 w62 w63 w64 w65 w66 w67 w68 j1_232 j2_232 j3_232 w69 P232 N232 L232 w70 w71 w72 g232 h232 l232 p232 r232 a232 s232 A232
              have w73 : Xi T4 904 69 = Xi S 904 69 := hFT4.x _ _ rfl
              have w74 : Xi T4 904 71 = Xi S 904 71 := hFT4.x _ _ rfl
              have w75 : Xi T4 904 72 = Xi S 904 72 := hFT4.x _ _ rfl
              have w76 : -2147483648 ≤ Xi T4 904 15 ∧ Xi T4 904 15 ≤ 2147483647 := Xi_rgI
              have w77 : -2147483648 ≤ Xi T4 904 16 ∧ Xi T4 904 16 ≤ 2147483647 := Xi_rgI
              have w78 : -2147483648 ≤ Xi T4 904 18 ∧ Xi T4 904 18 ≤ 2147483647 := Xi_rgI
              have w79 : -2147483648 ≤ Xi T4 904 71 ∧ Xi T4 904 71 ≤ 2147483647 := Xi_rgI
              have w80 : -2147483648 ≤ Xi T4 904 72 ∧ Xi T4 904 72 ≤ 2147483647 := Xi_rgI
              have w81 : -2147483648 ≤ Xi T4 904 78 ∧ Xi T4 904 78 ≤ 2147483647 := Xi_rgI
              have C264 : ∀  (T5 : sS) (_ : RI T5) (_ : FR md_mo_doKinds__p S T5) (v1 : Int) (v2 : Int) (v3 : Int) (v5 : Int) (v7 : Int) (v10 : Int) (v11 : Int) (v13 : Int) (v15 : Int), (0 ≤ v1 ∧ v1 ≤ 100) → (0 ≤ v2 ∧ v2 ≤ 100) → (0 ≤ v3 ∧ v3 ≤ 1) → (0 ≤ v5 ∧ v5 ≤ 2600) → (-2147483648 ≤ v7 ∧ v7 ≤ 2147483600) → (0 ≤ v10 ∧ v10 ≤ 1) → (v1 = Xi S 904 16) → (v2 = Xi S 904 18) → (v3 = iT S) → (0 ≤ v5 ∧ v5 < Xi S 904 72) → (Hid (∃ B : sS, TLL S (2 * iT S) (cKR S) (Xi S 904 71) (Xi S 904 72).toNat B ∧ TPR S (1 + 2 * iT S) (cKR S) (Xi S 904 71) B (v5).toNat T5)) → (Hid (KNR S T5 (Xi S 904 72).toNat)) → (LSP T5) → (0 ≤ Xi T5 904 15 ∧ Xi T5 904 15 ≤ Xi S 904 15 + Xi S 904 72 + v5) → (Xi T5 904 71 = Xi S 904 71) → (Xi T5 904 72 = Xi S 904 72) → (v7 = Xi S 951 (Xi S 904 71 + v5).toNat) → (v10 = lgI S (Xi S 904 71 + v5)) → (v11 = wPl S (Xi S 904 71 + v5)) → (rgL v11) → (v13 = wPa S (Xi S 904 71 + v5)) → (rgL v13) → (v15 = wPb S (Xi S 904 71 + v5)) → (rgL v15) → Pl n124 lay0 (d + 4) m_mo_doKinds 264 [(0, .ref 904), (1, iv v1), (2, iv v2), (3, iv v3), (5, iv v5), (7, iv v7), (10, iv v10), (11, jw v11), (13, jw v13), (15, jw v15)] [] T5 (Q_mo_doKinds__p S) := by
                intro T5 hHT5 hFT5 v1 v2 v3 v5 v7 v10 v11 v13 v15 w82 w83 w84 w85 w86 w87 j1_264 j2_264 j3_264 w88 P264 N264 L264 w89 w90 w91 h264 l264 p264 r264 a264 s264 b264 t264
                have w92 : Xi T5 904 69 = Xi S 904 69 := hFT5.x _ _ rfl
                have w93 : Xi T5 904 71 = Xi S 904 71 := hFT5.x _ _ rfl
                have w94 : Xi T5 904 72 = Xi S 904 72 := hFT5.x _ _ rfl
                have w95 : -2147483648 ≤ Xi T5 904 15 ∧ Xi T5 904 15 ≤ 2147483647 := Xi_rgI
                have w96 : -2147483648 ≤ Xi T5 904 16 ∧ Xi T5 904 16 ≤ 2147483647 := Xi_rgI
                have w97 : -2147483648 ≤ Xi T5 904 18 ∧ Xi T5 904 18 ≤ 2147483647 := Xi_rgI
                have w98 : -2147483648 ≤ Xi T5 904 71 ∧ Xi T5 904 71 ≤ 2147483647 := Xi_rgI
                have w99 : -2147483648 ≤ Xi T5 904 72 ∧ Xi T5 904 72 ≤ 2147483647 := Xi_rgI
                have w100 : -2147483648 ≤ Xi T5 904 78 ∧ Xi T5 904 78 ≤ 2147483647 := Xi_rgI
                have C278 : ∀  (T6 : sS) (_ : RI T6) (_ : FR md_mo_doKinds__p S T6) (v1 : Int) (v2 : Int) (v3 : Int) (v5 : Int) (v7 : Int) (v10 : Int) (v13 : Int) (v15 : Int) (v17 : Int), (0 ≤ v1 ∧ v1 ≤ 100) → (0 ≤ v2 ∧ v2 ≤ 100) → (0 ≤ v3 ∧ v3 ≤ 1) → (0 ≤ v5 ∧ v5 ≤ 2600) → (-2147483648 ≤ v7 ∧ v7 ≤ 2147483600) → (0 ≤ v10 ∧ v10 ≤ 1) → (v1 = Xi S 904 16) → (v2 = Xi S 904 18) → (v3 = iT S) → (0 ≤ v5 ∧ v5 < Xi S 904 72) → (Hid (∃ B : sS, TLL S (2 * iT S) (cKR S) (Xi S 904 71) (Xi S 904 72).toNat B ∧ TPR S (1 + 2 * iT S) (cKR S) (Xi S 904 71) B (v5).toNat T6)) → (Hid (KNR S T6 (Xi S 904 72).toNat)) → (LSP T6) → (0 ≤ Xi T6 904 15 ∧ Xi T6 904 15 ≤ Xi S 904 15 + Xi S 904 72 + v5) → (Xi T6 904 71 = Xi S 904 71) → (Xi T6 904 72 = Xi S 904 72) → (v7 = Xi S 951 (Xi S 904 71 + v5).toNat) → (v10 = lgI S (Xi S 904 71 + v5)) → (v13 = wPa S (Xi S 904 71 + v5)) → (rgL v13) → (v15 = wPb S (Xi S 904 71 + v5)) → (rgL v15) → (v17 = wPc S (Xi S 904 71 + v5)) → (rgL v17) → Pl n124 lay0 (d + 4) m_mo_doKinds 278 [(0, .ref 904), (1, iv v1), (2, iv v2), (3, iv v3), (5, iv v5), (7, iv v7), (10, iv v10), (13, jw v13), (15, jw v15), (17, jw v17)] [] T6 (Q_mo_doKinds__p S) := by
                  intro T6 hHT6 hFT6 v1 v2 v3 v5 v7 v10 v13 v15 v17 w101 w102 w103 w104 w105 w106 j1_278 j2_278 j3_278 w107 P278 N278 L278 w108 w109 w110 d278 e278 a278 s278 b278 t278 c278 u278
                  have w111 : Xi T6 904 69 = Xi S 904 69 := hFT6.x _ _ rfl
                  have w112 : Xi T6 904 71 = Xi S 904 71 := hFT6.x _ _ rfl
                  have w113 : Xi T6 904 72 = Xi S 904 72 := hFT6.x _ _ rfl
                  have w114 : -2147483648 ≤ Xi T6 904 15 ∧ Xi T6 904 15 ≤ 2147483647 := Xi_rgI
                  have w115 : -2147483648 ≤ Xi T6 904 16 ∧ Xi T6 904 16 ≤ 2147483647 := Xi_rgI
                  have w116 : -2147483648 ≤ Xi T6 904 18 ∧ Xi T6 904 18 ≤ 2147483647 := Xi_rgI
                  have w117 : -2147483648 ≤ Xi T6 904 71 ∧ Xi T6 904 71 ≤ 2147483647 := Xi_rgI
                  have w118 : -2147483648 ≤ Xi T6 904 72 ∧ Xi T6 904 72 ≤ 2147483647 := Xi_rgI
                  have w119 : -2147483648 ≤ Xi T6 904 78 ∧ Xi T6 904 78 ≤ 2147483647 := Xi_rgI
                  refine y_iload rfl rfl ?_
                  refine y_if_ne rfl rfl (by unfold rg; omega) (fun w120 => ?_) (fun w121 => ?_)
                  · refine y_aload_n rfl rfl ?_
                    have H299 : Hid (lgI S (Xi S 904 71 + v5) = 1 ∨ fdR T6 (wPa S (Xi S 904 71 + v5)) (wPb S (Xi S 904 71 + v5)) (wPc S (Xi S 904 71 + v5)) (Xi S 951 (Xi S 904 71 + v5).toNat) (Xi T6 904 15).toNat = -1) := by first | (have t := K292; exact Or.inr (by omega)) | exact Or.inl (by omega)
                    refine y_iload_n rfl rfl ?_
                    refine y_if_eq rfl rfl (by unfold rg; omega) (fun w122 => ?_) (fun w123 => ?_)
                    · refine y_iconst rfl ?_
                      refine y_iload_n rfl rfl ?_
                      refine y_if_eq rfl rfl (by unfold rg; omega) (fun w124 => ?_) (fun w125 => ?_)
                      · refine y_iload_n rfl rfl ?_
                        refine y_iload rfl rfl ?_
                        refine y_iadd rfl ?_
                        refine y_lload rfl rfl ?_
                        refine y_lload rfl rfl ?_
                        refine y_lload rfl rfl ?_
                        refine y_iload rfl rfl ?_
                        refine y_callV rfl rfl rfl (t_mo_tell__p hHT6 1 (v1 + v5) v13 v15 v17 v7 ⟨by omega, by omega⟩ ⟨by omega, by omega⟩ ⟨by omega, by omega⟩ (by first | assumption | exact Xj_rg | (unfold rgL; omega)) (by first | assumption | exact Xj_rg | (unfold rgL; omega)) (by first | assumption | exact Xj_rg | (unfold rgL; omega)) _) ?_
                        rintro _ T7 ⟨hHT7, w127, rfl, e332⟩
                        have hFT7 : FR md_mo_doKinds__p S T7 := FR.tr hFT6 w127 rfl
                        show Pl _ _ _ _ _ _ [] _ _
                        have F332 := (by assumption : FR md_mo_tell__p T6 T7)
                        have q332 : Xi T7 904 15 = Xi T6 904 15 + 1 := e332.2.2
                        have E332 : Hid (TLR T6 T7 (1 + 2 * iT S) (cKR S + v5) (wPa S (Xi S 904 71 + v5)) (wPb S (Xi S 904 71 + v5)) (wPc S (Xi S 904 71 + v5)) (Xi S 951 (Xi S 904 71 + v5).toNat)) := by have t := e332; rw [a278, b278, c278, d278] at t; first | (rw [show (3 : Int) = 1 + 2 * iT S by omega, show v2 + v5 = cKR S + v5 from by rw [ckr_t (by omega)]; omega] at t; exact t) | (rw [show (1 : Int) = 1 + 2 * iT S by omega, show v1 + v5 = cKR S + v5 from by rw [ckr_k (by omega)]; omega] at t; exact t)
                        refine y_aload_n rfl rfl ?_
                        refine y_gfr rfl rfl rfl rfl rfl (hHT7.r 904 14 916 rfl) ?_
                        refine y_aload_n rfl rfl ?_
                        refine y_gfi rfl rfl rfl rfl rfl ?_
                        have w128 : -2147483648 ≤ (Xi T7 904 15) ∧ (Xi T7 904 15) ≤ 2147483647 := Xi_rgI
                        refine y_iconst rfl ?_
                        refine y_isub rfl ?_
                        refine y_iload rfl rfl ?_
                        refine y_bastoreZP (n := 300) rfl rfl (by unfold rg; omega) ⟨by omega, by omega⟩ (fun w129 w130 => ?_)
                        obtain ⟨U8, eU8⟩ : ∃ T : sS, T = uI T7 916 ((((Xi T7 904 15) - 1)).toNat) (Int32.ofInt v10) := ⟨_, rfl⟩
                        rw [← eU8]
                        have hHU8 : RI U8 := by rw [eU8]; exact RI_w hHT7
                        have hFU8 : FR md_mo_doKinds__p S U8 := by rw [eU8]; exact FR.wI hFT7 (mdf_i (r := (916, 917, 0, 100000)) (List.mem_of_getElem? (i := 7) rfl) (inR_i (by omega) (by omega) (by omega) (by omega)))
                        have w131 : Xi U8 916 ((((Xi T7 904 15) - 1)).toNat) = v10 := by rw [eU8]; exact Xi_same (by unfold rg; omega)
                        have K347 : True := trivial
                        have X347 : Hid (TLX T6 U8 (1 + 2 * iT S) (cKR S + v5) (wPa S (Xi S 904 71 + v5)) (wPb S (Xi S 904 71 + v5)) (wPc S (Xi S 904 71 + v5)) (Xi S 951 (Xi S 904 71 + v5).toNat) (lgI S (Xi S 904 71 + v5))) := by rw [← e278]; exact tlx_of E332.o eU8 (by omega) (by unfold rg; omega)
                        have ee347 := eU8
                        have q347 : Xi U8 904 15 = Xi T6 904 15 + 1 := by rw [eU8, Xi_ne (by omega)]; omega
                        have l347 : LSP U8 := LSP_tlx X347.o (by omega) (by omega) L278
                        have N347 : Hid (KNR S U8 (Xi S 904 72).toNat) := knr_k N278.o (by rw [eU8, Xi_ne (by omega), F332.x 904 16 rfl]) (by rw [eU8, Xi_ne (by omega), F332.x 904 18 rfl]) (fun k j hk => by rw [ee347, Xi_ne (by omega)]; rcases hk with h | h | h | h <;> rw [h] <;> first | exact (F332.cx 917 rfl j).1 | exact (F332.cx 929 rfl j).1 | exact (F332.cx 933 rfl j).1 | exact (F332.cx 926 rfl j).1)
                        refine y_iinc rfl rfl rfl rfl ?_
                        have K348 : True := trivial
                        have Y348 : Hid (PLR S T6 U8 (1 + 2 * iT S) (cKR S + v5) (Xi S 904 71 + v5)) := by first | (have t := K347; exact ⟨fun _ => X347.o, fun q => absurd H299.o q⟩) | exact ⟨fun q => absurd q (by omega), fun _ => SMR.rf⟩
                        have P348 : Hid (∃ B : sS, TLL S (2 * iT S) (cKR S) (Xi S 904 71) (Xi S 904 72).toNat B ∧ TPR S (1 + 2 * iT S) (cKR S) (Xi S 904 71) B (v5.toNat + 1) U8) := by obtain ⟨B, b1, b2⟩ := P278.o; exact ⟨B, b1, _, b2, by have t := Y348.o; rw [show v5 = ((v5.toNat : Nat) : Int) by omega] at t; exact t⟩
                        refine y_goto rfl rfl ?_
                        have w132 : Xi U8 904 15 = Xi T7 904 15 := (show Xi U8 904 15 = Xi T7 904 15 from by rw [eU8]; exact Xi_ne (by omega))
                        have w133 : Xi U8 904 16 = Xi T6 904 16 := (show Xi U8 904 16 = Xi T7 904 16 from by rw [eU8]; exact Xi_ne (by omega)).trans ((show Xi T7 904 16 = Xi T6 904 16 from w127.x _ _ rfl))
                        have w134 : Xi U8 904 18 = Xi T6 904 18 := (show Xi U8 904 18 = Xi T7 904 18 from by rw [eU8]; exact Xi_ne (by omega)).trans ((show Xi T7 904 18 = Xi T6 904 18 from w127.x _ _ rfl))
                        have w135 : Xi U8 904 71 = Xi T6 904 71 := (show Xi U8 904 71 = Xi T7 904 71 from by rw [eU8]; exact Xi_ne (by omega)).trans ((show Xi T7 904 71 = Xi T6 904 71 from w127.x _ _ rfl))
                        have w136 : Xi U8 904 72 = Xi T6 904 72 := (show Xi U8 904 72 = Xi T7 904 72 from by rw [eU8]; exact Xi_ne (by omega)).trans ((show Xi T7 904 72 = Xi T6 904 72 from w127.x _ _ rfl))
                        have w137 : Xi U8 904 78 = Xi T6 904 78 := (show Xi U8 904 78 = Xi T7 904 78 from by rw [eU8]; exact Xi_ne (by omega)).trans ((show Xi T7 904 78 = Xi T6 904 78 from w127.x _ _ rfl))
                        exact Pl_weak (ih124 (by omega) U8 hHU8 hFU8 (v1) (v2) (v3) ((v5 + 1)) (by omega) (by omega) (by omega) (by omega) (by first | exact j1_278 | exact i1) (by first | exact j2_278 | exact i2) (by first | exact j3_278 | exact i3) (by omega) (by first | (have t := K348; rw [show (v5 + 1).toNat = v5.toNat + 1 by omega]; exact P348) | exact ⟨_, by have t := M55.o; rw [show v5 = Xi S 904 72 by omega] at t; exact t, SMR.rf⟩) (by first | (have t := K347; exact N347) | (have t := K348; exact N278) | (have t := N55.o; rw [show v5 = Xi S 904 72 by omega] at t; exact t)) (by first | (have t := K347; exact l347) | (have t := K348; exact L278) | exact L55) (by omega) (by omega) (by omega)) (by omega) (And.intro rfl (And.intro rfl (And.intro rfl (And.intro rfl (And.intro rfl (True.intro))))))
                      · exfalso; omega
                    · refine y_iconst rfl ?_
                      refine y_goto rfl rfl ?_
                      refine y_iload_n rfl rfl ?_
                      refine y_if_eq rfl rfl (by unfold rg; omega) (fun w138 => ?_) (fun w139 => ?_)
                      · exfalso; omega
                      · refine y_iload_n rfl rfl ?_
                        refine y_iload rfl rfl ?_
                        refine y_iadd rfl ?_
                        refine y_goto rfl rfl ?_
                        refine y_lload rfl rfl ?_
                        refine y_lload rfl rfl ?_
                        refine y_lload rfl rfl ?_
                        refine y_iload rfl rfl ?_
                        refine y_callV rfl rfl rfl (t_mo_tell__p hHT6 3 (v2 + v5) v13 v15 v17 v7 ⟨by omega, by omega⟩ ⟨by omega, by omega⟩ ⟨by omega, by omega⟩ (by first | assumption | exact Xj_rg | (unfold rgL; omega)) (by first | assumption | exact Xj_rg | (unfold rgL; omega)) (by first | assumption | exact Xj_rg | (unfold rgL; omega)) _) ?_
                        rintro _ T9 ⟨hHT9, w141, rfl, e332⟩
                        have hFT9 : FR md_mo_doKinds__p S T9 := FR.tr hFT6 w141 rfl
                        show Pl _ _ _ _ _ _ [] _ _
                        have F332 := (by assumption : FR md_mo_tell__p T6 T9)
                        have q332 : Xi T9 904 15 = Xi T6 904 15 + 1 := e332.2.2
                        have E332 : Hid (TLR T6 T9 (1 + 2 * iT S) (cKR S + v5) (wPa S (Xi S 904 71 + v5)) (wPb S (Xi S 904 71 + v5)) (wPc S (Xi S 904 71 + v5)) (Xi S 951 (Xi S 904 71 + v5).toNat)) := by have t := e332; rw [a278, b278, c278, d278] at t; first | (rw [show (3 : Int) = 1 + 2 * iT S by omega, show v2 + v5 = cKR S + v5 from by rw [ckr_t (by omega)]; omega] at t; exact t) | (rw [show (1 : Int) = 1 + 2 * iT S by omega, show v1 + v5 = cKR S + v5 from by rw [ckr_k (by omega)]; omega] at t; exact t)
                        refine y_aload_n rfl rfl ?_
                        refine y_gfr rfl rfl rfl rfl rfl (hHT9.r 904 14 916 rfl) ?_
                        refine y_aload_n rfl rfl ?_
                        refine y_gfi rfl rfl rfl rfl rfl ?_
                        have w142 : -2147483648 ≤ (Xi T9 904 15) ∧ (Xi T9 904 15) ≤ 2147483647 := Xi_rgI
                        refine y_iconst rfl ?_
                        refine y_isub rfl ?_
                        refine y_iload rfl rfl ?_
                        refine y_bastoreZP (n := 300) rfl rfl (by unfold rg; omega) ⟨by omega, by omega⟩ (fun w143 w144 => ?_)
                        obtain ⟨U10, eU10⟩ : ∃ T : sS, T = uI T9 916 ((((Xi T9 904 15) - 1)).toNat) (Int32.ofInt v10) := ⟨_, rfl⟩
                        rw [← eU10]
                        have hHU10 : RI U10 := by rw [eU10]; exact RI_w hHT9
                        have hFU10 : FR md_mo_doKinds__p S U10 := by rw [eU10]; exact FR.wI hFT9 (mdf_i (r := (916, 917, 0, 100000)) (List.mem_of_getElem? (i := 7) rfl) (inR_i (by omega) (by omega) (by omega) (by omega)))
                        have w145 : Xi U10 916 ((((Xi T9 904 15) - 1)).toNat) = v10 := by rw [eU10]; exact Xi_same (by unfold rg; omega)
                        have K347 : True := trivial
                        have X347 : Hid (TLX T6 U10 (1 + 2 * iT S) (cKR S + v5) (wPa S (Xi S 904 71 + v5)) (wPb S (Xi S 904 71 + v5)) (wPc S (Xi S 904 71 + v5)) (Xi S 951 (Xi S 904 71 + v5).toNat) (lgI S (Xi S 904 71 + v5))) := by rw [← e278]; exact tlx_of E332.o eU10 (by omega) (by unfold rg; omega)
                        have ee347 := eU10
                        have q347 : Xi U10 904 15 = Xi T6 904 15 + 1 := by rw [eU10, Xi_ne (by omega)]; omega
                        have l347 : LSP U10 := LSP_tlx X347.o (by omega) (by omega) L278
                        have N347 : Hid (KNR S U10 (Xi S 904 72).toNat) := knr_k N278.o (by rw [eU10, Xi_ne (by omega), F332.x 904 16 rfl]) (by rw [eU10, Xi_ne (by omega), F332.x 904 18 rfl]) (fun k j hk => by rw [ee347, Xi_ne (by omega)]; rcases hk with h | h | h | h <;> rw [h] <;> first | exact (F332.cx 917 rfl j).1 | exact (F332.cx 929 rfl j).1 | exact (F332.cx 933 rfl j).1 | exact (F332.cx 926 rfl j).1)
                        refine y_iinc rfl rfl rfl rfl ?_
                        have K348 : True := trivial
                        have Y348 : Hid (PLR S T6 U10 (1 + 2 * iT S) (cKR S + v5) (Xi S 904 71 + v5)) := by first | (have t := K347; exact ⟨fun _ => X347.o, fun q => absurd H299.o q⟩) | exact ⟨fun q => absurd q (by omega), fun _ => SMR.rf⟩
                        have P348 : Hid (∃ B : sS, TLL S (2 * iT S) (cKR S) (Xi S 904 71) (Xi S 904 72).toNat B ∧ TPR S (1 + 2 * iT S) (cKR S) (Xi S 904 71) B (v5.toNat + 1) U10) := by obtain ⟨B, b1, b2⟩ := P278.o; exact ⟨B, b1, _, b2, by have t := Y348.o; rw [show v5 = ((v5.toNat : Nat) : Int) by omega] at t; exact t⟩
                        refine y_goto rfl rfl ?_
                        have w146 : Xi U10 904 15 = Xi T9 904 15 := (show Xi U10 904 15 = Xi T9 904 15 from by rw [eU10]; exact Xi_ne (by omega))
                        have w147 : Xi U10 904 16 = Xi T6 904 16 := (show Xi U10 904 16 = Xi T9 904 16 from by rw [eU10]; exact Xi_ne (by omega)).trans ((show Xi T9 904 16 = Xi T6 904 16 from w141.x _ _ rfl))
                        have w148 : Xi U10 904 18 = Xi T6 904 18 := (show Xi U10 904 18 = Xi T9 904 18 from by rw [eU10]; exact Xi_ne (by omega)).trans ((show Xi T9 904 18 = Xi T6 904 18 from w141.x _ _ rfl))
                        have w149 : Xi U10 904 71 = Xi T6 904 71 := (show Xi U10 904 71 = Xi T9 904 71 from by rw [eU10]; exact Xi_ne (by omega)).trans ((show Xi T9 904 71 = Xi T6 904 71 from w141.x _ _ rfl))
                        have w150 : Xi U10 904 72 = Xi T6 904 72 := (show Xi U10 904 72 = Xi T9 904 72 from by rw [eU10]; exact Xi_ne (by omega)).trans ((show Xi T9 904 72 = Xi T6 904 72 from w141.x _ _ rfl))
                        have w151 : Xi U10 904 78 = Xi T6 904 78 := (show Xi U10 904 78 = Xi T9 904 78 from by rw [eU10]; exact Xi_ne (by omega)).trans ((show Xi T9 904 78 = Xi T6 904 78 from w141.x _ _ rfl))
                        exact Pl_weak (ih124 (by omega) U10 hHU10 hFU10 (v1) (v2) (v3) ((v5 + 1)) (by omega) (by omega) (by omega) (by omega) (by first | exact j1_278 | exact i1) (by first | exact j2_278 | exact i2) (by first | exact j3_278 | exact i3) (by omega) (by first | (have t := K348; rw [show (v5 + 1).toNat = v5.toNat + 1 by omega]; exact P348) | exact ⟨_, by have t := M55.o; rw [show v5 = Xi S 904 72 by omega] at t; exact t, SMR.rf⟩) (by first | (have t := K347; exact N347) | (have t := K348; exact N278) | (have t := N55.o; rw [show v5 = Xi S 904 72 by omega] at t; exact t)) (by first | (have t := K347; exact l347) | (have t := K348; exact L278) | exact L55) (by omega) (by omega) (by omega)) (by omega) (And.intro rfl (And.intro rfl (And.intro rfl (And.intro rfl (And.intro rfl (True.intro))))))
                  · refine y_aload_n rfl rfl ?_
                    refine y_lload rfl rfl ?_
                    refine y_lload rfl rfl ?_
                    refine y_lload rfl rfl ?_
                    refine y_iload rfl rfl ?_
                    refine y_callV rfl rfl rfl (t_mo_find__p hHT6 v13 v15 v17 v7 ⟨by omega, by omega⟩ (by first | assumption | exact Xj_rg | (unfold rgL; omega)) (by first | assumption | exact Xj_rg | (unfold rgL; omega)) (by first | assumption | exact Xj_rg | (unfold rgL; omega)) (by first | assumption | omega) (by first | assumption | exact (by assumption : LSP T6)) _) ?_
                    rintro _ _ ⟨rfl, z152, rfl, w152, f292⟩
                    show Pl _ _ _ _ _ _ [iv z152] _ _
                    have f292_ : z152 = fdR T6 (wPa S (Xi S 904 71 + v5)) (wPb S (Xi S 904 71 + v5)) (wPc S (Xi S 904 71 + v5)) (Xi S 951 (Xi S 904 71 + v5).toNat) (Xi T6 904 15).toNat := by have t := f292; rw [a278, b278, c278, d278] at t; exact t
                    have K292 : True := trivial
                    refine y_iconst rfl ?_
                    refine y_icmp_ne rfl rfl (by unfold rg; omega) (by unfold rg; omega) (fun w153 => ?_) (fun w154 => ?_)
                    · refine y_iinc rfl rfl rfl rfl ?_
                      have K348 : True := trivial
                      have Y348 : Hid (PLR S T6 T6 (1 + 2 * iT S) (cKR S + v5) (Xi S 904 71 + v5)) := by first | (have t := K347; exact ⟨fun _ => X347.o, fun q => absurd H299.o q⟩) | exact ⟨fun q => absurd q (by omega), fun _ => SMR.rf⟩
                      have P348 : Hid (∃ B : sS, TLL S (2 * iT S) (cKR S) (Xi S 904 71) (Xi S 904 72).toNat B ∧ TPR S (1 + 2 * iT S) (cKR S) (Xi S 904 71) B (v5.toNat + 1) T6) := by obtain ⟨B, b1, b2⟩ := P278.o; exact ⟨B, b1, _, b2, by have t := Y348.o; rw [show v5 = ((v5.toNat : Nat) : Int) by omega] at t; exact t⟩
                      refine y_goto rfl rfl ?_
                      exact Pl_weak (ih124 (by omega) T6 hHT6 hFT6 (v1) (v2) (v3) ((v5 + 1)) (by omega) (by omega) (by omega) (by omega) (by first | exact j1_278 | exact i1) (by first | exact j2_278 | exact i2) (by first | exact j3_278 | exact i3) (by omega) (by first | (have t := K348; rw [show (v5 + 1).toNat = v5.toNat + 1 by omega]; exact P348) | exact ⟨_, by have t := M55.o; rw [show v5 = Xi S 904 72 by omega] at t; exact t, SMR.rf⟩) (by first | (have t := K347; exact N347) | (have t := K348; exact N278) | (have t := N55.o; rw [show v5 = Xi S 904 72 by omega] at t; exact t)) (by first | (have t := K347; exact l347) | (have t := K348; exact L278) | exact L55) (by omega) (by omega) (by omega)) (by omega) (And.intro rfl (And.intro rfl (And.intro rfl (And.intro rfl (And.intro rfl (True.intro))))))
                    · refine y_aload_n rfl rfl ?_
                      have H299 : Hid (lgI S (Xi S 904 71 + v5) = 1 ∨ fdR T6 (wPa S (Xi S 904 71 + v5)) (wPb S (Xi S 904 71 + v5)) (wPc S (Xi S 904 71 + v5)) (Xi S 951 (Xi S 904 71 + v5).toNat) (Xi T6 904 15).toNat = -1) := by first | (have t := K292; exact Or.inr (by omega)) | exact Or.inl (by omega)
                      refine y_iload_n rfl rfl ?_
                      refine y_if_eq rfl rfl (by unfold rg; omega) (fun w155 => ?_) (fun w156 => ?_)
                      · refine y_iconst rfl ?_
                        refine y_iload_n rfl rfl ?_
                        refine y_if_eq rfl rfl (by unfold rg; omega) (fun w157 => ?_) (fun w158 => ?_)
                        · refine y_iload_n rfl rfl ?_
                          refine y_iload rfl rfl ?_
                          refine y_iadd rfl ?_
                          refine y_lload rfl rfl ?_
                          refine y_lload rfl rfl ?_
                          refine y_lload rfl rfl ?_
                          refine y_iload rfl rfl ?_
                          refine y_callV rfl rfl rfl (t_mo_tell__p hHT6 1 (v1 + v5) v13 v15 v17 v7 ⟨by omega, by omega⟩ ⟨by omega, by omega⟩ ⟨by omega, by omega⟩ (by first | assumption | exact Xj_rg | (unfold rgL; omega)) (by first | assumption | exact Xj_rg | (unfold rgL; omega)) (by first | assumption | exact Xj_rg | (unfold rgL; omega)) _) ?_
                          rintro _ T11 ⟨hHT11, w160, rfl, e332⟩
                          have hFT11 : FR md_mo_doKinds__p S T11 := FR.tr hFT6 w160 rfl
                          show Pl _ _ _ _ _ _ [] _ _
                          have F332 := (by assumption : FR md_mo_tell__p T6 T11)
                          have q332 : Xi T11 904 15 = Xi T6 904 15 + 1 := e332.2.2
                          have E332 : Hid (TLR T6 T11 (1 + 2 * iT S) (cKR S + v5) (wPa S (Xi S 904 71 + v5)) (wPb S (Xi S 904 71 + v5)) (wPc S (Xi S 904 71 + v5)) (Xi S 951 (Xi S 904 71 + v5).toNat)) := by have t := e332; rw [a278, b278, c278, d278] at t; first | (rw [show (3 : Int) = 1 + 2 * iT S by omega, show v2 + v5 = cKR S + v5 from by rw [ckr_t (by omega)]; omega] at t; exact t) | (rw [show (1 : Int) = 1 + 2 * iT S by omega, show v1 + v5 = cKR S + v5 from by rw [ckr_k (by omega)]; omega] at t; exact t)
                          refine y_aload_n rfl rfl ?_
                          refine y_gfr rfl rfl rfl rfl rfl (hHT11.r 904 14 916 rfl) ?_
                          refine y_aload_n rfl rfl ?_
                          refine y_gfi rfl rfl rfl rfl rfl ?_
                          have w161 : -2147483648 ≤ (Xi T11 904 15) ∧ (Xi T11 904 15) ≤ 2147483647 := Xi_rgI
                          refine y_iconst rfl ?_
                          refine y_isub rfl ?_
                          refine y_iload rfl rfl ?_
                          refine y_bastoreZP (n := 300) rfl rfl (by unfold rg; omega) ⟨by omega, by omega⟩ (fun w162 w163 => ?_)
                          obtain ⟨U12, eU12⟩ : ∃ T : sS, T = uI T11 916 ((((Xi T11 904 15) - 1)).toNat) (Int32.ofInt v10) := ⟨_, rfl⟩
                          rw [← eU12]
                          have hHU12 : RI U12 := by rw [eU12]; exact RI_w hHT11
                          have hFU12 : FR md_mo_doKinds__p S U12 := by rw [eU12]; exact FR.wI hFT11 (mdf_i (r := (916, 917, 0, 100000)) (List.mem_of_getElem? (i := 7) rfl) (inR_i (by omega) (by omega) (by omega) (by omega)))
                          have w164 : Xi U12 916 ((((Xi T11 904 15) - 1)).toNat) = v10 := by rw [eU12]; exact Xi_same (by unfold rg; omega)
                          have K347 : True := trivial
                          have X347 : Hid (TLX T6 U12 (1 + 2 * iT S) (cKR S + v5) (wPa S (Xi S 904 71 + v5)) (wPb S (Xi S 904 71 + v5)) (wPc S (Xi S 904 71 + v5)) (Xi S 951 (Xi S 904 71 + v5).toNat) (lgI S (Xi S 904 71 + v5))) := by rw [← e278]; exact tlx_of E332.o eU12 (by omega) (by unfold rg; omega)
                          have ee347 := eU12
                          have q347 : Xi U12 904 15 = Xi T6 904 15 + 1 := by rw [eU12, Xi_ne (by omega)]; omega
                          have l347 : LSP U12 := LSP_tlx X347.o (by omega) (by omega) L278
                          have N347 : Hid (KNR S U12 (Xi S 904 72).toNat) := knr_k N278.o (by rw [eU12, Xi_ne (by omega), F332.x 904 16 rfl]) (by rw [eU12, Xi_ne (by omega), F332.x 904 18 rfl]) (fun k j hk => by rw [ee347, Xi_ne (by omega)]; rcases hk with h | h | h | h <;> rw [h] <;> first | exact (F332.cx 917 rfl j).1 | exact (F332.cx 929 rfl j).1 | exact (F332.cx 933 rfl j).1 | exact (F332.cx 926 rfl j).1)
                          refine y_iinc rfl rfl rfl rfl ?_
                          have K348 : True := trivial
                          have Y348 : Hid (PLR S T6 U12 (1 + 2 * iT S) (cKR S + v5) (Xi S 904 71 + v5)) := by first | (have t := K347; exact ⟨fun _ => X347.o, fun q => absurd H299.o q⟩) | exact ⟨fun q => absurd q (by omega), fun _ => SMR.rf⟩
                          have P348 : Hid (∃ B : sS, TLL S (2 * iT S) (cKR S) (Xi S 904 71) (Xi S 904 72).toNat B ∧ TPR S (1 + 2 * iT S) (cKR S) (Xi S 904 71) B (v5.toNat + 1) U12) := by obtain ⟨B, b1, b2⟩ := P278.o; exact ⟨B, b1, _, b2, by have t := Y348.o; rw [show v5 = ((v5.toNat : Nat) : Int) by omega] at t; exact t⟩
                          refine y_goto rfl rfl ?_
                          have w165 : Xi U12 904 15 = Xi T11 904 15 := (show Xi U12 904 15 = Xi T11 904 15 from by rw [eU12]; exact Xi_ne (by omega))
                          have w166 : Xi U12 904 16 = Xi T6 904 16 := (show Xi U12 904 16 = Xi T11 904 16 from by rw [eU12]; exact Xi_ne (by omega)).trans ((show Xi T11 904 16 = Xi T6 904 16 from w160.x _ _ rfl))
                          have w167 : Xi U12 904 18 = Xi T6 904 18 := (show Xi U12 904 18 = Xi T11 904 18 from by rw [eU12]; exact Xi_ne (by omega)).trans ((show Xi T11 904 18 = Xi T6 904 18 from w160.x _ _ rfl))
                          have w168 : Xi U12 904 71 = Xi T6 904 71 := (show Xi U12 904 71 = Xi T11 904 71 from by rw [eU12]; exact Xi_ne (by omega)).trans ((show Xi T11 904 71 = Xi T6 904 71 from w160.x _ _ rfl))
                          have w169 : Xi U12 904 72 = Xi T6 904 72 := (show Xi U12 904 72 = Xi T11 904 72 from by rw [eU12]; exact Xi_ne (by omega)).trans ((show Xi T11 904 72 = Xi T6 904 72 from w160.x _ _ rfl))
                          have w170 : Xi U12 904 78 = Xi T6 904 78 := (show Xi U12 904 78 = Xi T11 904 78 from by rw [eU12]; exact Xi_ne (by omega)).trans ((show Xi T11 904 78 = Xi T6 904 78 from w160.x _ _ rfl))
                          exact Pl_weak (ih124 (by omega) U12 hHU12 hFU12 (v1) (v2) (v3) ((v5 + 1)) (by omega) (by omega) (by omega) (by omega) (by first | exact j1_278 | exact i1) (by first | exact j2_278 | exact i2) (by first | exact j3_278 | exact i3) (by omega) (by first | (have t := K348; rw [show (v5 + 1).toNat = v5.toNat + 1 by omega]; exact P348) | exact ⟨_, by have t := M55.o; rw [show v5 = Xi S 904 72 by omega] at t; exact t, SMR.rf⟩) (by first | (have t := K347; exact N347) | (have t := K348; exact N278) | (have t := N55.o; rw [show v5 = Xi S 904 72 by omega] at t; exact t)) (by first | (have t := K347; exact l347) | (have t := K348; exact L278) | exact L55) (by omega) (by omega) (by omega)) (by omega) (And.intro rfl (And.intro rfl (And.intro rfl (And.intro rfl (And.intro rfl (True.intro))))))
                        · exfalso; omega
                      · refine y_iconst rfl ?_
                        refine y_goto rfl rfl ?_
                        refine y_iload_n rfl rfl ?_
                        refine y_if_eq rfl rfl (by unfold rg; omega) (fun w171 => ?_) (fun w172 => ?_)
                        · exfalso; omega
                        · refine y_iload_n rfl rfl ?_
                          refine y_iload rfl rfl ?_
                          refine y_iadd rfl ?_
                          refine y_goto rfl rfl ?_
                          refine y_lload rfl rfl ?_
                          refine y_lload rfl rfl ?_
                          refine y_lload rfl rfl ?_
                          refine y_iload rfl rfl ?_
                          refine y_callV rfl rfl rfl (t_mo_tell__p hHT6 3 (v2 + v5) v13 v15 v17 v7 ⟨by omega, by omega⟩ ⟨by omega, by omega⟩ ⟨by omega, by omega⟩ (by first | assumption | exact Xj_rg | (unfold rgL; omega)) (by first | assumption | exact Xj_rg | (unfold rgL; omega)) (by first | assumption | exact Xj_rg | (unfold rgL; omega)) _) ?_
                          rintro _ T13 ⟨hHT13, w174, rfl, e332⟩
                          have hFT13 : FR md_mo_doKinds__p S T13 := FR.tr hFT6 w174 rfl
                          show Pl _ _ _ _ _ _ [] _ _
                          have F332 := (by assumption : FR md_mo_tell__p T6 T13)
                          have q332 : Xi T13 904 15 = Xi T6 904 15 + 1 := e332.2.2
                          have E332 : Hid (TLR T6 T13 (1 + 2 * iT S) (cKR S + v5) (wPa S (Xi S 904 71 + v5)) (wPb S (Xi S 904 71 + v5)) (wPc S (Xi S 904 71 + v5)) (Xi S 951 (Xi S 904 71 + v5).toNat)) := by have t := e332; rw [a278, b278, c278, d278] at t; first | (rw [show (3 : Int) = 1 + 2 * iT S by omega, show v2 + v5 = cKR S + v5 from by rw [ckr_t (by omega)]; omega] at t; exact t) | (rw [show (1 : Int) = 1 + 2 * iT S by omega, show v1 + v5 = cKR S + v5 from by rw [ckr_k (by omega)]; omega] at t; exact t)
                          refine y_aload_n rfl rfl ?_
                          refine y_gfr rfl rfl rfl rfl rfl (hHT13.r 904 14 916 rfl) ?_
                          refine y_aload_n rfl rfl ?_
                          refine y_gfi rfl rfl rfl rfl rfl ?_
                          have w175 : -2147483648 ≤ (Xi T13 904 15) ∧ (Xi T13 904 15) ≤ 2147483647 := Xi_rgI
                          refine y_iconst rfl ?_
                          refine y_isub rfl ?_
                          refine y_iload rfl rfl ?_
                          refine y_bastoreZP (n := 300) rfl rfl (by unfold rg; omega) ⟨by omega, by omega⟩ (fun w176 w177 => ?_)
                          obtain ⟨U14, eU14⟩ : ∃ T : sS, T = uI T13 916 ((((Xi T13 904 15) - 1)).toNat) (Int32.ofInt v10) := ⟨_, rfl⟩
                          rw [← eU14]
                          have hHU14 : RI U14 := by rw [eU14]; exact RI_w hHT13
                          have hFU14 : FR md_mo_doKinds__p S U14 := by rw [eU14]; exact FR.wI hFT13 (mdf_i (r := (916, 917, 0, 100000)) (List.mem_of_getElem? (i := 7) rfl) (inR_i (by omega) (by omega) (by omega) (by omega)))
                          have w178 : Xi U14 916 ((((Xi T13 904 15) - 1)).toNat) = v10 := by rw [eU14]; exact Xi_same (by unfold rg; omega)
                          have K347 : True := trivial
                          have X347 : Hid (TLX T6 U14 (1 + 2 * iT S) (cKR S + v5) (wPa S (Xi S 904 71 + v5)) (wPb S (Xi S 904 71 + v5)) (wPc S (Xi S 904 71 + v5)) (Xi S 951 (Xi S 904 71 + v5).toNat) (lgI S (Xi S 904 71 + v5))) := by rw [← e278]; exact tlx_of E332.o eU14 (by omega) (by unfold rg; omega)
                          have ee347 := eU14
                          have q347 : Xi U14 904 15 = Xi T6 904 15 + 1 := by rw [eU14, Xi_ne (by omega)]; omega
                          have l347 : LSP U14 := LSP_tlx X347.o (by omega) (by omega) L278
                          have N347 : Hid (KNR S U14 (Xi S 904 72).toNat) := knr_k N278.o (by rw [eU14, Xi_ne (by omega), F332.x 904 16 rfl]) (by rw [eU14, Xi_ne (by omega), F332.x 904 18 rfl]) (fun k j hk => by rw [ee347, Xi_ne (by omega)]; rcases hk with h | h | h | h <;> rw [h] <;> first | exact (F332.cx 917 rfl j).1 | exact (F332.cx 929 rfl j).1 | exact (F332.cx 933 rfl j).1 | exact (F332.cx 926 rfl j).1)
                          refine y_iinc rfl rfl rfl rfl ?_
                          have K348 : True := trivial
                          have Y348 : Hid (PLR S T6 U14 (1 + 2 * iT S) (cKR S + v5) (Xi S 904 71 + v5)) := by first | (have t := K347; exact ⟨fun _ => X347.o, fun q => absurd H299.o q⟩) | exact ⟨fun q => absurd q (by omega), fun _ => SMR.rf⟩
                          have P348 : Hid (∃ B : sS, TLL S (2 * iT S) (cKR S) (Xi S 904 71) (Xi S 904 72).toNat B ∧ TPR S (1 + 2 * iT S) (cKR S) (Xi S 904 71) B (v5.toNat + 1) U14) := by obtain ⟨B, b1, b2⟩ := P278.o; exact ⟨B, b1, _, b2, by have t := Y348.o; rw [show v5 = ((v5.toNat : Nat) : Int) by omega] at t; exact t⟩
                          refine y_goto rfl rfl ?_
                          have w179 : Xi U14 904 15 = Xi T13 904 15 := (show Xi U14 904 15 = Xi T13 904 15 from by rw [eU14]; exact Xi_ne (by omega))
                          have w180 : Xi U14 904 16 = Xi T6 904 16 := (show Xi U14 904 16 = Xi T13 904 16 from by rw [eU14]; exact Xi_ne (by omega)).trans ((show Xi T13 904 16 = Xi T6 904 16 from w174.x _ _ rfl))
                          have w181 : Xi U14 904 18 = Xi T6 904 18 := (show Xi U14 904 18 = Xi T13 904 18 from by rw [eU14]; exact Xi_ne (by omega)).trans ((show Xi T13 904 18 = Xi T6 904 18 from w174.x _ _ rfl))
                          have w182 : Xi U14 904 71 = Xi T6 904 71 := (show Xi U14 904 71 = Xi T13 904 71 from by rw [eU14]; exact Xi_ne (by omega)).trans ((show Xi T13 904 71 = Xi T6 904 71 from w174.x _ _ rfl))
                          have w183 : Xi U14 904 72 = Xi T6 904 72 := (show Xi U14 904 72 = Xi T13 904 72 from by rw [eU14]; exact Xi_ne (by omega)).trans ((show Xi T13 904 72 = Xi T6 904 72 from w174.x _ _ rfl))
                          have w184 : Xi U14 904 78 = Xi T6 904 78 := (show Xi U14 904 78 = Xi T13 904 78 from by rw [eU14]; exact Xi_ne (by omega)).trans ((show Xi T13 904 78 = Xi T6 904 78 from w174.x _ _ rfl))
                          exact Pl_weak (ih124 (by omega) U14 hHU14 hFU14 (v1) (v2) (v3) ((v5 + 1)) (by omega) (by omega) (by omega) (by omega) (by first | exact j1_278 | exact i1) (by first | exact j2_278 | exact i2) (by first | exact j3_278 | exact i3) (by omega) (by first | (have t := K348; rw [show (v5 + 1).toNat = v5.toNat + 1 by omega]; exact P348) | exact ⟨_, by have t := M55.o; rw [show v5 = Xi S 904 72 by omega] at t; exact t, SMR.rf⟩) (by first | (have t := K347; exact N347) | (have t := K348; exact N278) | (have t := N55.o; rw [show v5 = Xi S 904 72 by omega] at t; exact t)) (by first | (have t := K347; exact l347) | (have t := K348; exact L278) | exact L55) (by omega) (by omega) (by omega)) (by omega) (And.intro rfl (And.intro rfl (And.intro rfl (And.intro rfl (And.intro rfl (True.intro))))))
                refine y_iload rfl rfl ?_
                refine y_iconst rfl ?_
                refine y_icmp_ne rfl rfl (by unfold rg; omega) (by unfold rg; omega) (fun w185 => ?_) (fun w186 => ?_)
                · refine y_lconst (z := 0) rfl rfl ?_
                  refine y_lstore rfl rfl rfl rfl ?_
                  exact Pl_weak (C278 T5 hHT5 hFT5 (v1) (v2) (v3) (v5) (v7) (v10) (v13) (v15) (0) (by omega) (by omega) (by omega) (by omega) (by omega) (by omega) (j1_264) (j2_264) (j3_264) (by omega) (P264) (N264) (L264) (by omega) (by omega) (by omega) (h264) (l264) (a264) (s264) (b264) (t264) (by unfold wPc; rw [← h264]; first | (rw [if_pos (by omega)]; exact p264) | (rw [if_neg (by omega)])) (by first | assumption | (unfold rgL; omega))) (by omega) (And.intro rfl (And.intro rfl (And.intro rfl (And.intro rfl (And.intro rfl (And.intro rfl (And.intro rfl (And.intro rfl (And.intro rfl (And.intro rfl (True.intro)))))))))))
                · refine y_lload rfl rfl ?_
                  refine y_goto rfl rfl ?_
                  refine y_lstore rfl rfl rfl rfl ?_
                  exact Pl_weak (C278 T5 hHT5 hFT5 (v1) (v2) (v3) (v5) (v7) (v10) (v13) (v15) (v11) (by omega) (by omega) (by omega) (by omega) (by omega) (by omega) (j1_264) (j2_264) (j3_264) (by omega) (P264) (N264) (L264) (by omega) (by omega) (by omega) (h264) (l264) (a264) (s264) (b264) (t264) (by unfold wPc; rw [← h264]; first | (rw [if_pos (by omega)]; exact p264) | (rw [if_neg (by omega)])) (by first | assumption | (unfold rgL; omega))) (by omega) (And.intro rfl (And.intro rfl (And.intro rfl (And.intro rfl (And.intro rfl (And.intro rfl (And.intro rfl (And.intro rfl (And.intro rfl (And.intro rfl (True.intro)))))))))))
              refine y_iload rfl rfl ?_
              refine y_iconst rfl ?_
              refine y_icmp_ne rfl rfl (by unfold rg; omega) (by unfold rg; omega) (fun w187 => ?_) (fun w188 => ?_)
              · refine y_iload rfl rfl ?_
                refine y_iconst rfl ?_
                refine y_icmp_le rfl rfl (by unfold rg; omega) (by unfold rg; omega) (fun w189 => ?_) (fun w190 => ?_)
                · refine y_lconst (z := 0) rfl rfl ?_
                  refine y_lstore rfl rfl rfl rfl ?_
                  exact Pl_weak (C264 T4 hHT4 hFT4 (v1) (v2) (v3) (v5) (v7) (v10) (v11) (v13) (0) (by omega) (by omega) (by omega) (by omega) (by omega) (by omega) (j1_232) (j2_232) (j3_232) (by omega) (P232) (N232) (L232) (by omega) (by omega) (by omega) (h232) (l232) (p232) (r232) (a232) (s232) (by unfold wPb; rw [← h232, ← g232]; first | (rw [if_pos (by omega)]; exact p232) | (rw [if_neg (by omega), if_pos (by omega)]; exact A232.o.1 _) | (rw [if_neg (by omega), if_neg (by omega)])) (by first | assumption | exact Xj_rg | (unfold rgL; omega))) (by omega) (And.intro rfl (And.intro rfl (And.intro rfl (And.intro rfl (And.intro rfl (And.intro rfl (And.intro rfl (And.intro rfl (And.intro rfl (And.intro rfl (True.intro)))))))))))
                · refine y_aload_n rfl rfl ?_
                  refine y_gfr rfl rfl rfl rfl rfl (hHT4.r 904 7 910 rfl) ?_
                  refine y_iload rfl rfl ?_
                  refine y_iconst rfl ?_
                  refine y_iadd rfl ?_
                  refine y_laloadP (n := 5002) rfl rfl (by unfold rg; omega) (fun w191 w192 => ?_)
                  have w193 : -9223372036854775808 ≤ (Xj T4 910 (((v6 + 1)).toNat)) ∧ (Xj T4 910 (((v6 + 1)).toNat)) < 9223372036854775808 := Xj_rg
                  refine y_goto rfl rfl ?_
                  refine y_lstore rfl rfl rfl rfl ?_
                  exact Pl_weak (C264 T4 hHT4 hFT4 (v1) (v2) (v3) (v5) (v7) (v10) (v11) (v13) ((Xj T4 910 (((v6 + 1)).toNat))) (by omega) (by omega) (by omega) (by omega) (by omega) (by omega) (j1_232) (j2_232) (j3_232) (by omega) (P232) (N232) (L232) (by omega) (by omega) (by omega) (h232) (l232) (p232) (r232) (a232) (s232) (by unfold wPb; rw [← h232, ← g232]; first | (rw [if_pos (by omega)]; exact p232) | (rw [if_neg (by omega), if_pos (by omega)]; exact A232.o.1 _) | (rw [if_neg (by omega), if_neg (by omega)])) (by first | assumption | exact Xj_rg | (unfold rgL; omega))) (by omega) (And.intro rfl (And.intro rfl (And.intro rfl (And.intro rfl (And.intro rfl (And.intro rfl (And.intro rfl (And.intro rfl (And.intro rfl (And.intro rfl (True.intro)))))))))))
              · refine y_lload rfl rfl ?_
                refine y_goto rfl rfl ?_
                refine y_lstore rfl rfl rfl rfl ?_
                exact Pl_weak (C264 T4 hHT4 hFT4 (v1) (v2) (v3) (v5) (v7) (v10) (v11) (v13) (v11) (by omega) (by omega) (by omega) (by omega) (by omega) (by omega) (j1_232) (j2_232) (j3_232) (by omega) (P232) (N232) (L232) (by omega) (by omega) (by omega) (h232) (l232) (p232) (r232) (a232) (s232) (by unfold wPb; rw [← h232, ← g232]; first | (rw [if_pos (by omega)]; exact p232) | (rw [if_neg (by omega), if_pos (by omega)]; exact A232.o.1 _) | (rw [if_neg (by omega), if_neg (by omega)])) (by first | assumption | exact Xj_rg | (unfold rgL; omega))) (by omega) (And.intro rfl (And.intro rfl (And.intro rfl (And.intro rfl (And.intro rfl (And.intro rfl (And.intro rfl (And.intro rfl (And.intro rfl (And.intro rfl (True.intro)))))))))))
            refine y_iload rfl rfl ?_
            refine y_iconst rfl ?_
            refine y_icmp_ne rfl rfl (by unfold rg; omega) (by unfold rg; omega) (fun w194 => ?_) (fun w195 => ?_)
            · refine y_aload_n rfl rfl ?_
              refine y_gfr rfl rfl rfl rfl rfl (hHT3.r 904 7 910 rfl) ?_
              refine y_iload rfl rfl ?_
              refine y_laloadP (n := 5002) rfl rfl (by unfold rg; omega) (fun w196 w197 => ?_)
              have w198 : -9223372036854775808 ≤ (Xj T3 910 ((v6).toNat)) ∧ (Xj T3 910 ((v6).toNat)) < 9223372036854775808 := Xj_rg
              refine y_lstore rfl rfl rfl rfl ?_
              exact Pl_weak (C232 T3 hHT3 hFT3 (v1) (v2) (v3) (v5) (v6) (v7) (v10) (v11) ((Xj T3 910 ((v6).toNat))) (by omega) (by omega) (by omega) (by omega) (by omega) (by omega) (by omega) (j1_212) (j2_212) (j3_212) (by omega) (P212) (N212) (L212) (by omega) (by omega) (by omega) (g212) (h212) (l212) (p212) (r212) (by unfold wPa; rw [← h212, ← g212]; first | (rw [if_pos (by omega)]; exact p212) | (rw [if_neg (by omega)]; exact A212.o.1 _)) (by first | assumption | exact Xj_rg) (A212)) (by omega) (And.intro rfl (And.intro rfl (And.intro rfl (And.intro rfl (And.intro rfl (And.intro rfl (And.intro rfl (And.intro rfl (And.intro rfl (And.intro rfl (True.intro)))))))))))
            · refine y_lload rfl rfl ?_
              refine y_goto rfl rfl ?_
              refine y_lstore rfl rfl rfl rfl ?_
              exact Pl_weak (C232 T3 hHT3 hFT3 (v1) (v2) (v3) (v5) (v6) (v7) (v10) (v11) (v11) (by omega) (by omega) (by omega) (by omega) (by omega) (by omega) (by omega) (j1_212) (j2_212) (j3_212) (by omega) (P212) (N212) (L212) (by omega) (by omega) (by omega) (g212) (h212) (l212) (p212) (r212) (by unfold wPa; rw [← h212, ← g212]; first | (rw [if_pos (by omega)]; exact p212) | (rw [if_neg (by omega)]; exact A212.o.1 _)) (by first | assumption | exact Xj_rg) (A212)) (by omega) (And.intro rfl (And.intro rfl (And.intro rfl (And.intro rfl (And.intro rfl (And.intro rfl (And.intro rfl (And.intro rfl (And.intro rfl (And.intro rfl (True.intro)))))))))))
          refine ys_iload rfl rfl ?_
          refine y_aload_n rfl rfl ?_
          refine y_gfi rfl rfl rfl rfl rfl ?_
          refine y_icmp_ge rfl rfl (by unfold rg; omega) (by unfold rg; omega) (fun w199 => ?_) (fun w200 => ?_)
          · refine y_return rfl rfl ?_
            exact ⟨hHT2, hFT2, rfl, (⟨by have t := P124.o; rw [show (v5).toNat = (Xi S 904 72).toNat by omega] at t; exact t, N124.o⟩)⟩
          · refine y_aload_n rfl rfl ?_
            have A133 : Hid ((∀ j, Xj T2 910 j = Xj S 910 j) ∧ (∀ j, Xi T2 950 j = Xi S 950 j) ∧ ∀ j, Xi T2 951 j = Xi S 951 j) := ⟨fun j => (hFT2.cx 910 rfl j).2, fun j => (hFT2.cx 950 rfl j).1, fun j => (hFT2.cx 951 rfl j).1⟩
            refine y_gfr rfl rfl rfl rfl rfl (hHT2.r 904 67 950 rfl) ?_
            refine y_aload_n rfl rfl ?_
            refine y_gfi rfl rfl rfl rfl rfl ?_
            refine y_iload rfl rfl ?_
            refine y_iadd rfl ?_
            refine y_ialoadP (n := 2600) rfl rfl (by unfold rg; omega) (fun w201 w202 => ?_)
            have w203 : -2147483648 ≤ (Xi T2 950 ((((Xi T2 904 71) + v5)).toNat)) ∧ (Xi T2 950 ((((Xi T2 904 71) + v5)).toNat)) ≤ 2147483647 := Xi_rgI
            refine y_istore rfl rfl rfl ?_
            have g145 : (Xi T2 950 ((((Xi T2 904 71) + v5)).toNat)) = Xi S 950 (Xi S 904 71 + v5).toNat := by rw [A133.o.2.1, show Xi T2 904 71 = Xi S 904 71 by omega]
            have b145 : 0 ≤ (Xi T2 950 ((((Xi T2 904 71) + v5)).toNat)) ∧ (Xi T2 950 ((((Xi T2 904 71) + v5)).toNat)) ≤ 100000 := by rw [g145]; exact (hRB _).1
            refine y_aload_n rfl rfl ?_
            refine y_gfr rfl rfl rfl rfl rfl (hHT2.r 904 68 951 rfl) ?_
            refine y_aload_n rfl rfl ?_
            refine y_gfi rfl rfl rfl rfl rfl ?_
            refine y_iload rfl rfl ?_
            refine y_iadd rfl ?_
            refine y_ialoadP (n := 2600) rfl rfl (by unfold rg; omega) (fun w204 w205 => ?_)
            have w206 : -2147483648 ≤ (Xi T2 951 ((((Xi T2 904 71) + v5)).toNat)) ∧ (Xi T2 951 ((((Xi T2 904 71) + v5)).toNat)) ≤ 2147483647 := Xi_rgI
            refine y_istore rfl rfl rfl ?_
            have g159 : (Xi T2 951 ((((Xi T2 904 71) + v5)).toNat)) = Xi S 951 (Xi S 904 71 + v5).toNat := by rw [A133.o.2.2, show Xi T2 904 71 = Xi S 904 71 by omega]
            have b159 : 0 ≤ (Xi T2 951 ((((Xi T2 904 71) + v5)).toNat)) ∧ (Xi T2 951 ((((Xi T2 904 71) + v5)).toNat)) ≤ 100000 := by rw [g159]; exact (hRB _).2
            refine y_aload_n rfl rfl ?_
            refine y_gfr rfl rfl rfl rfl rfl (hHT2.r 904 7 910 rfl) ?_
            refine y_iload rfl rfl ?_
            refine y_iload rfl rfl ?_
            refine y_iadd rfl ?_
            refine y_iconst rfl ?_
            refine y_isub rfl ?_
            refine y_laloadP (n := 5002) rfl rfl (by unfold rg; omega) (fun w207 w208 => ?_)
            have w209 : -9223372036854775808 ≤ (Xj T2 910 (((((Xi T2 950 ((((Xi T2 904 71) + v5)).toNat)) + (Xi T2 951 ((((Xi T2 904 71) + v5)).toNat))) - 1)).toNat)) ∧ (Xj T2 910 (((((Xi T2 950 ((((Xi T2 904 71) + v5)).toNat)) + (Xi T2 951 ((((Xi T2 904 71) + v5)).toNat))) - 1)).toNat)) < 9223372036854775808 := Xj_rg
            refine y_lstore rfl rfl rfl rfl ?_
            have g173 : (Xj T2 910 (((((Xi T2 950 ((((Xi T2 904 71) + v5)).toNat)) + (Xi T2 951 ((((Xi T2 904 71) + v5)).toNat))) - 1)).toNat)) = wLa S (Xi S 904 71 + v5) := by unfold wLa; rw [A133.o.1, g145, g159]
            refine y_lload rfl rfl ?_
            refine y_bipush rfl rfl ?_
            refine y_lshrF rfl ?_
            have w210 : rgL (lshrF (Xj T2 910 (((((Xi T2 950 ((((Xi T2 904 71) + v5)).toNat)) + (Xi T2 951 ((((Xi T2 904 71) + v5)).toNat))) - 1)).toNat)) 55) := lshrF_rg
            refine y_lconst (z := 0) rfl rfl ?_
            refine y_lcmp rfl (by first | assumption | (unfold rgL; omega)) (by first | assumption | (unfold rgL; omega)) (fun c211 w211 w211a w211b w211c => ?_)
            refine y_if_eq rfl rfl (by unfold rg; omega) (fun w212 => ?_) (fun w213 => ?_)
            · refine y_iconst rfl ?_
              refine y_istore rfl rfl rfl ?_
              refine y_iload rfl rfl ?_
              refine y_if_eq rfl rfl (by unfold rg; omega) (fun w214 => ?_) (fun w215 => absurd w215 (by omega))
              · refine y_lload rfl rfl ?_
                refine y_iconst rfl ?_
                refine y_lshlF rfl ?_
                have w216 : rgL (lshlF (Xj T2 910 (((((Xi T2 950 ((((Xi T2 904 71) + v5)).toNat)) + (Xi T2 951 ((((Xi T2 904 71) + v5)).toNat))) - 1)).toNat)) 5) := lshlF_rg
                refine y_ldc2 (z := 19) rfl rfl ?_
                refine y_lorF rfl ?_
                have w217 : rgL (lorF (lshlF (Xj T2 910 (((((Xi T2 950 ((((Xi T2 904 71) + v5)).toNat)) + (Xi T2 951 ((((Xi T2 904 71) + v5)).toNat))) - 1)).toNat)) 5) 19) := lorF_rg
                refine y_lstore rfl rfl rfl rfl ?_
                exact Pl_weak (C212 T2 hHT2 hFT2 (v1) (v2) (v3) (v5) ((Xi T2 950 ((((Xi T2 904 71) + v5)).toNat))) ((Xi T2 951 ((((Xi T2 904 71) + v5)).toNat))) (0) ((lorF (lshlF (Xj T2 910 (((((Xi T2 950 ((((Xi T2 904 71) + v5)).toNat)) + (Xi T2 951 ((((Xi T2 904 71) + v5)).toNat))) - 1)).toNat)) 5) 19)) (by omega) (by omega) (by omega) (by omega) (by omega) (by omega) (by omega) (j1) (j2) (j3) (by omega) (P124) (N124) (L124) (by omega) (by omega) (by omega) (g145) (g159) (by first | exact lgi_y g173 (by omega) | exact lgi_n g173 (by omega)) (by unfold wPl; first | (rw [if_pos (lgi_y g173 (by omega)).symm]; exact g173) | (rw [if_neg (by rw [← lgi_n g173 (by omega)]; omega), ← g173])) (by first | assumption | exact Xj_rg) (A133)) (by omega) (And.intro rfl (And.intro rfl (And.intro rfl (And.intro rfl (And.intro rfl (And.intro rfl (And.intro rfl (And.intro rfl (And.intro rfl (True.intro))))))))))
            · refine y_iconst rfl ?_
              refine y_goto rfl rfl ?_
              refine y_istore rfl rfl rfl ?_
              refine y_iload rfl rfl ?_
              refine y_if_eq rfl rfl (by unfold rg; omega) (fun w218 => absurd w218 (by omega)) (fun w219 => ?_)
              · refine y_lload rfl rfl ?_
                refine y_goto rfl rfl ?_
                refine y_lstore rfl rfl rfl rfl ?_
                exact Pl_weak (C212 T2 hHT2 hFT2 (v1) (v2) (v3) (v5) ((Xi T2 950 ((((Xi T2 904 71) + v5)).toNat))) ((Xi T2 951 ((((Xi T2 904 71) + v5)).toNat))) (1) ((Xj T2 910 (((((Xi T2 950 ((((Xi T2 904 71) + v5)).toNat)) + (Xi T2 951 ((((Xi T2 904 71) + v5)).toNat))) - 1)).toNat))) (by omega) (by omega) (by omega) (by omega) (by omega) (by omega) (by omega) (j1) (j2) (j3) (by omega) (P124) (N124) (L124) (by omega) (by omega) (by omega) (g145) (g159) (by first | exact lgi_y g173 (by omega) | exact lgi_n g173 (by omega)) (by unfold wPl; first | (rw [if_pos (lgi_y g173 (by omega)).symm]; exact g173) | (rw [if_neg (by rw [← lgi_n g173 (by omega)]; omega), ← g173])) (by first | assumption | exact Xj_rg) (A133)) (by omega) (And.intro rfl (And.intro rfl (And.intro rfl (And.intro rfl (And.intro rfl (And.intro rfl (And.intro rfl (And.intro rfl (And.intro rfl (True.intro))))))))))
      refine ys_iload rfl rfl ?_
      refine y_aload_n rfl rfl ?_
      refine y_gfi rfl rfl rfl rfl rfl ?_
      refine y_icmp_ge rfl rfl (by unfold rg; omega) (by unfold rg; omega) (fun w220 => ?_) (fun w221 => ?_)
      · refine y_iconst rfl ?_
        refine y_istore rfl rfl rfl ?_
        exact Pl_weak (C124 n55 (by omega) T1 hHT1 hFT1 (v1) (v2) (v3) (0) (by omega) (by omega) (by omega) (by omega) (by first | exact j1_278 | exact i1) (by first | exact j2_278 | exact i2) (by first | exact j3_278 | exact i3) (by omega) (by first | (have t := K348; rw [show (v5 + 1).toNat = v5.toNat + 1 by omega]; exact P348) | exact ⟨_, by have t := M55.o; rw [show v5 = Xi S 904 72 by omega] at t; exact t, SMR.rf⟩) (by first | (have t := K347; exact N347) | (have t := K348; exact N278) | (have t := N55.o; rw [show v5 = Xi S 904 72 by omega] at t; exact t)) (by first | (have t := K347; exact l347) | (have t := K348; exact L278) | exact L55) (by omega) (by omega) (by omega)) (by omega) (And.intro rfl (And.intro rfl (And.intro rfl (And.intro rfl (And.intro rfl (True.intro))))))
      · refine y_iload_n rfl rfl ?_
        refine y_if_eq rfl rfl (by unfold rg; omega) (fun w222 => ?_) (fun w223 => ?_)
        · refine y_aload_n rfl rfl ?_
          refine y_iconst rfl ?_
          refine y_aload_n rfl rfl ?_
          refine y_iload rfl rfl ?_
          refine y_callV rfl rfl rfl (t_mo_addKind__p hHT1 v4 ⟨by omega, by omega⟩ (by have t := ((N55.o).2 (by omega)).1.2; have u := ckr_k (S := S) (by omega); omega) _) ?_
          rintro _ T15 ⟨hHT15, w225, z224, rfl, w224, z102, e102⟩
          have hFT15 : FR md_mo_doKinds__p S T15 := FR.tr hFT1 w225 rfl
          show Pl _ _ _ _ _ _ [iv z224, iv 0, .ref 904] _ _
          have i102 : iT S = 0 := by omega
          have F102 := (by assumption : FR md_mo_addKind__p T1 T15)
          have N102 : Hid (KNR S T15 (v5.toNat + 1)) := knr_s N55.o i102 e102 i4 (F102.x 904 18 rfl) (by omega)
          have S102 : Hid (SMR T1 T15) := SMR_FR F102 rfl rfl
          have c102 : Xi T1 904 16 = Xi S 904 16 + ((v5.toNat : Nat) : Int) := ((N55.o).2 i102).1.2
          have l102 : LSP T15 := LSP_FR F102 rfl rfl L55
          have q102 : Xi T15 904 15 = Xi T1 904 15 := F102.x 904 15 rfl
          clear e102
          refine y_aload_n rfl rfl ?_
          refine y_gfi rfl rfl rfl rfl rfl ?_
          have w226 : (Xi T15 904 71) = (Xi T1 904 71) := (show Xi T15 904 71 = Xi T1 904 71 from w225.x _ _ rfl)
          rw [w226]
          refine y_iload rfl rfl ?_
          refine y_iadd rfl ?_
          have w227 : Xi T15 904 15 = Xi T1 904 15 := (show Xi T15 904 15 = Xi T1 904 15 from w225.x _ _ rfl)
          have w228 : Xi T15 904 18 = Xi T1 904 18 := (show Xi T15 904 18 = Xi T1 904 18 from w225.x _ _ rfl)
          have w229 : Xi T15 904 71 = Xi T1 904 71 := (show Xi T15 904 71 = Xi T1 904 71 from w225.x _ _ rfl)
          have w230 : Xi T15 904 72 = Xi T1 904 72 := (show Xi T15 904 72 = Xi T1 904 72 from w225.x _ _ rfl)
          have w231 : Xi T15 904 78 = Xi T1 904 78 := (show Xi T15 904 78 = Xi T1 904 78 from w225.x _ _ rfl)
          refine y_callV rfl rfl rfl (t_mo_tellRun__p hHT15 0 z224 ((Xi T1 904 71) + v5) ⟨by omega, by omega⟩ ⟨by omega, by omega⟩ ⟨by omega, by omega⟩ (by first | assumption | exact (RBD_FR hFT15 rfl (by assumption : RBD S))) _) ?_
          rintro _ T16 ⟨hHT16, w233, rfl, e112⟩
          have hFT16 : FR md_mo_doKinds__p S T16 := FR.tr hFT15 w233 rfl
          show Pl _ _ _ _ _ _ [] _ _
          have K112 : True := trivial
          have F112 := (by assumption : FR md_mo_tellRun__p T15 T16)
          have l112 : LSP T16 := LSP_tl e112 (by omega) (by omega) l102
          have q112 : Xi T16 904 15 = Xi T15 904 15 + 1 := e112.2.2
          have M112 : Hid (TLL S (2 * iT S) (cKR S) (Xi S 904 71) (v5.toNat + 1) T16) := tll_s (tll_p M55.o S102.o) (by rw [show 2 * iT S = 0 by omega]; exact e112) (by rw [ckr_k i102]; omega) (by omega) (fun j => (hFT15.cx 910 rfl j).2) (fun j => (hFT15.cx 950 rfl j).1) (fun j => (hFT15.cx 951 rfl j).1)
          have N112 : Hid (KNR S T16 (v5.toNat + 1)) := knr_k N102.o (F112.x 904 16 rfl) (F112.x 904 18 rfl) (fun k j hk => by rcases hk with h | h | h | h <;> rw [h] <;> first | exact (F112.cx 917 rfl j).1 | exact (F112.cx 929 rfl j).1 | exact (F112.cx 933 rfl j).1 | exact (F112.cx 926 rfl j).1)
          refine y_iinc rfl rfl rfl rfl ?_
          have K115 : True := trivial
          have M115 : Hid (TLL S (2 * iT S) (cKR S) (Xi S 904 71) (v5.toNat + 1) T16) := by first | exact M112 | exact tll_p M81.o (SMR_w SMR.rf ee91 (by omega) (by omega))
          have N115 : Hid (KNR S T16 (v5.toNat + 1)) := by first | exact N112 | exact knr_t N55.o i81 (by rw [ee91, Xi_ne (by omega), F81.x 904 16 rfl]) (by rw [ee91]; exact (Xi_same (by unfold rg; have t := F81.x 904 18 rfl; omega)).trans (by have t := F81.x 904 18 rfl; omega)) (fun k j hk => by rw [ee91, Xi_ne (by omega)]; rcases hk with h | h | h | h <;> rw [h] <;> first | exact (F81.cx 917 rfl j).1 | exact (F81.cx 929 rfl j).1 | exact (F81.cx 933 rfl j).1 | exact (F81.cx 926 rfl j).1)
          have l115 : LSP T16 := by first | exact l112 | exact LSP_FR (FR_e ee91) rfl rfl l81
          have q115 : Xi T16 904 15 = Xi S 904 15 + v5 + 1 := by first | (have t := K112; omega) | (rw [ee91, Xi_ne (by omega)]; omega)
          refine y_goto rfl rfl ?_
          have w234 : Xi T16 904 16 = Xi T15 904 16 := (show Xi T16 904 16 = Xi T15 904 16 from w233.x _ _ rfl)
          have w235 : Xi T16 904 18 = Xi T1 904 18 := (show Xi T16 904 18 = Xi T15 904 18 from w233.x _ _ rfl).trans ((show Xi T15 904 18 = Xi T1 904 18 from w225.x _ _ rfl))
          have w236 : Xi T16 904 71 = Xi T1 904 71 := (show Xi T16 904 71 = Xi T15 904 71 from w233.x _ _ rfl).trans ((show Xi T15 904 71 = Xi T1 904 71 from w225.x _ _ rfl))
          have w237 : Xi T16 904 72 = Xi T1 904 72 := (show Xi T16 904 72 = Xi T15 904 72 from w233.x _ _ rfl).trans ((show Xi T15 904 72 = Xi T1 904 72 from w225.x _ _ rfl))
          have w238 : Xi T16 904 78 = Xi T1 904 78 := (show Xi T16 904 78 = Xi T15 904 78 from w233.x _ _ rfl).trans ((show Xi T15 904 78 = Xi T1 904 78 from w225.x _ _ rfl))
          exact Pl_weak (ih55 (by omega) T16 hHT16 hFT16 (v1) (v2) (v3) (v4) ((v5 + 1)) (by omega) (by omega) (by omega) (by omega) (by omega) (by first | exact i1 | rfl) (by first | exact i2 | rfl) (by first | exact i3 | (unfold iT; first | (rw [if_pos (by omega)]) | (rw [if_neg (by omega)]))) (by first | exact i4 | (have t := K47; exact f47.trans (by unfold pa10; rw [if_neg (by omega)])) | (unfold pa10; rw [if_pos (by omega)])) (by omega) (by first | (have t := K115; rw [show (v5 + 1).toNat = v5.toNat + 1 by omega]; exact M115) | exact SMR.rf) (by first | (have t := K115; rw [show (v5 + 1).toNat = v5.toNat + 1 by omega]; exact N115) | exact knr_0) (by first | (have t := K115; exact l115) | exact hLS) (by omega) (by omega) (by omega)) (by omega) (And.intro rfl (And.intro rfl (And.intro rfl (And.intro rfl (And.intro rfl (And.intro rfl (True.intro)))))))
        · refine y_aload_n rfl rfl ?_
          refine y_iconst rfl ?_
          refine y_aload_n rfl rfl ?_
          refine y_gfi rfl rfl rfl rfl rfl ?_
          refine y_aload_n rfl rfl ?_
          refine y_gfi rfl rfl rfl rfl rfl ?_
          refine y_iload rfl rfl ?_
          refine y_iadd rfl ?_
          refine y_callV rfl rfl rfl (t_mo_tellRun__p hHT1 2 (Xi T1 904 18) ((Xi T1 904 71) + v5) ⟨by omega, by omega⟩ ⟨by omega, by omega⟩ ⟨by omega, by omega⟩ (by first | assumption | exact (RBD_FR hFT1 rfl (by assumption : RBD S))) _) ?_
          rintro _ T17 ⟨hHT17, w240, rfl, e81⟩
          have hFT17 : FR md_mo_doKinds__p S T17 := FR.tr hFT1 w240 rfl
          show Pl _ _ _ _ _ _ [] _ _
          have K81 : True := trivial
          have F81 := (by assumption : FR md_mo_tellRun__p T1 T17)
          have l81 : LSP T17 := LSP_tl e81 (by omega) (by omega) L55
          have q81 : Xi T17 904 15 = Xi T1 904 15 + 1 := e81.2.2
          have i81 : iT S = 1 := by omega
          have N81 : (Xi T1 904 16 = Xi S 904 16 ∧ Xi T1 904 18 = Xi S 904 18 + ((v5.toNat : Nat) : Int)) := ((N55.o).1 i81).1
          have M81 : Hid (TLL S (2 * iT S) (cKR S) (Xi S 904 71) (v5.toNat + 1) T17) := tll_s M55.o (by rw [show 2 * iT S = 2 by omega]; exact e81) (by rw [ckr_t i81]; omega) (by omega) (fun j => (hFT1.cx 910 rfl j).2) (fun j => (hFT1.cx 950 rfl j).1) (fun j => (hFT1.cx 951 rfl j).1)
          refine y_aload_n rfl rfl ?_
          refine y_dup rfl rfl ?_
          refine y_gfi rfl rfl rfl rfl rfl ?_
          have w241 : (Xi T17 904 18) = (Xi T1 904 18) := (show Xi T17 904 18 = Xi T1 904 18 from w240.x _ _ rfl)
          rw [w241]
          refine y_iconst rfl ?_
          refine y_iadd rfl ?_
          refine y_pfi rfl rfl rfl rfl ?_
          obtain ⟨U18, eU18⟩ : ∃ T : sS, T = uI T17 904 18 (Int32.ofInt ((Xi T1 904 18) + 1)) := ⟨_, rfl⟩
          rw [← eU18]
          have hHU18 : RI U18 := by rw [eU18]; exact RI_w hHT17
          have hFU18 : FR md_mo_doKinds__p S U18 := by rw [eU18]; exact FR.wI hFT17 (mdf_i (r := (904, 905, 18, 19)) (List.mem_of_getElem? (i := 2) rfl) (inR_i (by omega) (by omega) (by omega) (by omega)))
          have w242 : Xi U18 904 18 = ((Xi T1 904 18) + 1) := by rw [eU18]; exact Xi_same (by unfold rg; omega)
          have K91 : True := trivial
          have ee91 := eU18
          refine y_goto rfl rfl ?_
          refine y_iinc rfl rfl rfl rfl ?_
          have K115 : True := trivial
          have M115 : Hid (TLL S (2 * iT S) (cKR S) (Xi S 904 71) (v5.toNat + 1) U18) := by first | exact M112 | exact tll_p M81.o (SMR_w SMR.rf ee91 (by omega) (by omega))
          have N115 : Hid (KNR S U18 (v5.toNat + 1)) := by first | exact N112 | exact knr_t N55.o i81 (by rw [ee91, Xi_ne (by omega), F81.x 904 16 rfl]) (by rw [ee91]; exact (Xi_same (by unfold rg; have t := F81.x 904 18 rfl; omega)).trans (by have t := F81.x 904 18 rfl; omega)) (fun k j hk => by rw [ee91, Xi_ne (by omega)]; rcases hk with h | h | h | h <;> rw [h] <;> first | exact (F81.cx 917 rfl j).1 | exact (F81.cx 929 rfl j).1 | exact (F81.cx 933 rfl j).1 | exact (F81.cx 926 rfl j).1)
          have l115 : LSP U18 := by first | exact l112 | exact LSP_FR (FR_e ee91) rfl rfl l81
          have q115 : Xi U18 904 15 = Xi S 904 15 + v5 + 1 := by first | (have t := K112; omega) | (rw [ee91, Xi_ne (by omega)]; omega)
          refine y_goto rfl rfl ?_
          have w243 : Xi U18 904 15 = Xi T17 904 15 := (show Xi U18 904 15 = Xi T17 904 15 from by rw [eU18]; exact Xi_ne (by omega))
          have w244 : Xi U18 904 16 = Xi T1 904 16 := (show Xi U18 904 16 = Xi T17 904 16 from by rw [eU18]; exact Xi_ne (by omega)).trans ((show Xi T17 904 16 = Xi T1 904 16 from w240.x _ _ rfl))
          have w245 : Xi U18 904 71 = Xi T1 904 71 := (show Xi U18 904 71 = Xi T17 904 71 from by rw [eU18]; exact Xi_ne (by omega)).trans ((show Xi T17 904 71 = Xi T1 904 71 from w240.x _ _ rfl))
          have w246 : Xi U18 904 72 = Xi T1 904 72 := (show Xi U18 904 72 = Xi T17 904 72 from by rw [eU18]; exact Xi_ne (by omega)).trans ((show Xi T17 904 72 = Xi T1 904 72 from w240.x _ _ rfl))
          have w247 : Xi U18 904 78 = Xi T1 904 78 := (show Xi U18 904 78 = Xi T17 904 78 from by rw [eU18]; exact Xi_ne (by omega)).trans ((show Xi T17 904 78 = Xi T1 904 78 from w240.x _ _ rfl))
          exact Pl_weak (ih55 (by omega) U18 hHU18 hFU18 (v1) (v2) (v3) (v4) ((v5 + 1)) (by omega) (by omega) (by omega) (by omega) (by omega) (by first | exact i1 | rfl) (by first | exact i2 | rfl) (by first | exact i3 | (unfold iT; first | (rw [if_pos (by omega)]) | (rw [if_neg (by omega)]))) (by first | exact i4 | (have t := K47; exact f47.trans (by unfold pa10; rw [if_neg (by omega)])) | (unfold pa10; rw [if_pos (by omega)])) (by omega) (by first | (have t := K115; rw [show (v5 + 1).toNat = v5.toNat + 1 by omega]; exact M115) | exact SMR.rf) (by first | (have t := K115; rw [show (v5 + 1).toNat = v5.toNat + 1 by omega]; exact N115) | exact knr_0) (by first | (have t := K115; exact l115) | exact hLS) (by omega) (by omega) (by omega)) (by omega) (And.intro rfl (And.intro rfl (And.intro rfl (And.intro rfl (And.intro rfl (And.intro rfl (True.intro)))))))
  refine y_aload_n rfl rfl ?_
  refine y_gfi rfl rfl rfl rfl rfl ?_
  refine y_istore_n rfl rfl rfl ?_
  refine y_aload_n rfl rfl ?_
  refine y_gfi rfl rfl rfl rfl rfl ?_
  refine y_istore_n rfl rfl rfl ?_
  refine y_aload_n rfl rfl ?_
  refine y_gfi rfl rfl rfl rfl rfl ?_
  refine y_bipush rfl rfl ?_
  refine y_icmp_ne rfl rfl (by unfold rg; omega) (by unfold rg; omega) (fun w248 => ?_) (fun w249 => ?_)
  · refine y_iconst rfl ?_
    refine y_istore_n rfl rfl rfl ?_
    refine y_iload_n rfl rfl ?_
    refine y_if_ne rfl rfl (by unfold rg; omega) (fun w250 => absurd w250 (by omega)) (fun w251 => ?_)
    · refine y_aload_n rfl rfl ?_
      refine y_gfi rfl rfl rfl rfl rfl ?_
      refine y_iconst rfl ?_
      refine y_icmp_ne rfl rfl (by unfold rg; omega) (by unfold rg; omega) (fun w252 => ?_) (fun w253 => ?_)
      · refine y_aload_n rfl rfl ?_
        refine y_aload_n rfl rfl ?_
        refine y_gfi rfl rfl rfl rfl rfl ?_
        refine y_iconst rfl ?_
        refine y_callV rfl rfl rfl (t_mo_meansRun__p hH (Xi S 904 78) 0 ⟨by omega, by omega⟩ ⟨by omega, by omega⟩ (by first | assumption | exact (by assumption : LSP S)) (by first | assumption | omega) (by first | assumption | exact (RBD_FR hF rfl (by assumption : RBD S))) _) ?_
        rintro _ _ ⟨rfl, z254, rfl, w254, f47⟩
        show Pl _ _ _ _ _ _ [iv z254] _ _
        have K47 : True := trivial
        refine y_istore rfl rfl rfl ?_
        refine y_iconst rfl ?_
        refine y_istore rfl rfl rfl ?_
        exact Pl_weak (C55 fu (by omega) S hH hF ((Xi S 904 16)) ((Xi S 904 18)) (0) (z254) (0) (by omega) (by omega) (by omega) (by omega) (by omega) (by first | exact i1 | rfl) (by first | exact i2 | rfl) (by first | exact i3 | (unfold iT; first | (rw [if_pos (by omega)]) | (rw [if_neg (by omega)]))) (by first | exact i4 | (have t := K47; exact f47.trans (by unfold pa10; rw [if_neg (by omega)])) | (unfold pa10; rw [if_pos (by omega)])) (by omega) (by first | (have t := K115; rw [show (v5 + 1).toNat = v5.toNat + 1 by omega]; exact M115) | exact SMR.rf) (by first | (have t := K115; rw [show (v5 + 1).toNat = v5.toNat + 1 by omega]; exact N115) | exact knr_0) (by first | (have t := K115; exact l115) | exact hLS) (by omega) (by omega) (by omega)) (by omega) (And.intro rfl (And.intro rfl (And.intro rfl (And.intro rfl (And.intro rfl (And.intro rfl (True.intro)))))))
      · refine y_iconst rfl ?_
        refine y_goto rfl rfl ?_
        refine y_istore rfl rfl rfl ?_
        refine y_iconst rfl ?_
        refine y_istore rfl rfl rfl ?_
        exact Pl_weak (C55 fu (by omega) S hH hF ((Xi S 904 16)) ((Xi S 904 18)) (0) (0) (0) (by omega) (by omega) (by omega) (by omega) (by omega) (by first | exact i1 | rfl) (by first | exact i2 | rfl) (by first | exact i3 | (unfold iT; first | (rw [if_pos (by omega)]) | (rw [if_neg (by omega)]))) (by first | exact i4 | (have t := K47; exact f47.trans (by unfold pa10; rw [if_neg (by omega)])) | (unfold pa10; rw [if_pos (by omega)])) (by omega) (by first | (have t := K115; rw [show (v5 + 1).toNat = v5.toNat + 1 by omega]; exact M115) | exact SMR.rf) (by first | (have t := K115; rw [show (v5 + 1).toNat = v5.toNat + 1 by omega]; exact N115) | exact knr_0) (by first | (have t := K115; exact l115) | exact hLS) (by omega) (by omega) (by omega)) (by omega) (And.intro rfl (And.intro rfl (And.intro rfl (And.intro rfl (And.intro rfl (And.intro rfl (True.intro)))))))
  · refine y_iconst rfl ?_
    refine y_goto rfl rfl ?_
    refine y_istore_n rfl rfl rfl ?_
    refine y_iload_n rfl rfl ?_
    refine y_if_ne rfl rfl (by unfold rg; omega) (fun w255 => ?_) (fun w256 => absurd w256 (by omega))
    · refine y_iconst rfl ?_
      refine y_goto rfl rfl ?_
      refine y_istore rfl rfl rfl ?_
      refine y_iconst rfl ?_
      refine y_istore rfl rfl rfl ?_
      exact Pl_weak (C55 fu (by omega) S hH hF ((Xi S 904 16)) ((Xi S 904 18)) (1) (0) (0) (by omega) (by omega) (by omega) (by omega) (by omega) (by first | exact i1 | rfl) (by first | exact i2 | rfl) (by first | exact i3 | (unfold iT; first | (rw [if_pos (by omega)]) | (rw [if_neg (by omega)]))) (by first | exact i4 | (have t := K47; exact f47.trans (by unfold pa10; rw [if_neg (by omega)])) | (unfold pa10; rw [if_pos (by omega)])) (by omega) (by first | (have t := K115; rw [show (v5 + 1).toNat = v5.toNat + 1 by omega]; exact M115) | exact SMR.rf) (by first | (have t := K115; rw [show (v5 + 1).toNat = v5.toNat + 1 by omega]; exact N115) | exact knr_0) (by first | (have t := K115; exact l115) | exact hLS) (by omega) (by omega) (by omega)) (by omega) (And.intro rfl (And.intro rfl (And.intro rfl (And.intro rfl (And.intro rfl (And.intro rfl (True.intro)))))))
def md_mo_does__10 : List rec := [(904, 905, 15, 16), (904, 905, 16, 17), (904, 905, 18, 19), (904, 905, 19, 20), (904, 905, 23, 24), (904, 905, 30, 31), (904, 905, 32, 33), (904, 905, 41, 42), (904, 905, 47, 48), (904, 905, 49, 50), (904, 905, 51, 52), (904, 905, 55, 56), (904, 905, 60, 61), (904, 905, 64, 65), (904, 905, 73, 74), (904, 905, 105, 106), (904, 905, 106, 107), (904, 905, 113, 114), (904, 905, 117, 118), (912, 913, 0, 100000), (913, 914, 0, 100000), (914, 915, 0, 100000), (915, 916, 0, 100000), (916, 917, 0, 100000), (917, 918, 0, 100000), (918, 919, 0, 100000), (919, 920, 0, 100000), (920, 921, 0, 100000), (921, 922, 0, 100000), (922, 923, 0, 100000), (923, 924, 0, 100000), (924, 925, 0, 100000), (925, 926, 0, 100000), (926, 927, 0, 100000), (927, 928, 0, 100000), (928, 929, 0, 100000), (929, 930, 0, 100000), (930, 931, 0, 100000), (931, 932, 0, 100000), (932, 933, 0, 100000), (933, 934, 0, 100000), (934, 935, 0, 100000), (935, 936, 0, 100000), (936, 937, 0, 100000), (937, 938, 0, 100000), (938, 939, 0, 100000), (939, 940, 0, 100000), (940, 941, 0, 100000), (941, 942, 0, 100000), (942, 943, 0, 100000), (943, 944, 0, 100000), (944, 945, 0, 100000), (945, 946, 0, 100000), (946, 947, 0, 100000), (947, 948, 0, 100000), (948, 949, 0, 100000), (949, 950, 0, 100000)]
abbrev Q_mo_does__10 (S : sS) (first : Int) : pst := fun r S1 => RI S1 ∧ FR md_mo_does__10 S S1 ∧ (r = none ∧ (RD10 S S1))
set_option maxRecDepth 100000 in
theorem t_mo_does__10 {S : sS} (hH : RI S) (first : Int) (hfirst : 0 ≤ first ∧ first ≤ 5001) (hLS : LSP S) (h15 : 0 ≤ Xi S 904 15) (hRB : RBD S) (hLX : LXR S) (hl : 0 ≤ Xi S 904 71 ∧ Xi S 904 71 ≤ 2600 ∧ 0 ≤ Xi S 904 72 ∧ Xi S 904 72 ≤ 2600) (hs : Xi S 904 70 = 10) (ha : 0 ≤ Xi S 904 16 ∧ Xi S 904 16 ≤ 16 ∧ 0 ≤ Xi S 904 18 ∧ Xi S 904 18 ≤ 8) (hb : cKR S + Xi S 904 72 ≤ 16) (h15b : Xi S 904 15 ≤ 100000) (d : Nat) : Mp lay0 (d + 8) m_mo_does [.ref 904, iv first] S (Q_mo_does__10 S first) := by
  refine Mp_R rfl rfl (fun fu => ?_)
  have hF : FR md_mo_does__10 S S := FR.rf
  have w1 : -2147483648 ≤ Xi S 904 15 ∧ Xi S 904 15 ≤ 2147483647 := Xi_rgI
  have w2 : -2147483648 ≤ Xi S 904 16 ∧ Xi S 904 16 ≤ 2147483647 := Xi_rgI
  have w3 : -2147483648 ≤ Xi S 904 18 ∧ Xi S 904 18 ≤ 2147483647 := Xi_rgI
  have w4 : -2147483648 ≤ Xi S 904 70 ∧ Xi S 904 70 ≤ 2147483647 := Xi_rgI
  have w5 : -2147483648 ≤ Xi S 904 71 ∧ Xi S 904 71 ≤ 2147483647 := Xi_rgI
  have w6 : -2147483648 ≤ Xi S 904 72 ∧ Xi S 904 72 ≤ 2147483647 := Xi_rgI
  have C300 : ∀ (n300 : Nat) (_ : n300 ≤ fu) (T1 : sS) (_ : RI T1) (_ : FR md_mo_does__10 S T1) (v2 : Int), (-2147483648 ≤ v2 ∧ v2 ≤ 2147483647) → ((1 : Int) = 0) → Pl n300 lay0 (d + 7) m_mo_does 300 [(0, .ref 904), (2, iv v2)] [] T1 (Q_mo_does__10 S first) := by
    intro n300
    induction n300 with
    | zero => intros; exact Pl_0
    | succ n300 ih300 =>
      intro hm300 T1 hHT1 hFT1 v2 w7 w8
      have w9 : Xi T1 904 110 = Xi S 904 110 := hFT1.x _ _ rfl
      have w10 : Xi T1 904 112 = Xi S 904 112 := hFT1.x _ _ rfl
      have w11 : Xi T1 904 142 = Xi S 904 142 := hFT1.x _ _ rfl
      have w12 : Xi T1 904 69 = Xi S 904 69 := hFT1.x _ _ rfl
      have w13 : Xi T1 904 70 = Xi S 904 70 := hFT1.x _ _ rfl
      have w14 : Xi T1 904 71 = Xi S 904 71 := hFT1.x _ _ rfl
      have w15 : Xi T1 904 72 = Xi S 904 72 := hFT1.x _ _ rfl
      have w16 : Xi T1 904 74 = Xi S 904 74 := hFT1.x _ _ rfl
      have w17 : Xi T1 904 78 = Xi S 904 78 := hFT1.x _ _ rfl
      have w18 : Xi T1 904 94 = Xi S 904 94 := hFT1.x _ _ rfl
      have w19 : Xi T1 951 1 = Xi S 951 1 := hFT1.x _ _ rfl
      have w20 : Xi T1 951 2 = Xi S 951 2 := hFT1.x _ _ rfl
      have w21 : Xi T1 967 0 = Xi S 967 0 := hFT1.x _ _ rfl
      have w22 : -2147483648 ≤ Xi T1 904 15 ∧ Xi T1 904 15 ≤ 2147483647 := Xi_rgI
      have w23 : -2147483648 ≤ Xi T1 904 70 ∧ Xi T1 904 70 ≤ 2147483647 := Xi_rgI
      exfalso; omega
  refine y_aload_n rfl rfl ?_
  refine y_gfi rfl rfl rfl rfl rfl ?_
  refine y_tsw rfl rfl rfl rfl (by unfold rg; omega) (fun w24 => ?_) (fun ii tt hii w24 => ?_)
  · refine y_return rfl rfl ?_
    exact ⟨hH, hF, rfl, (by first | (have t := K292; exact o292) | (exfalso; omega))⟩
  · match ii, hii with
    | 0, hii =>
      cases hii
      have w25 : (Xi S 904 70) = 0 := by simpa using w24
      exfalso; omega
    | 1, hii =>
      cases hii
      have w26 : (Xi S 904 70) = 1 := by simpa using w24
      exfalso; omega
    | 2, hii =>
      cases hii
      have w27 : (Xi S 904 70) = 2 := by simpa using w24
      exfalso; omega
    | 3, hii =>
      cases hii
      have w28 : (Xi S 904 70) = 3 := by simpa using w24
      refine y_return rfl rfl ?_
      exact ⟨hH, hF, rfl, (by first | (have t := K292; exact o292) | (exfalso; omega))⟩
    | 4, hii =>
      cases hii
      have w29 : (Xi S 904 70) = 4 := by simpa using w24
      refine y_return rfl rfl ?_
      exact ⟨hH, hF, rfl, (by first | (have t := K292; exact o292) | (exfalso; omega))⟩
    | 5, hii =>
      cases hii
      have w30 : (Xi S 904 70) = 5 := by simpa using w24
      refine y_return rfl rfl ?_
      exact ⟨hH, hF, rfl, (by first | (have t := K292; exact o292) | (exfalso; omega))⟩
    | 6, hii =>
      cases hii
      have w31 : (Xi S 904 70) = 6 := by simpa using w24
      refine y_return rfl rfl ?_
      exact ⟨hH, hF, rfl, (by first | (have t := K292; exact o292) | (exfalso; omega))⟩
    | 7, hii =>
      cases hii
      have w32 : (Xi S 904 70) = 7 := by simpa using w24
      exfalso; omega
    | 8, hii =>
      cases hii
      have w33 : (Xi S 904 70) = 8 := by simpa using w24
      exfalso; omega
    | 9, hii =>
      cases hii
      have w34 : (Xi S 904 70) = 9 := by simpa using w24
      exfalso; omega
    | 10, hii =>
      cases hii
      have w35 : (Xi S 904 70) = 10 := by simpa using w24
      refine y_aload_n rfl rfl ?_
      refine y_callV rfl rfl rfl (t_mo_doKinds__p hH (by first | assumption | exact (by assumption : LSP S)) (by first | assumption | omega) (by first | assumption | exact (RBD_FR hF rfl (by assumption : RBD S))) (by first | assumption | omega) (by first | assumption | omega) (by first | assumption | omega) (by first | assumption | omega) (by first | assumption | omega) _) ?_
      rintro _ T2 ⟨hHT2, w37, rfl, o292⟩
      have hFT2 : FR md_mo_does__10 S T2 := FR.tr hF w37 rfl
      show Pl _ _ _ _ _ _ [] _ _
      have K292 : True := trivial
      refine y_goto rfl rfl ?_
      refine y_return rfl rfl ?_
      exact ⟨hHT2, hFT2, rfl, (by first | (have t := K292; exact o292) | (exfalso; omega))⟩
    | 11, hii =>
      cases hii
      have w39 : (Xi S 904 70) = 11 := by simpa using w24
      exfalso; omega
    | 12, hii =>
      cases hii
      have w40 : (Xi S 904 70) = 12 := by simpa using w24
      exfalso; omega
    | 13, hii =>
      cases hii
      have w41 : (Xi S 904 70) = 13 := by simpa using w24
      exfalso; omega
    | 14, hii =>
      cases hii
      have w42 : (Xi S 904 70) = 14 := by simpa using w24
      exfalso; omega
    | 15, hii =>
      cases hii
      have w43 : (Xi S 904 70) = 15 := by simpa using w24
      exfalso; omega
    | 16, hii =>
      cases hii
      have w44 : (Xi S 904 70) = 16 := by simpa using w24
      exfalso; omega
    | 17, hii =>
      cases hii
      have w45 : (Xi S 904 70) = 17 := by simpa using w24
      exfalso; omega
    | 18, hii =>
      cases hii
      have w46 : (Xi S 904 70) = 18 := by simpa using w24
      exfalso; omega
    | 19, hii =>
      cases hii
      have w47 : (Xi S 904 70) = 19 := by simpa using w24
      exfalso; omega
    | 20, hii =>
      cases hii
      have w48 : (Xi S 904 70) = 20 := by simpa using w24
      exfalso; omega
    | n + 21, hii => exact absurd hii (by simp)
end
section
/-! the world: what is written, as functions of the state (class) -/
def mkO (S : sS) (o k : Int) : sS := uI (uI (uI S 21 o.toNat (Int32.ofInt k)) 22 o.toNat (Int32.ofInt 0)) 23 o.toNat (Int32.ofInt (-1))
def plO (S : sS) (o h w : Int) : sS := uI (uI S 22 o.toNat (Int32.ofInt h)) 23 o.toNat (Int32.ofInt w)
def stP (S : sS) (r p v l : Int) : sS := uI (uI (uI S (66 + r.toNat) p.toNat (Int32.ofInt 1)) (107 + r.toNat) p.toNat (Int32.ofInt v)) (148 + r.toNat) p.toNat (Int32.ofInt l)
def stA0 (S : sS) (r a h : Int) : sS := uI S (25 + r.toNat) a.toNat (Int32.ofInt (if h = 0 then -1 else 1))
def stAd (S : sS) (r a h : Int) : sS := if Xi S 11 a.toNat = -1 then stA0 S r a h else uI (stA0 S r a h) (25 + r.toNat) (Xi S 11 a.toNat).toNat (Int32.ofInt (if h = 0 then 1 else -1))
def TADC (S S1 : sS) (z r a h : Int) : Prop := (Xi S (25 + r.toNat) a.toNat = (if h = 0 then 1 else -1) → z = 0 ∧ S1 = S) ∧ (Xi S (25 + r.toNat) a.toNat ≠ (if h = 0 then 1 else -1) → z = 1 ∧ S1 = stAd S r a h)
def TKDC (S S1 : sS) (z o k : Int) : Prop := (isK S k (Xi S 21 o.toNat) = 1 → z = 1 ∧ S1 = uI S 21 o.toNat (Int32.ofInt k)) ∧ (isK S k (Xi S 21 o.toNat) ≠ 1 → z = isK S (Xi S 21 o.toNat) k ∧ S1 = S)
def TPLC (S S1 : sS) (z o h w : Int) : Prop :=
  (isK S (Xi S 21 o.toNat) 0 ≠ 1 → z = 5 ∧ S1 = S) ∧
  (isK S (Xi S 21 o.toNat) 0 = 1 → Xi S 22 o.toNat ≠ 0 → (Xi S 22 o.toNat = h ∧ Xi S 23 o.toNat = w) → z = 0 ∧ S1 = S) ∧
  (isK S (Xi S 21 o.toNat) 0 = 1 → Xi S 22 o.toNat ≠ 0 → ¬ (Xi S 22 o.toNat = h ∧ Xi S 23 o.toNat = w) → z = 5 ∧ S1 = S) ∧
  (isK S (Xi S 21 o.toNat) 0 = 1 → Xi S 22 o.toNat = 0 → isW S w o = 1 → z = 6 ∧ S1 = S) ∧
  (isK S (Xi S 21 o.toNat) 0 = 1 → Xi S 22 o.toNat = 0 → isW S w o ≠ 1 → z = 0 ∧ S1 = plO S o h w)
def TWYC (S S1 : sS) (z r d t : Int) : Prop :=
  (Xi S (196 + r.toNat) d.toNat = -1 → z = 1 ∧ S1 = uI (uI (uI S (196 + r.toNat) d.toNat (Int32.ofInt t)) (221 + r.toNat) d.toNat (Int32.ofInt (Xi S 20 12))) 20 12 (Int32.ofInt (Xi S 20 12 + 1))) ∧
  (Xi S (196 + r.toNat) d.toNat ≠ -1 → Xi S (196 + r.toNat) d.toNat = t → z = 1 ∧ S1 = S) ∧
  (Xi S (196 + r.toNat) d.toNat ≠ -1 → Xi S (196 + r.toNat) d.toNat ≠ t → z = 0 ∧ S1 = S)
theorem tadc_n {S : sS} {r a h : Int} (q : Xi S (25 + r.toNat) a.toNat = (if h = 0 then 1 else -1)) : TADC S S 0 r a h := ⟨fun _ => ⟨rfl, rfl⟩, fun w => absurd q w⟩
theorem tadc_y {S S1 : sS} {r a h : Int} (q : Xi S (25 + r.toNat) a.toNat ≠ (if h = 0 then 1 else -1)) (e : S1 = stAd S r a h) : TADC S S1 1 r a h := ⟨fun w => absurd w q, fun _ => ⟨rfl, e⟩⟩
/-! the reference's world -/
def rIs (S : sS) (k : Nat) (b a i : Int) : sS := if Xi S 922 a.toNat = -1 then uI S k (b + a).toNat (Int32.ofInt (if i = 0 then 2 else 1)) else uI (uI S k (b + a).toNat (Int32.ofInt (if i = 0 then 2 else 1))) k (b + Xi S 922 a.toNat).toNat (Int32.ofInt (if i = 0 then 1 else 2))
def TISR (S S1 : sS) (z : Int) (k : Nat) (b a i : Int) : Prop := (Xi S k (b + a).toNat = (if i = 0 then 1 else 2) → z = 0 ∧ S1 = S) ∧ (Xi S k (b + a).toNat ≠ (if i = 0 then 1 else 2) → z = 1 ∧ S1 = rIs S k b a i)
def AOB (S S1 : sS) (k : Int) : Prop := Xi S1 904 19 = Xi S 904 19 + 1 ∧ (Xi S1 918 (Xi S 904 19).toNat = k ∧ Xi S1 919 (Xi S 904 19).toNat = 0 ∧ Xi S1 920 (Xi S 904 19).toNat = -1) ∧ (∀ j : Nat, j ≠ (Xi S 904 19).toNat → Xi S1 918 j = Xi S 918 j ∧ Xi S1 919 j = Xi S 919 j ∧ Xi S1 920 j = Xi S 920 j) ∧ ZRO S S1 925 (24 * Xi S 904 19) 24 ∧ ZRO S S1 930 (12 * Xi S 904 19) 12

abbrev Q_wo_isA__p (S : sS) (o : Int) (kind : Int) : pst := fun r S1 => S = S1 ∧ (∃ z : Int, r = some (iv z) ∧ (0 ≤ z ∧ z ≤ 1) ∧ (z = isK S (Xi S 21 o.toNat) kind))
set_option maxRecDepth 100000 in
theorem t_wo_isA__p {S : sS} (hH : RI S) (o : Int) (kind : Int) (ho : -2147483648 ≤ o ∧ o ≤ 2147483647) (hkind : -2147483648 ≤ kind ∧ kind ≤ 2147483647) (d : Nat) : Mp lay0 (d + 2) m_wo_isA [.ref 20, iv o, iv kind] S (Q_wo_isA__p S o kind) := by
  refine Mp_R rfl rfl (fun fu => ?_)
  refine y_aload_n rfl rfl ?_
  refine y_gfr rfl rfl rfl rfl rfl (hH.r 20 0 1 rfl) ?_
  refine y_aload_n rfl rfl ?_
  refine y_gfr rfl rfl rfl rfl rfl (hH.r 20 2 21 rfl) ?_
  refine y_iload_n rfl rfl ?_
  refine y_ialoadP (n := 24) rfl rfl (by unfold rg; omega) (fun w1 w2 => ?_)
  have w3 : -2147483648 ≤ (Xi S 21 ((o).toNat)) ∧ (Xi S 21 ((o).toNat)) ≤ 2147483647 := Xi_rgI
  refine y_iload_n rfl rfl ?_
  refine y_callV rfl rfl rfl (t_vo_isKind__p hH (Xi S 21 ((o).toNat)) kind ⟨by omega, by omega⟩ ⟨by omega, by omega⟩ _) ?_
  rintro _ _ ⟨rfl, z5, rfl, w5, w4⟩
  show Pl _ _ _ _ _ _ [iv z5] _ _
  refine y_ireturn rfl (retI_z (by omega)) ?_
  exact ⟨rfl, _, rfl, ⟨by omega, by omega⟩, (by assumption)⟩
def md_wo_makeObject__p : List rec := [(21, 22, 0, 100000), (22, 23, 0, 100000), (23, 24, 0, 100000)]
abbrev Q_wo_makeObject__p (S : sS) (o : Int) (kind : Int) : pst := fun r S1 => RI S1 ∧ FR md_wo_makeObject__p S S1 ∧ (r = none ∧ (S1 = mkO S o kind))
set_option maxRecDepth 100000 in
theorem t_wo_makeObject__p {S : sS} (hH : RI S) (o : Int) (kind : Int) (ho : -2147483648 ≤ o ∧ o ≤ 2147483647) (hkind : -2147483648 ≤ kind ∧ kind ≤ 2147483647) (d : Nat) : Mp lay0 (d + 1) m_wo_makeObject [.ref 20, iv o, iv kind] S (Q_wo_makeObject__p S o kind) := by
  refine Mp_R rfl rfl (fun fu => ?_)
  have hF : FR md_wo_makeObject__p S S := FR.rf
  refine y_aload_n rfl rfl ?_
  refine y_gfr rfl rfl rfl rfl rfl (hH.r 20 2 21 rfl) ?_
  refine y_iload_n rfl rfl ?_
  refine y_iload_n rfl rfl ?_
  refine y_iastoreP (n := 24) rfl rfl (by unfold rg; omega) (fun w1 w2 => ?_)
  obtain ⟨U1, eU1⟩ : ∃ T : sS, T = uI S 21 ((o).toNat) (Int32.ofInt kind) := ⟨_, rfl⟩
  rw [← eU1]
  have hHU1 : RI U1 := by rw [eU1]; exact RI_w hH
  have hFU1 : FR md_wo_makeObject__p S U1 := by rw [eU1]; exact FR.wI hF (mdf_i (r := (21, 22, 0, 100000)) (List.mem_of_getElem? (i := 0) rfl) (inR_i (by omega) (by omega) (by omega) (by omega)))
  have w3 : Xi U1 21 ((o).toNat) = kind := by rw [eU1]; exact Xi_same (by unfold rg; omega)
  refine y_aload_n rfl rfl ?_
  refine y_gfr rfl rfl rfl rfl rfl (hHU1.r 20 3 22 rfl) ?_
  refine y_iload_n rfl rfl ?_
  refine y_iconst rfl ?_
  refine y_iastoreP (n := 24) rfl rfl (by unfold rg; omega) (fun w4 w5 => ?_)
  obtain ⟨U2, eU2⟩ : ∃ T : sS, T = uI U1 22 ((o).toNat) (Int32.ofInt 0) := ⟨_, rfl⟩
  rw [← eU2]
  have hHU2 : RI U2 := by rw [eU2]; exact RI_w hHU1
  have hFU2 : FR md_wo_makeObject__p S U2 := by rw [eU2]; exact FR.wI hFU1 (mdf_i (r := (22, 23, 0, 100000)) (List.mem_of_getElem? (i := 1) rfl) (inR_i (by omega) (by omega) (by omega) (by omega)))
  have w6 : Xi U2 22 ((o).toNat) = 0 := by rw [eU2]; exact Xi_same (by unfold rg; omega)
  refine y_aload_n rfl rfl ?_
  refine y_gfr rfl rfl rfl rfl rfl (hHU2.r 20 4 23 rfl) ?_
  refine y_iload_n rfl rfl ?_
  refine y_iconst rfl ?_
  refine y_iastoreP (n := 24) rfl rfl (by unfold rg; omega) (fun w7 w8 => ?_)
  obtain ⟨U3, eU3⟩ : ∃ T : sS, T = uI U2 23 ((o).toNat) (Int32.ofInt (-1)) := ⟨_, rfl⟩
  rw [← eU3]
  have hHU3 : RI U3 := by rw [eU3]; exact RI_w hHU2
  have hFU3 : FR md_wo_makeObject__p S U3 := by rw [eU3]; exact FR.wI hFU2 (mdf_i (r := (23, 24, 0, 100000)) (List.mem_of_getElem? (i := 2) rfl) (inR_i (by omega) (by omega) (by omega) (by omega)))
  have w9 : Xi U3 23 ((o).toNat) = (-1) := by rw [eU3]; exact Xi_same (by unfold rg; omega)
  refine y_return rfl rfl ?_
  exact ⟨hHU3, hFU3, rfl, (by rw [eU3, eU2, eU1]; rfl)⟩
def md_wo_place__p : List rec := [(22, 23, 0, 100000), (23, 24, 0, 100000)]
abbrev Q_wo_place__p (S : sS) (o : Int) (how : Int) (where_ : Int) : pst := fun r S1 => RI S1 ∧ FR md_wo_place__p S S1 ∧ (r = none ∧ (S1 = plO S o how where_))
set_option maxRecDepth 100000 in
theorem t_wo_place__p {S : sS} (hH : RI S) (o : Int) (how : Int) (where_ : Int) (ho : -2147483648 ≤ o ∧ o ≤ 2147483647) (hhow : -2147483648 ≤ how ∧ how ≤ 2147483647) (hwhere_ : -2147483648 ≤ where_ ∧ where_ ≤ 2147483647) (d : Nat) : Mp lay0 (d + 1) m_wo_place [.ref 20, iv o, iv how, iv where_] S (Q_wo_place__p S o how where_) := by
  refine Mp_R rfl rfl (fun fu => ?_)
  have hF : FR md_wo_place__p S S := FR.rf
  refine y_aload_n rfl rfl ?_
  refine y_gfr rfl rfl rfl rfl rfl (hH.r 20 3 22 rfl) ?_
  refine y_iload_n rfl rfl ?_
  refine y_iload_n rfl rfl ?_
  refine y_iastoreP (n := 24) rfl rfl (by unfold rg; omega) (fun w1 w2 => ?_)
  obtain ⟨U1, eU1⟩ : ∃ T : sS, T = uI S 22 ((o).toNat) (Int32.ofInt how) := ⟨_, rfl⟩
  rw [← eU1]
  have hHU1 : RI U1 := by rw [eU1]; exact RI_w hH
  have hFU1 : FR md_wo_place__p S U1 := by rw [eU1]; exact FR.wI hF (mdf_i (r := (22, 23, 0, 100000)) (List.mem_of_getElem? (i := 0) rfl) (inR_i (by omega) (by omega) (by omega) (by omega)))
  have w3 : Xi U1 22 ((o).toNat) = how := by rw [eU1]; exact Xi_same (by unfold rg; omega)
  refine y_aload_n rfl rfl ?_
  refine y_gfr rfl rfl rfl rfl rfl (hHU1.r 20 4 23 rfl) ?_
  refine y_iload_n rfl rfl ?_
  refine y_iload_n rfl rfl ?_
  refine y_iastoreP (n := 24) rfl rfl (by unfold rg; omega) (fun w4 w5 => ?_)
  obtain ⟨U2, eU2⟩ : ∃ T : sS, T = uI U1 23 ((o).toNat) (Int32.ofInt where_) := ⟨_, rfl⟩
  rw [← eU2]
  have hHU2 : RI U2 := by rw [eU2]; exact RI_w hHU1
  have hFU2 : FR md_wo_place__p S U2 := by rw [eU2]; exact FR.wI hFU1 (mdf_i (r := (23, 24, 0, 100000)) (List.mem_of_getElem? (i := 1) rfl) (inR_i (by omega) (by omega) (by omega) (by omega)))
  have w6 : Xi U2 23 ((o).toNat) = where_ := by rw [eU2]; exact Xi_same (by unfold rg; omega)
  refine y_return rfl rfl ?_
  exact ⟨hHU2, hFU2, rfl, (by rw [eU2, eU1]; rfl)⟩
def md_wo_setProperty__p : List rec := [(66, 106, 0, 100000), (107, 147, 0, 100000), (148, 188, 0, 100000)]
abbrev Q_wo_setProperty__p (S : sS) (row : Int) (p : Int) (value : Int) (length : Int) : pst := fun r S1 => RI S1 ∧ FR md_wo_setProperty__p S S1 ∧ (r = none ∧ (S1 = stP S row p value length))
set_option maxRecDepth 100000 in
theorem t_wo_setProperty__p {S : sS} (hH : RI S) (row : Int) (p : Int) (value : Int) (length : Int) (hrow : 0 ≤ row ∧ row ≤ 39) (hp : -2147483648 ≤ p ∧ p ≤ 2147483647) (hvalue : -2147483648 ≤ value ∧ value ≤ 2147483647) (hlength : -2147483648 ≤ length ∧ length ≤ 2147483647) (d : Nat) : Mp lay0 (d + 1) m_wo_setProperty [.ref 20, iv row, iv p, iv value, iv length] S (Q_wo_setProperty__p S row p value length) := by
  refine Mp_R rfl rfl (fun fu => ?_)
  have hF : FR md_wo_setProperty__p S S := FR.rf
  refine y_aload_n rfl rfl ?_
  refine y_gfr rfl rfl rfl rfl rfl (hH.r 20 6 65 rfl) ?_
  refine y_iload_n rfl rfl ?_
  refine y_aaload (n := 40) (a := 66 + (row).toNat) rfl rfl (by decide) (by omega) (by omega) (by unfold rg; omega) (hH.rw 65 66 40 _ (by decide) (by omega)) ?_
  refine y_iload_n rfl rfl ?_
  refine y_iconst rfl ?_
  refine y_iastoreP (n := 12) rfl (lay_66 (by omega)) (by unfold rg; omega) (fun w1 w2 => ?_)
  obtain ⟨U1, eU1⟩ : ∃ T : sS, T = uI S (66 + (row).toNat) ((p).toNat) (Int32.ofInt 1) := ⟨_, rfl⟩
  rw [← eU1]
  have hHU1 : RI U1 := by rw [eU1]; exact RI_w hH
  have hFU1 : FR md_wo_setProperty__p S U1 := by rw [eU1]; exact FR.wI hF (mdf_i (r := (66, 106, 0, 100000)) (List.mem_of_getElem? (i := 0) rfl) (inR_i (by omega) (by omega) (by omega) (by omega)))
  have w3 : Xi U1 (66 + (row).toNat) ((p).toNat) = 1 := by rw [eU1]; exact Xi_same (by unfold rg; omega)
  refine y_aload_n rfl rfl ?_
  refine y_gfr rfl rfl rfl rfl rfl (hHU1.r 20 7 106 rfl) ?_
  refine y_iload_n rfl rfl ?_
  refine y_aaload (n := 40) (a := 107 + (row).toNat) rfl rfl (by decide) (by omega) (by omega) (by unfold rg; omega) (hHU1.rw 106 107 40 _ (by decide) (by omega)) ?_
  refine y_iload_n rfl rfl ?_
  refine y_iload_n rfl rfl ?_
  refine y_iastoreP (n := 12) rfl (lay_107 (by omega)) (by unfold rg; omega) (fun w4 w5 => ?_)
  obtain ⟨U2, eU2⟩ : ∃ T : sS, T = uI U1 (107 + (row).toNat) ((p).toNat) (Int32.ofInt value) := ⟨_, rfl⟩
  rw [← eU2]
  have hHU2 : RI U2 := by rw [eU2]; exact RI_w hHU1
  have hFU2 : FR md_wo_setProperty__p S U2 := by rw [eU2]; exact FR.wI hFU1 (mdf_i (r := (107, 147, 0, 100000)) (List.mem_of_getElem? (i := 1) rfl) (inR_i (by omega) (by omega) (by omega) (by omega)))
  have w6 : Xi U2 (107 + (row).toNat) ((p).toNat) = value := by rw [eU2]; exact Xi_same (by unfold rg; omega)
  refine y_aload_n rfl rfl ?_
  refine y_gfr rfl rfl rfl rfl rfl (hHU2.r 20 8 147 rfl) ?_
  refine y_iload_n rfl rfl ?_
  refine y_aaload (n := 40) (a := 148 + (row).toNat) rfl rfl (by decide) (by omega) (by omega) (by unfold rg; omega) (hHU2.rw 147 148 40 _ (by decide) (by omega)) ?_
  refine y_iload_n rfl rfl ?_
  refine y_iload rfl rfl ?_
  refine y_iastoreP (n := 12) rfl (lay_148 (by omega)) (by unfold rg; omega) (fun w7 w8 => ?_)
  obtain ⟨U3, eU3⟩ : ∃ T : sS, T = uI U2 (148 + (row).toNat) ((p).toNat) (Int32.ofInt length) := ⟨_, rfl⟩
  rw [← eU3]
  have hHU3 : RI U3 := by rw [eU3]; exact RI_w hHU2
  have hFU3 : FR md_wo_setProperty__p S U3 := by rw [eU3]; exact FR.wI hFU2 (mdf_i (r := (148, 188, 0, 100000)) (List.mem_of_getElem? (i := 2) rfl) (inR_i (by omega) (by omega) (by omega) (by omega)))
  have w9 : Xi U3 (148 + (row).toNat) ((p).toNat) = length := by rw [eU3]; exact Xi_same (by unfold rg; omega)
  refine y_return rfl rfl ?_
  exact ⟨hHU3, hFU3, rfl, (by rw [eU3, eU2, eU1]; rfl)⟩
def md_wo_setAdjective__p : List rec := [(25, 65, 0, 100000)]
abbrev Q_wo_setAdjective__p (S : sS) (row : Int) (a : Int) (holds : Int) : pst := fun r S1 => RI S1 ∧ FR md_wo_setAdjective__p S S1 ∧ (r = none ∧ (S1 = stAd S row a holds))
set_option maxRecDepth 100000 in
theorem t_wo_setAdjective__p {S : sS} (hH : RI S) (row : Int) (a : Int) (holds : Int) (hrow : 0 ≤ row ∧ row ≤ 39) (ha : -2147483648 ≤ a ∧ a ≤ 2147483647) (hholds : 0 ≤ holds ∧ holds ≤ 1) (d : Nat) : Mp lay0 (d + 1) m_wo_setAdjective [.ref 20, iv row, iv a, iv holds] S (Q_wo_setAdjective__p S row a holds) := by
  refine Mp_R rfl rfl (fun fu => ?_)
  have hF : FR md_wo_setAdjective__p S S := FR.rf
  refine y_aload_n rfl rfl ?_
  refine y_gfr rfl rfl rfl rfl rfl (hH.r 20 0 1 rfl) ?_
  refine y_gfr rfl rfl rfl rfl rfl (hH.r 1 10 11 rfl) ?_
  refine y_iload_n rfl rfl ?_
  refine y_ialoadP (n := 24) rfl rfl (by unfold rg; omega) (fun w1 w2 => ?_)
  have w3 : -2147483648 ≤ (Xi S 11 ((a).toNat)) ∧ (Xi S 11 ((a).toNat)) ≤ 2147483647 := Xi_rgI
  refine y_istore rfl rfl rfl ?_
  refine y_aload_n rfl rfl ?_
  refine y_gfr rfl rfl rfl rfl rfl (hH.r 20 5 24 rfl) ?_
  refine y_iload_n rfl rfl ?_
  refine y_aaload (n := 40) (a := 25 + (row).toNat) rfl rfl (by decide) (by omega) (by omega) (by unfold rg; omega) (hH.rw 24 25 40 _ (by decide) (by omega)) ?_
  refine y_iload_n rfl rfl ?_
  refine y_iload_n rfl rfl ?_
  refine y_if_eq rfl rfl (by unfold rg; omega) (fun w4 => ?_) (fun w5 => ?_)
  · refine y_iconst rfl ?_
    refine y_iastoreP (n := 24) rfl (lay_25 (by omega)) (by unfold rg; omega) (fun w6 w7 => ?_)
    obtain ⟨U1, eU1⟩ : ∃ T : sS, T = uI S (25 + (row).toNat) ((a).toNat) (Int32.ofInt (-1)) := ⟨_, rfl⟩
    rw [← eU1]
    have hHU1 : RI U1 := by rw [eU1]; exact RI_w hH
    have hFU1 : FR md_wo_setAdjective__p S U1 := by rw [eU1]; exact FR.wI hF (mdf_i (r := (25, 65, 0, 100000)) (List.mem_of_getElem? (i := 0) rfl) (inR_i (by omega) (by omega) (by omega) (by omega)))
    have w8 : Xi U1 (25 + (row).toNat) ((a).toNat) = (-1) := by rw [eU1]; exact Xi_same (by unfold rg; omega)
    have e27 : U1 = stA0 S row a holds := by unfold stA0; first | (rw [if_pos (show holds = 0 by omega)]; exact eU1) | (rw [if_neg (show ¬ holds = 0 by omega)]; exact eU1)
    refine y_iload rfl rfl ?_
    refine y_iconst rfl ?_
    refine y_icmp_eq rfl rfl (by unfold rg; omega) (by unfold rg; omega) (fun w9 => ?_) (fun w10 => ?_)
    · refine y_return rfl rfl ?_
      exact ⟨hHU1, hFU1, rfl, (by first | (have t := K51; exact e51) | (unfold stAd; rw [if_pos (by omega)]; exact e27))⟩
    · refine y_aload_n rfl rfl ?_
      refine y_gfr rfl rfl rfl rfl rfl (hHU1.r 20 5 24 rfl) ?_
      refine y_iload_n rfl rfl ?_
      refine y_aaload (n := 40) (a := 25 + (row).toNat) rfl rfl (by decide) (by omega) (by omega) (by unfold rg; omega) (hHU1.rw 24 25 40 _ (by decide) (by omega)) ?_
      refine y_iload rfl rfl ?_
      refine y_iload_n rfl rfl ?_
      refine y_if_eq rfl rfl (by unfold rg; omega) (fun w11 => ?_) (fun w12 => ?_)
      · refine y_iconst rfl ?_
        refine y_iastoreP (n := 24) rfl (lay_25 (by omega)) (by unfold rg; omega) (fun w13 w14 => ?_)
        obtain ⟨U2, eU2⟩ : ∃ T : sS, T = uI U1 (25 + (row).toNat) (((Xi S 11 ((a).toNat))).toNat) (Int32.ofInt 1) := ⟨_, rfl⟩
        rw [← eU2]
        have hHU2 : RI U2 := by rw [eU2]; exact RI_w hHU1
        have hFU2 : FR md_wo_setAdjective__p S U2 := by rw [eU2]; exact FR.wI hFU1 (mdf_i (r := (25, 65, 0, 100000)) (List.mem_of_getElem? (i := 0) rfl) (inR_i (by omega) (by omega) (by omega) (by omega)))
        have w15 : Xi U2 (25 + (row).toNat) (((Xi S 11 ((a).toNat))).toNat) = 1 := by rw [eU2]; exact Xi_same (by unfold rg; omega)
        have K51 : True := trivial
        have e51 : U2 = stAd S row a holds := by unfold stAd; rw [if_neg (by omega), ← e27]; first | (rw [if_pos (show holds = 0 by omega)]; exact eU2) | (rw [if_neg (show ¬ holds = 0 by omega)]; exact eU2)
        refine y_return rfl rfl ?_
        exact ⟨hHU2, hFU2, rfl, (by first | (have t := K51; exact e51) | (unfold stAd; rw [if_pos (by omega)]; exact e27))⟩
      · exfalso; omega
  · refine y_iconst rfl ?_
    refine y_goto rfl rfl ?_
    refine y_iastoreP (n := 24) rfl (lay_25 (by omega)) (by unfold rg; omega) (fun w16 w17 => ?_)
    obtain ⟨U3, eU3⟩ : ∃ T : sS, T = uI S (25 + (row).toNat) ((a).toNat) (Int32.ofInt 1) := ⟨_, rfl⟩
    rw [← eU3]
    have hHU3 : RI U3 := by rw [eU3]; exact RI_w hH
    have hFU3 : FR md_wo_setAdjective__p S U3 := by rw [eU3]; exact FR.wI hF (mdf_i (r := (25, 65, 0, 100000)) (List.mem_of_getElem? (i := 0) rfl) (inR_i (by omega) (by omega) (by omega) (by omega)))
    have w18 : Xi U3 (25 + (row).toNat) ((a).toNat) = 1 := by rw [eU3]; exact Xi_same (by unfold rg; omega)
    have e27 : U3 = stA0 S row a holds := by unfold stA0; first | (rw [if_pos (show holds = 0 by omega)]; exact eU3) | (rw [if_neg (show ¬ holds = 0 by omega)]; exact eU3)
    refine y_iload rfl rfl ?_
    refine y_iconst rfl ?_
    refine y_icmp_eq rfl rfl (by unfold rg; omega) (by unfold rg; omega) (fun w19 => ?_) (fun w20 => ?_)
    · refine y_return rfl rfl ?_
      exact ⟨hHU3, hFU3, rfl, (by first | (have t := K51; exact e51) | (unfold stAd; rw [if_pos (by omega)]; exact e27))⟩
    · refine y_aload_n rfl rfl ?_
      refine y_gfr rfl rfl rfl rfl rfl (hHU3.r 20 5 24 rfl) ?_
      refine y_iload_n rfl rfl ?_
      refine y_aaload (n := 40) (a := 25 + (row).toNat) rfl rfl (by decide) (by omega) (by omega) (by unfold rg; omega) (hHU3.rw 24 25 40 _ (by decide) (by omega)) ?_
      refine y_iload rfl rfl ?_
      refine y_iload_n rfl rfl ?_
      refine y_if_eq rfl rfl (by unfold rg; omega) (fun w21 => ?_) (fun w22 => ?_)
      · exfalso; omega
      · refine y_iconst rfl ?_
        refine y_goto rfl rfl ?_
        refine y_iastoreP (n := 24) rfl (lay_25 (by omega)) (by unfold rg; omega) (fun w23 w24 => ?_)
        obtain ⟨U4, eU4⟩ : ∃ T : sS, T = uI U3 (25 + (row).toNat) (((Xi S 11 ((a).toNat))).toNat) (Int32.ofInt (-1)) := ⟨_, rfl⟩
        rw [← eU4]
        have hHU4 : RI U4 := by rw [eU4]; exact RI_w hHU3
        have hFU4 : FR md_wo_setAdjective__p S U4 := by rw [eU4]; exact FR.wI hFU3 (mdf_i (r := (25, 65, 0, 100000)) (List.mem_of_getElem? (i := 0) rfl) (inR_i (by omega) (by omega) (by omega) (by omega)))
        have w25 : Xi U4 (25 + (row).toNat) (((Xi S 11 ((a).toNat))).toNat) = (-1) := by rw [eU4]; exact Xi_same (by unfold rg; omega)
        have K51 : True := trivial
        have e51 : U4 = stAd S row a holds := by unfold stAd; rw [if_neg (by omega), ← e27]; first | (rw [if_pos (show holds = 0 by omega)]; exact eU4) | (rw [if_neg (show ¬ holds = 0 by omega)]; exact eU4)
        refine y_return rfl rfl ?_
        exact ⟨hHU4, hFU4, rfl, (by first | (have t := K51; exact e51) | (unfold stAd; rw [if_pos (by omega)]; exact e27))⟩
def md_wo_tellAdjective__p : List rec := [(25, 65, 0, 100000)]
abbrev Q_wo_tellAdjective__p (S : sS) (row : Int) (a : Int) (holds : Int) : pst := fun r S1 => RI S1 ∧ FR md_wo_tellAdjective__p S S1 ∧ (∃ z : Int, r = some (iv z) ∧ (0 ≤ z ∧ z ≤ 1) ∧ (TADC S S1 z row a holds))
set_option maxRecDepth 100000 in
theorem t_wo_tellAdjective__p {S : sS} (hH : RI S) (row : Int) (a : Int) (holds : Int) (hrow : 0 ≤ row ∧ row ≤ 39) (ha : -2147483648 ≤ a ∧ a ≤ 2147483647) (hholds : 0 ≤ holds ∧ holds ≤ 1) (d : Nat) : Mp lay0 (d + 2) m_wo_tellAdjective [.ref 20, iv row, iv a, iv holds] S (Q_wo_tellAdjective__p S row a holds) := by
  refine Mp_R rfl rfl (fun fu => ?_)
  have hF : FR md_wo_tellAdjective__p S S := FR.rf
  refine y_aload_n rfl rfl ?_
  refine y_gfr rfl rfl rfl rfl rfl (hH.r 20 5 24 rfl) ?_
  refine y_iload_n rfl rfl ?_
  refine y_aaload (n := 40) (a := 25 + (row).toNat) rfl rfl (by decide) (by omega) (by omega) (by unfold rg; omega) (hH.rw 24 25 40 _ (by decide) (by omega)) ?_
  refine y_iload_n rfl rfl ?_
  refine y_ialoadP (n := 24) rfl (lay_25 (by omega)) (by unfold rg; omega) (fun w1 w2 => ?_)
  have w3 : -2147483648 ≤ (Xi S (25 + (row).toNat) ((a).toNat)) ∧ (Xi S (25 + (row).toNat) ((a).toNat)) ≤ 2147483647 := Xi_rgI
  refine y_iload_n rfl rfl ?_
  refine y_if_eq rfl rfl (by unfold rg; omega) (fun w4 => ?_) (fun w5 => ?_)
  · refine y_iconst rfl ?_
    refine y_icmp_ne rfl rfl (by unfold rg; omega) (by unfold rg; omega) (fun w6 => ?_) (fun w7 => ?_)
    · refine y_aload_n rfl rfl ?_
      have q22 : Xi S (25 + row.toNat) a.toNat ≠ (if holds = 0 then 1 else -1) := by first | (rw [if_pos (show holds = 0 by omega)]; omega) | (rw [if_neg (show ¬ holds = 0 by omega)]; omega)
      refine y_iload_n rfl rfl ?_
      refine y_iload_n rfl rfl ?_
      refine y_iload_n rfl rfl ?_
      refine y_callV rfl rfl rfl (t_wo_setAdjective__p hH row a holds ⟨by omega, by omega⟩ ⟨by omega, by omega⟩ ⟨by omega, by omega⟩ _) ?_
      rintro _ T1 ⟨hHT1, w9, rfl, e26⟩
      have hFT1 : FR md_wo_tellAdjective__p S T1 := FR.tr hF w9 rfl
      show Pl _ _ _ _ _ _ [] _ _
      have K26 : True := trivial
      refine y_iconst rfl ?_
      refine y_ireturn rfl rfl ?_
      exact ⟨hHT1, hFT1, _, rfl, ⟨by omega, by omega⟩, (by first | (have t := K26; exact tadc_y q22 e26) | exact tadc_n (by first | (rw [if_pos (show holds = 0 by omega)]; omega) | (rw [if_neg (show ¬ holds = 0 by omega)]; omega)))⟩
    · refine y_iconst rfl ?_
      refine y_ireturn rfl rfl ?_
      exact ⟨hH, hF, _, rfl, ⟨by omega, by omega⟩, (by first | (have t := K26; exact tadc_y q22 e26) | exact tadc_n (by first | (rw [if_pos (show holds = 0 by omega)]; omega) | (rw [if_neg (show ¬ holds = 0 by omega)]; omega)))⟩
  · refine y_iconst rfl ?_
    refine y_goto rfl rfl ?_
    refine y_icmp_ne rfl rfl (by unfold rg; omega) (by unfold rg; omega) (fun w10 => ?_) (fun w11 => ?_)
    · refine y_aload_n rfl rfl ?_
      have q22 : Xi S (25 + row.toNat) a.toNat ≠ (if holds = 0 then 1 else -1) := by first | (rw [if_pos (show holds = 0 by omega)]; omega) | (rw [if_neg (show ¬ holds = 0 by omega)]; omega)
      refine y_iload_n rfl rfl ?_
      refine y_iload_n rfl rfl ?_
      refine y_iload_n rfl rfl ?_
      refine y_callV rfl rfl rfl (t_wo_setAdjective__p hH row a holds ⟨by omega, by omega⟩ ⟨by omega, by omega⟩ ⟨by omega, by omega⟩ _) ?_
      rintro _ T2 ⟨hHT2, w13, rfl, e26⟩
      have hFT2 : FR md_wo_tellAdjective__p S T2 := FR.tr hF w13 rfl
      show Pl _ _ _ _ _ _ [] _ _
      have K26 : True := trivial
      refine y_iconst rfl ?_
      refine y_ireturn rfl rfl ?_
      exact ⟨hHT2, hFT2, _, rfl, ⟨by omega, by omega⟩, (by first | (have t := K26; exact tadc_y q22 e26) | exact tadc_n (by first | (rw [if_pos (show holds = 0 by omega)]; omega) | (rw [if_neg (show ¬ holds = 0 by omega)]; omega)))⟩
    · refine y_iconst rfl ?_
      refine y_ireturn rfl rfl ?_
      exact ⟨hH, hF, _, rfl, ⟨by omega, by omega⟩, (by first | (have t := K26; exact tadc_y q22 e26) | exact tadc_n (by first | (rw [if_pos (show holds = 0 by omega)]; omega) | (rw [if_neg (show ¬ holds = 0 by omega)]; omega)))⟩
def md_wo_tellKind__p : List rec := [(21, 22, 0, 100000)]
abbrev Q_wo_tellKind__p (S : sS) (o : Int) (kind : Int) : pst := fun r S1 => RI S1 ∧ FR md_wo_tellKind__p S S1 ∧ (∃ z : Int, r = some (iv z) ∧ (0 ≤ z ∧ z ≤ 1) ∧ (TKDC S S1 z o kind))
set_option maxRecDepth 100000 in
theorem t_wo_tellKind__p {S : sS} (hH : RI S) (o : Int) (kind : Int) (ho : -2147483648 ≤ o ∧ o ≤ 2147483647) (hkind : -2147483648 ≤ kind ∧ kind ≤ 2147483647) (d : Nat) : Mp lay0 (d + 2) m_wo_tellKind [.ref 20, iv o, iv kind] S (Q_wo_tellKind__p S o kind) := by
  refine Mp_R rfl rfl (fun fu => ?_)
  have hF : FR md_wo_tellKind__p S S := FR.rf
  refine y_aload_n rfl rfl ?_
  refine y_gfr rfl rfl rfl rfl rfl (hH.r 20 0 1 rfl) ?_
  refine y_iload_n rfl rfl ?_
  refine y_aload_n rfl rfl ?_
  refine y_gfr rfl rfl rfl rfl rfl (hH.r 20 2 21 rfl) ?_
  refine y_iload_n rfl rfl ?_
  refine y_ialoadP (n := 24) rfl rfl (by unfold rg; omega) (fun w1 w2 => ?_)
  have w3 : -2147483648 ≤ (Xi S 21 ((o).toNat)) ∧ (Xi S 21 ((o).toNat)) ≤ 2147483647 := Xi_rgI
  refine y_callV rfl rfl rfl (t_vo_isKind__p hH kind (Xi S 21 ((o).toNat)) ⟨by omega, by omega⟩ ⟨by omega, by omega⟩ _) ?_
  rintro _ _ ⟨rfl, z4, rfl, w4, q11⟩
  show Pl _ _ _ _ _ _ [iv z4] _ _
  refine y_if_eq rfl rfl (by unfold rg; omega) (fun w5 => ?_) (fun w6 => ?_)
  · refine y_aload_n rfl rfl ?_
    refine y_gfr rfl rfl rfl rfl rfl (hH.r 20 0 1 rfl) ?_
    refine y_aload_n rfl rfl ?_
    refine y_gfr rfl rfl rfl rfl rfl (hH.r 20 2 21 rfl) ?_
    refine y_iload_n rfl rfl ?_
    refine y_ialoadP (n := 24) rfl rfl (by unfold rg; omega) (fun w7 w8 => ?_)
    refine y_iload_n rfl rfl ?_
    refine y_callV rfl rfl rfl (t_vo_isKind__p hH (Xi S 21 ((o).toNat)) kind ⟨by omega, by omega⟩ ⟨by omega, by omega⟩ _) ?_
    rintro _ _ ⟨rfl, z9, rfl, w9, q37⟩
    show Pl _ _ _ _ _ _ [iv z9] _ _
    refine y_ireturn rfl (retI_z (by omega)) ?_
    exact ⟨hH, hF, _, rfl, ⟨by omega, by omega⟩, (by first | (have t := K23; exact ⟨fun _ => ⟨rfl, ee23⟩, fun q => absurd (by omega) q⟩) | exact ⟨fun q => absurd q (by omega), fun _ => ⟨q37, rfl⟩⟩)⟩
  · refine y_aload_n rfl rfl ?_
    refine y_gfr rfl rfl rfl rfl rfl (hH.r 20 2 21 rfl) ?_
    refine y_iload_n rfl rfl ?_
    refine y_iload_n rfl rfl ?_
    refine y_iastoreP (n := 24) rfl rfl (by unfold rg; omega) (fun w10 w11 => ?_)
    obtain ⟨U1, eU1⟩ : ∃ T : sS, T = uI S 21 ((o).toNat) (Int32.ofInt kind) := ⟨_, rfl⟩
    rw [← eU1]
    have hHU1 : RI U1 := by rw [eU1]; exact RI_w hH
    have hFU1 : FR md_wo_tellKind__p S U1 := by rw [eU1]; exact FR.wI hF (mdf_i (r := (21, 22, 0, 100000)) (List.mem_of_getElem? (i := 0) rfl) (inR_i (by omega) (by omega) (by omega) (by omega)))
    have w12 : Xi U1 21 ((o).toNat) = kind := by rw [eU1]; exact Xi_same (by unfold rg; omega)
    have K23 : True := trivial
    have ee23 := eU1
    refine y_iconst rfl ?_
    refine y_ireturn rfl rfl ?_
    exact ⟨hHU1, hFU1, _, rfl, ⟨by omega, by omega⟩, (by first | (have t := K23; exact ⟨fun _ => ⟨rfl, ee23⟩, fun q => absurd (by omega) q⟩) | exact ⟨fun q => absurd q (by omega), fun _ => ⟨q37, rfl⟩⟩)⟩
abbrev Q_wo_isWithin__p (S : sS) (o : Int) (other : Int) : pst := fun r S1 => S = S1 ∧ (∃ z : Int, r = some (iv z) ∧ (0 ≤ z ∧ z ≤ 1) ∧ (z = isW S o other))
set_option maxRecDepth 100000 in
theorem t_wo_isWithin__p {S : sS} (hH : RI S) (o : Int) (other : Int) (ho : -2147483648 ≤ o ∧ o ≤ 2147483647) (hother : -2147483648 ≤ other ∧ other ≤ 2147483647) (d : Nat) : Mp lay0 (d + 1) m_wo_isWithin [.ref 20, iv o, iv other] S (Q_wo_isWithin__p S o other) := by
  refine Mp_R rfl rfl (fun fu => ?_)
  have C5 : ∀ (n5 : Nat) (_ : n5 ≤ fu) (v3 : Int) (v4 : Int), (-2147483648 ≤ v3 ∧ v3 ≤ 2147483647) → (0 ≤ v4 ∧ v4 ≤ 25) → (isW S o other = isWn S other (25 - v4).toNat v3) → Pl n5 lay0 (d + 0) m_wo_isWithin 5 [(0, .ref 20), (2, iv other), (3, iv v3), (4, iv v4)] [] S (Q_wo_isWithin__p S o other) := by
    intro n5
    induction n5 with
    | zero => intros; exact Pl_0
    | succ n5 ih5 =>
      intro hm5 v3 v4 w1 w2 hq
      refine ys_iload rfl rfl ?_
      refine y_bipush rfl rfl ?_
      refine y_icmp_gt rfl rfl (by unfold rg; omega) (by unfold rg; omega) (fun w3 => ?_) (fun w4 => ?_)
      · refine y_iconst rfl ?_
        refine y_ireturn rfl rfl ?_
        exact ⟨rfl, _, rfl, ⟨by omega, by omega⟩, (by first | exact (hq.trans (isWn_f (by omega) (by omega) (by omega))).symm | exact (hq.trans (isWn_e (by omega))).symm)⟩
      · refine y_iload_n rfl rfl ?_
        refine y_if_lt rfl rfl (by unfold rg; omega) (fun w5 => ?_) (fun w6 => ?_)
        · refine y_iconst rfl ?_
          refine y_ireturn rfl rfl ?_
          exact ⟨rfl, _, rfl, ⟨by omega, by omega⟩, (by first | exact (hq.trans (isWn_f (by omega) (by omega) (by omega))).symm | exact (hq.trans (isWn_e (by omega))).symm)⟩
        · refine y_iload_n rfl rfl ?_
          refine y_iload_n rfl rfl ?_
          refine y_icmp_ne rfl rfl (by unfold rg; omega) (by unfold rg; omega) (fun w7 => ?_) (fun w8 => ?_)
          · refine y_aload_n rfl rfl ?_
            refine y_gfr rfl rfl rfl rfl rfl (hH.r 20 4 23 rfl) ?_
            refine y_iload_n rfl rfl ?_
            refine y_ialoadP (n := 24) rfl rfl (by unfold rg; omega) (fun w9 w10 => ?_)
            have w11 : -2147483648 ≤ (Xi S 23 ((v3).toNat)) ∧ (Xi S 23 ((v3).toNat)) ≤ 2147483647 := Xi_rgI
            refine y_istore_n rfl rfl rfl ?_
            refine y_iinc rfl rfl rfl rfl ?_
            refine y_goto rfl rfl ?_
            exact Pl_weak (ih5 (by omega) ((Xi S 23 ((v3).toNat))) ((v4 + 1)) (by omega) (by omega) (by first | exact hq.trans (isWn_s (by omega) (by omega) (by omega)) | rfl)) (by omega) (And.intro rfl (And.intro rfl (And.intro rfl (And.intro rfl (True.intro)))))
          · refine y_iconst rfl ?_
            refine y_ireturn rfl rfl ?_
            exact ⟨rfl, _, rfl, ⟨by omega, by omega⟩, (by first | exact (hq.trans (isWn_f (by omega) (by omega) (by omega))).symm | exact (hq.trans (isWn_e (by omega))).symm)⟩
  refine y_iload_n rfl rfl ?_
  refine y_istore_n rfl rfl rfl ?_
  refine y_iconst rfl ?_
  refine y_istore rfl rfl rfl ?_
  exact Pl_weak (C5 fu (by omega) (o) (0) (by omega) (by omega) (by first | exact hq.trans (isWn_s (by omega) (by omega) (by omega)) | rfl)) (by omega) (And.intro rfl (And.intro rfl (And.intro rfl (And.intro rfl (True.intro)))))
def md_wo_tellPlace__p : List rec := [(22, 23, 0, 100000), (23, 24, 0, 100000)]
abbrev Q_wo_tellPlace__p (S : sS) (o : Int) (how : Int) (where_ : Int) : pst := fun r S1 => RI S1 ∧ FR md_wo_tellPlace__p S S1 ∧ (∃ z : Int, r = some (iv z) ∧ (-2147483648 ≤ z ∧ z ≤ 2147483647) ∧ (TPLC S S1 z o how where_))
set_option maxRecDepth 100000 in
theorem t_wo_tellPlace__p {S : sS} (hH : RI S) (o : Int) (how : Int) (where_ : Int) (ho : -2147483648 ≤ o ∧ o ≤ 2147483647) (hhow : -2147483648 ≤ how ∧ how ≤ 2147483647) (hwhere_ : -2147483648 ≤ where_ ∧ where_ ≤ 2147483647) (d : Nat) : Mp lay0 (d + 3) m_wo_tellPlace [.ref 20, iv o, iv how, iv where_] S (Q_wo_tellPlace__p S o how where_) := by
  refine Mp_R rfl rfl (fun fu => ?_)
  have hF : FR md_wo_tellPlace__p S S := FR.rf
  refine y_aload_n rfl rfl ?_
  refine y_iload_n rfl rfl ?_
  refine y_iconst rfl ?_
  refine y_callV rfl rfl rfl (t_wo_isA__p hH o 0 ⟨by omega, by omega⟩ ⟨by omega, by omega⟩ _) ?_
  rintro _ _ ⟨rfl, z1, rfl, w1, q3⟩
  show Pl _ _ _ _ _ _ [iv z1] _ _
  refine y_if_ne rfl rfl (by unfold rg; omega) (fun w2 => ?_) (fun w3 => ?_)
  · refine y_aload_n rfl rfl ?_
    refine y_gfr rfl rfl rfl rfl rfl (hH.r 20 3 22 rfl) ?_
    refine y_iload_n rfl rfl ?_
    refine y_ialoadP (n := 24) rfl rfl (by unfold rg; omega) (fun w4 w5 => ?_)
    have w6 : -2147483648 ≤ (Xi S 22 ((o).toNat)) ∧ (Xi S 22 ((o).toNat)) ≤ 2147483647 := Xi_rgI
    refine y_if_eq rfl rfl (by unfold rg; omega) (fun w7 => ?_) (fun w8 => ?_)
    · refine y_aload_n rfl rfl ?_
      refine y_iload_n rfl rfl ?_
      refine y_iload_n rfl rfl ?_
      refine y_callV rfl rfl rfl (t_wo_isWithin__p hH where_ o ⟨by omega, by omega⟩ ⟨by omega, by omega⟩ _) ?_
      rintro _ _ ⟨rfl, z9, rfl, w9, q49⟩
      show Pl _ _ _ _ _ _ [iv z9] _ _
      refine y_if_eq rfl rfl (by unfold rg; omega) (fun w10 => ?_) (fun w11 => ?_)
      · refine y_aload_n rfl rfl ?_
        refine y_iload_n rfl rfl ?_
        refine y_iload_n rfl rfl ?_
        refine y_iload_n rfl rfl ?_
        refine y_callV rfl rfl rfl (t_wo_place__p hH o how where_ ⟨by omega, by omega⟩ ⟨by omega, by omega⟩ ⟨by omega, by omega⟩ _) ?_
        rintro _ T1 ⟨hHT1, w13, rfl, e62⟩
        have hFT1 : FR md_wo_tellPlace__p S T1 := FR.tr hF w13 rfl
        show Pl _ _ _ _ _ _ [] _ _
        have K62 : True := trivial
        refine y_iconst rfl ?_
        refine y_ireturn rfl rfl ?_
        exact ⟨hHT1, hFT1, _, rfl, ⟨by omega, by omega⟩, (by first | (have t := K62; exact ⟨fun q => absurd (by omega) q, fun _ q => absurd (by omega) q, fun _ q => absurd (by omega) q, fun _ _ q => absurd q (by omega), fun _ _ _ => ⟨rfl, e62⟩⟩) | (have t := K55; exact ⟨fun q => absurd (by omega) q, fun _ q => absurd (by omega) q, fun _ q => absurd (by omega) q, fun _ _ _ => ⟨rfl, rfl⟩, fun _ _ q => absurd (by omega) q⟩) | (have t := K40; exact ⟨fun q => absurd (by omega) q, fun _ _ _ => ⟨rfl, rfl⟩, fun _ _ q => absurd (by omega) q, fun _ q => absurd q (by omega), fun _ q => absurd q (by omega)⟩) | (have t := K44; exact ⟨fun q => absurd (by omega) q, fun _ _ q => absurd q (by omega), fun _ _ _ => ⟨rfl, rfl⟩, fun _ q => absurd q (by omega), fun _ q => absurd q (by omega)⟩) | exact ⟨fun _ => ⟨rfl, rfl⟩, fun q => absurd q (by omega), fun q => absurd q (by omega), fun q => absurd q (by omega), fun q => absurd q (by omega)⟩)⟩
      · refine y_bipush rfl rfl ?_
        have K55 : True := trivial
        refine y_ireturn rfl rfl ?_
        exact ⟨hH, hF, _, rfl, ⟨by omega, by omega⟩, (by first | (have t := K62; exact ⟨fun q => absurd (by omega) q, fun _ q => absurd (by omega) q, fun _ q => absurd (by omega) q, fun _ _ q => absurd q (by omega), fun _ _ _ => ⟨rfl, e62⟩⟩) | (have t := K55; exact ⟨fun q => absurd (by omega) q, fun _ q => absurd (by omega) q, fun _ q => absurd (by omega) q, fun _ _ _ => ⟨rfl, rfl⟩, fun _ _ q => absurd (by omega) q⟩) | (have t := K40; exact ⟨fun q => absurd (by omega) q, fun _ _ _ => ⟨rfl, rfl⟩, fun _ _ q => absurd (by omega) q, fun _ q => absurd q (by omega), fun _ q => absurd q (by omega)⟩) | (have t := K44; exact ⟨fun q => absurd (by omega) q, fun _ _ q => absurd q (by omega), fun _ _ _ => ⟨rfl, rfl⟩, fun _ q => absurd q (by omega), fun _ q => absurd q (by omega)⟩) | exact ⟨fun _ => ⟨rfl, rfl⟩, fun q => absurd q (by omega), fun q => absurd q (by omega), fun q => absurd q (by omega), fun q => absurd q (by omega)⟩)⟩
    · refine y_aload_n rfl rfl ?_
      refine y_gfr rfl rfl rfl rfl rfl (hH.r 20 3 22 rfl) ?_
      refine y_iload_n rfl rfl ?_
      refine y_ialoadP (n := 24) rfl rfl (by unfold rg; omega) (fun w14 w15 => ?_)
      refine y_iload_n rfl rfl ?_
      refine y_icmp_ne rfl rfl (by unfold rg; omega) (by unfold rg; omega) (fun w16 => ?_) (fun w17 => ?_)
      · refine y_iconst rfl ?_
        have K44 : True := trivial
        refine y_ireturn rfl rfl ?_
        exact ⟨hH, hF, _, rfl, ⟨by omega, by omega⟩, (by first | (have t := K62; exact ⟨fun q => absurd (by omega) q, fun _ q => absurd (by omega) q, fun _ q => absurd (by omega) q, fun _ _ q => absurd q (by omega), fun _ _ _ => ⟨rfl, e62⟩⟩) | (have t := K55; exact ⟨fun q => absurd (by omega) q, fun _ q => absurd (by omega) q, fun _ q => absurd (by omega) q, fun _ _ _ => ⟨rfl, rfl⟩, fun _ _ q => absurd (by omega) q⟩) | (have t := K40; exact ⟨fun q => absurd (by omega) q, fun _ _ _ => ⟨rfl, rfl⟩, fun _ _ q => absurd (by omega) q, fun _ q => absurd q (by omega), fun _ q => absurd q (by omega)⟩) | (have t := K44; exact ⟨fun q => absurd (by omega) q, fun _ _ q => absurd q (by omega), fun _ _ _ => ⟨rfl, rfl⟩, fun _ q => absurd q (by omega), fun _ q => absurd q (by omega)⟩) | exact ⟨fun _ => ⟨rfl, rfl⟩, fun q => absurd q (by omega), fun q => absurd q (by omega), fun q => absurd q (by omega), fun q => absurd q (by omega)⟩)⟩
      · refine y_aload_n rfl rfl ?_
        refine y_gfr rfl rfl rfl rfl rfl (hH.r 20 4 23 rfl) ?_
        refine y_iload_n rfl rfl ?_
        refine y_ialoadP (n := 24) rfl rfl (by unfold rg; omega) (fun w18 w19 => ?_)
        have w20 : -2147483648 ≤ (Xi S 23 ((o).toNat)) ∧ (Xi S 23 ((o).toNat)) ≤ 2147483647 := Xi_rgI
        refine y_iload_n rfl rfl ?_
        refine y_icmp_ne rfl rfl (by unfold rg; omega) (by unfold rg; omega) (fun w21 => ?_) (fun w22 => ?_)
        · refine y_iconst rfl ?_
          have K44 : True := trivial
          refine y_ireturn rfl rfl ?_
          exact ⟨hH, hF, _, rfl, ⟨by omega, by omega⟩, (by first | (have t := K62; exact ⟨fun q => absurd (by omega) q, fun _ q => absurd (by omega) q, fun _ q => absurd (by omega) q, fun _ _ q => absurd q (by omega), fun _ _ _ => ⟨rfl, e62⟩⟩) | (have t := K55; exact ⟨fun q => absurd (by omega) q, fun _ q => absurd (by omega) q, fun _ q => absurd (by omega) q, fun _ _ _ => ⟨rfl, rfl⟩, fun _ _ q => absurd (by omega) q⟩) | (have t := K40; exact ⟨fun q => absurd (by omega) q, fun _ _ _ => ⟨rfl, rfl⟩, fun _ _ q => absurd (by omega) q, fun _ q => absurd q (by omega), fun _ q => absurd q (by omega)⟩) | (have t := K44; exact ⟨fun q => absurd (by omega) q, fun _ _ q => absurd q (by omega), fun _ _ _ => ⟨rfl, rfl⟩, fun _ q => absurd q (by omega), fun _ q => absurd q (by omega)⟩) | exact ⟨fun _ => ⟨rfl, rfl⟩, fun q => absurd q (by omega), fun q => absurd q (by omega), fun q => absurd q (by omega), fun q => absurd q (by omega)⟩)⟩
        · refine y_iconst rfl ?_
          have K40 : True := trivial
          refine y_goto rfl rfl ?_
          refine y_ireturn rfl rfl ?_
          exact ⟨hH, hF, _, rfl, ⟨by omega, by omega⟩, (by first | (have t := K62; exact ⟨fun q => absurd (by omega) q, fun _ q => absurd (by omega) q, fun _ q => absurd (by omega) q, fun _ _ q => absurd q (by omega), fun _ _ _ => ⟨rfl, e62⟩⟩) | (have t := K55; exact ⟨fun q => absurd (by omega) q, fun _ q => absurd (by omega) q, fun _ q => absurd (by omega) q, fun _ _ _ => ⟨rfl, rfl⟩, fun _ _ q => absurd (by omega) q⟩) | (have t := K40; exact ⟨fun q => absurd (by omega) q, fun _ _ _ => ⟨rfl, rfl⟩, fun _ _ q => absurd (by omega) q, fun _ q => absurd q (by omega), fun _ q => absurd q (by omega)⟩) | (have t := K44; exact ⟨fun q => absurd (by omega) q, fun _ _ q => absurd q (by omega), fun _ _ _ => ⟨rfl, rfl⟩, fun _ q => absurd q (by omega), fun _ q => absurd q (by omega)⟩) | exact ⟨fun _ => ⟨rfl, rfl⟩, fun q => absurd q (by omega), fun q => absurd q (by omega), fun q => absurd q (by omega), fun q => absurd q (by omega)⟩)⟩
  · refine y_iconst rfl ?_
    refine y_ireturn rfl rfl ?_
    exact ⟨hH, hF, _, rfl, ⟨by omega, by omega⟩, (by first | (have t := K62; exact ⟨fun q => absurd (by omega) q, fun _ q => absurd (by omega) q, fun _ q => absurd (by omega) q, fun _ _ q => absurd q (by omega), fun _ _ _ => ⟨rfl, e62⟩⟩) | (have t := K55; exact ⟨fun q => absurd (by omega) q, fun _ q => absurd (by omega) q, fun _ q => absurd (by omega) q, fun _ _ _ => ⟨rfl, rfl⟩, fun _ _ q => absurd (by omega) q⟩) | (have t := K40; exact ⟨fun q => absurd (by omega) q, fun _ _ _ => ⟨rfl, rfl⟩, fun _ _ q => absurd (by omega) q, fun _ q => absurd q (by omega), fun _ q => absurd q (by omega)⟩) | (have t := K44; exact ⟨fun q => absurd (by omega) q, fun _ _ q => absurd q (by omega), fun _ _ _ => ⟨rfl, rfl⟩, fun _ q => absurd q (by omega), fun _ q => absurd q (by omega)⟩) | exact ⟨fun _ => ⟨rfl, rfl⟩, fun q => absurd q (by omega), fun q => absurd q (by omega), fun q => absurd q (by omega), fun q => absurd q (by omega)⟩)⟩
def md_wo_tellWay__p : List rec := [(20, 21, 12, 13), (196, 220, 0, 100000), (221, 245, 0, 100000)]
abbrev Q_wo_tellWay__p (S : sS) (room : Int) (dir : Int) (to : Int) : pst := fun r S1 => RI S1 ∧ FR md_wo_tellWay__p S S1 ∧ (∃ z : Int, r = some (iv z) ∧ (0 ≤ z ∧ z ≤ 1) ∧ (TWYC S S1 z room dir to))
set_option maxRecDepth 100000 in
theorem t_wo_tellWay__p {S : sS} (hH : RI S) (room : Int) (dir : Int) (to : Int) (hroom : 0 ≤ room ∧ room ≤ 23) (hdir : -2147483648 ≤ dir ∧ dir ≤ 2147483647) (hto : -2147483648 ≤ to ∧ to ≤ 2147483647) (hw : 0 ≤ Xi S 20 12 ∧ Xi S 20 12 ≤ 1000000) (d : Nat) : Mp lay0 (d + 1) m_wo_tellWay [.ref 20, iv room, iv dir, iv to] S (Q_wo_tellWay__p S room dir to) := by
  refine Mp_R rfl rfl (fun fu => ?_)
  have hF : FR md_wo_tellWay__p S S := FR.rf
  have w1 : -2147483648 ≤ Xi S 20 12 ∧ Xi S 20 12 ≤ 2147483647 := Xi_rgI
  refine y_aload_n rfl rfl ?_
  refine y_gfr rfl rfl rfl rfl rfl (hH.r 20 10 195 rfl) ?_
  refine y_iload_n rfl rfl ?_
  refine y_aaload (n := 24) (a := 196 + (room).toNat) rfl rfl (by decide) (by omega) (by omega) (by unfold rg; omega) (hH.rw 195 196 24 _ (by decide) (by omega)) ?_
  refine y_iload_n rfl rfl ?_
  refine y_ialoadP (n := 6) rfl (lay_196 (by omega)) (by unfold rg; omega) (fun w2 w3 => ?_)
  have w4 : -2147483648 ≤ (Xi S (196 + (room).toNat) ((dir).toNat)) ∧ (Xi S (196 + (room).toNat) ((dir).toNat)) ≤ 2147483647 := Xi_rgI
  refine y_iconst rfl ?_
  refine y_icmp_eq rfl rfl (by unfold rg; omega) (by unfold rg; omega) (fun w5 => ?_) (fun w6 => ?_)
  · refine y_aload_n rfl rfl ?_
    refine y_gfr rfl rfl rfl rfl rfl (hH.r 20 10 195 rfl) ?_
    refine y_iload_n rfl rfl ?_
    refine y_aaload (n := 24) (a := 196 + (room).toNat) rfl rfl (by decide) (by omega) (by omega) (by unfold rg; omega) (hH.rw 195 196 24 _ (by decide) (by omega)) ?_
    refine y_iload_n rfl rfl ?_
    refine y_iload_n rfl rfl ?_
    refine y_iastoreP (n := 6) rfl (lay_196 (by omega)) (by unfold rg; omega) (fun w7 w8 => ?_)
    obtain ⟨U1, eU1⟩ : ∃ T : sS, T = uI S (196 + (room).toNat) ((dir).toNat) (Int32.ofInt to) := ⟨_, rfl⟩
    rw [← eU1]
    have hHU1 : RI U1 := by rw [eU1]; exact RI_w hH
    have hFU1 : FR md_wo_tellWay__p S U1 := by rw [eU1]; exact FR.wI hF (mdf_i (r := (196, 220, 0, 100000)) (List.mem_of_getElem? (i := 1) rfl) (inR_i (by omega) (by omega) (by omega) (by omega)))
    have w9 : Xi U1 (196 + (room).toNat) ((dir).toNat) = to := by rw [eU1]; exact Xi_same (by unfold rg; omega)
    have ee38 := eU1
    have a38 : Xi U1 20 12 = Xi S 20 12 := by rw [eU1]; exact Xi_ne (by omega)
    refine y_aload_n rfl rfl ?_
    refine y_gfr rfl rfl rfl rfl rfl (hHU1.r 20 11 220 rfl) ?_
    refine y_iload_n rfl rfl ?_
    refine y_aaload (n := 24) (a := 221 + (room).toNat) rfl rfl (by decide) (by omega) (by omega) (by unfold rg; omega) (hHU1.rw 220 221 24 _ (by decide) (by omega)) ?_
    refine y_iload_n rfl rfl ?_
    refine y_aload_n rfl rfl ?_
    refine y_gfi rfl rfl rfl rfl rfl ?_
    have w10 : (Xi U1 20 12) = (Xi S 20 12) := (show Xi U1 20 12 = Xi S 20 12 from by rw [eU1]; exact Xi_ne (by omega))
    rw [w10]
    refine y_iastoreP (n := 6) rfl (lay_221 (by omega)) (by unfold rg; omega) (fun w11 w12 => ?_)
    obtain ⟨U2, eU2⟩ : ∃ T : sS, T = uI U1 (221 + (room).toNat) ((dir).toNat) (Int32.ofInt (Xi S 20 12)) := ⟨_, rfl⟩
    rw [← eU2]
    have hHU2 : RI U2 := by rw [eU2]; exact RI_w hHU1
    have hFU2 : FR md_wo_tellWay__p S U2 := by rw [eU2]; exact FR.wI hFU1 (mdf_i (r := (221, 245, 0, 100000)) (List.mem_of_getElem? (i := 2) rfl) (inR_i (by omega) (by omega) (by omega) (by omega)))
    have w13 : Xi U2 (221 + (room).toNat) ((dir).toNat) = (Xi S 20 12) := by rw [eU2]; exact Xi_same (by unfold rg; omega)
    have ee50 := eU2
    refine y_aload_n rfl rfl ?_
    refine y_dup rfl rfl ?_
    refine y_gfi rfl rfl rfl rfl rfl ?_
    have w14 : (Xi U2 20 12) = (Xi S 20 12) := (show Xi U2 20 12 = Xi U1 20 12 from by rw [eU2]; exact Xi_ne (by omega)).trans ((show Xi U1 20 12 = Xi S 20 12 from by rw [eU1]; exact Xi_ne (by omega)))
    rw [w14]
    refine y_iconst rfl ?_
    refine y_iadd rfl ?_
    refine y_pfi rfl rfl rfl rfl ?_
    obtain ⟨U3, eU3⟩ : ∃ T : sS, T = uI U2 20 12 (Int32.ofInt ((Xi S 20 12) + 1)) := ⟨_, rfl⟩
    rw [← eU3]
    have hHU3 : RI U3 := by rw [eU3]; exact RI_w hHU2
    have hFU3 : FR md_wo_tellWay__p S U3 := by rw [eU3]; exact FR.wI hFU2 (mdf_i (r := (20, 21, 12, 13)) (List.mem_of_getElem? (i := 0) rfl) (inR_i (by omega) (by omega) (by omega) (by omega)))
    have w15 : Xi U3 20 12 = ((Xi S 20 12) + 1) := by rw [eU3]; exact Xi_same (by unfold rg; omega)
    have K58 : True := trivial
    have R58 : U3 = uI (uI (uI S (196 + room.toNat) dir.toNat (Int32.ofInt to)) (221 + room.toNat) dir.toNat (Int32.ofInt (Xi S 20 12))) 20 12 (Int32.ofInt (Xi S 20 12 + 1)) := by rw [eU3, ee50, ee38]
    refine y_iconst rfl ?_
    refine y_ireturn rfl rfl ?_
    exact ⟨hHU3, hFU3, _, rfl, ⟨by omega, by omega⟩, (by first | (have t := K58; exact ⟨fun _ => ⟨rfl, R58⟩, fun q => absurd (by omega) q, fun q => absurd (by omega) q⟩) | (have t := K24; exact ⟨fun q => absurd q (by omega), fun _ _ => ⟨rfl, rfl⟩, fun _ q => absurd (by omega) q⟩) | exact ⟨fun q => absurd q (by omega), fun _ q => absurd q (by omega), fun _ _ => ⟨rfl, rfl⟩⟩)⟩
  · refine y_aload_n rfl rfl ?_
    refine y_gfr rfl rfl rfl rfl rfl (hH.r 20 10 195 rfl) ?_
    refine y_iload_n rfl rfl ?_
    refine y_aaload (n := 24) (a := 196 + (room).toNat) rfl rfl (by decide) (by omega) (by omega) (by unfold rg; omega) (hH.rw 195 196 24 _ (by decide) (by omega)) ?_
    refine y_iload_n rfl rfl ?_
    refine y_ialoadP (n := 6) rfl (lay_196 (by omega)) (by unfold rg; omega) (fun w16 w17 => ?_)
    refine y_iload_n rfl rfl ?_
    refine y_icmp_ne rfl rfl (by unfold rg; omega) (by unfold rg; omega) (fun w18 => ?_) (fun w19 => ?_)
    · refine y_iconst rfl ?_
      refine y_ireturn rfl rfl ?_
      exact ⟨hH, hF, _, rfl, ⟨by omega, by omega⟩, (by first | (have t := K58; exact ⟨fun _ => ⟨rfl, R58⟩, fun q => absurd (by omega) q, fun q => absurd (by omega) q⟩) | (have t := K24; exact ⟨fun q => absurd q (by omega), fun _ _ => ⟨rfl, rfl⟩, fun _ q => absurd (by omega) q⟩) | exact ⟨fun q => absurd q (by omega), fun _ q => absurd q (by omega), fun _ _ => ⟨rfl, rfl⟩⟩)⟩
    · refine y_iconst rfl ?_
      have K24 : True := trivial
      refine y_goto rfl rfl ?_
      refine y_ireturn rfl rfl ?_
      exact ⟨hH, hF, _, rfl, ⟨by omega, by omega⟩, (by first | (have t := K58; exact ⟨fun _ => ⟨rfl, R58⟩, fun q => absurd (by omega) q, fun q => absurd (by omega) q⟩) | (have t := K24; exact ⟨fun q => absurd q (by omega), fun _ _ => ⟨rfl, rfl⟩, fun _ q => absurd (by omega) q⟩) | exact ⟨fun q => absurd q (by omega), fun _ q => absurd q (by omega), fun _ _ => ⟨rfl, rfl⟩⟩)⟩
def md_mo_tellIs__p : List rec := [(925, 926, 0, 100000), (926, 927, 0, 100000)]
abbrev Q_mo_tellIs__p (S : sS) (base : Int) (a : Int) (iss : Int) : pst := fun r S1 => RI S1 ∧ FR md_mo_tellIs__p S S1 ∧ (∃ z : Int, r = some (iv z) ∧ (0 ≤ z ∧ z ≤ 1) ∧ (TISR S S1 z 925 base a iss))
set_option maxRecDepth 100000 in
theorem t_mo_tellIs__p {S : sS} (hH : RI S) (base : Int) (a : Int) (iss : Int) (hbase : 0 ≤ base ∧ base ≤ 1000) (ha : 0 ≤ a ∧ a ≤ 100) (hiss : 0 ≤ iss ∧ iss ≤ 1) (hct : -1 ≤ Xi S 922 a.toNat ∧ Xi S 922 a.toNat ≤ 100) (d : Nat) : Mp lay0 (d + 1) m_mo_tellIs [.ref 904, .ref 925, iv base, iv a, iv iss] S (Q_mo_tellIs__p S base a iss) := by
  refine Mp_R rfl rfl (fun fu => ?_)
  have hF : FR md_mo_tellIs__p S S := FR.rf
  refine y_iload_n rfl rfl ?_
  refine y_iload_n rfl rfl ?_
  refine y_iadd rfl ?_
  refine y_istore rfl rfl rfl ?_
  refine y_aload_n rfl rfl ?_
  refine y_iload rfl rfl ?_
  refine y_ialoadP (n := 576) rfl rfl (by unfold rg; omega) (fun w1 w2 => ?_)
  have w3 : -2147483648 ≤ (Xi S 925 (((base + a)).toNat)) ∧ (Xi S 925 (((base + a)).toNat)) ≤ 2147483647 := Xi_rgI
  refine y_iload rfl rfl ?_
  refine y_if_eq rfl rfl (by unfold rg; omega) (fun w4 => ?_) (fun w5 => ?_)
  · refine y_iconst rfl ?_
    refine y_icmp_ne rfl rfl (by unfold rg; omega) (by unfold rg; omega) (fun w6 => ?_) (fun w7 => ?_)
    · refine y_aload_n rfl rfl ?_
      have q24 : Xi S 925 (base + a).toNat ≠ (if iss = 0 then 1 else 2) := by first | (rw [if_pos (show iss = 0 by omega)]; omega) | (rw [if_neg (show ¬ iss = 0 by omega)]; omega)
      refine y_iload rfl rfl ?_
      refine y_iload rfl rfl ?_
      refine y_if_eq rfl rfl (by unfold rg; omega) (fun w8 => ?_) (fun w9 => ?_)
      · refine y_iconst rfl ?_
        refine y_iastoreP (n := 576) rfl rfl (by unfold rg; omega) (fun w10 w11 => ?_)
        obtain ⟨U1, eU1⟩ : ∃ T : sS, T = uI S 925 (((base + a)).toNat) (Int32.ofInt 2) := ⟨_, rfl⟩
        rw [← eU1]
        have hHU1 : RI U1 := by rw [eU1]; exact RI_w hH
        have hFU1 : FR md_mo_tellIs__p S U1 := by rw [eU1]; exact FR.wI hF (mdf_i (r := (925, 926, 0, 100000)) (List.mem_of_getElem? (i := 0) rfl) (inR_i (by omega) (by omega) (by omega) (by omega)))
        have w12 : Xi U1 925 (((base + a)).toNat) = 2 := by rw [eU1]; exact Xi_same (by unfold rg; omega)
        have K37 : True := trivial
        have e37 : U1 = uI S 925 (base + a).toNat (Int32.ofInt (if iss = 0 then 2 else 1)) := by first | (rw [if_pos (show iss = 0 by omega)]; exact eU1) | (rw [if_neg (show ¬ iss = 0 by omega)]; exact eU1)
        have c37 : Xi U1 922 a.toNat = Xi S 922 a.toNat := by rw [eU1]; exact Xi_ne (by omega)
        refine y_aload_n rfl rfl ?_
        refine y_gfr rfl rfl rfl rfl rfl (hHU1.r 904 25 922 rfl) ?_
        refine y_iload_n rfl rfl ?_
        refine y_ialoadP (n := 24) rfl rfl (by unfold rg; omega) (fun w13 w14 => ?_)
        have w15 : -2147483648 ≤ (Xi U1 922 ((a).toNat)) ∧ (Xi U1 922 ((a).toNat)) ≤ 2147483647 := Xi_rgI
        refine y_iconst rfl ?_
        refine y_icmp_eq rfl rfl (by unfold rg; omega) (by unfold rg; omega) (fun w16 => ?_) (fun w17 => ?_)
        · refine y_iconst rfl ?_
          have R68 : U1 = rIs S 925 base a iss := by unfold rIs; first | (have t := e67; rw [if_neg (by omega), ← e37]; exact e67) | (rw [if_pos (by omega)]; exact e37)
          refine y_ireturn rfl rfl ?_
          exact ⟨hHU1, hFU1, _, rfl, ⟨by omega, by omega⟩, (by first | (have t := K37; exact ⟨fun q => absurd q q24, fun _ => ⟨rfl, R68⟩⟩) | exact ⟨fun _ => ⟨rfl, rfl⟩, fun q => absurd (by first | (rw [if_pos (show iss = 0 by omega)]; omega) | (rw [if_neg (show ¬ iss = 0 by omega)]; omega)) q⟩)⟩
        · refine y_aload_n rfl rfl ?_
          refine y_iload_n rfl rfl ?_
          refine y_aload_n rfl rfl ?_
          refine y_gfr rfl rfl rfl rfl rfl (hHU1.r 904 25 922 rfl) ?_
          refine y_iload_n rfl rfl ?_
          refine y_ialoadP (n := 24) rfl rfl (by unfold rg; omega) (fun w18 w19 => ?_)
          refine y_iadd rfl ?_
          refine y_iload rfl rfl ?_
          refine y_if_eq rfl rfl (by unfold rg; omega) (fun w20 => ?_) (fun w21 => ?_)
          · refine y_iconst rfl ?_
            refine y_iastoreP (n := 576) rfl rfl (by unfold rg; omega) (fun w22 w23 => ?_)
            obtain ⟨U2, eU2⟩ : ∃ T : sS, T = uI U1 925 (((base + (Xi U1 922 ((a).toNat)))).toNat) (Int32.ofInt 1) := ⟨_, rfl⟩
            rw [← eU2]
            have hHU2 : RI U2 := by rw [eU2]; exact RI_w hHU1
            have hFU2 : FR md_mo_tellIs__p S U2 := by rw [eU2]; exact FR.wI hFU1 (mdf_i (r := (925, 926, 0, 100000)) (List.mem_of_getElem? (i := 0) rfl) (inR_i (by omega) (by omega) (by omega) (by omega)))
            have w24 : Xi U2 925 (((base + (Xi U1 922 ((a).toNat)))).toNat) = 1 := by rw [eU2]; exact Xi_same (by unfold rg; omega)
            have e67 : U2 = uI U1 925 (base + Xi S 922 a.toNat).toNat (Int32.ofInt (if iss = 0 then 1 else 2)) := by rw [← c37]; first | (rw [if_pos (show iss = 0 by omega)]; exact eU2) | (rw [if_neg (show ¬ iss = 0 by omega)]; exact eU2)
            refine y_iconst rfl ?_
            have R68 : U2 = rIs S 925 base a iss := by unfold rIs; first | (have t := e67; rw [if_neg (by omega), ← e37]; exact e67) | (rw [if_pos (by omega)]; exact e37)
            refine y_ireturn rfl rfl ?_
            exact ⟨hHU2, hFU2, _, rfl, ⟨by omega, by omega⟩, (by first | (have t := K37; exact ⟨fun q => absurd q q24, fun _ => ⟨rfl, R68⟩⟩) | exact ⟨fun _ => ⟨rfl, rfl⟩, fun q => absurd (by first | (rw [if_pos (show iss = 0 by omega)]; omega) | (rw [if_neg (show ¬ iss = 0 by omega)]; omega)) q⟩)⟩
          · exfalso; omega
      · exfalso; omega
    · refine y_iconst rfl ?_
      refine y_ireturn rfl rfl ?_
      exact ⟨hH, hF, _, rfl, ⟨by omega, by omega⟩, (by first | (have t := K37; exact ⟨fun q => absurd q q24, fun _ => ⟨rfl, R68⟩⟩) | exact ⟨fun _ => ⟨rfl, rfl⟩, fun q => absurd (by first | (rw [if_pos (show iss = 0 by omega)]; omega) | (rw [if_neg (show ¬ iss = 0 by omega)]; omega)) q⟩)⟩
  · refine y_iconst rfl ?_
    refine y_goto rfl rfl ?_
    refine y_icmp_ne rfl rfl (by unfold rg; omega) (by unfold rg; omega) (fun w25 => ?_) (fun w26 => ?_)
    · refine y_aload_n rfl rfl ?_
      have q24 : Xi S 925 (base + a).toNat ≠ (if iss = 0 then 1 else 2) := by first | (rw [if_pos (show iss = 0 by omega)]; omega) | (rw [if_neg (show ¬ iss = 0 by omega)]; omega)
      refine y_iload rfl rfl ?_
      refine y_iload rfl rfl ?_
      refine y_if_eq rfl rfl (by unfold rg; omega) (fun w27 => ?_) (fun w28 => ?_)
      · exfalso; omega
      · refine y_iconst rfl ?_
        refine y_goto rfl rfl ?_
        refine y_iastoreP (n := 576) rfl rfl (by unfold rg; omega) (fun w29 w30 => ?_)
        obtain ⟨U3, eU3⟩ : ∃ T : sS, T = uI S 925 (((base + a)).toNat) (Int32.ofInt 1) := ⟨_, rfl⟩
        rw [← eU3]
        have hHU3 : RI U3 := by rw [eU3]; exact RI_w hH
        have hFU3 : FR md_mo_tellIs__p S U3 := by rw [eU3]; exact FR.wI hF (mdf_i (r := (925, 926, 0, 100000)) (List.mem_of_getElem? (i := 0) rfl) (inR_i (by omega) (by omega) (by omega) (by omega)))
        have w31 : Xi U3 925 (((base + a)).toNat) = 1 := by rw [eU3]; exact Xi_same (by unfold rg; omega)
        have K37 : True := trivial
        have e37 : U3 = uI S 925 (base + a).toNat (Int32.ofInt (if iss = 0 then 2 else 1)) := by first | (rw [if_pos (show iss = 0 by omega)]; exact eU3) | (rw [if_neg (show ¬ iss = 0 by omega)]; exact eU3)
        have c37 : Xi U3 922 a.toNat = Xi S 922 a.toNat := by rw [eU3]; exact Xi_ne (by omega)
        refine y_aload_n rfl rfl ?_
        refine y_gfr rfl rfl rfl rfl rfl (hHU3.r 904 25 922 rfl) ?_
        refine y_iload_n rfl rfl ?_
        refine y_ialoadP (n := 24) rfl rfl (by unfold rg; omega) (fun w32 w33 => ?_)
        have w34 : -2147483648 ≤ (Xi U3 922 ((a).toNat)) ∧ (Xi U3 922 ((a).toNat)) ≤ 2147483647 := Xi_rgI
        refine y_iconst rfl ?_
        refine y_icmp_eq rfl rfl (by unfold rg; omega) (by unfold rg; omega) (fun w35 => ?_) (fun w36 => ?_)
        · refine y_iconst rfl ?_
          have R68 : U3 = rIs S 925 base a iss := by unfold rIs; first | (have t := e67; rw [if_neg (by omega), ← e37]; exact e67) | (rw [if_pos (by omega)]; exact e37)
          refine y_ireturn rfl rfl ?_
          exact ⟨hHU3, hFU3, _, rfl, ⟨by omega, by omega⟩, (by first | (have t := K37; exact ⟨fun q => absurd q q24, fun _ => ⟨rfl, R68⟩⟩) | exact ⟨fun _ => ⟨rfl, rfl⟩, fun q => absurd (by first | (rw [if_pos (show iss = 0 by omega)]; omega) | (rw [if_neg (show ¬ iss = 0 by omega)]; omega)) q⟩)⟩
        · refine y_aload_n rfl rfl ?_
          refine y_iload_n rfl rfl ?_
          refine y_aload_n rfl rfl ?_
          refine y_gfr rfl rfl rfl rfl rfl (hHU3.r 904 25 922 rfl) ?_
          refine y_iload_n rfl rfl ?_
          refine y_ialoadP (n := 24) rfl rfl (by unfold rg; omega) (fun w37 w38 => ?_)
          refine y_iadd rfl ?_
          refine y_iload rfl rfl ?_
          refine y_if_eq rfl rfl (by unfold rg; omega) (fun w39 => ?_) (fun w40 => ?_)
          · exfalso; omega
          · refine y_iconst rfl ?_
            refine y_goto rfl rfl ?_
            refine y_iastoreP (n := 576) rfl rfl (by unfold rg; omega) (fun w41 w42 => ?_)
            obtain ⟨U4, eU4⟩ : ∃ T : sS, T = uI U3 925 (((base + (Xi U3 922 ((a).toNat)))).toNat) (Int32.ofInt 2) := ⟨_, rfl⟩
            rw [← eU4]
            have hHU4 : RI U4 := by rw [eU4]; exact RI_w hHU3
            have hFU4 : FR md_mo_tellIs__p S U4 := by rw [eU4]; exact FR.wI hFU3 (mdf_i (r := (925, 926, 0, 100000)) (List.mem_of_getElem? (i := 0) rfl) (inR_i (by omega) (by omega) (by omega) (by omega)))
            have w43 : Xi U4 925 (((base + (Xi U3 922 ((a).toNat)))).toNat) = 2 := by rw [eU4]; exact Xi_same (by unfold rg; omega)
            have e67 : U4 = uI U3 925 (base + Xi S 922 a.toNat).toNat (Int32.ofInt (if iss = 0 then 1 else 2)) := by rw [← c37]; first | (rw [if_pos (show iss = 0 by omega)]; exact eU4) | (rw [if_neg (show ¬ iss = 0 by omega)]; exact eU4)
            refine y_iconst rfl ?_
            have R68 : U4 = rIs S 925 base a iss := by unfold rIs; first | (have t := e67; rw [if_neg (by omega), ← e37]; exact e67) | (rw [if_pos (by omega)]; exact e37)
            refine y_ireturn rfl rfl ?_
            exact ⟨hHU4, hFU4, _, rfl, ⟨by omega, by omega⟩, (by first | (have t := K37; exact ⟨fun q => absurd q q24, fun _ => ⟨rfl, R68⟩⟩) | exact ⟨fun _ => ⟨rfl, rfl⟩, fun q => absurd (by first | (rw [if_pos (show iss = 0 by omega)]; omega) | (rw [if_neg (show ¬ iss = 0 by omega)]; omega)) q⟩)⟩
    · refine y_iconst rfl ?_
      refine y_ireturn rfl rfl ?_
      exact ⟨hH, hF, _, rfl, ⟨by omega, by omega⟩, (by first | (have t := K37; exact ⟨fun q => absurd q q24, fun _ => ⟨rfl, R68⟩⟩) | exact ⟨fun _ => ⟨rfl, rfl⟩, fun q => absurd (by first | (rw [if_pos (show iss = 0 by omega)]; omega) | (rw [if_neg (show ¬ iss = 0 by omega)]; omega)) q⟩)⟩
def md_mo_tellIs__q : List rec := [(925, 926, 0, 100000), (926, 927, 0, 100000)]
abbrev Q_mo_tellIs__q (S : sS) (base : Int) (a : Int) (iss : Int) : pst := fun r S1 => RI S1 ∧ FR md_mo_tellIs__q S S1 ∧ (∃ z : Int, r = some (iv z) ∧ (0 ≤ z ∧ z ≤ 1) ∧ (TISR S S1 z 926 base a iss))
set_option maxRecDepth 100000 in
theorem t_mo_tellIs__q {S : sS} (hH : RI S) (base : Int) (a : Int) (iss : Int) (hbase : 0 ≤ base ∧ base ≤ 1000) (ha : 0 ≤ a ∧ a ≤ 100) (hiss : 0 ≤ iss ∧ iss ≤ 1) (hct : -1 ≤ Xi S 922 a.toNat ∧ Xi S 922 a.toNat ≤ 100) (d : Nat) : Mp lay0 (d + 1) m_mo_tellIs [.ref 904, .ref 926, iv base, iv a, iv iss] S (Q_mo_tellIs__q S base a iss) := by
  refine Mp_R rfl rfl (fun fu => ?_)
  have hF : FR md_mo_tellIs__q S S := FR.rf
  refine y_iload_n rfl rfl ?_
  refine y_iload_n rfl rfl ?_
  refine y_iadd rfl ?_
  refine y_istore rfl rfl rfl ?_
  refine y_aload_n rfl rfl ?_
  refine y_iload rfl rfl ?_
  refine y_ialoadP (n := 384) rfl rfl (by unfold rg; omega) (fun w1 w2 => ?_)
  have w3 : -2147483648 ≤ (Xi S 926 (((base + a)).toNat)) ∧ (Xi S 926 (((base + a)).toNat)) ≤ 2147483647 := Xi_rgI
  refine y_iload rfl rfl ?_
  refine y_if_eq rfl rfl (by unfold rg; omega) (fun w4 => ?_) (fun w5 => ?_)
  · refine y_iconst rfl ?_
    refine y_icmp_ne rfl rfl (by unfold rg; omega) (by unfold rg; omega) (fun w6 => ?_) (fun w7 => ?_)
    · refine y_aload_n rfl rfl ?_
      have q24 : Xi S 926 (base + a).toNat ≠ (if iss = 0 then 1 else 2) := by first | (rw [if_pos (show iss = 0 by omega)]; omega) | (rw [if_neg (show ¬ iss = 0 by omega)]; omega)
      refine y_iload rfl rfl ?_
      refine y_iload rfl rfl ?_
      refine y_if_eq rfl rfl (by unfold rg; omega) (fun w8 => ?_) (fun w9 => ?_)
      · refine y_iconst rfl ?_
        refine y_iastoreP (n := 384) rfl rfl (by unfold rg; omega) (fun w10 w11 => ?_)
        obtain ⟨U1, eU1⟩ : ∃ T : sS, T = uI S 926 (((base + a)).toNat) (Int32.ofInt 2) := ⟨_, rfl⟩
        rw [← eU1]
        have hHU1 : RI U1 := by rw [eU1]; exact RI_w hH
        have hFU1 : FR md_mo_tellIs__q S U1 := by rw [eU1]; exact FR.wI hF (mdf_i (r := (926, 927, 0, 100000)) (List.mem_of_getElem? (i := 1) rfl) (inR_i (by omega) (by omega) (by omega) (by omega)))
        have w12 : Xi U1 926 (((base + a)).toNat) = 2 := by rw [eU1]; exact Xi_same (by unfold rg; omega)
        have K37 : True := trivial
        have e37 : U1 = uI S 926 (base + a).toNat (Int32.ofInt (if iss = 0 then 2 else 1)) := by first | (rw [if_pos (show iss = 0 by omega)]; exact eU1) | (rw [if_neg (show ¬ iss = 0 by omega)]; exact eU1)
        have c37 : Xi U1 922 a.toNat = Xi S 922 a.toNat := by rw [eU1]; exact Xi_ne (by omega)
        refine y_aload_n rfl rfl ?_
        refine y_gfr rfl rfl rfl rfl rfl (hHU1.r 904 25 922 rfl) ?_
        refine y_iload_n rfl rfl ?_
        refine y_ialoadP (n := 24) rfl rfl (by unfold rg; omega) (fun w13 w14 => ?_)
        have w15 : -2147483648 ≤ (Xi U1 922 ((a).toNat)) ∧ (Xi U1 922 ((a).toNat)) ≤ 2147483647 := Xi_rgI
        refine y_iconst rfl ?_
        refine y_icmp_eq rfl rfl (by unfold rg; omega) (by unfold rg; omega) (fun w16 => ?_) (fun w17 => ?_)
        · refine y_iconst rfl ?_
          have R68 : U1 = rIs S 926 base a iss := by unfold rIs; first | (have t := e67; rw [if_neg (by omega), ← e37]; exact e67) | (rw [if_pos (by omega)]; exact e37)
          refine y_ireturn rfl rfl ?_
          exact ⟨hHU1, hFU1, _, rfl, ⟨by omega, by omega⟩, (by first | (have t := K37; exact ⟨fun q => absurd q q24, fun _ => ⟨rfl, R68⟩⟩) | exact ⟨fun _ => ⟨rfl, rfl⟩, fun q => absurd (by first | (rw [if_pos (show iss = 0 by omega)]; omega) | (rw [if_neg (show ¬ iss = 0 by omega)]; omega)) q⟩)⟩
        · refine y_aload_n rfl rfl ?_
          refine y_iload_n rfl rfl ?_
          refine y_aload_n rfl rfl ?_
          refine y_gfr rfl rfl rfl rfl rfl (hHU1.r 904 25 922 rfl) ?_
          refine y_iload_n rfl rfl ?_
          refine y_ialoadP (n := 24) rfl rfl (by unfold rg; omega) (fun w18 w19 => ?_)
          refine y_iadd rfl ?_
          refine y_iload rfl rfl ?_
          refine y_if_eq rfl rfl (by unfold rg; omega) (fun w20 => ?_) (fun w21 => ?_)
          · refine y_iconst rfl ?_
            refine y_iastoreP (n := 384) rfl rfl (by unfold rg; omega) (fun w22 w23 => ?_)
            obtain ⟨U2, eU2⟩ : ∃ T : sS, T = uI U1 926 (((base + (Xi U1 922 ((a).toNat)))).toNat) (Int32.ofInt 1) := ⟨_, rfl⟩
            rw [← eU2]
            have hHU2 : RI U2 := by rw [eU2]; exact RI_w hHU1
            have hFU2 : FR md_mo_tellIs__q S U2 := by rw [eU2]; exact FR.wI hFU1 (mdf_i (r := (926, 927, 0, 100000)) (List.mem_of_getElem? (i := 1) rfl) (inR_i (by omega) (by omega) (by omega) (by omega)))
            have w24 : Xi U2 926 (((base + (Xi U1 922 ((a).toNat)))).toNat) = 1 := by rw [eU2]; exact Xi_same (by unfold rg; omega)
            have e67 : U2 = uI U1 926 (base + Xi S 922 a.toNat).toNat (Int32.ofInt (if iss = 0 then 1 else 2)) := by rw [← c37]; first | (rw [if_pos (show iss = 0 by omega)]; exact eU2) | (rw [if_neg (show ¬ iss = 0 by omega)]; exact eU2)
            refine y_iconst rfl ?_
            have R68 : U2 = rIs S 926 base a iss := by unfold rIs; first | (have t := e67; rw [if_neg (by omega), ← e37]; exact e67) | (rw [if_pos (by omega)]; exact e37)
            refine y_ireturn rfl rfl ?_
            exact ⟨hHU2, hFU2, _, rfl, ⟨by omega, by omega⟩, (by first | (have t := K37; exact ⟨fun q => absurd q q24, fun _ => ⟨rfl, R68⟩⟩) | exact ⟨fun _ => ⟨rfl, rfl⟩, fun q => absurd (by first | (rw [if_pos (show iss = 0 by omega)]; omega) | (rw [if_neg (show ¬ iss = 0 by omega)]; omega)) q⟩)⟩
          · exfalso; omega
      · exfalso; omega
    · refine y_iconst rfl ?_
      refine y_ireturn rfl rfl ?_
      exact ⟨hH, hF, _, rfl, ⟨by omega, by omega⟩, (by first | (have t := K37; exact ⟨fun q => absurd q q24, fun _ => ⟨rfl, R68⟩⟩) | exact ⟨fun _ => ⟨rfl, rfl⟩, fun q => absurd (by first | (rw [if_pos (show iss = 0 by omega)]; omega) | (rw [if_neg (show ¬ iss = 0 by omega)]; omega)) q⟩)⟩
  · refine y_iconst rfl ?_
    refine y_goto rfl rfl ?_
    refine y_icmp_ne rfl rfl (by unfold rg; omega) (by unfold rg; omega) (fun w25 => ?_) (fun w26 => ?_)
    · refine y_aload_n rfl rfl ?_
      have q24 : Xi S 926 (base + a).toNat ≠ (if iss = 0 then 1 else 2) := by first | (rw [if_pos (show iss = 0 by omega)]; omega) | (rw [if_neg (show ¬ iss = 0 by omega)]; omega)
      refine y_iload rfl rfl ?_
      refine y_iload rfl rfl ?_
      refine y_if_eq rfl rfl (by unfold rg; omega) (fun w27 => ?_) (fun w28 => ?_)
      · exfalso; omega
      · refine y_iconst rfl ?_
        refine y_goto rfl rfl ?_
        refine y_iastoreP (n := 384) rfl rfl (by unfold rg; omega) (fun w29 w30 => ?_)
        obtain ⟨U3, eU3⟩ : ∃ T : sS, T = uI S 926 (((base + a)).toNat) (Int32.ofInt 1) := ⟨_, rfl⟩
        rw [← eU3]
        have hHU3 : RI U3 := by rw [eU3]; exact RI_w hH
        have hFU3 : FR md_mo_tellIs__q S U3 := by rw [eU3]; exact FR.wI hF (mdf_i (r := (926, 927, 0, 100000)) (List.mem_of_getElem? (i := 1) rfl) (inR_i (by omega) (by omega) (by omega) (by omega)))
        have w31 : Xi U3 926 (((base + a)).toNat) = 1 := by rw [eU3]; exact Xi_same (by unfold rg; omega)
        have K37 : True := trivial
        have e37 : U3 = uI S 926 (base + a).toNat (Int32.ofInt (if iss = 0 then 2 else 1)) := by first | (rw [if_pos (show iss = 0 by omega)]; exact eU3) | (rw [if_neg (show ¬ iss = 0 by omega)]; exact eU3)
        have c37 : Xi U3 922 a.toNat = Xi S 922 a.toNat := by rw [eU3]; exact Xi_ne (by omega)
        refine y_aload_n rfl rfl ?_
        refine y_gfr rfl rfl rfl rfl rfl (hHU3.r 904 25 922 rfl) ?_
        refine y_iload_n rfl rfl ?_
        refine y_ialoadP (n := 24) rfl rfl (by unfold rg; omega) (fun w32 w33 => ?_)
        have w34 : -2147483648 ≤ (Xi U3 922 ((a).toNat)) ∧ (Xi U3 922 ((a).toNat)) ≤ 2147483647 := Xi_rgI
        refine y_iconst rfl ?_
        refine y_icmp_eq rfl rfl (by unfold rg; omega) (by unfold rg; omega) (fun w35 => ?_) (fun w36 => ?_)
        · refine y_iconst rfl ?_
          have R68 : U3 = rIs S 926 base a iss := by unfold rIs; first | (have t := e67; rw [if_neg (by omega), ← e37]; exact e67) | (rw [if_pos (by omega)]; exact e37)
          refine y_ireturn rfl rfl ?_
          exact ⟨hHU3, hFU3, _, rfl, ⟨by omega, by omega⟩, (by first | (have t := K37; exact ⟨fun q => absurd q q24, fun _ => ⟨rfl, R68⟩⟩) | exact ⟨fun _ => ⟨rfl, rfl⟩, fun q => absurd (by first | (rw [if_pos (show iss = 0 by omega)]; omega) | (rw [if_neg (show ¬ iss = 0 by omega)]; omega)) q⟩)⟩
        · refine y_aload_n rfl rfl ?_
          refine y_iload_n rfl rfl ?_
          refine y_aload_n rfl rfl ?_
          refine y_gfr rfl rfl rfl rfl rfl (hHU3.r 904 25 922 rfl) ?_
          refine y_iload_n rfl rfl ?_
          refine y_ialoadP (n := 24) rfl rfl (by unfold rg; omega) (fun w37 w38 => ?_)
          refine y_iadd rfl ?_
          refine y_iload rfl rfl ?_
          refine y_if_eq rfl rfl (by unfold rg; omega) (fun w39 => ?_) (fun w40 => ?_)
          · exfalso; omega
          · refine y_iconst rfl ?_
            refine y_goto rfl rfl ?_
            refine y_iastoreP (n := 384) rfl rfl (by unfold rg; omega) (fun w41 w42 => ?_)
            obtain ⟨U4, eU4⟩ : ∃ T : sS, T = uI U3 926 (((base + (Xi U3 922 ((a).toNat)))).toNat) (Int32.ofInt 2) := ⟨_, rfl⟩
            rw [← eU4]
            have hHU4 : RI U4 := by rw [eU4]; exact RI_w hHU3
            have hFU4 : FR md_mo_tellIs__q S U4 := by rw [eU4]; exact FR.wI hFU3 (mdf_i (r := (926, 927, 0, 100000)) (List.mem_of_getElem? (i := 1) rfl) (inR_i (by omega) (by omega) (by omega) (by omega)))
            have w43 : Xi U4 926 (((base + (Xi U3 922 ((a).toNat)))).toNat) = 2 := by rw [eU4]; exact Xi_same (by unfold rg; omega)
            have e67 : U4 = uI U3 926 (base + Xi S 922 a.toNat).toNat (Int32.ofInt (if iss = 0 then 1 else 2)) := by rw [← c37]; first | (rw [if_pos (show iss = 0 by omega)]; exact eU4) | (rw [if_neg (show ¬ iss = 0 by omega)]; exact eU4)
            refine y_iconst rfl ?_
            have R68 : U4 = rIs S 926 base a iss := by unfold rIs; first | (have t := e67; rw [if_neg (by omega), ← e37]; exact e67) | (rw [if_pos (by omega)]; exact e37)
            refine y_ireturn rfl rfl ?_
            exact ⟨hHU4, hFU4, _, rfl, ⟨by omega, by omega⟩, (by first | (have t := K37; exact ⟨fun q => absurd q q24, fun _ => ⟨rfl, R68⟩⟩) | exact ⟨fun _ => ⟨rfl, rfl⟩, fun q => absurd (by first | (rw [if_pos (show iss = 0 by omega)]; omega) | (rw [if_neg (show ¬ iss = 0 by omega)]; omega)) q⟩)⟩
    · refine y_iconst rfl ?_
      refine y_ireturn rfl rfl ?_
      exact ⟨hH, hF, _, rfl, ⟨by omega, by omega⟩, (by first | (have t := K37; exact ⟨fun q => absurd q q24, fun _ => ⟨rfl, R68⟩⟩) | exact ⟨fun _ => ⟨rfl, rfl⟩, fun q => absurd (by first | (rw [if_pos (show iss = 0 by omega)]; omega) | (rw [if_neg (show ¬ iss = 0 by omega)]; omega)) q⟩)⟩
def md_mo_addObject__p : List rec := [(904, 905, 19, 20), (918, 919, 0, 100000), (919, 920, 0, 100000), (920, 921, 0, 100000), (925, 926, 0, 100000), (930, 931, 0, 100000)]
abbrev Q_mo_addObject__p (S : sS) (kind : Int) : pst := fun r S1 => RI S1 ∧ FR md_mo_addObject__p S S1 ∧ (∃ z : Int, r = some (iv z) ∧ (-2147483648 ≤ z ∧ z ≤ 2147483647) ∧ (z = Xi S 904 19) ∧ (AOB S S1 kind))
set_option maxRecDepth 100000 in
theorem t_mo_addObject__p {S : sS} (hH : RI S) (kind : Int) (hkind : -2147483648 ≤ kind ∧ kind ≤ 2147483647) (ha : 0 ≤ Xi S 904 19 ∧ Xi S 904 19 ≤ 23) (d : Nat) : Mp lay0 (d + 1) m_mo_addObject [.ref 904, iv kind] S (Q_mo_addObject__p S kind) := by
  refine Mp_R rfl rfl (fun fu => ?_)
  have hF : FR md_mo_addObject__p S S := FR.rf
  have w1 : -2147483648 ≤ Xi S 904 19 ∧ Xi S 904 19 ≤ 2147483647 := Xi_rgI
  have C32 : ∀ (n32 : Nat) (_ : n32 ≤ fu) (T1 : sS) (_ : RI T1) (_ : FR md_mo_addObject__p S T1) (v2 : Int), (0 ≤ v2 ∧ v2 ≤ 24) → (0 ≤ v2 ∧ v2 ≤ 24) → (Xi T1 904 19 = Xi S 904 19) → (Hid ((Xi T1 918 (Xi S 904 19).toNat = kind ∧ Xi T1 919 (Xi S 904 19).toNat = 0 ∧ Xi T1 920 (Xi S 904 19).toNat = -1) ∧ ∀ j : Nat, j ≠ (Xi S 904 19).toNat → Xi T1 918 j = Xi S 918 j ∧ Xi T1 919 j = Xi S 919 j ∧ Xi T1 920 j = Xi S 920 j)) → (Hid (ZRO S T1 925 (24 * Xi S 904 19) v2)) → (Hid (∀ j, Xi T1 930 j = Xi S 930 j)) → Pl n32 lay0 (d + 0) m_mo_addObject 32 [(0, .ref 904), (2, iv v2)] [] T1 (Q_mo_addObject__p S kind) := by
    intro n32
    induction n32 with
    | zero => intros; exact Pl_0
    | succ n32 ih32 =>
      intro hm32 T1 hHT1 hFT1 v2 w2 w3 w4 P32 A32 D32
      have w5 : -2147483648 ≤ Xi T1 904 19 ∧ Xi T1 904 19 ≤ 2147483647 := Xi_rgI
      have C61 : ∀ (n61 : Nat) (_ : n61 ≤ n32) (T2 : sS) (_ : RI T2) (_ : FR md_mo_addObject__p S T2) (v2 : Int), (0 ≤ v2 ∧ v2 ≤ 24) → (0 ≤ v2 ∧ v2 ≤ 12) → (Xi T2 904 19 = Xi S 904 19) → (Hid ((Xi T2 918 (Xi S 904 19).toNat = kind ∧ Xi T2 919 (Xi S 904 19).toNat = 0 ∧ Xi T2 920 (Xi S 904 19).toNat = -1) ∧ ∀ j : Nat, j ≠ (Xi S 904 19).toNat → Xi T2 918 j = Xi S 918 j ∧ Xi T2 919 j = Xi S 919 j ∧ Xi T2 920 j = Xi S 920 j)) → (Hid (ZRO S T2 925 (24 * Xi S 904 19) 24)) → (Hid (ZRO S T2 930 (12 * Xi S 904 19) v2)) → Pl n61 lay0 (d + 0) m_mo_addObject 61 [(0, .ref 904), (2, iv v2)] [] T2 (Q_mo_addObject__p S kind) := by
        intro n61
        induction n61 with
        | zero => intros; exact Pl_0
        | succ n61 ih61 =>
          intro hm61 T2 hHT2 hFT2 v2 w6 w7 w8 P61 A61 B61
          have w9 : -2147483648 ≤ Xi T2 904 19 ∧ Xi T2 904 19 ≤ 2147483647 := Xi_rgI
          refine ys_iload_n rfl rfl ?_
          refine y_bipush rfl rfl ?_
          refine y_icmp_ge rfl rfl (by unfold rg; omega) (by unfold rg; omega) (fun w10 => ?_) (fun w11 => ?_)
          · refine y_aload_n rfl rfl ?_
            refine y_dup rfl rfl ?_
            refine y_gfi rfl rfl rfl rfl rfl ?_
            refine y_iconst rfl ?_
            refine y_iadd rfl ?_
            refine y_pfi rfl rfl rfl rfl ?_
            obtain ⟨U3, eU3⟩ : ∃ T : sS, T = uI T2 904 19 (Int32.ofInt ((Xi T2 904 19) + 1)) := ⟨_, rfl⟩
            rw [← eU3]
            have hHU3 : RI U3 := by rw [eU3]; exact RI_w hHT2
            have hFU3 : FR md_mo_addObject__p S U3 := by rw [eU3]; exact FR.wI hFT2 (mdf_i (r := (904, 905, 19, 20)) (List.mem_of_getElem? (i := 0) rfl) (inR_i (by omega) (by omega) (by omega) (by omega)))
            have w12 : Xi U3 904 19 = ((Xi T2 904 19) + 1) := by rw [eU3]; exact Xi_same (by unfold rg; omega)
            have ee95 := eU3
            refine y_aload_n rfl rfl ?_
            refine y_gfi rfl rfl rfl rfl rfl ?_
            refine y_iconst rfl ?_
            refine y_isub rfl ?_
            refine y_ireturn rfl rfl ?_
            exact ⟨hHU3, hFU3, _, rfl, ⟨by omega, by omega⟩, (by omega), (⟨by omega, ⟨by rw [ee95, Xi_ne (by omega)]; exact P61.o.1.1, by rw [ee95, Xi_ne (by omega)]; exact P61.o.1.2.1, by rw [ee95, Xi_ne (by omega)]; exact P61.o.1.2.2⟩, fun j hj => ⟨by rw [ee95, Xi_ne (by omega)]; exact (P61.o.2 j hj).1, by rw [ee95, Xi_ne (by omega)]; exact (P61.o.2 j hj).2.1, by rw [ee95, Xi_ne (by omega)]; exact (P61.o.2 j hj).2.2⟩, zro_k A61.o (fun j => by rw [ee95, Xi_ne (by omega)]), by have t := B61.o; rw [show v2 = 12 by omega] at t; exact zro_k t (fun j => by rw [ee95, Xi_ne (by omega)])⟩)⟩
          · refine y_aload_n rfl rfl ?_
            refine y_gfr rfl rfl rfl rfl rfl (hHT2.r 904 35 930 rfl) ?_
            refine y_bipush rfl rfl ?_
            refine y_aload_n rfl rfl ?_
            refine y_gfi rfl rfl rfl rfl rfl ?_
            refine y_imul rfl ?_
            refine y_iload_n rfl rfl ?_
            refine y_iadd rfl ?_
            refine y_iconst rfl ?_
            refine y_bastoreZP (n := 288) rfl rfl (by unfold rg; omega) ⟨by omega, by omega⟩ (fun w13 w14 => ?_)
            obtain ⟨U4, eU4⟩ : ∃ T : sS, T = uI T2 930 ((((12 * (Xi T2 904 19)) + v2)).toNat) (Int32.ofInt 0) := ⟨_, rfl⟩
            rw [← eU4]
            have hHU4 : RI U4 := by rw [eU4]; exact RI_w hHT2
            have hFU4 : FR md_mo_addObject__p S U4 := by rw [eU4]; exact FR.wI hFT2 (mdf_i (r := (930, 931, 0, 100000)) (List.mem_of_getElem? (i := 5) rfl) (inR_i (by omega) (by omega) (by omega) (by omega)))
            have w15 : Xi U4 930 ((((12 * (Xi T2 904 19)) + v2)).toNat) = 0 := by rw [eU4]; exact Xi_same (by unfold rg; omega)
            have K81 : True := trivial
            have ee81 := eU4
            have B81 : Hid (ZRO S U4 930 (12 * Xi S 904 19) (v2 + 1)) := zro_s B61.o (by rw [show 12 * Xi S 904 19 + v2 = 12 * Xi T2 904 19 + v2 by omega]; exact eU4) (by omega) (by omega)
            refine y_iinc rfl rfl rfl rfl ?_
            refine y_goto rfl rfl ?_
            have w16 : Xi U4 904 19 = Xi T2 904 19 := (show Xi U4 904 19 = Xi T2 904 19 from by rw [eU4]; exact Xi_ne (by omega))
            exact Pl_weak (ih61 (by omega) U4 hHU4 hFU4 ((v2 + 1)) (by omega) (by omega) (by omega) (by first | (have t := K81; have p := P61.o; refine ⟨⟨?_, ?_, ?_⟩, fun j hj => ⟨?_, ?_, ?_⟩⟩ <;> rw [ee81, Xi_ne (by omega)]; exact p.1.1; exact p.1.2.1; exact p.1.2.2; exact (p.2 j hj).1; exact (p.2 j hj).2.1; exact (p.2 j hj).2.2) | exact P32) (by first | (have t := K81; exact zro_k A61.o (fun j => by rw [ee81, Xi_ne (by omega)])) | (have t := A32.o; rw [show v2 = 24 by omega] at t; exact t)) (by first | (have t := K81; exact B81) | exact zro_0 D32.o)) (by omega) (And.intro rfl (And.intro rfl (True.intro)))
      refine ys_iload_n rfl rfl ?_
      refine y_bipush rfl rfl ?_
      refine y_icmp_ge rfl rfl (by unfold rg; omega) (by unfold rg; omega) (fun w17 => ?_) (fun w18 => ?_)
      · refine y_iconst rfl ?_
        refine y_istore_n rfl rfl rfl ?_
        exact Pl_weak (C61 n32 (by omega) T1 hHT1 hFT1 (0) (by omega) (by omega) (by omega) (by first | (have t := K81; have p := P61.o; refine ⟨⟨?_, ?_, ?_⟩, fun j hj => ⟨?_, ?_, ?_⟩⟩ <;> rw [ee81, Xi_ne (by omega)]; exact p.1.1; exact p.1.2.1; exact p.1.2.2; exact (p.2 j hj).1; exact (p.2 j hj).2.1; exact (p.2 j hj).2.2) | exact P32) (by first | (have t := K81; exact zro_k A61.o (fun j => by rw [ee81, Xi_ne (by omega)])) | (have t := A32.o; rw [show v2 = 24 by omega] at t; exact t)) (by first | (have t := K81; exact B81) | exact zro_0 D32.o)) (by omega) (And.intro rfl (And.intro rfl (True.intro)))
      · refine y_aload_n rfl rfl ?_
        refine y_gfr rfl rfl rfl rfl rfl (hHT1.r 904 28 925 rfl) ?_
        refine y_bipush rfl rfl ?_
        refine y_aload_n rfl rfl ?_
        refine y_gfi rfl rfl rfl rfl rfl ?_
        refine y_imul rfl ?_
        refine y_iload_n rfl rfl ?_
        refine y_iadd rfl ?_
        refine y_iconst rfl ?_
        refine y_iastoreP (n := 576) rfl rfl (by unfold rg; omega) (fun w19 w20 => ?_)
        obtain ⟨U5, eU5⟩ : ∃ T : sS, T = uI T1 925 ((((24 * (Xi T1 904 19)) + v2)).toNat) (Int32.ofInt 0) := ⟨_, rfl⟩
        rw [← eU5]
        have hHU5 : RI U5 := by rw [eU5]; exact RI_w hHT1
        have hFU5 : FR md_mo_addObject__p S U5 := by rw [eU5]; exact FR.wI hFT1 (mdf_i (r := (925, 926, 0, 100000)) (List.mem_of_getElem? (i := 4) rfl) (inR_i (by omega) (by omega) (by omega) (by omega)))
        have w21 : Xi U5 925 ((((24 * (Xi T1 904 19)) + v2)).toNat) = 0 := by rw [eU5]; exact Xi_same (by unfold rg; omega)
        have K52 : True := trivial
        have ee52 := eU5
        have A52 : Hid (ZRO S U5 925 (24 * Xi S 904 19) (v2 + 1)) := zro_s A32.o (by rw [show 24 * Xi S 904 19 + v2 = 24 * Xi T1 904 19 + v2 by omega]; exact eU5) (by omega) (by omega)
        refine y_iinc rfl rfl rfl rfl ?_
        refine y_goto rfl rfl ?_
        have w22 : Xi U5 904 19 = Xi T1 904 19 := (show Xi U5 904 19 = Xi T1 904 19 from by rw [eU5]; exact Xi_ne (by omega))
        exact Pl_weak (ih32 (by omega) U5 hHU5 hFU5 ((v2 + 1)) (by omega) (by omega) (by omega) (by first | (have t := K52; have p := P32.o; refine ⟨⟨?_, ?_, ?_⟩, fun j hj => ⟨?_, ?_, ?_⟩⟩ <;> rw [ee52, Xi_ne (by omega)]; exact p.1.1; exact p.1.2.1; exact p.1.2.2; exact (p.2 j hj).1; exact (p.2 j hj).2.1; exact (p.2 j hj).2.2) | exact P29) (by first | (have t := K52; exact A52) | exact zro_0 Z29.o.1) (by first | (have t := K52; exact fun j => by rw [ee52, Xi_ne (by omega)]; exact D32.o j) | exact Z29.o.2)) (by omega) (And.intro rfl (And.intro rfl (True.intro)))
  refine y_aload_n rfl rfl ?_
  refine y_gfr rfl rfl rfl rfl rfl (hH.r 904 20 918 rfl) ?_
  refine y_aload_n rfl rfl ?_
  refine y_gfi rfl rfl rfl rfl rfl ?_
  refine y_iload_n rfl rfl ?_
  refine y_iastoreP (n := 24) rfl rfl (by unfold rg; omega) (fun w23 w24 => ?_)
  obtain ⟨U6, eU6⟩ : ∃ T : sS, T = uI S 918 (((Xi S 904 19)).toNat) (Int32.ofInt kind) := ⟨_, rfl⟩
  rw [← eU6]
  have hHU6 : RI U6 := by rw [eU6]; exact RI_w hH
  have hFU6 : FR md_mo_addObject__p S U6 := by rw [eU6]; exact FR.wI hF (mdf_i (r := (918, 919, 0, 100000)) (List.mem_of_getElem? (i := 1) rfl) (inR_i (by omega) (by omega) (by omega) (by omega)))
  have w25 : Xi U6 918 (((Xi S 904 19)).toNat) = kind := by rw [eU6]; exact Xi_same (by unfold rg; omega)
  have ee9 := eU6
  refine y_aload_n rfl rfl ?_
  refine y_gfr rfl rfl rfl rfl rfl (hHU6.r 904 21 919 rfl) ?_
  refine y_aload_n rfl rfl ?_
  refine y_gfi rfl rfl rfl rfl rfl ?_
  have w26 : (Xi U6 904 19) = (Xi S 904 19) := (show Xi U6 904 19 = Xi S 904 19 from by rw [eU6]; exact Xi_ne (by omega))
  rw [w26]
  refine y_iconst rfl ?_
  refine y_iastoreP (n := 24) rfl rfl (by unfold rg; omega) (fun w27 w28 => ?_)
  obtain ⟨U7, eU7⟩ : ∃ T : sS, T = uI U6 919 (((Xi S 904 19)).toNat) (Int32.ofInt 0) := ⟨_, rfl⟩
  rw [← eU7]
  have hHU7 : RI U7 := by rw [eU7]; exact RI_w hHU6
  have hFU7 : FR md_mo_addObject__p S U7 := by rw [eU7]; exact FR.wI hFU6 (mdf_i (r := (919, 920, 0, 100000)) (List.mem_of_getElem? (i := 2) rfl) (inR_i (by omega) (by omega) (by omega) (by omega)))
  have w29 : Xi U7 919 (((Xi S 904 19)).toNat) = 0 := by rw [eU7]; exact Xi_same (by unfold rg; omega)
  have ee19 := eU7
  refine y_aload_n rfl rfl ?_
  refine y_gfr rfl rfl rfl rfl rfl (hHU7.r 904 22 920 rfl) ?_
  refine y_aload_n rfl rfl ?_
  refine y_gfi rfl rfl rfl rfl rfl ?_
  have w30 : (Xi U7 904 19) = (Xi S 904 19) := (show Xi U7 904 19 = Xi U6 904 19 from by rw [eU7]; exact Xi_ne (by omega)).trans ((show Xi U6 904 19 = Xi S 904 19 from by rw [eU6]; exact Xi_ne (by omega)))
  rw [w30]
  refine y_iconst rfl ?_
  refine y_iastoreP (n := 24) rfl rfl (by unfold rg; omega) (fun w31 w32 => ?_)
  obtain ⟨U8, eU8⟩ : ∃ T : sS, T = uI U7 920 (((Xi S 904 19)).toNat) (Int32.ofInt (-1)) := ⟨_, rfl⟩
  rw [← eU8]
  have hHU8 : RI U8 := by rw [eU8]; exact RI_w hHU7
  have hFU8 : FR md_mo_addObject__p S U8 := by rw [eU8]; exact FR.wI hFU7 (mdf_i (r := (920, 921, 0, 100000)) (List.mem_of_getElem? (i := 3) rfl) (inR_i (by omega) (by omega) (by omega) (by omega)))
  have w33 : Xi U8 920 (((Xi S 904 19)).toNat) = (-1) := by rw [eU8]; exact Xi_same (by unfold rg; omega)
  have P29 : Hid ((Xi U8 918 (Xi S 904 19).toNat = kind ∧ Xi U8 919 (Xi S 904 19).toNat = 0 ∧ Xi U8 920 (Xi S 904 19).toNat = -1) ∧ ∀ j : Nat, j ≠ (Xi S 904 19).toNat → Xi U8 918 j = Xi S 918 j ∧ Xi U8 919 j = Xi S 919 j ∧ Xi U8 920 j = Xi S 920 j) := ⟨⟨by rw [eU8, Xi_ne (by omega), ee19, Xi_ne (by omega), ee9]; exact Xi_same (by unfold rg; omega), by rw [eU8, Xi_ne (by omega), ee19]; exact Xi_same (by unfold rg; omega), by rw [eU8]; exact Xi_same (by unfold rg; omega)⟩, fun j hj => ⟨by rw [eU8, Xi_ne (by omega), ee19, Xi_ne (by omega), ee9, Xi_ne (by omega)], by rw [eU8, Xi_ne (by omega), ee19, Xi_ne (by omega), ee9, Xi_ne (by omega)], by rw [eU8, Xi_ne (by omega), ee19, Xi_ne (by omega), ee9, Xi_ne (by omega)]⟩⟩
  have Z29 : Hid ((∀ j, Xi U8 925 j = Xi S 925 j) ∧ ∀ j, Xi U8 930 j = Xi S 930 j) := ⟨fun j => by rw [eU8, Xi_ne (by omega), ee19, Xi_ne (by omega), ee9, Xi_ne (by omega)], fun j => by rw [eU8, Xi_ne (by omega), ee19, Xi_ne (by omega), ee9, Xi_ne (by omega)]⟩
  refine y_iconst rfl ?_
  refine y_istore_n rfl rfl rfl ?_
  have w34 : Xi U8 904 19 = Xi S 904 19 := (show Xi U8 904 19 = Xi U7 904 19 from by rw [eU8]; exact Xi_ne (by omega)).trans ( (show Xi U7 904 19 = Xi U6 904 19 from by rw [eU7]; exact Xi_ne (by omega)).trans ((show Xi U6 904 19 = Xi S 904 19 from by rw [eU6]; exact Xi_ne (by omega))))
  exact Pl_weak (C32 fu (by omega) U8 hHU8 hFU8 (0) (by omega) (by omega) (by omega) (by first | (have t := K52; have p := P32.o; refine ⟨⟨?_, ?_, ?_⟩, fun j hj => ⟨?_, ?_, ?_⟩⟩ <;> rw [ee52, Xi_ne (by omega)]; exact p.1.1; exact p.1.2.1; exact p.1.2.2; exact (p.2 j hj).1; exact (p.2 j hj).2.1; exact (p.2 j hj).2.2) | exact P29) (by first | (have t := K52; exact A52) | exact zro_0 Z29.o.1) (by first | (have t := K52; exact fun j => by rw [ee52, Xi_ne (by omega)]; exact D32.o j) | exact Z29.o.2)) (by omega) (And.intro rfl (And.intro rfl (True.intro)))
end
