section
def md_mo_does__15a : List rec := [(904, 905, 15, 16), (904, 905, 16, 17), (904, 905, 18, 19), (904, 905, 19, 20), (904, 905, 23, 24), (904, 905, 30, 31), (904, 905, 32, 33), (904, 905, 41, 42), (904, 905, 47, 48), (904, 905, 49, 50), (904, 905, 51, 52), (904, 905, 55, 56), (904, 905, 60, 61), (904, 905, 64, 65), (904, 905, 73, 74), (904, 905, 105, 106), (904, 905, 106, 107), (904, 905, 113, 114), (904, 905, 117, 118), (912, 913, 0, 100000), (913, 914, 0, 100000), (914, 915, 0, 100000), (915, 916, 0, 100000), (916, 917, 0, 100000), (917, 918, 0, 100000), (918, 919, 0, 100000), (919, 920, 0, 100000), (920, 921, 0, 100000), (921, 922, 0, 100000), (922, 923, 0, 100000), (923, 924, 0, 100000), (924, 925, 0, 100000), (925, 926, 0, 100000), (926, 927, 0, 100000), (927, 928, 0, 100000), (928, 929, 0, 100000), (929, 930, 0, 100000), (930, 931, 0, 100000), (931, 932, 0, 100000), (932, 933, 0, 100000), (933, 934, 0, 100000), (934, 935, 0, 100000), (935, 936, 0, 100000), (936, 937, 0, 100000), (937, 938, 0, 100000), (938, 939, 0, 100000), (939, 940, 0, 100000), (940, 941, 0, 100000), (941, 942, 0, 100000), (942, 943, 0, 100000), (943, 944, 0, 100000), (944, 945, 0, 100000), (945, 946, 0, 100000), (946, 947, 0, 100000), (947, 948, 0, 100000), (948, 949, 0, 100000), (949, 950, 0, 100000)]
abbrev Q_mo_does__15a (S : sS) (first : Int) : pst := fun r S1 => RI S1 ∧ FR md_mo_does__15a S S1 ∧ (r = none ∧ (RUS S S1))
set_option maxRecDepth 100000 in
theorem t_mo_does__15a {S : sS} (hH : RI S) (first : Int) (hfirst : 0 ≤ first ∧ first ≤ 5001) (hLS : LSP S) (h15 : 0 ≤ Xi S 904 15) (hRB : RBD S) (hLX : LXR S) (hct : Hid (∀ j : Nat, -1 ≤ Xi S 922 j ∧ Xi S 922 j ≤ 23)) (hh : Xi S 904 142 = 1) (hz0 : Xi S 904 106 = 0) (hk : rnR S (Xi S 904 71) 0 ≠ -1 ∧ rnR S (Xi S 904 71) 0 ≤ 15) (hra : 0 ≤ Xi S 967 0 ∧ Xi S 967 0 ≤ 7000) (hs : 15 ≤ Xi S 904 70 ∧ Xi S 904 70 ≤ 16) (d : Nat) : Mp lay0 (d + 8) m_mo_does [.ref 904, iv first] S (Q_mo_does__15a S first) := by
  refine Mp_R rfl rfl (fun fu => ?_)
  have hF : FR md_mo_does__15a S S := FR.rf
  have w1 : -2147483648 ≤ Xi S 904 106 ∧ Xi S 904 106 ≤ 2147483647 := Xi_rgI
  have w2 : -2147483648 ≤ Xi S 904 110 ∧ Xi S 904 110 ≤ 2147483647 := Xi_rgI
  have w3 : -2147483648 ≤ Xi S 904 112 ∧ Xi S 904 112 ≤ 2147483647 := Xi_rgI
  have w4 : -2147483648 ≤ Xi S 904 142 ∧ Xi S 904 142 ≤ 2147483647 := Xi_rgI
  have w5 : -2147483648 ≤ Xi S 904 15 ∧ Xi S 904 15 ≤ 2147483647 := Xi_rgI
  have w6 : -2147483648 ≤ Xi S 904 19 ∧ Xi S 904 19 ≤ 2147483647 := Xi_rgI
  have w7 : -2147483648 ≤ Xi S 904 30 ∧ Xi S 904 30 ≤ 2147483647 := Xi_rgI
  have w8 : -2147483648 ≤ Xi S 904 32 ∧ Xi S 904 32 ≤ 2147483647 := Xi_rgI
  have w9 : -2147483648 ≤ Xi S 904 69 ∧ Xi S 904 69 ≤ 2147483647 := Xi_rgI
  have w10 : -2147483648 ≤ Xi S 904 70 ∧ Xi S 904 70 ≤ 2147483647 := Xi_rgI
  have w11 : -2147483648 ≤ Xi S 904 71 ∧ Xi S 904 71 ≤ 2147483647 := Xi_rgI
  have w12 : -2147483648 ≤ Xi S 904 72 ∧ Xi S 904 72 ≤ 2147483647 := Xi_rgI
  have w13 : -2147483648 ≤ Xi S 904 74 ∧ Xi S 904 74 ≤ 2147483647 := Xi_rgI
  have w14 : -2147483648 ≤ Xi S 904 75 ∧ Xi S 904 75 ≤ 2147483647 := Xi_rgI
  have w15 : -2147483648 ≤ Xi S 904 78 ∧ Xi S 904 78 ≤ 2147483647 := Xi_rgI
  have w16 : -2147483648 ≤ Xi S 967 0 ∧ Xi S 967 0 ≤ 2147483647 := Xi_rgI
  have C300 : ∀ (n300 : Nat) (_ : n300 ≤ fu) (T1 : sS) (_ : RI T1) (_ : FR md_mo_does__15a S T1) (v2 : Int), (-2147483648 ≤ v2 ∧ v2 ≤ 2147483647) → ((1 : Int) = 0) → Pl n300 lay0 (d + 7) m_mo_does 300 [(0, .ref 904), (2, iv v2)] [] T1 (Q_mo_does__15a S first) := by
    intro n300
    induction n300 with
    | zero => intros; exact Pl_0
    | succ n300 ih300 =>
      intro hm300 T1 hHT1 hFT1 v2 w17 w18
      have w19 : Xi T1 904 110 = Xi S 904 110 := hFT1.x _ _ rfl
      have w20 : Xi T1 904 112 = Xi S 904 112 := hFT1.x _ _ rfl
      have w21 : Xi T1 904 142 = Xi S 904 142 := hFT1.x _ _ rfl
      have w22 : Xi T1 904 69 = Xi S 904 69 := hFT1.x _ _ rfl
      have w23 : Xi T1 904 70 = Xi S 904 70 := hFT1.x _ _ rfl
      have w24 : Xi T1 904 71 = Xi S 904 71 := hFT1.x _ _ rfl
      have w25 : Xi T1 904 72 = Xi S 904 72 := hFT1.x _ _ rfl
      have w26 : Xi T1 904 74 = Xi S 904 74 := hFT1.x _ _ rfl
      have w27 : Xi T1 904 78 = Xi S 904 78 := hFT1.x _ _ rfl
      have w28 : Xi T1 904 94 = Xi S 904 94 := hFT1.x _ _ rfl
      have w29 : Xi T1 951 1 = Xi S 951 1 := hFT1.x _ _ rfl
      have w30 : Xi T1 951 2 = Xi S 951 2 := hFT1.x _ _ rfl
      have w31 : Xi T1 967 0 = Xi S 967 0 := hFT1.x _ _ rfl
      have w32 : -2147483648 ≤ Xi T1 904 106 ∧ Xi T1 904 106 ≤ 2147483647 := Xi_rgI
      have w33 : -2147483648 ≤ Xi T1 904 110 ∧ Xi T1 904 110 ≤ 2147483647 := Xi_rgI
      have w34 : -2147483648 ≤ Xi T1 904 112 ∧ Xi T1 904 112 ≤ 2147483647 := Xi_rgI
      have w35 : -2147483648 ≤ Xi T1 904 142 ∧ Xi T1 904 142 ≤ 2147483647 := Xi_rgI
      have w36 : -2147483648 ≤ Xi T1 904 15 ∧ Xi T1 904 15 ≤ 2147483647 := Xi_rgI
      have w37 : -2147483648 ≤ Xi T1 904 19 ∧ Xi T1 904 19 ≤ 2147483647 := Xi_rgI
      have w38 : -2147483648 ≤ Xi T1 904 30 ∧ Xi T1 904 30 ≤ 2147483647 := Xi_rgI
      have w39 : -2147483648 ≤ Xi T1 904 32 ∧ Xi T1 904 32 ≤ 2147483647 := Xi_rgI
      have w40 : -2147483648 ≤ Xi T1 904 69 ∧ Xi T1 904 69 ≤ 2147483647 := Xi_rgI
      have w41 : -2147483648 ≤ Xi T1 904 70 ∧ Xi T1 904 70 ≤ 2147483647 := Xi_rgI
      have w42 : -2147483648 ≤ Xi T1 904 71 ∧ Xi T1 904 71 ≤ 2147483647 := Xi_rgI
      have w43 : -2147483648 ≤ Xi T1 904 72 ∧ Xi T1 904 72 ≤ 2147483647 := Xi_rgI
      have w44 : -2147483648 ≤ Xi T1 904 74 ∧ Xi T1 904 74 ≤ 2147483647 := Xi_rgI
      have w45 : -2147483648 ≤ Xi T1 904 75 ∧ Xi T1 904 75 ≤ 2147483647 := Xi_rgI
      have w46 : -2147483648 ≤ Xi T1 904 78 ∧ Xi T1 904 78 ≤ 2147483647 := Xi_rgI
      exfalso; omega
  refine y_aload_n rfl rfl ?_
  refine y_gfi rfl rfl rfl rfl rfl ?_
  refine y_tsw rfl rfl rfl rfl (by unfold rg; omega) (fun w47 => ?_) (fun ii tt hii w47 => ?_)
  · refine y_return rfl rfl ?_
    exact ⟨hH, hF, rfl, (by first | (have t := K369; exact o369) | (exfalso; omega))⟩
  · match ii, hii with
    | 0, hii =>
      cases hii
      have w48 : (Xi S 904 70) = 0 := by simpa using w47
      exfalso; omega
    | 1, hii =>
      cases hii
      have w49 : (Xi S 904 70) = 1 := by simpa using w47
      exfalso; omega
    | 2, hii =>
      cases hii
      have w50 : (Xi S 904 70) = 2 := by simpa using w47
      exfalso; omega
    | 3, hii =>
      cases hii
      have w51 : (Xi S 904 70) = 3 := by simpa using w47
      refine y_return rfl rfl ?_
      exact ⟨hH, hF, rfl, (by first | (have t := K369; exact o369) | (exfalso; omega))⟩
    | 4, hii =>
      cases hii
      have w52 : (Xi S 904 70) = 4 := by simpa using w47
      refine y_return rfl rfl ?_
      exact ⟨hH, hF, rfl, (by first | (have t := K369; exact o369) | (exfalso; omega))⟩
    | 5, hii =>
      cases hii
      have w53 : (Xi S 904 70) = 5 := by simpa using w47
      refine y_return rfl rfl ?_
      exact ⟨hH, hF, rfl, (by first | (have t := K369; exact o369) | (exfalso; omega))⟩
    | 6, hii =>
      cases hii
      have w54 : (Xi S 904 70) = 6 := by simpa using w47
      refine y_return rfl rfl ?_
      exact ⟨hH, hF, rfl, (by first | (have t := K369; exact o369) | (exfalso; omega))⟩
    | 7, hii =>
      cases hii
      have w55 : (Xi S 904 70) = 7 := by simpa using w47
      exfalso; omega
    | 8, hii =>
      cases hii
      have w56 : (Xi S 904 70) = 8 := by simpa using w47
      exfalso; omega
    | 9, hii =>
      cases hii
      have w57 : (Xi S 904 70) = 9 := by simpa using w47
      exfalso; omega
    | 10, hii =>
      cases hii
      have w58 : (Xi S 904 70) = 10 := by simpa using w47
      exfalso; omega
    | 11, hii =>
      cases hii
      have w59 : (Xi S 904 70) = 11 := by simpa using w47
      exfalso; omega
    | 12, hii =>
      cases hii
      have w60 : (Xi S 904 70) = 12 := by simpa using w47
      exfalso; omega
    | 13, hii =>
      cases hii
      have w61 : (Xi S 904 70) = 13 := by simpa using w47
      exfalso; omega
    | 14, hii =>
      cases hii
      have w62 : (Xi S 904 70) = 14 := by simpa using w47
      exfalso; omega
    | 15, hii =>
      cases hii
      have w63 : (Xi S 904 70) = 15 := by simpa using w47
      refine y_aload_n rfl rfl ?_
      refine y_callV rfl rfl rfl (t_mo_doFifteen__1 hH (by first | assumption | exact (by assumption : LSP S)) (by first | assumption | omega) (by first | assumption | exact (RBD_FR hF rfl (by assumption : RBD S))) (by first | assumption | exact (by assumption : LXR S)) (by first | assumption | omega) (by first | assumption | omega) (by first | assumption | omega) (by first | assumption | omega) (by first | assumption | omega) _) ?_
      rintro _ T2 ⟨hHT2, w65, rfl, o369⟩
      have hFT2 : FR md_mo_does__15a S T2 := FR.tr hF w65 rfl
      show Pl _ _ _ _ _ _ [] _ _
      have K369 : True := trivial
      refine y_goto rfl rfl ?_
      refine y_return rfl rfl ?_
      exact ⟨hHT2, hFT2, rfl, (by first | (have t := K369; exact o369) | (exfalso; omega))⟩
    | 16, hii =>
      cases hii
      have w77 : (Xi S 904 70) = 16 := by simpa using w47
      refine y_aload_n rfl rfl ?_
      refine y_callV rfl rfl rfl (t_mo_doFifteen__1 hH (by first | assumption | exact (by assumption : LSP S)) (by first | assumption | omega) (by first | assumption | exact (RBD_FR hF rfl (by assumption : RBD S))) (by first | assumption | exact (by assumption : LXR S)) (by first | assumption | omega) (by first | assumption | omega) (by first | assumption | omega) (by first | assumption | omega) (by first | assumption | omega) _) ?_
      rintro _ T3 ⟨hHT3, w79, rfl, o369⟩
      have hFT3 : FR md_mo_does__15a S T3 := FR.tr hF w79 rfl
      show Pl _ _ _ _ _ _ [] _ _
      have K369 : True := trivial
      refine y_goto rfl rfl ?_
      refine y_return rfl rfl ?_
      exact ⟨hHT3, hFT3, rfl, (by first | (have t := K369; exact o369) | (exfalso; omega))⟩
    | 17, hii =>
      cases hii
      have w91 : (Xi S 904 70) = 17 := by simpa using w47
      exfalso; omega
    | 18, hii =>
      cases hii
      have w92 : (Xi S 904 70) = 18 := by simpa using w47
      exfalso; omega
    | 19, hii =>
      cases hii
      have w93 : (Xi S 904 70) = 19 := by simpa using w47
      exfalso; omega
    | 20, hii =>
      cases hii
      have w94 : (Xi S 904 70) = 20 := by simpa using w47
      exfalso; omega
    | n + 21, hii => exact absurd hii (by simp)
def md_mo_does__15b : List rec := [(904, 905, 15, 16), (904, 905, 16, 17), (904, 905, 18, 19), (904, 905, 19, 20), (904, 905, 23, 24), (904, 905, 30, 31), (904, 905, 32, 33), (904, 905, 41, 42), (904, 905, 47, 48), (904, 905, 49, 50), (904, 905, 51, 52), (904, 905, 55, 56), (904, 905, 60, 61), (904, 905, 64, 65), (904, 905, 73, 74), (904, 905, 105, 106), (904, 905, 106, 107), (904, 905, 113, 114), (904, 905, 117, 118), (912, 913, 0, 100000), (913, 914, 0, 100000), (914, 915, 0, 100000), (915, 916, 0, 100000), (916, 917, 0, 100000), (917, 918, 0, 100000), (918, 919, 0, 100000), (919, 920, 0, 100000), (920, 921, 0, 100000), (921, 922, 0, 100000), (922, 923, 0, 100000), (923, 924, 0, 100000), (924, 925, 0, 100000), (925, 926, 0, 100000), (926, 927, 0, 100000), (927, 928, 0, 100000), (928, 929, 0, 100000), (929, 930, 0, 100000), (930, 931, 0, 100000), (931, 932, 0, 100000), (932, 933, 0, 100000), (933, 934, 0, 100000), (934, 935, 0, 100000), (935, 936, 0, 100000), (936, 937, 0, 100000), (937, 938, 0, 100000), (938, 939, 0, 100000), (939, 940, 0, 100000), (940, 941, 0, 100000), (941, 942, 0, 100000), (942, 943, 0, 100000), (943, 944, 0, 100000), (944, 945, 0, 100000), (945, 946, 0, 100000), (946, 947, 0, 100000), (947, 948, 0, 100000), (948, 949, 0, 100000), (949, 950, 0, 100000)]
abbrev Q_mo_does__15b (S : sS) (first : Int) : pst := fun r S1 => RI S1 ∧ FR md_mo_does__15b S S1 ∧ (r = none ∧ (RD16 S S1))
set_option maxRecDepth 100000 in
theorem t_mo_does__15b {S : sS} (hH : RI S) (first : Int) (hfirst : 0 ≤ first ∧ first ≤ 5001) (hLS : LSP S) (h15 : 0 ≤ Xi S 904 15) (hRB : RBD S) (hLX : LXR S) (hh : Xi S 904 142 = 2) (hw : 0 ≤ Xi S 904 78 ∧ Xi S 904 78 ≤ Xi S 904 69 ∧ Xi S 904 69 ≤ 2600) (hv : 0 ≤ Xi S 904 30 ∧ Xi S 904 30 + (Xi S 904 69 - Xi S 904 78) ≤ 64) (hs : 15 ≤ Xi S 904 70 ∧ Xi S 904 70 ≤ 16) (d : Nat) : Mp lay0 (d + 8) m_mo_does [.ref 904, iv first] S (Q_mo_does__15b S first) := by
  refine Mp_R rfl rfl (fun fu => ?_)
  have hF : FR md_mo_does__15b S S := FR.rf
  have w1 : -2147483648 ≤ Xi S 904 106 ∧ Xi S 904 106 ≤ 2147483647 := Xi_rgI
  have w2 : -2147483648 ≤ Xi S 904 110 ∧ Xi S 904 110 ≤ 2147483647 := Xi_rgI
  have w3 : -2147483648 ≤ Xi S 904 112 ∧ Xi S 904 112 ≤ 2147483647 := Xi_rgI
  have w4 : -2147483648 ≤ Xi S 904 142 ∧ Xi S 904 142 ≤ 2147483647 := Xi_rgI
  have w5 : -2147483648 ≤ Xi S 904 15 ∧ Xi S 904 15 ≤ 2147483647 := Xi_rgI
  have w6 : -2147483648 ≤ Xi S 904 19 ∧ Xi S 904 19 ≤ 2147483647 := Xi_rgI
  have w7 : -2147483648 ≤ Xi S 904 30 ∧ Xi S 904 30 ≤ 2147483647 := Xi_rgI
  have w8 : -2147483648 ≤ Xi S 904 32 ∧ Xi S 904 32 ≤ 2147483647 := Xi_rgI
  have w9 : -2147483648 ≤ Xi S 904 69 ∧ Xi S 904 69 ≤ 2147483647 := Xi_rgI
  have w10 : -2147483648 ≤ Xi S 904 70 ∧ Xi S 904 70 ≤ 2147483647 := Xi_rgI
  have w11 : -2147483648 ≤ Xi S 904 71 ∧ Xi S 904 71 ≤ 2147483647 := Xi_rgI
  have w12 : -2147483648 ≤ Xi S 904 72 ∧ Xi S 904 72 ≤ 2147483647 := Xi_rgI
  have w13 : -2147483648 ≤ Xi S 904 74 ∧ Xi S 904 74 ≤ 2147483647 := Xi_rgI
  have w14 : -2147483648 ≤ Xi S 904 75 ∧ Xi S 904 75 ≤ 2147483647 := Xi_rgI
  have w15 : -2147483648 ≤ Xi S 904 78 ∧ Xi S 904 78 ≤ 2147483647 := Xi_rgI
  have C300 : ∀ (n300 : Nat) (_ : n300 ≤ fu) (T1 : sS) (_ : RI T1) (_ : FR md_mo_does__15b S T1) (v2 : Int), (-2147483648 ≤ v2 ∧ v2 ≤ 2147483647) → ((1 : Int) = 0) → Pl n300 lay0 (d + 7) m_mo_does 300 [(0, .ref 904), (2, iv v2)] [] T1 (Q_mo_does__15b S first) := by
    intro n300
    induction n300 with
    | zero => intros; exact Pl_0
    | succ n300 ih300 =>
      intro hm300 T1 hHT1 hFT1 v2 w16 w17
      have w18 : Xi T1 904 110 = Xi S 904 110 := hFT1.x _ _ rfl
      have w19 : Xi T1 904 112 = Xi S 904 112 := hFT1.x _ _ rfl
      have w20 : Xi T1 904 142 = Xi S 904 142 := hFT1.x _ _ rfl
      have w21 : Xi T1 904 69 = Xi S 904 69 := hFT1.x _ _ rfl
      have w22 : Xi T1 904 70 = Xi S 904 70 := hFT1.x _ _ rfl
      have w23 : Xi T1 904 71 = Xi S 904 71 := hFT1.x _ _ rfl
      have w24 : Xi T1 904 72 = Xi S 904 72 := hFT1.x _ _ rfl
      have w25 : Xi T1 904 74 = Xi S 904 74 := hFT1.x _ _ rfl
      have w26 : Xi T1 904 78 = Xi S 904 78 := hFT1.x _ _ rfl
      have w27 : Xi T1 904 94 = Xi S 904 94 := hFT1.x _ _ rfl
      have w28 : Xi T1 951 1 = Xi S 951 1 := hFT1.x _ _ rfl
      have w29 : Xi T1 951 2 = Xi S 951 2 := hFT1.x _ _ rfl
      have w30 : Xi T1 967 0 = Xi S 967 0 := hFT1.x _ _ rfl
      have w31 : -2147483648 ≤ Xi T1 904 106 ∧ Xi T1 904 106 ≤ 2147483647 := Xi_rgI
      have w32 : -2147483648 ≤ Xi T1 904 110 ∧ Xi T1 904 110 ≤ 2147483647 := Xi_rgI
      have w33 : -2147483648 ≤ Xi T1 904 112 ∧ Xi T1 904 112 ≤ 2147483647 := Xi_rgI
      have w34 : -2147483648 ≤ Xi T1 904 142 ∧ Xi T1 904 142 ≤ 2147483647 := Xi_rgI
      have w35 : -2147483648 ≤ Xi T1 904 15 ∧ Xi T1 904 15 ≤ 2147483647 := Xi_rgI
      have w36 : -2147483648 ≤ Xi T1 904 19 ∧ Xi T1 904 19 ≤ 2147483647 := Xi_rgI
      have w37 : -2147483648 ≤ Xi T1 904 30 ∧ Xi T1 904 30 ≤ 2147483647 := Xi_rgI
      have w38 : -2147483648 ≤ Xi T1 904 32 ∧ Xi T1 904 32 ≤ 2147483647 := Xi_rgI
      have w39 : -2147483648 ≤ Xi T1 904 69 ∧ Xi T1 904 69 ≤ 2147483647 := Xi_rgI
      have w40 : -2147483648 ≤ Xi T1 904 70 ∧ Xi T1 904 70 ≤ 2147483647 := Xi_rgI
      have w41 : -2147483648 ≤ Xi T1 904 71 ∧ Xi T1 904 71 ≤ 2147483647 := Xi_rgI
      have w42 : -2147483648 ≤ Xi T1 904 72 ∧ Xi T1 904 72 ≤ 2147483647 := Xi_rgI
      have w43 : -2147483648 ≤ Xi T1 904 74 ∧ Xi T1 904 74 ≤ 2147483647 := Xi_rgI
      have w44 : -2147483648 ≤ Xi T1 904 75 ∧ Xi T1 904 75 ≤ 2147483647 := Xi_rgI
      have w45 : -2147483648 ≤ Xi T1 904 78 ∧ Xi T1 904 78 ≤ 2147483647 := Xi_rgI
      exfalso; omega
  refine y_aload_n rfl rfl ?_
  refine y_gfi rfl rfl rfl rfl rfl ?_
  refine y_tsw rfl rfl rfl rfl (by unfold rg; omega) (fun w46 => ?_) (fun ii tt hii w46 => ?_)
  · refine y_return rfl rfl ?_
    exact ⟨hH, hF, rfl, (by first | (have t := K369; exact o369) | (exfalso; omega))⟩
  · match ii, hii with
    | 0, hii =>
      cases hii
      have w47 : (Xi S 904 70) = 0 := by simpa using w46
      exfalso; omega
    | 1, hii =>
      cases hii
      have w48 : (Xi S 904 70) = 1 := by simpa using w46
      exfalso; omega
    | 2, hii =>
      cases hii
      have w49 : (Xi S 904 70) = 2 := by simpa using w46
      exfalso; omega
    | 3, hii =>
      cases hii
      have w50 : (Xi S 904 70) = 3 := by simpa using w46
      refine y_return rfl rfl ?_
      exact ⟨hH, hF, rfl, (by first | (have t := K369; exact o369) | (exfalso; omega))⟩
    | 4, hii =>
      cases hii
      have w51 : (Xi S 904 70) = 4 := by simpa using w46
      refine y_return rfl rfl ?_
      exact ⟨hH, hF, rfl, (by first | (have t := K369; exact o369) | (exfalso; omega))⟩
    | 5, hii =>
      cases hii
      have w52 : (Xi S 904 70) = 5 := by simpa using w46
      refine y_return rfl rfl ?_
      exact ⟨hH, hF, rfl, (by first | (have t := K369; exact o369) | (exfalso; omega))⟩
    | 6, hii =>
      cases hii
      have w53 : (Xi S 904 70) = 6 := by simpa using w46
      refine y_return rfl rfl ?_
      exact ⟨hH, hF, rfl, (by first | (have t := K369; exact o369) | (exfalso; omega))⟩
    | 7, hii =>
      cases hii
      have w54 : (Xi S 904 70) = 7 := by simpa using w46
      exfalso; omega
    | 8, hii =>
      cases hii
      have w55 : (Xi S 904 70) = 8 := by simpa using w46
      exfalso; omega
    | 9, hii =>
      cases hii
      have w56 : (Xi S 904 70) = 9 := by simpa using w46
      exfalso; omega
    | 10, hii =>
      cases hii
      have w57 : (Xi S 904 70) = 10 := by simpa using w46
      exfalso; omega
    | 11, hii =>
      cases hii
      have w58 : (Xi S 904 70) = 11 := by simpa using w46
      exfalso; omega
    | 12, hii =>
      cases hii
      have w59 : (Xi S 904 70) = 12 := by simpa using w46
      exfalso; omega
    | 13, hii =>
      cases hii
      have w60 : (Xi S 904 70) = 13 := by simpa using w46
      exfalso; omega
    | 14, hii =>
      cases hii
      have w61 : (Xi S 904 70) = 14 := by simpa using w46
      exfalso; omega
    | 15, hii =>
      cases hii
      have w62 : (Xi S 904 70) = 15 := by simpa using w46
      refine y_aload_n rfl rfl ?_
      refine y_callV rfl rfl rfl (t_mo_doFifteen__2 hH (by first | assumption | exact (by assumption : LSP S)) (by first | assumption | omega) (by first | assumption | exact (RBD_FR hF rfl (by assumption : RBD S))) (by first | assumption | exact (by assumption : LXR S)) (by first | assumption | omega) (by first | assumption | omega) (by first | assumption | omega) _) ?_
      rintro _ T2 ⟨hHT2, w64, rfl, o369⟩
      have hFT2 : FR md_mo_does__15b S T2 := FR.tr hF w64 rfl
      show Pl _ _ _ _ _ _ [] _ _
      have K369 : True := trivial
      refine y_goto rfl rfl ?_
      refine y_return rfl rfl ?_
      exact ⟨hHT2, hFT2, rfl, (by first | (have t := K369; exact o369) | (exfalso; omega))⟩
    | 16, hii =>
      cases hii
      have w76 : (Xi S 904 70) = 16 := by simpa using w46
      refine y_aload_n rfl rfl ?_
      refine y_callV rfl rfl rfl (t_mo_doFifteen__2 hH (by first | assumption | exact (by assumption : LSP S)) (by first | assumption | omega) (by first | assumption | exact (RBD_FR hF rfl (by assumption : RBD S))) (by first | assumption | exact (by assumption : LXR S)) (by first | assumption | omega) (by first | assumption | omega) (by first | assumption | omega) _) ?_
      rintro _ T3 ⟨hHT3, w78, rfl, o369⟩
      have hFT3 : FR md_mo_does__15b S T3 := FR.tr hF w78 rfl
      show Pl _ _ _ _ _ _ [] _ _
      have K369 : True := trivial
      refine y_goto rfl rfl ?_
      refine y_return rfl rfl ?_
      exact ⟨hHT3, hFT3, rfl, (by first | (have t := K369; exact o369) | (exfalso; omega))⟩
    | 17, hii =>
      cases hii
      have w90 : (Xi S 904 70) = 17 := by simpa using w46
      exfalso; omega
    | 18, hii =>
      cases hii
      have w91 : (Xi S 904 70) = 18 := by simpa using w46
      exfalso; omega
    | 19, hii =>
      cases hii
      have w92 : (Xi S 904 70) = 19 := by simpa using w46
      exfalso; omega
    | 20, hii =>
      cases hii
      have w93 : (Xi S 904 70) = 20 := by simpa using w46
      exfalso; omega
    | n + 21, hii => exact absurd hii (by simp)
def md_mo_does__15c : List rec := [(904, 905, 15, 16), (904, 905, 16, 17), (904, 905, 18, 19), (904, 905, 19, 20), (904, 905, 23, 24), (904, 905, 30, 31), (904, 905, 32, 33), (904, 905, 41, 42), (904, 905, 47, 48), (904, 905, 49, 50), (904, 905, 51, 52), (904, 905, 55, 56), (904, 905, 60, 61), (904, 905, 64, 65), (904, 905, 73, 74), (904, 905, 105, 106), (904, 905, 106, 107), (904, 905, 113, 114), (904, 905, 117, 118), (912, 913, 0, 100000), (913, 914, 0, 100000), (914, 915, 0, 100000), (915, 916, 0, 100000), (916, 917, 0, 100000), (917, 918, 0, 100000), (918, 919, 0, 100000), (919, 920, 0, 100000), (920, 921, 0, 100000), (921, 922, 0, 100000), (922, 923, 0, 100000), (923, 924, 0, 100000), (924, 925, 0, 100000), (925, 926, 0, 100000), (926, 927, 0, 100000), (927, 928, 0, 100000), (928, 929, 0, 100000), (929, 930, 0, 100000), (930, 931, 0, 100000), (931, 932, 0, 100000), (932, 933, 0, 100000), (933, 934, 0, 100000), (934, 935, 0, 100000), (935, 936, 0, 100000), (936, 937, 0, 100000), (937, 938, 0, 100000), (938, 939, 0, 100000), (939, 940, 0, 100000), (940, 941, 0, 100000), (941, 942, 0, 100000), (942, 943, 0, 100000), (943, 944, 0, 100000), (944, 945, 0, 100000), (945, 946, 0, 100000), (946, 947, 0, 100000), (947, 948, 0, 100000), (948, 949, 0, 100000), (949, 950, 0, 100000)]
abbrev Q_mo_does__15c (S : sS) (first : Int) : pst := fun r S1 => RI S1 ∧ FR md_mo_does__15c S S1 ∧ (r = none ∧ (RDB (uI S 904 73 (Int32.ofInt 0)) S1))
set_option maxRecDepth 100000 in
theorem t_mo_does__15c {S : sS} (hH : RI S) (first : Int) (hfirst : 0 ≤ first ∧ first ≤ 5001) (hLS : LSP S) (h15 : 0 ≤ Xi S 904 15) (hRB : RBD S) (hLX : LXR S) (hB : ABV S) (hl : 0 ≤ Xi S 904 71 ∧ Xi S 904 71 ≤ 2600 ∧ 0 ≤ Xi S 904 72 ∧ Xi S 904 72 ≤ 2600) (hkb : Hid (KB3 S)) (ho4 : Hid (OB4 S)) (hct : Hid (∀ j : Nat, -1 ≤ Xi S 922 j ∧ Xi S 922 j ≤ 23)) (hz0 : Xi S 904 106 = 0) (ha : 0 ≤ Xi S 904 19 ∧ Xi S 904 19 ≤ 24) (hr74 : -1 ≤ Xi S 904 74 ∧ Xi S 904 74 ≤ 2600) (hlq : Hid (LOQ S (Xi S 904 71) (Xi S 904 72).toNat)) (h110 : -1 ≤ Xi S 904 110 ∧ Xi S 904 110 ≤ 15) (h112 : 0 ≤ Xi S 904 112 ∧ Xi S 904 112 ≤ 6) (hra : Hid (Xi S 904 70 ≠ 13 → ∀ i : Nat, (i : Int) < Xi S 904 112 → 0 ≤ Xi S 967 i ∧ Xi S 967 i ≤ 7000)) (hh : Xi S 904 142 = 3) (hs : 15 ≤ Xi S 904 70 ∧ Xi S 904 70 ≤ 16) (d : Nat) : Mp lay0 (d + 8) m_mo_does [.ref 904, iv first] S (Q_mo_does__15c S first) := by
  refine Mp_R rfl rfl (fun fu => ?_)
  have hF : FR md_mo_does__15c S S := FR.rf
  have w1 : -2147483648 ≤ Xi S 904 106 ∧ Xi S 904 106 ≤ 2147483647 := Xi_rgI
  have w2 : -2147483648 ≤ Xi S 904 110 ∧ Xi S 904 110 ≤ 2147483647 := Xi_rgI
  have w3 : -2147483648 ≤ Xi S 904 112 ∧ Xi S 904 112 ≤ 2147483647 := Xi_rgI
  have w4 : -2147483648 ≤ Xi S 904 142 ∧ Xi S 904 142 ≤ 2147483647 := Xi_rgI
  have w5 : -2147483648 ≤ Xi S 904 15 ∧ Xi S 904 15 ≤ 2147483647 := Xi_rgI
  have w6 : -2147483648 ≤ Xi S 904 19 ∧ Xi S 904 19 ≤ 2147483647 := Xi_rgI
  have w7 : -2147483648 ≤ Xi S 904 30 ∧ Xi S 904 30 ≤ 2147483647 := Xi_rgI
  have w8 : -2147483648 ≤ Xi S 904 32 ∧ Xi S 904 32 ≤ 2147483647 := Xi_rgI
  have w9 : -2147483648 ≤ Xi S 904 69 ∧ Xi S 904 69 ≤ 2147483647 := Xi_rgI
  have w10 : -2147483648 ≤ Xi S 904 70 ∧ Xi S 904 70 ≤ 2147483647 := Xi_rgI
  have w11 : -2147483648 ≤ Xi S 904 71 ∧ Xi S 904 71 ≤ 2147483647 := Xi_rgI
  have w12 : -2147483648 ≤ Xi S 904 72 ∧ Xi S 904 72 ≤ 2147483647 := Xi_rgI
  have w13 : -2147483648 ≤ Xi S 904 74 ∧ Xi S 904 74 ≤ 2147483647 := Xi_rgI
  have w14 : -2147483648 ≤ Xi S 904 75 ∧ Xi S 904 75 ≤ 2147483647 := Xi_rgI
  have w15 : -2147483648 ≤ Xi S 904 78 ∧ Xi S 904 78 ≤ 2147483647 := Xi_rgI
  have C300 : ∀ (n300 : Nat) (_ : n300 ≤ fu) (T1 : sS) (_ : RI T1) (_ : FR md_mo_does__15c S T1) (v2 : Int), (-2147483648 ≤ v2 ∧ v2 ≤ 2147483647) → ((1 : Int) = 0) → Pl n300 lay0 (d + 7) m_mo_does 300 [(0, .ref 904), (2, iv v2)] [] T1 (Q_mo_does__15c S first) := by
    intro n300
    induction n300 with
    | zero => intros; exact Pl_0
    | succ n300 ih300 =>
      intro hm300 T1 hHT1 hFT1 v2 w16 w17
      have w18 : Xi T1 904 110 = Xi S 904 110 := hFT1.x _ _ rfl
      have w19 : Xi T1 904 112 = Xi S 904 112 := hFT1.x _ _ rfl
      have w20 : Xi T1 904 142 = Xi S 904 142 := hFT1.x _ _ rfl
      have w21 : Xi T1 904 69 = Xi S 904 69 := hFT1.x _ _ rfl
      have w22 : Xi T1 904 70 = Xi S 904 70 := hFT1.x _ _ rfl
      have w23 : Xi T1 904 71 = Xi S 904 71 := hFT1.x _ _ rfl
      have w24 : Xi T1 904 72 = Xi S 904 72 := hFT1.x _ _ rfl
      have w25 : Xi T1 904 74 = Xi S 904 74 := hFT1.x _ _ rfl
      have w26 : Xi T1 904 78 = Xi S 904 78 := hFT1.x _ _ rfl
      have w27 : Xi T1 904 94 = Xi S 904 94 := hFT1.x _ _ rfl
      have w28 : Xi T1 951 1 = Xi S 951 1 := hFT1.x _ _ rfl
      have w29 : Xi T1 951 2 = Xi S 951 2 := hFT1.x _ _ rfl
      have w30 : Xi T1 967 0 = Xi S 967 0 := hFT1.x _ _ rfl
      have w31 : -2147483648 ≤ Xi T1 904 106 ∧ Xi T1 904 106 ≤ 2147483647 := Xi_rgI
      have w32 : -2147483648 ≤ Xi T1 904 110 ∧ Xi T1 904 110 ≤ 2147483647 := Xi_rgI
      have w33 : -2147483648 ≤ Xi T1 904 112 ∧ Xi T1 904 112 ≤ 2147483647 := Xi_rgI
      have w34 : -2147483648 ≤ Xi T1 904 142 ∧ Xi T1 904 142 ≤ 2147483647 := Xi_rgI
      have w35 : -2147483648 ≤ Xi T1 904 15 ∧ Xi T1 904 15 ≤ 2147483647 := Xi_rgI
      have w36 : -2147483648 ≤ Xi T1 904 19 ∧ Xi T1 904 19 ≤ 2147483647 := Xi_rgI
      have w37 : -2147483648 ≤ Xi T1 904 30 ∧ Xi T1 904 30 ≤ 2147483647 := Xi_rgI
      have w38 : -2147483648 ≤ Xi T1 904 32 ∧ Xi T1 904 32 ≤ 2147483647 := Xi_rgI
      have w39 : -2147483648 ≤ Xi T1 904 69 ∧ Xi T1 904 69 ≤ 2147483647 := Xi_rgI
      have w40 : -2147483648 ≤ Xi T1 904 70 ∧ Xi T1 904 70 ≤ 2147483647 := Xi_rgI
      have w41 : -2147483648 ≤ Xi T1 904 71 ∧ Xi T1 904 71 ≤ 2147483647 := Xi_rgI
      have w42 : -2147483648 ≤ Xi T1 904 72 ∧ Xi T1 904 72 ≤ 2147483647 := Xi_rgI
      have w43 : -2147483648 ≤ Xi T1 904 74 ∧ Xi T1 904 74 ≤ 2147483647 := Xi_rgI
      have w44 : -2147483648 ≤ Xi T1 904 75 ∧ Xi T1 904 75 ≤ 2147483647 := Xi_rgI
      have w45 : -2147483648 ≤ Xi T1 904 78 ∧ Xi T1 904 78 ≤ 2147483647 := Xi_rgI
      exfalso; omega
  refine y_aload_n rfl rfl ?_
  refine y_gfi rfl rfl rfl rfl rfl ?_
  refine y_tsw rfl rfl rfl rfl (by unfold rg; omega) (fun w46 => ?_) (fun ii tt hii w46 => ?_)
  · refine y_return rfl rfl ?_
    exact ⟨hH, hF, rfl, (by first | (have t := K369; exact o369) | (exfalso; omega))⟩
  · match ii, hii with
    | 0, hii =>
      cases hii
      have w47 : (Xi S 904 70) = 0 := by simpa using w46
      exfalso; omega
    | 1, hii =>
      cases hii
      have w48 : (Xi S 904 70) = 1 := by simpa using w46
      exfalso; omega
    | 2, hii =>
      cases hii
      have w49 : (Xi S 904 70) = 2 := by simpa using w46
      exfalso; omega
    | 3, hii =>
      cases hii
      have w50 : (Xi S 904 70) = 3 := by simpa using w46
      refine y_return rfl rfl ?_
      exact ⟨hH, hF, rfl, (by first | (have t := K369; exact o369) | (exfalso; omega))⟩
    | 4, hii =>
      cases hii
      have w51 : (Xi S 904 70) = 4 := by simpa using w46
      refine y_return rfl rfl ?_
      exact ⟨hH, hF, rfl, (by first | (have t := K369; exact o369) | (exfalso; omega))⟩
    | 5, hii =>
      cases hii
      have w52 : (Xi S 904 70) = 5 := by simpa using w46
      refine y_return rfl rfl ?_
      exact ⟨hH, hF, rfl, (by first | (have t := K369; exact o369) | (exfalso; omega))⟩
    | 6, hii =>
      cases hii
      have w53 : (Xi S 904 70) = 6 := by simpa using w46
      refine y_return rfl rfl ?_
      exact ⟨hH, hF, rfl, (by first | (have t := K369; exact o369) | (exfalso; omega))⟩
    | 7, hii =>
      cases hii
      have w54 : (Xi S 904 70) = 7 := by simpa using w46
      exfalso; omega
    | 8, hii =>
      cases hii
      have w55 : (Xi S 904 70) = 8 := by simpa using w46
      exfalso; omega
    | 9, hii =>
      cases hii
      have w56 : (Xi S 904 70) = 9 := by simpa using w46
      exfalso; omega
    | 10, hii =>
      cases hii
      have w57 : (Xi S 904 70) = 10 := by simpa using w46
      exfalso; omega
    | 11, hii =>
      cases hii
      have w58 : (Xi S 904 70) = 11 := by simpa using w46
      exfalso; omega
    | 12, hii =>
      cases hii
      have w59 : (Xi S 904 70) = 12 := by simpa using w46
      exfalso; omega
    | 13, hii =>
      cases hii
      have w60 : (Xi S 904 70) = 13 := by simpa using w46
      exfalso; omega
    | 14, hii =>
      cases hii
      have w61 : (Xi S 904 70) = 14 := by simpa using w46
      exfalso; omega
    | 15, hii =>
      cases hii
      have w62 : (Xi S 904 70) = 15 := by simpa using w46
      refine y_aload_n rfl rfl ?_
      refine y_callV rfl rfl rfl (t_mo_doFifteen__3 hH (by first | assumption | exact (by assumption : LSP S)) (by first | assumption | omega) (by first | assumption | exact (RBD_FR hF rfl (by assumption : RBD S))) (by first | assumption | exact (by assumption : LXR S)) (by first | assumption | exact (by assumption : ABV S)) (by first | assumption | omega) (by first | assumption | omega) (by first | assumption | omega) (by first | assumption | omega) (by first | assumption | omega) (by first | assumption | omega) (by first | assumption | omega) (by first | assumption | omega) (by first | assumption | omega) (by first | assumption | omega) (by first | assumption | omega) (by first | assumption | omega) _) ?_
      rintro _ T2 ⟨hHT2, w64, rfl, o369⟩
      have hFT2 : FR md_mo_does__15c S T2 := FR.tr hF w64 rfl
      show Pl _ _ _ _ _ _ [] _ _
      have K369 : True := trivial
      refine y_goto rfl rfl ?_
      refine y_return rfl rfl ?_
      exact ⟨hHT2, hFT2, rfl, (by first | (have t := K369; exact o369) | (exfalso; omega))⟩
    | 16, hii =>
      cases hii
      have w76 : (Xi S 904 70) = 16 := by simpa using w46
      refine y_aload_n rfl rfl ?_
      refine y_callV rfl rfl rfl (t_mo_doFifteen__3 hH (by first | assumption | exact (by assumption : LSP S)) (by first | assumption | omega) (by first | assumption | exact (RBD_FR hF rfl (by assumption : RBD S))) (by first | assumption | exact (by assumption : LXR S)) (by first | assumption | exact (by assumption : ABV S)) (by first | assumption | omega) (by first | assumption | omega) (by first | assumption | omega) (by first | assumption | omega) (by first | assumption | omega) (by first | assumption | omega) (by first | assumption | omega) (by first | assumption | omega) (by first | assumption | omega) (by first | assumption | omega) (by first | assumption | omega) (by first | assumption | omega) _) ?_
      rintro _ T3 ⟨hHT3, w78, rfl, o369⟩
      have hFT3 : FR md_mo_does__15c S T3 := FR.tr hF w78 rfl
      show Pl _ _ _ _ _ _ [] _ _
      have K369 : True := trivial
      refine y_goto rfl rfl ?_
      refine y_return rfl rfl ?_
      exact ⟨hHT3, hFT3, rfl, (by first | (have t := K369; exact o369) | (exfalso; omega))⟩
    | 17, hii =>
      cases hii
      have w90 : (Xi S 904 70) = 17 := by simpa using w46
      exfalso; omega
    | 18, hii =>
      cases hii
      have w91 : (Xi S 904 70) = 18 := by simpa using w46
      exfalso; omega
    | 19, hii =>
      cases hii
      have w92 : (Xi S 904 70) = 19 := by simpa using w46
      exfalso; omega
    | 20, hii =>
      cases hii
      have w93 : (Xi S 904 70) = 20 := by simpa using w46
      exfalso; omega
    | n + 21, hii => exact absurd hii (by simp)
def md_mo_does__15d : List rec := [(904, 905, 15, 16), (904, 905, 16, 17), (904, 905, 18, 19), (904, 905, 19, 20), (904, 905, 23, 24), (904, 905, 30, 31), (904, 905, 32, 33), (904, 905, 41, 42), (904, 905, 47, 48), (904, 905, 49, 50), (904, 905, 51, 52), (904, 905, 55, 56), (904, 905, 60, 61), (904, 905, 64, 65), (904, 905, 73, 74), (904, 905, 105, 106), (904, 905, 106, 107), (904, 905, 113, 114), (904, 905, 117, 118), (912, 913, 0, 100000), (913, 914, 0, 100000), (914, 915, 0, 100000), (915, 916, 0, 100000), (916, 917, 0, 100000), (917, 918, 0, 100000), (918, 919, 0, 100000), (919, 920, 0, 100000), (920, 921, 0, 100000), (921, 922, 0, 100000), (922, 923, 0, 100000), (923, 924, 0, 100000), (924, 925, 0, 100000), (925, 926, 0, 100000), (926, 927, 0, 100000), (927, 928, 0, 100000), (928, 929, 0, 100000), (929, 930, 0, 100000), (930, 931, 0, 100000), (931, 932, 0, 100000), (932, 933, 0, 100000), (933, 934, 0, 100000), (934, 935, 0, 100000), (935, 936, 0, 100000), (936, 937, 0, 100000), (937, 938, 0, 100000), (938, 939, 0, 100000), (939, 940, 0, 100000), (940, 941, 0, 100000), (941, 942, 0, 100000), (942, 943, 0, 100000), (943, 944, 0, 100000), (944, 945, 0, 100000), (945, 946, 0, 100000), (946, 947, 0, 100000), (947, 948, 0, 100000), (948, 949, 0, 100000), (949, 950, 0, 100000)]
abbrev Q_mo_does__15d (S : sS) (first : Int) : pst := fun r S1 => RI S1 ∧ FR md_mo_does__15d S S1 ∧ (r = none ∧ (RVB4 S S1))
set_option maxRecDepth 100000 in
theorem t_mo_does__15d {S : sS} (hH : RI S) (first : Int) (hfirst : 0 ≤ first ∧ first ≤ 5001) (hLS : LSP S) (h15 : 0 ≤ Xi S 904 15) (hRB : RBD S) (hLX : LXR S) (hB : ABV S) (hl : 0 ≤ Xi S 904 71 ∧ Xi S 904 71 ≤ 2600 ∧ 0 ≤ Xi S 904 72 ∧ Xi S 904 72 ≤ 2600) (hkb : Hid (KB3 S)) (hct : Hid (∀ j : Nat, -1 ≤ Xi S 922 j ∧ Xi S 922 j ≤ 23)) (hp32 : 0 ≤ Xi S 904 32 ∧ Xi S 904 32 ≤ 12) (hh : Xi S 904 142 = 4) (hz0 : Xi S 904 106 = 0) (hfw : 0 ≤ Xi S 950 (Xi S 904 78).toNat ∧ Xi S 950 (Xi S 904 78).toNat ≤ 5100) (hac : Hid (∀ i : Nat, (i : Int) < Xi S 904 72 → (0 ≤ o15R S i ∧ o15R S i ≤ 23) ∧ 0 ≤ a15R S (o15R S i) ∧ a15R S (o15R S i) ≤ 7000)) (hs : 15 ≤ Xi S 904 70 ∧ Xi S 904 70 ≤ 16) (d : Nat) : Mp lay0 (d + 8) m_mo_does [.ref 904, iv first] S (Q_mo_does__15d S first) := by
  refine Mp_R rfl rfl (fun fu => ?_)
  have hF : FR md_mo_does__15d S S := FR.rf
  have w1 : -2147483648 ≤ Xi S 904 106 ∧ Xi S 904 106 ≤ 2147483647 := Xi_rgI
  have w2 : -2147483648 ≤ Xi S 904 110 ∧ Xi S 904 110 ≤ 2147483647 := Xi_rgI
  have w3 : -2147483648 ≤ Xi S 904 112 ∧ Xi S 904 112 ≤ 2147483647 := Xi_rgI
  have w4 : -2147483648 ≤ Xi S 904 142 ∧ Xi S 904 142 ≤ 2147483647 := Xi_rgI
  have w5 : -2147483648 ≤ Xi S 904 15 ∧ Xi S 904 15 ≤ 2147483647 := Xi_rgI
  have w6 : -2147483648 ≤ Xi S 904 19 ∧ Xi S 904 19 ≤ 2147483647 := Xi_rgI
  have w7 : -2147483648 ≤ Xi S 904 30 ∧ Xi S 904 30 ≤ 2147483647 := Xi_rgI
  have w8 : -2147483648 ≤ Xi S 904 32 ∧ Xi S 904 32 ≤ 2147483647 := Xi_rgI
  have w9 : -2147483648 ≤ Xi S 904 69 ∧ Xi S 904 69 ≤ 2147483647 := Xi_rgI
  have w10 : -2147483648 ≤ Xi S 904 70 ∧ Xi S 904 70 ≤ 2147483647 := Xi_rgI
  have w11 : -2147483648 ≤ Xi S 904 71 ∧ Xi S 904 71 ≤ 2147483647 := Xi_rgI
  have w12 : -2147483648 ≤ Xi S 904 72 ∧ Xi S 904 72 ≤ 2147483647 := Xi_rgI
  have w13 : -2147483648 ≤ Xi S 904 74 ∧ Xi S 904 74 ≤ 2147483647 := Xi_rgI
  have w14 : -2147483648 ≤ Xi S 904 75 ∧ Xi S 904 75 ≤ 2147483647 := Xi_rgI
  have w15 : -2147483648 ≤ Xi S 904 78 ∧ Xi S 904 78 ≤ 2147483647 := Xi_rgI
  have C300 : ∀ (n300 : Nat) (_ : n300 ≤ fu) (T1 : sS) (_ : RI T1) (_ : FR md_mo_does__15d S T1) (v2 : Int), (-2147483648 ≤ v2 ∧ v2 ≤ 2147483647) → ((1 : Int) = 0) → Pl n300 lay0 (d + 7) m_mo_does 300 [(0, .ref 904), (2, iv v2)] [] T1 (Q_mo_does__15d S first) := by
    intro n300
    induction n300 with
    | zero => intros; exact Pl_0
    | succ n300 ih300 =>
      intro hm300 T1 hHT1 hFT1 v2 w16 w17
      have w18 : Xi T1 904 110 = Xi S 904 110 := hFT1.x _ _ rfl
      have w19 : Xi T1 904 112 = Xi S 904 112 := hFT1.x _ _ rfl
      have w20 : Xi T1 904 142 = Xi S 904 142 := hFT1.x _ _ rfl
      have w21 : Xi T1 904 69 = Xi S 904 69 := hFT1.x _ _ rfl
      have w22 : Xi T1 904 70 = Xi S 904 70 := hFT1.x _ _ rfl
      have w23 : Xi T1 904 71 = Xi S 904 71 := hFT1.x _ _ rfl
      have w24 : Xi T1 904 72 = Xi S 904 72 := hFT1.x _ _ rfl
      have w25 : Xi T1 904 74 = Xi S 904 74 := hFT1.x _ _ rfl
      have w26 : Xi T1 904 78 = Xi S 904 78 := hFT1.x _ _ rfl
      have w27 : Xi T1 904 94 = Xi S 904 94 := hFT1.x _ _ rfl
      have w28 : Xi T1 951 1 = Xi S 951 1 := hFT1.x _ _ rfl
      have w29 : Xi T1 951 2 = Xi S 951 2 := hFT1.x _ _ rfl
      have w30 : Xi T1 967 0 = Xi S 967 0 := hFT1.x _ _ rfl
      have w31 : -2147483648 ≤ Xi T1 904 106 ∧ Xi T1 904 106 ≤ 2147483647 := Xi_rgI
      have w32 : -2147483648 ≤ Xi T1 904 110 ∧ Xi T1 904 110 ≤ 2147483647 := Xi_rgI
      have w33 : -2147483648 ≤ Xi T1 904 112 ∧ Xi T1 904 112 ≤ 2147483647 := Xi_rgI
      have w34 : -2147483648 ≤ Xi T1 904 142 ∧ Xi T1 904 142 ≤ 2147483647 := Xi_rgI
      have w35 : -2147483648 ≤ Xi T1 904 15 ∧ Xi T1 904 15 ≤ 2147483647 := Xi_rgI
      have w36 : -2147483648 ≤ Xi T1 904 19 ∧ Xi T1 904 19 ≤ 2147483647 := Xi_rgI
      have w37 : -2147483648 ≤ Xi T1 904 30 ∧ Xi T1 904 30 ≤ 2147483647 := Xi_rgI
      have w38 : -2147483648 ≤ Xi T1 904 32 ∧ Xi T1 904 32 ≤ 2147483647 := Xi_rgI
      have w39 : -2147483648 ≤ Xi T1 904 69 ∧ Xi T1 904 69 ≤ 2147483647 := Xi_rgI
      have w40 : -2147483648 ≤ Xi T1 904 70 ∧ Xi T1 904 70 ≤ 2147483647 := Xi_rgI
      have w41 : -2147483648 ≤ Xi T1 904 71 ∧ Xi T1 904 71 ≤ 2147483647 := Xi_rgI
      have w42 : -2147483648 ≤ Xi T1 904 72 ∧ Xi T1 904 72 ≤ 2147483647 := Xi_rgI
      have w43 : -2147483648 ≤ Xi T1 904 74 ∧ Xi T1 904 74 ≤ 2147483647 := Xi_rgI
      have w44 : -2147483648 ≤ Xi T1 904 75 ∧ Xi T1 904 75 ≤ 2147483647 := Xi_rgI
      have w45 : -2147483648 ≤ Xi T1 904 78 ∧ Xi T1 904 78 ≤ 2147483647 := Xi_rgI
      exfalso; omega
  refine y_aload_n rfl rfl ?_
  refine y_gfi rfl rfl rfl rfl rfl ?_
  refine y_tsw rfl rfl rfl rfl (by unfold rg; omega) (fun w46 => ?_) (fun ii tt hii w46 => ?_)
  · refine y_return rfl rfl ?_
    exact ⟨hH, hF, rfl, (by first | (have t := K369; exact o369) | (exfalso; omega))⟩
  · match ii, hii with
    | 0, hii =>
      cases hii
      have w47 : (Xi S 904 70) = 0 := by simpa using w46
      exfalso; omega
    | 1, hii =>
      cases hii
      have w48 : (Xi S 904 70) = 1 := by simpa using w46
      exfalso; omega
    | 2, hii =>
      cases hii
      have w49 : (Xi S 904 70) = 2 := by simpa using w46
      exfalso; omega
    | 3, hii =>
      cases hii
      have w50 : (Xi S 904 70) = 3 := by simpa using w46
      refine y_return rfl rfl ?_
      exact ⟨hH, hF, rfl, (by first | (have t := K369; exact o369) | (exfalso; omega))⟩
    | 4, hii =>
      cases hii
      have w51 : (Xi S 904 70) = 4 := by simpa using w46
      refine y_return rfl rfl ?_
      exact ⟨hH, hF, rfl, (by first | (have t := K369; exact o369) | (exfalso; omega))⟩
    | 5, hii =>
      cases hii
      have w52 : (Xi S 904 70) = 5 := by simpa using w46
      refine y_return rfl rfl ?_
      exact ⟨hH, hF, rfl, (by first | (have t := K369; exact o369) | (exfalso; omega))⟩
    | 6, hii =>
      cases hii
      have w53 : (Xi S 904 70) = 6 := by simpa using w46
      refine y_return rfl rfl ?_
      exact ⟨hH, hF, rfl, (by first | (have t := K369; exact o369) | (exfalso; omega))⟩
    | 7, hii =>
      cases hii
      have w54 : (Xi S 904 70) = 7 := by simpa using w46
      exfalso; omega
    | 8, hii =>
      cases hii
      have w55 : (Xi S 904 70) = 8 := by simpa using w46
      exfalso; omega
    | 9, hii =>
      cases hii
      have w56 : (Xi S 904 70) = 9 := by simpa using w46
      exfalso; omega
    | 10, hii =>
      cases hii
      have w57 : (Xi S 904 70) = 10 := by simpa using w46
      exfalso; omega
    | 11, hii =>
      cases hii
      have w58 : (Xi S 904 70) = 11 := by simpa using w46
      exfalso; omega
    | 12, hii =>
      cases hii
      have w59 : (Xi S 904 70) = 12 := by simpa using w46
      exfalso; omega
    | 13, hii =>
      cases hii
      have w60 : (Xi S 904 70) = 13 := by simpa using w46
      exfalso; omega
    | 14, hii =>
      cases hii
      have w61 : (Xi S 904 70) = 14 := by simpa using w46
      exfalso; omega
    | 15, hii =>
      cases hii
      have w62 : (Xi S 904 70) = 15 := by simpa using w46
      refine y_aload_n rfl rfl ?_
      refine y_callV rfl rfl rfl (t_mo_doFifteen__4 hH (by first | assumption | exact (by assumption : LSP S)) (by first | assumption | omega) (by first | assumption | exact (RBD_FR hF rfl (by assumption : RBD S))) (by first | assumption | exact (by assumption : LXR S)) (by first | assumption | exact (by assumption : ABV S)) (by first | assumption | omega) (by first | assumption | omega) (by first | assumption | omega) (by first | assumption | omega) (by first | assumption | omega) (by first | assumption | omega) (by first | assumption | omega) (by first | assumption | omega) _) ?_
      rintro _ T2 ⟨hHT2, w64, rfl, o369⟩
      have hFT2 : FR md_mo_does__15d S T2 := FR.tr hF w64 rfl
      show Pl _ _ _ _ _ _ [] _ _
      have K369 : True := trivial
      refine y_goto rfl rfl ?_
      refine y_return rfl rfl ?_
      exact ⟨hHT2, hFT2, rfl, (by first | (have t := K369; exact o369) | (exfalso; omega))⟩
    | 16, hii =>
      cases hii
      have w76 : (Xi S 904 70) = 16 := by simpa using w46
      refine y_aload_n rfl rfl ?_
      refine y_callV rfl rfl rfl (t_mo_doFifteen__4 hH (by first | assumption | exact (by assumption : LSP S)) (by first | assumption | omega) (by first | assumption | exact (RBD_FR hF rfl (by assumption : RBD S))) (by first | assumption | exact (by assumption : LXR S)) (by first | assumption | exact (by assumption : ABV S)) (by first | assumption | omega) (by first | assumption | omega) (by first | assumption | omega) (by first | assumption | omega) (by first | assumption | omega) (by first | assumption | omega) (by first | assumption | omega) (by first | assumption | omega) _) ?_
      rintro _ T3 ⟨hHT3, w78, rfl, o369⟩
      have hFT3 : FR md_mo_does__15d S T3 := FR.tr hF w78 rfl
      show Pl _ _ _ _ _ _ [] _ _
      have K369 : True := trivial
      refine y_goto rfl rfl ?_
      refine y_return rfl rfl ?_
      exact ⟨hHT3, hFT3, rfl, (by first | (have t := K369; exact o369) | (exfalso; omega))⟩
    | 17, hii =>
      cases hii
      have w90 : (Xi S 904 70) = 17 := by simpa using w46
      exfalso; omega
    | 18, hii =>
      cases hii
      have w91 : (Xi S 904 70) = 18 := by simpa using w46
      exfalso; omega
    | 19, hii =>
      cases hii
      have w92 : (Xi S 904 70) = 19 := by simpa using w46
      exfalso; omega
    | 20, hii =>
      cases hii
      have w93 : (Xi S 904 70) = 20 := by simpa using w46
      exfalso; omega
    | n + 21, hii => exact absurd hii (by simp)
end
section
/-! 15, 16: the reference asks: what asked writes before -/
def lA : List rec := [(904, 905, 106, 107), (904, 905, 108, 109), (904, 905, 115, 116), (904, 905, 116, 117)]

def md_mo_asked__15a : List rec := [(904, 905, 64, 65), (904, 905, 104, 105), (904, 905, 105, 106), (904, 905, 106, 107), (904, 905, 108, 109), (904, 905, 109, 110), (904, 905, 110, 111), (904, 905, 112, 113), (904, 905, 113, 114), (904, 905, 115, 116), (904, 905, 116, 117), (904, 905, 117, 118), (904, 905, 125, 126), (904, 905, 128, 129), (904, 905, 129, 130), (904, 905, 130, 131), (904, 905, 142, 143), (904, 905, 144, 145), (904, 905, 146, 147), (904, 905, 147, 148), (904, 905, 150, 151), (904, 905, 151, 152), (904, 905, 153, 154), (904, 905, 154, 155), (904, 905, 156, 157), (904, 905, 157, 158), (904, 905, 158, 159), (904, 905, 160, 161), (966, 967, 0, 100000), (967, 968, 0, 100000), (968, 969, 0, 100000), (969, 970, 0, 100000), (970, 971, 0, 100000), (971, 972, 0, 100000), (972, 973, 0, 100000), (973, 974, 0, 100000), (974, 975, 0, 100000), (975, 976, 0, 100000), (976, 977, 0, 100000), (977, 978, 0, 100000), (978, 979, 0, 100000), (979, 980, 0, 100000), (980, 981, 0, 100000), (981, 982, 0, 100000), (982, 983, 0, 100000), (983, 984, 0, 100000), (984, 985, 0, 100000), (985, 986, 0, 100000), (986, 987, 0, 100000), (987, 988, 0, 100000), (988, 989, 0, 100000), (989, 990, 0, 100000), (990, 991, 0, 100000), (991, 992, 0, 100000), (992, 993, 0, 100000), (993, 994, 0, 100000), (994, 995, 0, 100000)]
abbrev Q_mo_asked__15a (S : sS) (first : Int) : pst := fun r S1 => RI S1 ∧ FR md_mo_asked__15a S S1 ∧ (r = none ∧ (∃ P : sS, FR lA S P ∧ (Xi P 904 106 = 0 ∧ Xi P 904 108 = 0) ∧ RAU P S1))
set_option maxRecDepth 100000 in
theorem t_mo_asked__15a {S : sS} (hH : RI S) (first : Int) (hfirst : 0 ≤ first ∧ first ≤ 5001) (hLS : LSP S) (h15 : 0 ≤ Xi S 904 15) (hRB : RBD S) (hLX : LXR S) (hB : ABV S) (hu : Xi S 904 76 ≠ 0) (hp32 : 0 ≤ Xi S 904 32 ∧ Xi S 904 32 ≤ 12) (hk15 : rnR S (Xi S 904 71) 0 ≤ 15) (hfw : 0 ≤ Xi S 950 (Xi S 904 78).toNat ∧ Xi S 950 (Xi S 904 78).toNat ≤ 5100) (hl : 0 ≤ Xi S 904 71 ∧ Xi S 904 71 ≤ 2600) (hq1 : Hid (1 < Xi S 904 72 → pR S (Xi S 904 71) < pR S (Xi S 904 71 + 1))) (hq2 : Hid (1 < Xi S 904 72 → pR S (Xi S 904 71 + 1) < Xi S 908 (fW S).toNat)) (hs : Xi S 904 70 = 15) (d : Nat) : Mp lay0 (d + 13) m_mo_asked [.ref 904, iv first] S (Q_mo_asked__15a S first) := by
  refine Mp_R rfl rfl (fun fu => ?_)
  have hF : FR md_mo_asked__15a S S := FR.rf
  have w1 : -2147483648 ≤ Xi S 904 104 ∧ Xi S 904 104 ≤ 2147483647 := Xi_rgI
  have w2 : -2147483648 ≤ Xi S 904 105 ∧ Xi S 904 105 ≤ 2147483647 := Xi_rgI
  have w3 : -2147483648 ≤ Xi S 904 106 ∧ Xi S 904 106 ≤ 2147483647 := Xi_rgI
  have w4 : -2147483648 ≤ Xi S 904 108 ∧ Xi S 904 108 ≤ 2147483647 := Xi_rgI
  have w5 : -2147483648 ≤ Xi S 904 15 ∧ Xi S 904 15 ≤ 2147483647 := Xi_rgI
  have w6 : -2147483648 ≤ Xi S 904 19 ∧ Xi S 904 19 ≤ 2147483647 := Xi_rgI
  have w7 : -2147483648 ≤ Xi S 904 30 ∧ Xi S 904 30 ≤ 2147483647 := Xi_rgI
  have w8 : -2147483648 ≤ Xi S 904 32 ∧ Xi S 904 32 ≤ 2147483647 := Xi_rgI
  have w9 : -2147483648 ≤ Xi S 904 69 ∧ Xi S 904 69 ≤ 2147483647 := Xi_rgI
  have w10 : -2147483648 ≤ Xi S 904 70 ∧ Xi S 904 70 ≤ 2147483647 := Xi_rgI
  have w11 : -2147483648 ≤ Xi S 904 71 ∧ Xi S 904 71 ≤ 2147483647 := Xi_rgI
  have w12 : -2147483648 ≤ Xi S 904 72 ∧ Xi S 904 72 ≤ 2147483647 := Xi_rgI
  have w13 : -2147483648 ≤ Xi S 904 75 ∧ Xi S 904 75 ≤ 2147483647 := Xi_rgI
  have w14 : -2147483648 ≤ Xi S 904 76 ∧ Xi S 904 76 ≤ 2147483647 := Xi_rgI
  have w15 : -2147483648 ≤ Xi S 904 77 ∧ Xi S 904 77 ≤ 2147483647 := Xi_rgI
  have w16 : -2147483648 ≤ Xi S 904 78 ∧ Xi S 904 78 ≤ 2147483647 := Xi_rgI
  refine y_aload_n rfl rfl ?_
  refine y_iconst rfl ?_
  refine y_pfi rfl rfl rfl rfl ?_
  obtain ⟨U1, eU1⟩ : ∃ T : sS, T = uI S 904 106 (Int32.ofInt 0) := ⟨_, rfl⟩
  rw [← eU1]
  have hHU1 : RI U1 := by rw [eU1]; exact RI_w hH
  have hFU1 : FR md_mo_asked__15a S U1 := by rw [eU1]; exact FR.wI hF (mdf_i (r := (904, 905, 106, 107)) (List.mem_of_getElem? (i := 3) rfl) (inR_i (by omega) (by omega) (by omega) (by omega)))
  have w17 : Xi U1 904 106 = 0 := by rw [eU1]; exact Xi_same (by unfold rg; omega)
  have FA2 : FR lA S U1 := by rw [eU1]; exact FR.wI FR.rf (mdf_i (r := (904, 905, 106, 107)) (List.mem_of_getElem? (i := 0) rfl) (inR_i (by omega) (by omega) (by omega) (by omega)))
  refine y_aload_n rfl rfl ?_
  refine y_iconst rfl ?_
  refine y_pfi rfl rfl rfl rfl ?_
  obtain ⟨U2, eU2⟩ : ∃ T : sS, T = uI U1 904 108 (Int32.ofInt 0) := ⟨_, rfl⟩
  rw [← eU2]
  have hHU2 : RI U2 := by rw [eU2]; exact RI_w hHU1
  have hFU2 : FR md_mo_asked__15a S U2 := by rw [eU2]; exact FR.wI hFU1 (mdf_i (r := (904, 905, 108, 109)) (List.mem_of_getElem? (i := 4) rfl) (inR_i (by omega) (by omega) (by omega) (by omega)))
  have w18 : Xi U2 904 108 = 0 := by rw [eU2]; exact Xi_same (by unfold rg; omega)
  have FA7 : FR lA S U2 := by rw [eU2]; exact FR.wI FA2 (mdf_i (r := (904, 905, 108, 109)) (List.mem_of_getElem? (i := 1) rfl) (inR_i (by omega) (by omega) (by omega) (by omega)))
  refine y_aload_n rfl rfl ?_
  refine y_iconst rfl ?_
  refine y_pfi rfl rfl rfl rfl ?_
  obtain ⟨U3, eU3⟩ : ∃ T : sS, T = uI U2 904 115 (Int32.ofInt (-1)) := ⟨_, rfl⟩
  rw [← eU3]
  have hHU3 : RI U3 := by rw [eU3]; exact RI_w hHU2
  have hFU3 : FR md_mo_asked__15a S U3 := by rw [eU3]; exact FR.wI hFU2 (mdf_i (r := (904, 905, 115, 116)) (List.mem_of_getElem? (i := 9) rfl) (inR_i (by omega) (by omega) (by omega) (by omega)))
  have w19 : Xi U3 904 115 = (-1) := by rw [eU3]; exact Xi_same (by unfold rg; omega)
  have FA12 : FR lA S U3 := by rw [eU3]; exact FR.wI FA7 (mdf_i (r := (904, 905, 115, 116)) (List.mem_of_getElem? (i := 2) rfl) (inR_i (by omega) (by omega) (by omega) (by omega)))
  refine y_aload_n rfl rfl ?_
  refine y_iconst rfl ?_
  refine y_pfi rfl rfl rfl rfl ?_
  obtain ⟨U4, eU4⟩ : ∃ T : sS, T = uI U3 904 116 (Int32.ofInt (-1)) := ⟨_, rfl⟩
  rw [← eU4]
  have hHU4 : RI U4 := by rw [eU4]; exact RI_w hHU3
  have hFU4 : FR md_mo_asked__15a S U4 := by rw [eU4]; exact FR.wI hFU3 (mdf_i (r := (904, 905, 116, 117)) (List.mem_of_getElem? (i := 10) rfl) (inR_i (by omega) (by omega) (by omega) (by omega)))
  have w20 : Xi U4 904 116 = (-1) := by rw [eU4]; exact Xi_same (by unfold rg; omega)
  have FA17 : FR lA S U4 := by rw [eU4]; exact FR.wI FA12 (mdf_i (r := (904, 905, 116, 117)) (List.mem_of_getElem? (i := 3) rfl) (inR_i (by omega) (by omega) (by omega) (by omega)))
  have m17 : SMR S U4 := SMR_FR FA17 rfl rfl
  refine y_aload_n rfl rfl ?_
  refine y_gfi rfl rfl rfl rfl rfl ?_
  have w21 : (Xi U4 904 70) = (Xi S 904 70) := (show Xi U4 904 70 = Xi U3 904 70 from by rw [eU4]; exact Xi_ne (by omega)).trans ( (show Xi U3 904 70 = Xi U2 904 70 from by rw [eU3]; exact Xi_ne (by omega)).trans ( (show Xi U2 904 70 = Xi U1 904 70 from by rw [eU2]; exact Xi_ne (by omega)).trans ((show Xi U1 904 70 = Xi S 904 70 from by rw [eU1]; exact Xi_ne (by omega)))))
  rw [w21]
  refine y_tsw rfl rfl rfl rfl (by unfold rg; omega) (fun w22 => ?_) (fun ii tt hii w22 => ?_)
  · exfalso; omega
  · match ii, hii with
    | 0, hii =>
      cases hii
      have w23 : (Xi S 904 70) = 0 := by simpa using w22
      exfalso; omega
    | 1, hii =>
      cases hii
      have w24 : (Xi S 904 70) = 1 := by simpa using w22
      exfalso; omega
    | 2, hii =>
      cases hii
      have w25 : (Xi S 904 70) = 2 := by simpa using w22
      exfalso; omega
    | 3, hii =>
      cases hii
      have w26 : (Xi S 904 70) = 3 := by simpa using w22
      exfalso; omega
    | 4, hii =>
      cases hii
      have w27 : (Xi S 904 70) = 4 := by simpa using w22
      exfalso; omega
    | 5, hii =>
      cases hii
      have w28 : (Xi S 904 70) = 5 := by simpa using w22
      exfalso; omega
    | 6, hii =>
      cases hii
      have w29 : (Xi S 904 70) = 6 := by simpa using w22
      exfalso; omega
    | 7, hii =>
      cases hii
      have w30 : (Xi S 904 70) = 7 := by simpa using w22
      exfalso; omega
    | 8, hii =>
      cases hii
      have w31 : (Xi S 904 70) = 8 := by simpa using w22
      exfalso; omega
    | 9, hii =>
      cases hii
      have w32 : (Xi S 904 70) = 9 := by simpa using w22
      exfalso; omega
    | 10, hii =>
      cases hii
      have w33 : (Xi S 904 70) = 10 := by simpa using w22
      exfalso; omega
    | 11, hii =>
      cases hii
      have w34 : (Xi S 904 70) = 11 := by simpa using w22
      exfalso; omega
    | 12, hii =>
      cases hii
      have w35 : (Xi S 904 70) = 12 := by simpa using w22
      exfalso; omega
    | 13, hii =>
      cases hii
      have w36 : (Xi S 904 70) = 13 := by simpa using w22
      exfalso; omega
    | 14, hii =>
      cases hii
      have w37 : (Xi S 904 70) = 14 := by simpa using w22
      exfalso; omega
    | 15, hii =>
      cases hii
      have w38 : (Xi S 904 70) = 15 := by simpa using w22
      refine y_aload_n rfl rfl ?_
      have w39 : Xi U4 904 104 = Xi S 904 104 := (show Xi U4 904 104 = Xi U3 904 104 from by rw [eU4]; exact Xi_ne (by omega)).trans ( (show Xi U3 904 104 = Xi U2 904 104 from by rw [eU3]; exact Xi_ne (by omega)).trans ( (show Xi U2 904 104 = Xi U1 904 104 from by rw [eU2]; exact Xi_ne (by omega)).trans ((show Xi U1 904 104 = Xi S 904 104 from by rw [eU1]; exact Xi_ne (by omega)))))
      have w40 : Xi U4 904 105 = Xi S 904 105 := (show Xi U4 904 105 = Xi U3 904 105 from by rw [eU4]; exact Xi_ne (by omega)).trans ( (show Xi U3 904 105 = Xi U2 904 105 from by rw [eU3]; exact Xi_ne (by omega)).trans ( (show Xi U2 904 105 = Xi U1 904 105 from by rw [eU2]; exact Xi_ne (by omega)).trans ((show Xi U1 904 105 = Xi S 904 105 from by rw [eU1]; exact Xi_ne (by omega)))))
      have w41 : Xi U4 904 106 = Xi U1 904 106 := (show Xi U4 904 106 = Xi U3 904 106 from by rw [eU4]; exact Xi_ne (by omega)).trans ( (show Xi U3 904 106 = Xi U2 904 106 from by rw [eU3]; exact Xi_ne (by omega)).trans ((show Xi U2 904 106 = Xi U1 904 106 from by rw [eU2]; exact Xi_ne (by omega))))
      have w42 : Xi U4 904 108 = Xi U2 904 108 := (show Xi U4 904 108 = Xi U3 904 108 from by rw [eU4]; exact Xi_ne (by omega)).trans ((show Xi U3 904 108 = Xi U2 904 108 from by rw [eU3]; exact Xi_ne (by omega)))
      have w43 : Xi U4 904 15 = Xi S 904 15 := (show Xi U4 904 15 = Xi U3 904 15 from by rw [eU4]; exact Xi_ne (by omega)).trans ( (show Xi U3 904 15 = Xi U2 904 15 from by rw [eU3]; exact Xi_ne (by omega)).trans ( (show Xi U2 904 15 = Xi U1 904 15 from by rw [eU2]; exact Xi_ne (by omega)).trans ((show Xi U1 904 15 = Xi S 904 15 from by rw [eU1]; exact Xi_ne (by omega)))))
      have w44 : Xi U4 904 19 = Xi S 904 19 := (show Xi U4 904 19 = Xi U3 904 19 from by rw [eU4]; exact Xi_ne (by omega)).trans ( (show Xi U3 904 19 = Xi U2 904 19 from by rw [eU3]; exact Xi_ne (by omega)).trans ( (show Xi U2 904 19 = Xi U1 904 19 from by rw [eU2]; exact Xi_ne (by omega)).trans ((show Xi U1 904 19 = Xi S 904 19 from by rw [eU1]; exact Xi_ne (by omega)))))
      have w45 : Xi U4 904 30 = Xi S 904 30 := (show Xi U4 904 30 = Xi U3 904 30 from by rw [eU4]; exact Xi_ne (by omega)).trans ( (show Xi U3 904 30 = Xi U2 904 30 from by rw [eU3]; exact Xi_ne (by omega)).trans ( (show Xi U2 904 30 = Xi U1 904 30 from by rw [eU2]; exact Xi_ne (by omega)).trans ((show Xi U1 904 30 = Xi S 904 30 from by rw [eU1]; exact Xi_ne (by omega)))))
      have w46 : Xi U4 904 32 = Xi S 904 32 := (show Xi U4 904 32 = Xi U3 904 32 from by rw [eU4]; exact Xi_ne (by omega)).trans ( (show Xi U3 904 32 = Xi U2 904 32 from by rw [eU3]; exact Xi_ne (by omega)).trans ( (show Xi U2 904 32 = Xi U1 904 32 from by rw [eU2]; exact Xi_ne (by omega)).trans ((show Xi U1 904 32 = Xi S 904 32 from by rw [eU1]; exact Xi_ne (by omega)))))
      have w47 : Xi U4 904 69 = Xi S 904 69 := (show Xi U4 904 69 = Xi U3 904 69 from by rw [eU4]; exact Xi_ne (by omega)).trans ( (show Xi U3 904 69 = Xi U2 904 69 from by rw [eU3]; exact Xi_ne (by omega)).trans ( (show Xi U2 904 69 = Xi U1 904 69 from by rw [eU2]; exact Xi_ne (by omega)).trans ((show Xi U1 904 69 = Xi S 904 69 from by rw [eU1]; exact Xi_ne (by omega)))))
      have w48 : Xi U4 904 70 = Xi S 904 70 := (show Xi U4 904 70 = Xi U3 904 70 from by rw [eU4]; exact Xi_ne (by omega)).trans ( (show Xi U3 904 70 = Xi U2 904 70 from by rw [eU3]; exact Xi_ne (by omega)).trans ( (show Xi U2 904 70 = Xi U1 904 70 from by rw [eU2]; exact Xi_ne (by omega)).trans ((show Xi U1 904 70 = Xi S 904 70 from by rw [eU1]; exact Xi_ne (by omega)))))
      have w49 : Xi U4 904 71 = Xi S 904 71 := (show Xi U4 904 71 = Xi U3 904 71 from by rw [eU4]; exact Xi_ne (by omega)).trans ( (show Xi U3 904 71 = Xi U2 904 71 from by rw [eU3]; exact Xi_ne (by omega)).trans ( (show Xi U2 904 71 = Xi U1 904 71 from by rw [eU2]; exact Xi_ne (by omega)).trans ((show Xi U1 904 71 = Xi S 904 71 from by rw [eU1]; exact Xi_ne (by omega)))))
      have w50 : Xi U4 904 72 = Xi S 904 72 := (show Xi U4 904 72 = Xi U3 904 72 from by rw [eU4]; exact Xi_ne (by omega)).trans ( (show Xi U3 904 72 = Xi U2 904 72 from by rw [eU3]; exact Xi_ne (by omega)).trans ( (show Xi U2 904 72 = Xi U1 904 72 from by rw [eU2]; exact Xi_ne (by omega)).trans ((show Xi U1 904 72 = Xi S 904 72 from by rw [eU1]; exact Xi_ne (by omega)))))
      have w51 : Xi U4 904 75 = Xi S 904 75 := (show Xi U4 904 75 = Xi U3 904 75 from by rw [eU4]; exact Xi_ne (by omega)).trans ( (show Xi U3 904 75 = Xi U2 904 75 from by rw [eU3]; exact Xi_ne (by omega)).trans ( (show Xi U2 904 75 = Xi U1 904 75 from by rw [eU2]; exact Xi_ne (by omega)).trans ((show Xi U1 904 75 = Xi S 904 75 from by rw [eU1]; exact Xi_ne (by omega)))))
      have w52 : Xi U4 904 76 = Xi S 904 76 := (show Xi U4 904 76 = Xi U3 904 76 from by rw [eU4]; exact Xi_ne (by omega)).trans ( (show Xi U3 904 76 = Xi U2 904 76 from by rw [eU3]; exact Xi_ne (by omega)).trans ( (show Xi U2 904 76 = Xi U1 904 76 from by rw [eU2]; exact Xi_ne (by omega)).trans ((show Xi U1 904 76 = Xi S 904 76 from by rw [eU1]; exact Xi_ne (by omega)))))
      have w53 : Xi U4 904 77 = Xi S 904 77 := (show Xi U4 904 77 = Xi U3 904 77 from by rw [eU4]; exact Xi_ne (by omega)).trans ( (show Xi U3 904 77 = Xi U2 904 77 from by rw [eU3]; exact Xi_ne (by omega)).trans ( (show Xi U2 904 77 = Xi U1 904 77 from by rw [eU2]; exact Xi_ne (by omega)).trans ((show Xi U1 904 77 = Xi S 904 77 from by rw [eU1]; exact Xi_ne (by omega)))))
      have w54 : Xi U4 904 78 = Xi S 904 78 := (show Xi U4 904 78 = Xi U3 904 78 from by rw [eU4]; exact Xi_ne (by omega)).trans ( (show Xi U3 904 78 = Xi U2 904 78 from by rw [eU3]; exact Xi_ne (by omega)).trans ( (show Xi U2 904 78 = Xi U1 904 78 from by rw [eU2]; exact Xi_ne (by omega)).trans ((show Xi U1 904 78 = Xi S 904 78 from by rw [eU1]; exact Xi_ne (by omega)))))
      refine y_callV rfl rfl rfl (t_mo_askFifteen__1 hHU4 (by first | assumption | exact (LSP_FR hFU4 rfl rfl (by assumption : LSP S))) (by first | assumption | omega) (by first | assumption | exact (RBD_FR hFU4 rfl (by assumption : RBD S))) (by first | assumption | exact (LXR_FR hFU4 rfl rfl (by assumption : LXR S))) (by first | assumption | exact (ABV_FR hFU4 rfl (by assumption : ABV S))) (by first | assumption | omega) (by first | assumption | omega) (by first | assumption | omega) (by rw [rnR_sm m17, FA17.x 904 71 rfl]; exact hk15) (by rw [m17.2.1 950 _ (by omega), FA17.x 904 78 rfl]; exact hfw) (by first | assumption | omega) (by rw [FA17.x 904 72 rfl, FA17.x 904 71 rfl, pR_sm m17, pR_sm m17]; exact hq1) (by unfold fW; rw [FA17.x 904 72 rfl, FA17.x 904 71 rfl, pR_sm m17, m17.2.1 950 _ (by omega), m17.2.1 908 _ (by omega), FA17.x 904 78 rfl]; exact hq2) _) ?_
      rintro _ T5 ⟨hHT5, w56, rfl, o321⟩
      have hFT5 : FR md_mo_asked__15a S T5 := FR.tr hFU4 w56 rfl
      show Pl _ _ _ _ _ _ [] _ _
      have K321 : True := trivial
      have z321 : Xi U4 904 106 = 0 ∧ Xi U4 904 108 = 0 := ⟨by omega, by omega⟩
      refine y_goto rfl rfl ?_
      refine y_return rfl rfl ?_
      exact ⟨hHT5, hFT5, rfl, (by first | (have t := K321; exact ⟨_, FA17, z321, o321⟩) | (exfalso; omega))⟩
    | 16, hii =>
      cases hii
      have w69 : (Xi S 904 70) = 16 := by simpa using w22
      refine y_aload_n rfl rfl ?_
      have w70 : Xi U4 904 104 = Xi S 904 104 := (show Xi U4 904 104 = Xi U3 904 104 from by rw [eU4]; exact Xi_ne (by omega)).trans ( (show Xi U3 904 104 = Xi U2 904 104 from by rw [eU3]; exact Xi_ne (by omega)).trans ( (show Xi U2 904 104 = Xi U1 904 104 from by rw [eU2]; exact Xi_ne (by omega)).trans ((show Xi U1 904 104 = Xi S 904 104 from by rw [eU1]; exact Xi_ne (by omega)))))
      have w71 : Xi U4 904 105 = Xi S 904 105 := (show Xi U4 904 105 = Xi U3 904 105 from by rw [eU4]; exact Xi_ne (by omega)).trans ( (show Xi U3 904 105 = Xi U2 904 105 from by rw [eU3]; exact Xi_ne (by omega)).trans ( (show Xi U2 904 105 = Xi U1 904 105 from by rw [eU2]; exact Xi_ne (by omega)).trans ((show Xi U1 904 105 = Xi S 904 105 from by rw [eU1]; exact Xi_ne (by omega)))))
      have w72 : Xi U4 904 106 = Xi U1 904 106 := (show Xi U4 904 106 = Xi U3 904 106 from by rw [eU4]; exact Xi_ne (by omega)).trans ( (show Xi U3 904 106 = Xi U2 904 106 from by rw [eU3]; exact Xi_ne (by omega)).trans ((show Xi U2 904 106 = Xi U1 904 106 from by rw [eU2]; exact Xi_ne (by omega))))
      have w73 : Xi U4 904 108 = Xi U2 904 108 := (show Xi U4 904 108 = Xi U3 904 108 from by rw [eU4]; exact Xi_ne (by omega)).trans ((show Xi U3 904 108 = Xi U2 904 108 from by rw [eU3]; exact Xi_ne (by omega)))
      have w74 : Xi U4 904 15 = Xi S 904 15 := (show Xi U4 904 15 = Xi U3 904 15 from by rw [eU4]; exact Xi_ne (by omega)).trans ( (show Xi U3 904 15 = Xi U2 904 15 from by rw [eU3]; exact Xi_ne (by omega)).trans ( (show Xi U2 904 15 = Xi U1 904 15 from by rw [eU2]; exact Xi_ne (by omega)).trans ((show Xi U1 904 15 = Xi S 904 15 from by rw [eU1]; exact Xi_ne (by omega)))))
      have w75 : Xi U4 904 19 = Xi S 904 19 := (show Xi U4 904 19 = Xi U3 904 19 from by rw [eU4]; exact Xi_ne (by omega)).trans ( (show Xi U3 904 19 = Xi U2 904 19 from by rw [eU3]; exact Xi_ne (by omega)).trans ( (show Xi U2 904 19 = Xi U1 904 19 from by rw [eU2]; exact Xi_ne (by omega)).trans ((show Xi U1 904 19 = Xi S 904 19 from by rw [eU1]; exact Xi_ne (by omega)))))
      have w76 : Xi U4 904 30 = Xi S 904 30 := (show Xi U4 904 30 = Xi U3 904 30 from by rw [eU4]; exact Xi_ne (by omega)).trans ( (show Xi U3 904 30 = Xi U2 904 30 from by rw [eU3]; exact Xi_ne (by omega)).trans ( (show Xi U2 904 30 = Xi U1 904 30 from by rw [eU2]; exact Xi_ne (by omega)).trans ((show Xi U1 904 30 = Xi S 904 30 from by rw [eU1]; exact Xi_ne (by omega)))))
      have w77 : Xi U4 904 32 = Xi S 904 32 := (show Xi U4 904 32 = Xi U3 904 32 from by rw [eU4]; exact Xi_ne (by omega)).trans ( (show Xi U3 904 32 = Xi U2 904 32 from by rw [eU3]; exact Xi_ne (by omega)).trans ( (show Xi U2 904 32 = Xi U1 904 32 from by rw [eU2]; exact Xi_ne (by omega)).trans ((show Xi U1 904 32 = Xi S 904 32 from by rw [eU1]; exact Xi_ne (by omega)))))
      have w78 : Xi U4 904 69 = Xi S 904 69 := (show Xi U4 904 69 = Xi U3 904 69 from by rw [eU4]; exact Xi_ne (by omega)).trans ( (show Xi U3 904 69 = Xi U2 904 69 from by rw [eU3]; exact Xi_ne (by omega)).trans ( (show Xi U2 904 69 = Xi U1 904 69 from by rw [eU2]; exact Xi_ne (by omega)).trans ((show Xi U1 904 69 = Xi S 904 69 from by rw [eU1]; exact Xi_ne (by omega)))))
      have w79 : Xi U4 904 70 = Xi S 904 70 := (show Xi U4 904 70 = Xi U3 904 70 from by rw [eU4]; exact Xi_ne (by omega)).trans ( (show Xi U3 904 70 = Xi U2 904 70 from by rw [eU3]; exact Xi_ne (by omega)).trans ( (show Xi U2 904 70 = Xi U1 904 70 from by rw [eU2]; exact Xi_ne (by omega)).trans ((show Xi U1 904 70 = Xi S 904 70 from by rw [eU1]; exact Xi_ne (by omega)))))
      have w80 : Xi U4 904 71 = Xi S 904 71 := (show Xi U4 904 71 = Xi U3 904 71 from by rw [eU4]; exact Xi_ne (by omega)).trans ( (show Xi U3 904 71 = Xi U2 904 71 from by rw [eU3]; exact Xi_ne (by omega)).trans ( (show Xi U2 904 71 = Xi U1 904 71 from by rw [eU2]; exact Xi_ne (by omega)).trans ((show Xi U1 904 71 = Xi S 904 71 from by rw [eU1]; exact Xi_ne (by omega)))))
      have w81 : Xi U4 904 72 = Xi S 904 72 := (show Xi U4 904 72 = Xi U3 904 72 from by rw [eU4]; exact Xi_ne (by omega)).trans ( (show Xi U3 904 72 = Xi U2 904 72 from by rw [eU3]; exact Xi_ne (by omega)).trans ( (show Xi U2 904 72 = Xi U1 904 72 from by rw [eU2]; exact Xi_ne (by omega)).trans ((show Xi U1 904 72 = Xi S 904 72 from by rw [eU1]; exact Xi_ne (by omega)))))
      have w82 : Xi U4 904 75 = Xi S 904 75 := (show Xi U4 904 75 = Xi U3 904 75 from by rw [eU4]; exact Xi_ne (by omega)).trans ( (show Xi U3 904 75 = Xi U2 904 75 from by rw [eU3]; exact Xi_ne (by omega)).trans ( (show Xi U2 904 75 = Xi U1 904 75 from by rw [eU2]; exact Xi_ne (by omega)).trans ((show Xi U1 904 75 = Xi S 904 75 from by rw [eU1]; exact Xi_ne (by omega)))))
      have w83 : Xi U4 904 76 = Xi S 904 76 := (show Xi U4 904 76 = Xi U3 904 76 from by rw [eU4]; exact Xi_ne (by omega)).trans ( (show Xi U3 904 76 = Xi U2 904 76 from by rw [eU3]; exact Xi_ne (by omega)).trans ( (show Xi U2 904 76 = Xi U1 904 76 from by rw [eU2]; exact Xi_ne (by omega)).trans ((show Xi U1 904 76 = Xi S 904 76 from by rw [eU1]; exact Xi_ne (by omega)))))
      have w84 : Xi U4 904 77 = Xi S 904 77 := (show Xi U4 904 77 = Xi U3 904 77 from by rw [eU4]; exact Xi_ne (by omega)).trans ( (show Xi U3 904 77 = Xi U2 904 77 from by rw [eU3]; exact Xi_ne (by omega)).trans ( (show Xi U2 904 77 = Xi U1 904 77 from by rw [eU2]; exact Xi_ne (by omega)).trans ((show Xi U1 904 77 = Xi S 904 77 from by rw [eU1]; exact Xi_ne (by omega)))))
      have w85 : Xi U4 904 78 = Xi S 904 78 := (show Xi U4 904 78 = Xi U3 904 78 from by rw [eU4]; exact Xi_ne (by omega)).trans ( (show Xi U3 904 78 = Xi U2 904 78 from by rw [eU3]; exact Xi_ne (by omega)).trans ( (show Xi U2 904 78 = Xi U1 904 78 from by rw [eU2]; exact Xi_ne (by omega)).trans ((show Xi U1 904 78 = Xi S 904 78 from by rw [eU1]; exact Xi_ne (by omega)))))
      refine y_callV rfl rfl rfl (t_mo_askFifteen__1 hHU4 (by first | assumption | exact (LSP_FR hFU4 rfl rfl (by assumption : LSP S))) (by first | assumption | omega) (by first | assumption | exact (RBD_FR hFU4 rfl (by assumption : RBD S))) (by first | assumption | exact (LXR_FR hFU4 rfl rfl (by assumption : LXR S))) (by first | assumption | exact (ABV_FR hFU4 rfl (by assumption : ABV S))) (by first | assumption | omega) (by first | assumption | omega) (by first | assumption | omega) (by rw [rnR_sm m17, FA17.x 904 71 rfl]; exact hk15) (by rw [m17.2.1 950 _ (by omega), FA17.x 904 78 rfl]; exact hfw) (by first | assumption | omega) (by rw [FA17.x 904 72 rfl, FA17.x 904 71 rfl, pR_sm m17, pR_sm m17]; exact hq1) (by unfold fW; rw [FA17.x 904 72 rfl, FA17.x 904 71 rfl, pR_sm m17, m17.2.1 950 _ (by omega), m17.2.1 908 _ (by omega), FA17.x 904 78 rfl]; exact hq2) _) ?_
      rintro _ T6 ⟨hHT6, w87, rfl, o321⟩
      have hFT6 : FR md_mo_asked__15a S T6 := FR.tr hFU4 w87 rfl
      show Pl _ _ _ _ _ _ [] _ _
      have K321 : True := trivial
      have z321 : Xi U4 904 106 = 0 ∧ Xi U4 904 108 = 0 := ⟨by omega, by omega⟩
      refine y_goto rfl rfl ?_
      refine y_return rfl rfl ?_
      exact ⟨hHT6, hFT6, rfl, (by first | (have t := K321; exact ⟨_, FA17, z321, o321⟩) | (exfalso; omega))⟩
    | 17, hii =>
      cases hii
      have w100 : (Xi S 904 70) = 17 := by simpa using w22
      exfalso; omega
    | 18, hii =>
      cases hii
      have w101 : (Xi S 904 70) = 18 := by simpa using w22
      exfalso; omega
    | 19, hii =>
      cases hii
      have w102 : (Xi S 904 70) = 19 := by simpa using w22
      exfalso; omega
    | 20, hii =>
      cases hii
      have w103 : (Xi S 904 70) = 20 := by simpa using w22
      exfalso; omega
    | n + 21, hii => exact absurd hii (by simp)
def md_mo_asked__16 : List rec := [(904, 905, 64, 65), (904, 905, 104, 105), (904, 905, 105, 106), (904, 905, 106, 107), (904, 905, 108, 109), (904, 905, 109, 110), (904, 905, 110, 111), (904, 905, 112, 113), (904, 905, 113, 114), (904, 905, 115, 116), (904, 905, 116, 117), (904, 905, 117, 118), (904, 905, 125, 126), (904, 905, 128, 129), (904, 905, 129, 130), (904, 905, 130, 131), (904, 905, 142, 143), (904, 905, 144, 145), (904, 905, 146, 147), (904, 905, 147, 148), (904, 905, 150, 151), (904, 905, 151, 152), (904, 905, 153, 154), (904, 905, 154, 155), (904, 905, 156, 157), (904, 905, 157, 158), (904, 905, 158, 159), (904, 905, 160, 161), (966, 967, 0, 100000), (967, 968, 0, 100000), (968, 969, 0, 100000), (969, 970, 0, 100000), (970, 971, 0, 100000), (971, 972, 0, 100000), (972, 973, 0, 100000), (973, 974, 0, 100000), (974, 975, 0, 100000), (975, 976, 0, 100000), (976, 977, 0, 100000), (977, 978, 0, 100000), (978, 979, 0, 100000), (979, 980, 0, 100000), (980, 981, 0, 100000), (981, 982, 0, 100000), (982, 983, 0, 100000), (983, 984, 0, 100000), (984, 985, 0, 100000), (985, 986, 0, 100000), (986, 987, 0, 100000), (987, 988, 0, 100000), (988, 989, 0, 100000), (989, 990, 0, 100000), (990, 991, 0, 100000), (991, 992, 0, 100000), (992, 993, 0, 100000), (993, 994, 0, 100000), (994, 995, 0, 100000)]
abbrev Q_mo_asked__16 (S : sS) (first : Int) : pst := fun r S1 => RI S1 ∧ FR md_mo_asked__16 S S1 ∧ (r = none ∧ (∃ P : sS, FR lA S P ∧ (Xi P 904 106 = 0 ∧ Xi P 904 108 = 0) ∧ RAW md_mo_askFifteen__2 P S1))
set_option maxRecDepth 100000 in
theorem t_mo_asked__16 {S : sS} (hH : RI S) (first : Int) (hfirst : 0 ≤ first ∧ first ≤ 5001) (hLS : LSP S) (h15 : 0 ≤ Xi S 904 15) (hRB : RBD S) (hu : Xi S 904 76 = 0) (hw : 0 ≤ Xi S 904 78 ∧ Xi S 904 78 ≤ Xi S 904 69 ∧ Xi S 904 69 ≤ 2600) (hv : 0 ≤ Xi S 904 30 ∧ Xi S 904 30 ≤ 64) (hl : 0 ≤ Xi S 904 71 ∧ Xi S 904 71 ≤ 2600) (hs : Xi S 904 70 = 16) (d : Nat) : Mp lay0 (d + 13) m_mo_asked [.ref 904, iv first] S (Q_mo_asked__16 S first) := by
  refine Mp_R rfl rfl (fun fu => ?_)
  have hF : FR md_mo_asked__16 S S := FR.rf
  have w1 : -2147483648 ≤ Xi S 904 104 ∧ Xi S 904 104 ≤ 2147483647 := Xi_rgI
  have w2 : -2147483648 ≤ Xi S 904 105 ∧ Xi S 904 105 ≤ 2147483647 := Xi_rgI
  have w3 : -2147483648 ≤ Xi S 904 106 ∧ Xi S 904 106 ≤ 2147483647 := Xi_rgI
  have w4 : -2147483648 ≤ Xi S 904 108 ∧ Xi S 904 108 ≤ 2147483647 := Xi_rgI
  have w5 : -2147483648 ≤ Xi S 904 15 ∧ Xi S 904 15 ≤ 2147483647 := Xi_rgI
  have w6 : -2147483648 ≤ Xi S 904 19 ∧ Xi S 904 19 ≤ 2147483647 := Xi_rgI
  have w7 : -2147483648 ≤ Xi S 904 30 ∧ Xi S 904 30 ≤ 2147483647 := Xi_rgI
  have w8 : -2147483648 ≤ Xi S 904 32 ∧ Xi S 904 32 ≤ 2147483647 := Xi_rgI
  have w9 : -2147483648 ≤ Xi S 904 69 ∧ Xi S 904 69 ≤ 2147483647 := Xi_rgI
  have w10 : -2147483648 ≤ Xi S 904 70 ∧ Xi S 904 70 ≤ 2147483647 := Xi_rgI
  have w11 : -2147483648 ≤ Xi S 904 71 ∧ Xi S 904 71 ≤ 2147483647 := Xi_rgI
  have w12 : -2147483648 ≤ Xi S 904 72 ∧ Xi S 904 72 ≤ 2147483647 := Xi_rgI
  have w13 : -2147483648 ≤ Xi S 904 75 ∧ Xi S 904 75 ≤ 2147483647 := Xi_rgI
  have w14 : -2147483648 ≤ Xi S 904 76 ∧ Xi S 904 76 ≤ 2147483647 := Xi_rgI
  have w15 : -2147483648 ≤ Xi S 904 77 ∧ Xi S 904 77 ≤ 2147483647 := Xi_rgI
  have w16 : -2147483648 ≤ Xi S 904 78 ∧ Xi S 904 78 ≤ 2147483647 := Xi_rgI
  refine y_aload_n rfl rfl ?_
  refine y_iconst rfl ?_
  refine y_pfi rfl rfl rfl rfl ?_
  obtain ⟨U1, eU1⟩ : ∃ T : sS, T = uI S 904 106 (Int32.ofInt 0) := ⟨_, rfl⟩
  rw [← eU1]
  have hHU1 : RI U1 := by rw [eU1]; exact RI_w hH
  have hFU1 : FR md_mo_asked__16 S U1 := by rw [eU1]; exact FR.wI hF (mdf_i (r := (904, 905, 106, 107)) (List.mem_of_getElem? (i := 3) rfl) (inR_i (by omega) (by omega) (by omega) (by omega)))
  have w17 : Xi U1 904 106 = 0 := by rw [eU1]; exact Xi_same (by unfold rg; omega)
  have FA2 : FR lA S U1 := by rw [eU1]; exact FR.wI FR.rf (mdf_i (r := (904, 905, 106, 107)) (List.mem_of_getElem? (i := 0) rfl) (inR_i (by omega) (by omega) (by omega) (by omega)))
  refine y_aload_n rfl rfl ?_
  refine y_iconst rfl ?_
  refine y_pfi rfl rfl rfl rfl ?_
  obtain ⟨U2, eU2⟩ : ∃ T : sS, T = uI U1 904 108 (Int32.ofInt 0) := ⟨_, rfl⟩
  rw [← eU2]
  have hHU2 : RI U2 := by rw [eU2]; exact RI_w hHU1
  have hFU2 : FR md_mo_asked__16 S U2 := by rw [eU2]; exact FR.wI hFU1 (mdf_i (r := (904, 905, 108, 109)) (List.mem_of_getElem? (i := 4) rfl) (inR_i (by omega) (by omega) (by omega) (by omega)))
  have w18 : Xi U2 904 108 = 0 := by rw [eU2]; exact Xi_same (by unfold rg; omega)
  have FA7 : FR lA S U2 := by rw [eU2]; exact FR.wI FA2 (mdf_i (r := (904, 905, 108, 109)) (List.mem_of_getElem? (i := 1) rfl) (inR_i (by omega) (by omega) (by omega) (by omega)))
  refine y_aload_n rfl rfl ?_
  refine y_iconst rfl ?_
  refine y_pfi rfl rfl rfl rfl ?_
  obtain ⟨U3, eU3⟩ : ∃ T : sS, T = uI U2 904 115 (Int32.ofInt (-1)) := ⟨_, rfl⟩
  rw [← eU3]
  have hHU3 : RI U3 := by rw [eU3]; exact RI_w hHU2
  have hFU3 : FR md_mo_asked__16 S U3 := by rw [eU3]; exact FR.wI hFU2 (mdf_i (r := (904, 905, 115, 116)) (List.mem_of_getElem? (i := 9) rfl) (inR_i (by omega) (by omega) (by omega) (by omega)))
  have w19 : Xi U3 904 115 = (-1) := by rw [eU3]; exact Xi_same (by unfold rg; omega)
  have FA12 : FR lA S U3 := by rw [eU3]; exact FR.wI FA7 (mdf_i (r := (904, 905, 115, 116)) (List.mem_of_getElem? (i := 2) rfl) (inR_i (by omega) (by omega) (by omega) (by omega)))
  refine y_aload_n rfl rfl ?_
  refine y_iconst rfl ?_
  refine y_pfi rfl rfl rfl rfl ?_
  obtain ⟨U4, eU4⟩ : ∃ T : sS, T = uI U3 904 116 (Int32.ofInt (-1)) := ⟨_, rfl⟩
  rw [← eU4]
  have hHU4 : RI U4 := by rw [eU4]; exact RI_w hHU3
  have hFU4 : FR md_mo_asked__16 S U4 := by rw [eU4]; exact FR.wI hFU3 (mdf_i (r := (904, 905, 116, 117)) (List.mem_of_getElem? (i := 10) rfl) (inR_i (by omega) (by omega) (by omega) (by omega)))
  have w20 : Xi U4 904 116 = (-1) := by rw [eU4]; exact Xi_same (by unfold rg; omega)
  have FA17 : FR lA S U4 := by rw [eU4]; exact FR.wI FA12 (mdf_i (r := (904, 905, 116, 117)) (List.mem_of_getElem? (i := 3) rfl) (inR_i (by omega) (by omega) (by omega) (by omega)))
  have m17 : SMR S U4 := SMR_FR FA17 rfl rfl
  refine y_aload_n rfl rfl ?_
  refine y_gfi rfl rfl rfl rfl rfl ?_
  have w21 : (Xi U4 904 70) = (Xi S 904 70) := (show Xi U4 904 70 = Xi U3 904 70 from by rw [eU4]; exact Xi_ne (by omega)).trans ( (show Xi U3 904 70 = Xi U2 904 70 from by rw [eU3]; exact Xi_ne (by omega)).trans ( (show Xi U2 904 70 = Xi U1 904 70 from by rw [eU2]; exact Xi_ne (by omega)).trans ((show Xi U1 904 70 = Xi S 904 70 from by rw [eU1]; exact Xi_ne (by omega)))))
  rw [w21]
  refine y_tsw rfl rfl rfl rfl (by unfold rg; omega) (fun w22 => ?_) (fun ii tt hii w22 => ?_)
  · exfalso; omega
  · match ii, hii with
    | 0, hii =>
      cases hii
      have w23 : (Xi S 904 70) = 0 := by simpa using w22
      exfalso; omega
    | 1, hii =>
      cases hii
      have w24 : (Xi S 904 70) = 1 := by simpa using w22
      exfalso; omega
    | 2, hii =>
      cases hii
      have w25 : (Xi S 904 70) = 2 := by simpa using w22
      exfalso; omega
    | 3, hii =>
      cases hii
      have w26 : (Xi S 904 70) = 3 := by simpa using w22
      exfalso; omega
    | 4, hii =>
      cases hii
      have w27 : (Xi S 904 70) = 4 := by simpa using w22
      exfalso; omega
    | 5, hii =>
      cases hii
      have w28 : (Xi S 904 70) = 5 := by simpa using w22
      exfalso; omega
    | 6, hii =>
      cases hii
      have w29 : (Xi S 904 70) = 6 := by simpa using w22
      exfalso; omega
    | 7, hii =>
      cases hii
      have w30 : (Xi S 904 70) = 7 := by simpa using w22
      exfalso; omega
    | 8, hii =>
      cases hii
      have w31 : (Xi S 904 70) = 8 := by simpa using w22
      exfalso; omega
    | 9, hii =>
      cases hii
      have w32 : (Xi S 904 70) = 9 := by simpa using w22
      exfalso; omega
    | 10, hii =>
      cases hii
      have w33 : (Xi S 904 70) = 10 := by simpa using w22
      exfalso; omega
    | 11, hii =>
      cases hii
      have w34 : (Xi S 904 70) = 11 := by simpa using w22
      exfalso; omega
    | 12, hii =>
      cases hii
      have w35 : (Xi S 904 70) = 12 := by simpa using w22
      exfalso; omega
    | 13, hii =>
      cases hii
      have w36 : (Xi S 904 70) = 13 := by simpa using w22
      exfalso; omega
    | 14, hii =>
      cases hii
      have w37 : (Xi S 904 70) = 14 := by simpa using w22
      exfalso; omega
    | 15, hii =>
      cases hii
      have w38 : (Xi S 904 70) = 15 := by simpa using w22
      refine y_aload_n rfl rfl ?_
      have w41 : Xi U4 904 106 = Xi U1 904 106 := (show Xi U4 904 106 = Xi U3 904 106 from by rw [eU4]; exact Xi_ne (by omega)).trans ( (show Xi U3 904 106 = Xi U2 904 106 from by rw [eU3]; exact Xi_ne (by omega)).trans ((show Xi U2 904 106 = Xi U1 904 106 from by rw [eU2]; exact Xi_ne (by omega))))
      have w42 : Xi U4 904 108 = Xi U2 904 108 := (show Xi U4 904 108 = Xi U3 904 108 from by rw [eU4]; exact Xi_ne (by omega)).trans ((show Xi U3 904 108 = Xi U2 904 108 from by rw [eU3]; exact Xi_ne (by omega)))
      have w43 : Xi U4 904 15 = Xi S 904 15 := (show Xi U4 904 15 = Xi U3 904 15 from by rw [eU4]; exact Xi_ne (by omega)).trans ( (show Xi U3 904 15 = Xi U2 904 15 from by rw [eU3]; exact Xi_ne (by omega)).trans ( (show Xi U2 904 15 = Xi U1 904 15 from by rw [eU2]; exact Xi_ne (by omega)).trans ((show Xi U1 904 15 = Xi S 904 15 from by rw [eU1]; exact Xi_ne (by omega)))))
      have w45 : Xi U4 904 30 = Xi S 904 30 := (show Xi U4 904 30 = Xi U3 904 30 from by rw [eU4]; exact Xi_ne (by omega)).trans ( (show Xi U3 904 30 = Xi U2 904 30 from by rw [eU3]; exact Xi_ne (by omega)).trans ( (show Xi U2 904 30 = Xi U1 904 30 from by rw [eU2]; exact Xi_ne (by omega)).trans ((show Xi U1 904 30 = Xi S 904 30 from by rw [eU1]; exact Xi_ne (by omega)))))
      have w47 : Xi U4 904 69 = Xi S 904 69 := (show Xi U4 904 69 = Xi U3 904 69 from by rw [eU4]; exact Xi_ne (by omega)).trans ( (show Xi U3 904 69 = Xi U2 904 69 from by rw [eU3]; exact Xi_ne (by omega)).trans ( (show Xi U2 904 69 = Xi U1 904 69 from by rw [eU2]; exact Xi_ne (by omega)).trans ((show Xi U1 904 69 = Xi S 904 69 from by rw [eU1]; exact Xi_ne (by omega)))))
      have w48 : Xi U4 904 70 = Xi S 904 70 := (show Xi U4 904 70 = Xi U3 904 70 from by rw [eU4]; exact Xi_ne (by omega)).trans ( (show Xi U3 904 70 = Xi U2 904 70 from by rw [eU3]; exact Xi_ne (by omega)).trans ( (show Xi U2 904 70 = Xi U1 904 70 from by rw [eU2]; exact Xi_ne (by omega)).trans ((show Xi U1 904 70 = Xi S 904 70 from by rw [eU1]; exact Xi_ne (by omega)))))
      have w49 : Xi U4 904 71 = Xi S 904 71 := (show Xi U4 904 71 = Xi U3 904 71 from by rw [eU4]; exact Xi_ne (by omega)).trans ( (show Xi U3 904 71 = Xi U2 904 71 from by rw [eU3]; exact Xi_ne (by omega)).trans ( (show Xi U2 904 71 = Xi U1 904 71 from by rw [eU2]; exact Xi_ne (by omega)).trans ((show Xi U1 904 71 = Xi S 904 71 from by rw [eU1]; exact Xi_ne (by omega)))))
      have w52 : Xi U4 904 76 = Xi S 904 76 := (show Xi U4 904 76 = Xi U3 904 76 from by rw [eU4]; exact Xi_ne (by omega)).trans ( (show Xi U3 904 76 = Xi U2 904 76 from by rw [eU3]; exact Xi_ne (by omega)).trans ( (show Xi U2 904 76 = Xi U1 904 76 from by rw [eU2]; exact Xi_ne (by omega)).trans ((show Xi U1 904 76 = Xi S 904 76 from by rw [eU1]; exact Xi_ne (by omega)))))
      have w54 : Xi U4 904 78 = Xi S 904 78 := (show Xi U4 904 78 = Xi U3 904 78 from by rw [eU4]; exact Xi_ne (by omega)).trans ( (show Xi U3 904 78 = Xi U2 904 78 from by rw [eU3]; exact Xi_ne (by omega)).trans ( (show Xi U2 904 78 = Xi U1 904 78 from by rw [eU2]; exact Xi_ne (by omega)).trans ((show Xi U1 904 78 = Xi S 904 78 from by rw [eU1]; exact Xi_ne (by omega)))))
      refine y_callV rfl rfl rfl (t_mo_askFifteen__2 hHU4 (by first | assumption | exact (LSP_FR hFU4 rfl rfl (by assumption : LSP S))) (by first | assumption | omega) (by first | assumption | exact (RBD_FR hFU4 rfl (by assumption : RBD S))) (by first | assumption | omega) (by first | assumption | omega) (by first | assumption | omega) (by first | assumption | omega) (by first | assumption | omega) (by first | assumption | omega) _) ?_
      rintro _ T5 ⟨hHT5, w56, rfl, o321⟩
      have hFT5 : FR md_mo_asked__16 S T5 := FR.tr hFU4 w56 rfl
      show Pl _ _ _ _ _ _ [] _ _
      have K321 : True := trivial
      have z321 : Xi U4 904 106 = 0 ∧ Xi U4 904 108 = 0 := ⟨by omega, by omega⟩
      refine y_goto rfl rfl ?_
      refine y_return rfl rfl ?_
      exact ⟨hHT5, hFT5, rfl, (by first | (have t := K321; exact ⟨_, FA17, z321, o321⟩) | (exfalso; omega))⟩
    | 16, hii =>
      cases hii
      have w69 : (Xi S 904 70) = 16 := by simpa using w22
      refine y_aload_n rfl rfl ?_
      have w72 : Xi U4 904 106 = Xi U1 904 106 := (show Xi U4 904 106 = Xi U3 904 106 from by rw [eU4]; exact Xi_ne (by omega)).trans ( (show Xi U3 904 106 = Xi U2 904 106 from by rw [eU3]; exact Xi_ne (by omega)).trans ((show Xi U2 904 106 = Xi U1 904 106 from by rw [eU2]; exact Xi_ne (by omega))))
      have w73 : Xi U4 904 108 = Xi U2 904 108 := (show Xi U4 904 108 = Xi U3 904 108 from by rw [eU4]; exact Xi_ne (by omega)).trans ((show Xi U3 904 108 = Xi U2 904 108 from by rw [eU3]; exact Xi_ne (by omega)))
      have w74 : Xi U4 904 15 = Xi S 904 15 := (show Xi U4 904 15 = Xi U3 904 15 from by rw [eU4]; exact Xi_ne (by omega)).trans ( (show Xi U3 904 15 = Xi U2 904 15 from by rw [eU3]; exact Xi_ne (by omega)).trans ( (show Xi U2 904 15 = Xi U1 904 15 from by rw [eU2]; exact Xi_ne (by omega)).trans ((show Xi U1 904 15 = Xi S 904 15 from by rw [eU1]; exact Xi_ne (by omega)))))
      have w76 : Xi U4 904 30 = Xi S 904 30 := (show Xi U4 904 30 = Xi U3 904 30 from by rw [eU4]; exact Xi_ne (by omega)).trans ( (show Xi U3 904 30 = Xi U2 904 30 from by rw [eU3]; exact Xi_ne (by omega)).trans ( (show Xi U2 904 30 = Xi U1 904 30 from by rw [eU2]; exact Xi_ne (by omega)).trans ((show Xi U1 904 30 = Xi S 904 30 from by rw [eU1]; exact Xi_ne (by omega)))))
      have w78 : Xi U4 904 69 = Xi S 904 69 := (show Xi U4 904 69 = Xi U3 904 69 from by rw [eU4]; exact Xi_ne (by omega)).trans ( (show Xi U3 904 69 = Xi U2 904 69 from by rw [eU3]; exact Xi_ne (by omega)).trans ( (show Xi U2 904 69 = Xi U1 904 69 from by rw [eU2]; exact Xi_ne (by omega)).trans ((show Xi U1 904 69 = Xi S 904 69 from by rw [eU1]; exact Xi_ne (by omega)))))
      have w79 : Xi U4 904 70 = Xi S 904 70 := (show Xi U4 904 70 = Xi U3 904 70 from by rw [eU4]; exact Xi_ne (by omega)).trans ( (show Xi U3 904 70 = Xi U2 904 70 from by rw [eU3]; exact Xi_ne (by omega)).trans ( (show Xi U2 904 70 = Xi U1 904 70 from by rw [eU2]; exact Xi_ne (by omega)).trans ((show Xi U1 904 70 = Xi S 904 70 from by rw [eU1]; exact Xi_ne (by omega)))))
      have w80 : Xi U4 904 71 = Xi S 904 71 := (show Xi U4 904 71 = Xi U3 904 71 from by rw [eU4]; exact Xi_ne (by omega)).trans ( (show Xi U3 904 71 = Xi U2 904 71 from by rw [eU3]; exact Xi_ne (by omega)).trans ( (show Xi U2 904 71 = Xi U1 904 71 from by rw [eU2]; exact Xi_ne (by omega)).trans ((show Xi U1 904 71 = Xi S 904 71 from by rw [eU1]; exact Xi_ne (by omega)))))
      have w83 : Xi U4 904 76 = Xi S 904 76 := (show Xi U4 904 76 = Xi U3 904 76 from by rw [eU4]; exact Xi_ne (by omega)).trans ( (show Xi U3 904 76 = Xi U2 904 76 from by rw [eU3]; exact Xi_ne (by omega)).trans ( (show Xi U2 904 76 = Xi U1 904 76 from by rw [eU2]; exact Xi_ne (by omega)).trans ((show Xi U1 904 76 = Xi S 904 76 from by rw [eU1]; exact Xi_ne (by omega)))))
      have w85 : Xi U4 904 78 = Xi S 904 78 := (show Xi U4 904 78 = Xi U3 904 78 from by rw [eU4]; exact Xi_ne (by omega)).trans ( (show Xi U3 904 78 = Xi U2 904 78 from by rw [eU3]; exact Xi_ne (by omega)).trans ( (show Xi U2 904 78 = Xi U1 904 78 from by rw [eU2]; exact Xi_ne (by omega)).trans ((show Xi U1 904 78 = Xi S 904 78 from by rw [eU1]; exact Xi_ne (by omega)))))
      refine y_callV rfl rfl rfl (t_mo_askFifteen__2 hHU4 (by first | assumption | exact (LSP_FR hFU4 rfl rfl (by assumption : LSP S))) (by first | assumption | omega) (by first | assumption | exact (RBD_FR hFU4 rfl (by assumption : RBD S))) (by first | assumption | omega) (by first | assumption | omega) (by first | assumption | omega) (by first | assumption | omega) (by first | assumption | omega) (by first | assumption | omega) _) ?_
      rintro _ T6 ⟨hHT6, w87, rfl, o321⟩
      have hFT6 : FR md_mo_asked__16 S T6 := FR.tr hFU4 w87 rfl
      show Pl _ _ _ _ _ _ [] _ _
      have K321 : True := trivial
      have z321 : Xi U4 904 106 = 0 ∧ Xi U4 904 108 = 0 := ⟨by omega, by omega⟩
      refine y_goto rfl rfl ?_
      refine y_return rfl rfl ?_
      exact ⟨hHT6, hFT6, rfl, (by first | (have t := K321; exact ⟨_, FA17, z321, o321⟩) | (exfalso; omega))⟩
    | 17, hii =>
      cases hii
      have w100 : (Xi S 904 70) = 17 := by simpa using w22
      exfalso; omega
    | 18, hii =>
      cases hii
      have w101 : (Xi S 904 70) = 18 := by simpa using w22
      exfalso; omega
    | 19, hii =>
      cases hii
      have w102 : (Xi S 904 70) = 19 := by simpa using w22
      exfalso; omega
    | 20, hii =>
      cases hii
      have w103 : (Xi S 904 70) = 20 := by simpa using w22
      exfalso; omega
    | n + 21, hii => exact absurd hii (by simp)
def md_mo_asked__15b : List rec := [(904, 905, 64, 65), (904, 905, 104, 105), (904, 905, 105, 106), (904, 905, 106, 107), (904, 905, 108, 109), (904, 905, 109, 110), (904, 905, 110, 111), (904, 905, 112, 113), (904, 905, 113, 114), (904, 905, 115, 116), (904, 905, 116, 117), (904, 905, 117, 118), (904, 905, 125, 126), (904, 905, 128, 129), (904, 905, 129, 130), (904, 905, 130, 131), (904, 905, 142, 143), (904, 905, 144, 145), (904, 905, 146, 147), (904, 905, 147, 148), (904, 905, 150, 151), (904, 905, 151, 152), (904, 905, 153, 154), (904, 905, 154, 155), (904, 905, 156, 157), (904, 905, 157, 158), (904, 905, 158, 159), (904, 905, 160, 161), (966, 967, 0, 100000), (967, 968, 0, 100000), (968, 969, 0, 100000), (969, 970, 0, 100000), (970, 971, 0, 100000), (971, 972, 0, 100000), (972, 973, 0, 100000), (973, 974, 0, 100000), (974, 975, 0, 100000), (975, 976, 0, 100000), (976, 977, 0, 100000), (977, 978, 0, 100000), (978, 979, 0, 100000), (979, 980, 0, 100000), (980, 981, 0, 100000), (981, 982, 0, 100000), (982, 983, 0, 100000), (983, 984, 0, 100000), (984, 985, 0, 100000), (985, 986, 0, 100000), (986, 987, 0, 100000), (987, 988, 0, 100000), (988, 989, 0, 100000), (989, 990, 0, 100000), (990, 991, 0, 100000), (991, 992, 0, 100000), (992, 993, 0, 100000), (993, 994, 0, 100000), (994, 995, 0, 100000)]
abbrev Q_mo_asked__15b (S : sS) (first : Int) : pst := fun r S1 => RI S1 ∧ FR md_mo_asked__15b S S1 ∧ (r = none ∧ (∃ P : sS, FR lA S P ∧ (Xi P 904 106 = 0 ∧ Xi P 904 108 = 0) ∧ RAW md_mo_askFifteen__3 P S1))
set_option maxRecDepth 100000 in
theorem t_mo_asked__15b {S : sS} (hH : RI S) (first : Int) (hfirst : 0 ≤ first ∧ first ≤ 5001) (hLS : LSP S) (h15 : 0 ≤ Xi S 904 15) (hRB : RBD S) (hu : Xi S 904 76 = 0) (hw : 0 ≤ Xi S 904 78 ∧ Xi S 904 78 ≤ Xi S 904 69 ∧ Xi S 904 69 ≤ 2600) (hv : 0 ≤ Xi S 904 30 ∧ Xi S 904 30 ≤ 64) (hl : 0 ≤ Xi S 904 71 ∧ Xi S 904 71 ≤ 2600) (hs : Xi S 904 70 = 15 ∧ Xi S 904 72 = 1 ∧ 1 < r2R S (Xi S 904 71) 2 3 ∧ Xi S 904 75 = 0) (d : Nat) : Mp lay0 (d + 13) m_mo_asked [.ref 904, iv first] S (Q_mo_asked__15b S first) := by
  refine Mp_R rfl rfl (fun fu => ?_)
  have hF : FR md_mo_asked__15b S S := FR.rf
  have w1 : -2147483648 ≤ Xi S 904 104 ∧ Xi S 904 104 ≤ 2147483647 := Xi_rgI
  have w2 : -2147483648 ≤ Xi S 904 105 ∧ Xi S 904 105 ≤ 2147483647 := Xi_rgI
  have w3 : -2147483648 ≤ Xi S 904 106 ∧ Xi S 904 106 ≤ 2147483647 := Xi_rgI
  have w4 : -2147483648 ≤ Xi S 904 108 ∧ Xi S 904 108 ≤ 2147483647 := Xi_rgI
  have w5 : -2147483648 ≤ Xi S 904 15 ∧ Xi S 904 15 ≤ 2147483647 := Xi_rgI
  have w6 : -2147483648 ≤ Xi S 904 19 ∧ Xi S 904 19 ≤ 2147483647 := Xi_rgI
  have w7 : -2147483648 ≤ Xi S 904 30 ∧ Xi S 904 30 ≤ 2147483647 := Xi_rgI
  have w8 : -2147483648 ≤ Xi S 904 32 ∧ Xi S 904 32 ≤ 2147483647 := Xi_rgI
  have w9 : -2147483648 ≤ Xi S 904 69 ∧ Xi S 904 69 ≤ 2147483647 := Xi_rgI
  have w10 : -2147483648 ≤ Xi S 904 70 ∧ Xi S 904 70 ≤ 2147483647 := Xi_rgI
  have w11 : -2147483648 ≤ Xi S 904 71 ∧ Xi S 904 71 ≤ 2147483647 := Xi_rgI
  have w12 : -2147483648 ≤ Xi S 904 72 ∧ Xi S 904 72 ≤ 2147483647 := Xi_rgI
  have w13 : -2147483648 ≤ Xi S 904 75 ∧ Xi S 904 75 ≤ 2147483647 := Xi_rgI
  have w14 : -2147483648 ≤ Xi S 904 76 ∧ Xi S 904 76 ≤ 2147483647 := Xi_rgI
  have w15 : -2147483648 ≤ Xi S 904 77 ∧ Xi S 904 77 ≤ 2147483647 := Xi_rgI
  have w16 : -2147483648 ≤ Xi S 904 78 ∧ Xi S 904 78 ≤ 2147483647 := Xi_rgI
  refine y_aload_n rfl rfl ?_
  refine y_iconst rfl ?_
  refine y_pfi rfl rfl rfl rfl ?_
  obtain ⟨U1, eU1⟩ : ∃ T : sS, T = uI S 904 106 (Int32.ofInt 0) := ⟨_, rfl⟩
  rw [← eU1]
  have hHU1 : RI U1 := by rw [eU1]; exact RI_w hH
  have hFU1 : FR md_mo_asked__15b S U1 := by rw [eU1]; exact FR.wI hF (mdf_i (r := (904, 905, 106, 107)) (List.mem_of_getElem? (i := 3) rfl) (inR_i (by omega) (by omega) (by omega) (by omega)))
  have w17 : Xi U1 904 106 = 0 := by rw [eU1]; exact Xi_same (by unfold rg; omega)
  have FA2 : FR lA S U1 := by rw [eU1]; exact FR.wI FR.rf (mdf_i (r := (904, 905, 106, 107)) (List.mem_of_getElem? (i := 0) rfl) (inR_i (by omega) (by omega) (by omega) (by omega)))
  refine y_aload_n rfl rfl ?_
  refine y_iconst rfl ?_
  refine y_pfi rfl rfl rfl rfl ?_
  obtain ⟨U2, eU2⟩ : ∃ T : sS, T = uI U1 904 108 (Int32.ofInt 0) := ⟨_, rfl⟩
  rw [← eU2]
  have hHU2 : RI U2 := by rw [eU2]; exact RI_w hHU1
  have hFU2 : FR md_mo_asked__15b S U2 := by rw [eU2]; exact FR.wI hFU1 (mdf_i (r := (904, 905, 108, 109)) (List.mem_of_getElem? (i := 4) rfl) (inR_i (by omega) (by omega) (by omega) (by omega)))
  have w18 : Xi U2 904 108 = 0 := by rw [eU2]; exact Xi_same (by unfold rg; omega)
  have FA7 : FR lA S U2 := by rw [eU2]; exact FR.wI FA2 (mdf_i (r := (904, 905, 108, 109)) (List.mem_of_getElem? (i := 1) rfl) (inR_i (by omega) (by omega) (by omega) (by omega)))
  refine y_aload_n rfl rfl ?_
  refine y_iconst rfl ?_
  refine y_pfi rfl rfl rfl rfl ?_
  obtain ⟨U3, eU3⟩ : ∃ T : sS, T = uI U2 904 115 (Int32.ofInt (-1)) := ⟨_, rfl⟩
  rw [← eU3]
  have hHU3 : RI U3 := by rw [eU3]; exact RI_w hHU2
  have hFU3 : FR md_mo_asked__15b S U3 := by rw [eU3]; exact FR.wI hFU2 (mdf_i (r := (904, 905, 115, 116)) (List.mem_of_getElem? (i := 9) rfl) (inR_i (by omega) (by omega) (by omega) (by omega)))
  have w19 : Xi U3 904 115 = (-1) := by rw [eU3]; exact Xi_same (by unfold rg; omega)
  have FA12 : FR lA S U3 := by rw [eU3]; exact FR.wI FA7 (mdf_i (r := (904, 905, 115, 116)) (List.mem_of_getElem? (i := 2) rfl) (inR_i (by omega) (by omega) (by omega) (by omega)))
  refine y_aload_n rfl rfl ?_
  refine y_iconst rfl ?_
  refine y_pfi rfl rfl rfl rfl ?_
  obtain ⟨U4, eU4⟩ : ∃ T : sS, T = uI U3 904 116 (Int32.ofInt (-1)) := ⟨_, rfl⟩
  rw [← eU4]
  have hHU4 : RI U4 := by rw [eU4]; exact RI_w hHU3
  have hFU4 : FR md_mo_asked__15b S U4 := by rw [eU4]; exact FR.wI hFU3 (mdf_i (r := (904, 905, 116, 117)) (List.mem_of_getElem? (i := 10) rfl) (inR_i (by omega) (by omega) (by omega) (by omega)))
  have w20 : Xi U4 904 116 = (-1) := by rw [eU4]; exact Xi_same (by unfold rg; omega)
  have FA17 : FR lA S U4 := by rw [eU4]; exact FR.wI FA12 (mdf_i (r := (904, 905, 116, 117)) (List.mem_of_getElem? (i := 3) rfl) (inR_i (by omega) (by omega) (by omega) (by omega)))
  have m17 : SMR S U4 := SMR_FR FA17 rfl rfl
  refine y_aload_n rfl rfl ?_
  refine y_gfi rfl rfl rfl rfl rfl ?_
  have w21 : (Xi U4 904 70) = (Xi S 904 70) := (show Xi U4 904 70 = Xi U3 904 70 from by rw [eU4]; exact Xi_ne (by omega)).trans ( (show Xi U3 904 70 = Xi U2 904 70 from by rw [eU3]; exact Xi_ne (by omega)).trans ( (show Xi U2 904 70 = Xi U1 904 70 from by rw [eU2]; exact Xi_ne (by omega)).trans ((show Xi U1 904 70 = Xi S 904 70 from by rw [eU1]; exact Xi_ne (by omega)))))
  rw [w21]
  refine y_tsw rfl rfl rfl rfl (by unfold rg; omega) (fun w22 => ?_) (fun ii tt hii w22 => ?_)
  · exfalso; omega
  · match ii, hii with
    | 0, hii =>
      cases hii
      have w23 : (Xi S 904 70) = 0 := by simpa using w22
      exfalso; omega
    | 1, hii =>
      cases hii
      have w24 : (Xi S 904 70) = 1 := by simpa using w22
      exfalso; omega
    | 2, hii =>
      cases hii
      have w25 : (Xi S 904 70) = 2 := by simpa using w22
      exfalso; omega
    | 3, hii =>
      cases hii
      have w26 : (Xi S 904 70) = 3 := by simpa using w22
      exfalso; omega
    | 4, hii =>
      cases hii
      have w27 : (Xi S 904 70) = 4 := by simpa using w22
      exfalso; omega
    | 5, hii =>
      cases hii
      have w28 : (Xi S 904 70) = 5 := by simpa using w22
      exfalso; omega
    | 6, hii =>
      cases hii
      have w29 : (Xi S 904 70) = 6 := by simpa using w22
      exfalso; omega
    | 7, hii =>
      cases hii
      have w30 : (Xi S 904 70) = 7 := by simpa using w22
      exfalso; omega
    | 8, hii =>
      cases hii
      have w31 : (Xi S 904 70) = 8 := by simpa using w22
      exfalso; omega
    | 9, hii =>
      cases hii
      have w32 : (Xi S 904 70) = 9 := by simpa using w22
      exfalso; omega
    | 10, hii =>
      cases hii
      have w33 : (Xi S 904 70) = 10 := by simpa using w22
      exfalso; omega
    | 11, hii =>
      cases hii
      have w34 : (Xi S 904 70) = 11 := by simpa using w22
      exfalso; omega
    | 12, hii =>
      cases hii
      have w35 : (Xi S 904 70) = 12 := by simpa using w22
      exfalso; omega
    | 13, hii =>
      cases hii
      have w36 : (Xi S 904 70) = 13 := by simpa using w22
      exfalso; omega
    | 14, hii =>
      cases hii
      have w37 : (Xi S 904 70) = 14 := by simpa using w22
      exfalso; omega
    | 15, hii =>
      cases hii
      have w38 : (Xi S 904 70) = 15 := by simpa using w22
      refine y_aload_n rfl rfl ?_
      have w41 : Xi U4 904 106 = Xi U1 904 106 := (show Xi U4 904 106 = Xi U3 904 106 from by rw [eU4]; exact Xi_ne (by omega)).trans ( (show Xi U3 904 106 = Xi U2 904 106 from by rw [eU3]; exact Xi_ne (by omega)).trans ((show Xi U2 904 106 = Xi U1 904 106 from by rw [eU2]; exact Xi_ne (by omega))))
      have w42 : Xi U4 904 108 = Xi U2 904 108 := (show Xi U4 904 108 = Xi U3 904 108 from by rw [eU4]; exact Xi_ne (by omega)).trans ((show Xi U3 904 108 = Xi U2 904 108 from by rw [eU3]; exact Xi_ne (by omega)))
      have w43 : Xi U4 904 15 = Xi S 904 15 := (show Xi U4 904 15 = Xi U3 904 15 from by rw [eU4]; exact Xi_ne (by omega)).trans ( (show Xi U3 904 15 = Xi U2 904 15 from by rw [eU3]; exact Xi_ne (by omega)).trans ( (show Xi U2 904 15 = Xi U1 904 15 from by rw [eU2]; exact Xi_ne (by omega)).trans ((show Xi U1 904 15 = Xi S 904 15 from by rw [eU1]; exact Xi_ne (by omega)))))
      have w45 : Xi U4 904 30 = Xi S 904 30 := (show Xi U4 904 30 = Xi U3 904 30 from by rw [eU4]; exact Xi_ne (by omega)).trans ( (show Xi U3 904 30 = Xi U2 904 30 from by rw [eU3]; exact Xi_ne (by omega)).trans ( (show Xi U2 904 30 = Xi U1 904 30 from by rw [eU2]; exact Xi_ne (by omega)).trans ((show Xi U1 904 30 = Xi S 904 30 from by rw [eU1]; exact Xi_ne (by omega)))))
      have w47 : Xi U4 904 69 = Xi S 904 69 := (show Xi U4 904 69 = Xi U3 904 69 from by rw [eU4]; exact Xi_ne (by omega)).trans ( (show Xi U3 904 69 = Xi U2 904 69 from by rw [eU3]; exact Xi_ne (by omega)).trans ( (show Xi U2 904 69 = Xi U1 904 69 from by rw [eU2]; exact Xi_ne (by omega)).trans ((show Xi U1 904 69 = Xi S 904 69 from by rw [eU1]; exact Xi_ne (by omega)))))
      have w48 : Xi U4 904 70 = Xi S 904 70 := (show Xi U4 904 70 = Xi U3 904 70 from by rw [eU4]; exact Xi_ne (by omega)).trans ( (show Xi U3 904 70 = Xi U2 904 70 from by rw [eU3]; exact Xi_ne (by omega)).trans ( (show Xi U2 904 70 = Xi U1 904 70 from by rw [eU2]; exact Xi_ne (by omega)).trans ((show Xi U1 904 70 = Xi S 904 70 from by rw [eU1]; exact Xi_ne (by omega)))))
      have w49 : Xi U4 904 71 = Xi S 904 71 := (show Xi U4 904 71 = Xi U3 904 71 from by rw [eU4]; exact Xi_ne (by omega)).trans ( (show Xi U3 904 71 = Xi U2 904 71 from by rw [eU3]; exact Xi_ne (by omega)).trans ( (show Xi U2 904 71 = Xi U1 904 71 from by rw [eU2]; exact Xi_ne (by omega)).trans ((show Xi U1 904 71 = Xi S 904 71 from by rw [eU1]; exact Xi_ne (by omega)))))
      have w50 : Xi U4 904 72 = Xi S 904 72 := (show Xi U4 904 72 = Xi U3 904 72 from by rw [eU4]; exact Xi_ne (by omega)).trans ( (show Xi U3 904 72 = Xi U2 904 72 from by rw [eU3]; exact Xi_ne (by omega)).trans ( (show Xi U2 904 72 = Xi U1 904 72 from by rw [eU2]; exact Xi_ne (by omega)).trans ((show Xi U1 904 72 = Xi S 904 72 from by rw [eU1]; exact Xi_ne (by omega)))))
      have w51 : Xi U4 904 75 = Xi S 904 75 := (show Xi U4 904 75 = Xi U3 904 75 from by rw [eU4]; exact Xi_ne (by omega)).trans ( (show Xi U3 904 75 = Xi U2 904 75 from by rw [eU3]; exact Xi_ne (by omega)).trans ( (show Xi U2 904 75 = Xi U1 904 75 from by rw [eU2]; exact Xi_ne (by omega)).trans ((show Xi U1 904 75 = Xi S 904 75 from by rw [eU1]; exact Xi_ne (by omega)))))
      have w52 : Xi U4 904 76 = Xi S 904 76 := (show Xi U4 904 76 = Xi U3 904 76 from by rw [eU4]; exact Xi_ne (by omega)).trans ( (show Xi U3 904 76 = Xi U2 904 76 from by rw [eU3]; exact Xi_ne (by omega)).trans ( (show Xi U2 904 76 = Xi U1 904 76 from by rw [eU2]; exact Xi_ne (by omega)).trans ((show Xi U1 904 76 = Xi S 904 76 from by rw [eU1]; exact Xi_ne (by omega)))))
      have w54 : Xi U4 904 78 = Xi S 904 78 := (show Xi U4 904 78 = Xi U3 904 78 from by rw [eU4]; exact Xi_ne (by omega)).trans ( (show Xi U3 904 78 = Xi U2 904 78 from by rw [eU3]; exact Xi_ne (by omega)).trans ( (show Xi U2 904 78 = Xi U1 904 78 from by rw [eU2]; exact Xi_ne (by omega)).trans ((show Xi U1 904 78 = Xi S 904 78 from by rw [eU1]; exact Xi_ne (by omega)))))
      refine y_callV rfl rfl rfl (t_mo_askFifteen__3 hHU4 (by first | assumption | exact (LSP_FR hFU4 rfl rfl (by assumption : LSP S))) (by first | assumption | omega) (by first | assumption | exact (RBD_FR hFU4 rfl (by assumption : RBD S))) (by first | assumption | omega) (by first | assumption | omega) (by first | assumption | omega) (by first | assumption | omega) (by first | assumption | omega) (by rw [r2R_sm m17, FA17.x 904 70 rfl, FA17.x 904 71 rfl, FA17.x 904 72 rfl, FA17.x 904 75 rfl]; exact hs) _) ?_
      rintro _ T5 ⟨hHT5, w56, rfl, o321⟩
      have hFT5 : FR md_mo_asked__15b S T5 := FR.tr hFU4 w56 rfl
      show Pl _ _ _ _ _ _ [] _ _
      have K321 : True := trivial
      have z321 : Xi U4 904 106 = 0 ∧ Xi U4 904 108 = 0 := ⟨by omega, by omega⟩
      refine y_goto rfl rfl ?_
      refine y_return rfl rfl ?_
      exact ⟨hHT5, hFT5, rfl, (by first | (have t := K321; exact ⟨_, FA17, z321, o321⟩) | (exfalso; omega))⟩
    | 16, hii =>
      cases hii
      have w69 : (Xi S 904 70) = 16 := by simpa using w22
      refine y_aload_n rfl rfl ?_
      have w72 : Xi U4 904 106 = Xi U1 904 106 := (show Xi U4 904 106 = Xi U3 904 106 from by rw [eU4]; exact Xi_ne (by omega)).trans ( (show Xi U3 904 106 = Xi U2 904 106 from by rw [eU3]; exact Xi_ne (by omega)).trans ((show Xi U2 904 106 = Xi U1 904 106 from by rw [eU2]; exact Xi_ne (by omega))))
      have w73 : Xi U4 904 108 = Xi U2 904 108 := (show Xi U4 904 108 = Xi U3 904 108 from by rw [eU4]; exact Xi_ne (by omega)).trans ((show Xi U3 904 108 = Xi U2 904 108 from by rw [eU3]; exact Xi_ne (by omega)))
      have w74 : Xi U4 904 15 = Xi S 904 15 := (show Xi U4 904 15 = Xi U3 904 15 from by rw [eU4]; exact Xi_ne (by omega)).trans ( (show Xi U3 904 15 = Xi U2 904 15 from by rw [eU3]; exact Xi_ne (by omega)).trans ( (show Xi U2 904 15 = Xi U1 904 15 from by rw [eU2]; exact Xi_ne (by omega)).trans ((show Xi U1 904 15 = Xi S 904 15 from by rw [eU1]; exact Xi_ne (by omega)))))
      have w76 : Xi U4 904 30 = Xi S 904 30 := (show Xi U4 904 30 = Xi U3 904 30 from by rw [eU4]; exact Xi_ne (by omega)).trans ( (show Xi U3 904 30 = Xi U2 904 30 from by rw [eU3]; exact Xi_ne (by omega)).trans ( (show Xi U2 904 30 = Xi U1 904 30 from by rw [eU2]; exact Xi_ne (by omega)).trans ((show Xi U1 904 30 = Xi S 904 30 from by rw [eU1]; exact Xi_ne (by omega)))))
      have w78 : Xi U4 904 69 = Xi S 904 69 := (show Xi U4 904 69 = Xi U3 904 69 from by rw [eU4]; exact Xi_ne (by omega)).trans ( (show Xi U3 904 69 = Xi U2 904 69 from by rw [eU3]; exact Xi_ne (by omega)).trans ( (show Xi U2 904 69 = Xi U1 904 69 from by rw [eU2]; exact Xi_ne (by omega)).trans ((show Xi U1 904 69 = Xi S 904 69 from by rw [eU1]; exact Xi_ne (by omega)))))
      have w79 : Xi U4 904 70 = Xi S 904 70 := (show Xi U4 904 70 = Xi U3 904 70 from by rw [eU4]; exact Xi_ne (by omega)).trans ( (show Xi U3 904 70 = Xi U2 904 70 from by rw [eU3]; exact Xi_ne (by omega)).trans ( (show Xi U2 904 70 = Xi U1 904 70 from by rw [eU2]; exact Xi_ne (by omega)).trans ((show Xi U1 904 70 = Xi S 904 70 from by rw [eU1]; exact Xi_ne (by omega)))))
      have w80 : Xi U4 904 71 = Xi S 904 71 := (show Xi U4 904 71 = Xi U3 904 71 from by rw [eU4]; exact Xi_ne (by omega)).trans ( (show Xi U3 904 71 = Xi U2 904 71 from by rw [eU3]; exact Xi_ne (by omega)).trans ( (show Xi U2 904 71 = Xi U1 904 71 from by rw [eU2]; exact Xi_ne (by omega)).trans ((show Xi U1 904 71 = Xi S 904 71 from by rw [eU1]; exact Xi_ne (by omega)))))
      have w81 : Xi U4 904 72 = Xi S 904 72 := (show Xi U4 904 72 = Xi U3 904 72 from by rw [eU4]; exact Xi_ne (by omega)).trans ( (show Xi U3 904 72 = Xi U2 904 72 from by rw [eU3]; exact Xi_ne (by omega)).trans ( (show Xi U2 904 72 = Xi U1 904 72 from by rw [eU2]; exact Xi_ne (by omega)).trans ((show Xi U1 904 72 = Xi S 904 72 from by rw [eU1]; exact Xi_ne (by omega)))))
      have w82 : Xi U4 904 75 = Xi S 904 75 := (show Xi U4 904 75 = Xi U3 904 75 from by rw [eU4]; exact Xi_ne (by omega)).trans ( (show Xi U3 904 75 = Xi U2 904 75 from by rw [eU3]; exact Xi_ne (by omega)).trans ( (show Xi U2 904 75 = Xi U1 904 75 from by rw [eU2]; exact Xi_ne (by omega)).trans ((show Xi U1 904 75 = Xi S 904 75 from by rw [eU1]; exact Xi_ne (by omega)))))
      have w83 : Xi U4 904 76 = Xi S 904 76 := (show Xi U4 904 76 = Xi U3 904 76 from by rw [eU4]; exact Xi_ne (by omega)).trans ( (show Xi U3 904 76 = Xi U2 904 76 from by rw [eU3]; exact Xi_ne (by omega)).trans ( (show Xi U2 904 76 = Xi U1 904 76 from by rw [eU2]; exact Xi_ne (by omega)).trans ((show Xi U1 904 76 = Xi S 904 76 from by rw [eU1]; exact Xi_ne (by omega)))))
      have w85 : Xi U4 904 78 = Xi S 904 78 := (show Xi U4 904 78 = Xi U3 904 78 from by rw [eU4]; exact Xi_ne (by omega)).trans ( (show Xi U3 904 78 = Xi U2 904 78 from by rw [eU3]; exact Xi_ne (by omega)).trans ( (show Xi U2 904 78 = Xi U1 904 78 from by rw [eU2]; exact Xi_ne (by omega)).trans ((show Xi U1 904 78 = Xi S 904 78 from by rw [eU1]; exact Xi_ne (by omega)))))
      refine y_callV rfl rfl rfl (t_mo_askFifteen__3 hHU4 (by first | assumption | exact (LSP_FR hFU4 rfl rfl (by assumption : LSP S))) (by first | assumption | omega) (by first | assumption | exact (RBD_FR hFU4 rfl (by assumption : RBD S))) (by first | assumption | omega) (by first | assumption | omega) (by first | assumption | omega) (by first | assumption | omega) (by first | assumption | omega) (by rw [r2R_sm m17, FA17.x 904 70 rfl, FA17.x 904 71 rfl, FA17.x 904 72 rfl, FA17.x 904 75 rfl]; exact hs) _) ?_
      rintro _ T6 ⟨hHT6, w87, rfl, o321⟩
      have hFT6 : FR md_mo_asked__15b S T6 := FR.tr hFU4 w87 rfl
      show Pl _ _ _ _ _ _ [] _ _
      have K321 : True := trivial
      have z321 : Xi U4 904 106 = 0 ∧ Xi U4 904 108 = 0 := ⟨by omega, by omega⟩
      refine y_goto rfl rfl ?_
      refine y_return rfl rfl ?_
      exact ⟨hHT6, hFT6, rfl, (by first | (have t := K321; exact ⟨_, FA17, z321, o321⟩) | (exfalso; omega))⟩
    | 17, hii =>
      cases hii
      have w100 : (Xi S 904 70) = 17 := by simpa using w22
      exfalso; omega
    | 18, hii =>
      cases hii
      have w101 : (Xi S 904 70) = 18 := by simpa using w22
      exfalso; omega
    | 19, hii =>
      cases hii
      have w102 : (Xi S 904 70) = 19 := by simpa using w22
      exfalso; omega
    | 20, hii =>
      cases hii
      have w103 : (Xi S 904 70) = 20 := by simpa using w22
      exfalso; omega
    | n + 21, hii => exact absurd hii (by simp)
def md_mo_asked__15c : List rec := [(904, 905, 64, 65), (904, 905, 104, 105), (904, 905, 105, 106), (904, 905, 106, 107), (904, 905, 108, 109), (904, 905, 109, 110), (904, 905, 110, 111), (904, 905, 112, 113), (904, 905, 113, 114), (904, 905, 115, 116), (904, 905, 116, 117), (904, 905, 117, 118), (904, 905, 125, 126), (904, 905, 128, 129), (904, 905, 129, 130), (904, 905, 130, 131), (904, 905, 142, 143), (904, 905, 144, 145), (904, 905, 146, 147), (904, 905, 147, 148), (904, 905, 150, 151), (904, 905, 151, 152), (904, 905, 153, 154), (904, 905, 154, 155), (904, 905, 156, 157), (904, 905, 157, 158), (904, 905, 158, 159), (904, 905, 160, 161), (966, 967, 0, 100000), (967, 968, 0, 100000), (968, 969, 0, 100000), (969, 970, 0, 100000), (970, 971, 0, 100000), (971, 972, 0, 100000), (972, 973, 0, 100000), (973, 974, 0, 100000), (974, 975, 0, 100000), (975, 976, 0, 100000), (976, 977, 0, 100000), (977, 978, 0, 100000), (978, 979, 0, 100000), (979, 980, 0, 100000), (980, 981, 0, 100000), (981, 982, 0, 100000), (982, 983, 0, 100000), (983, 984, 0, 100000), (984, 985, 0, 100000), (985, 986, 0, 100000), (986, 987, 0, 100000), (987, 988, 0, 100000), (988, 989, 0, 100000), (989, 990, 0, 100000), (990, 991, 0, 100000), (991, 992, 0, 100000), (992, 993, 0, 100000), (993, 994, 0, 100000), (994, 995, 0, 100000)]
abbrev Q_mo_asked__15c (S : sS) (first : Int) : pst := fun r S1 => RI S1 ∧ FR md_mo_asked__15c S S1 ∧ (r = none ∧ (∃ P : sS, FR lA S P ∧ (Xi P 904 106 = 0 ∧ Xi P 904 108 = 0) ∧ RAX P S1))
set_option maxRecDepth 100000 in
theorem t_mo_asked__15c {S : sS} (hH : RI S) (first : Int) (hfirst : 0 ≤ first ∧ first ≤ 5001) (hLS : LSP S) (h15 : 0 ≤ Xi S 904 15) (hRB : RBD S) (hLX : LXR S) (hB : ABV S) (hko : Hid (∀ j : Nat, -1 ≤ Xi S 918 j ∧ Xi S 918 j ≤ 15)) (hl : 0 ≤ Xi S 904 71 ∧ Xi S 904 71 ≤ 2600 ∧ 0 ≤ Xi S 904 72 ∧ Xi S 904 72 ≤ 2600) (hob : 0 ≤ Xi S 904 19 ∧ Xi S 904 19 ≤ 24) (hkk : Hid (∀ k : Nat, (k : Int) < Xi S 904 15 → Xi S 914 k ≤ 1 → Xi S 915 k ≤ 15)) (hp32 : 0 ≤ Xi S 904 32 ∧ Xi S 904 32 ≤ 12) (hu : Xi S 904 76 = 0) (hs : Xi S 904 70 = 15) (hnv : Hid (1 < tU5 S → Xi S 904 75 ≠ 0)) (hfw : 0 ≤ fW S ∧ fW S ≤ 5100 ∧ 0 ≤ nW S ∧ nW S ≤ 5100) (hpl : PLL S (Xi S 904 71) (Xi S 904 72).toNat) (d : Nat) : Mp lay0 (d + 13) m_mo_asked [.ref 904, iv first] S (Q_mo_asked__15c S first) := by
  refine Mp_R rfl rfl (fun fu => ?_)
  have hF : FR md_mo_asked__15c S S := FR.rf
  have w1 : -2147483648 ≤ Xi S 904 104 ∧ Xi S 904 104 ≤ 2147483647 := Xi_rgI
  have w2 : -2147483648 ≤ Xi S 904 105 ∧ Xi S 904 105 ≤ 2147483647 := Xi_rgI
  have w3 : -2147483648 ≤ Xi S 904 106 ∧ Xi S 904 106 ≤ 2147483647 := Xi_rgI
  have w4 : -2147483648 ≤ Xi S 904 108 ∧ Xi S 904 108 ≤ 2147483647 := Xi_rgI
  have w5 : -2147483648 ≤ Xi S 904 15 ∧ Xi S 904 15 ≤ 2147483647 := Xi_rgI
  have w6 : -2147483648 ≤ Xi S 904 19 ∧ Xi S 904 19 ≤ 2147483647 := Xi_rgI
  have w7 : -2147483648 ≤ Xi S 904 30 ∧ Xi S 904 30 ≤ 2147483647 := Xi_rgI
  have w8 : -2147483648 ≤ Xi S 904 32 ∧ Xi S 904 32 ≤ 2147483647 := Xi_rgI
  have w9 : -2147483648 ≤ Xi S 904 69 ∧ Xi S 904 69 ≤ 2147483647 := Xi_rgI
  have w10 : -2147483648 ≤ Xi S 904 70 ∧ Xi S 904 70 ≤ 2147483647 := Xi_rgI
  have w11 : -2147483648 ≤ Xi S 904 71 ∧ Xi S 904 71 ≤ 2147483647 := Xi_rgI
  have w12 : -2147483648 ≤ Xi S 904 72 ∧ Xi S 904 72 ≤ 2147483647 := Xi_rgI
  have w13 : -2147483648 ≤ Xi S 904 75 ∧ Xi S 904 75 ≤ 2147483647 := Xi_rgI
  have w14 : -2147483648 ≤ Xi S 904 76 ∧ Xi S 904 76 ≤ 2147483647 := Xi_rgI
  have w15 : -2147483648 ≤ Xi S 904 77 ∧ Xi S 904 77 ≤ 2147483647 := Xi_rgI
  have w16 : -2147483648 ≤ Xi S 904 78 ∧ Xi S 904 78 ≤ 2147483647 := Xi_rgI
  refine y_aload_n rfl rfl ?_
  refine y_iconst rfl ?_
  refine y_pfi rfl rfl rfl rfl ?_
  obtain ⟨U1, eU1⟩ : ∃ T : sS, T = uI S 904 106 (Int32.ofInt 0) := ⟨_, rfl⟩
  rw [← eU1]
  have hHU1 : RI U1 := by rw [eU1]; exact RI_w hH
  have hFU1 : FR md_mo_asked__15c S U1 := by rw [eU1]; exact FR.wI hF (mdf_i (r := (904, 905, 106, 107)) (List.mem_of_getElem? (i := 3) rfl) (inR_i (by omega) (by omega) (by omega) (by omega)))
  have w17 : Xi U1 904 106 = 0 := by rw [eU1]; exact Xi_same (by unfold rg; omega)
  have FA2 : FR lA S U1 := by rw [eU1]; exact FR.wI FR.rf (mdf_i (r := (904, 905, 106, 107)) (List.mem_of_getElem? (i := 0) rfl) (inR_i (by omega) (by omega) (by omega) (by omega)))
  refine y_aload_n rfl rfl ?_
  refine y_iconst rfl ?_
  refine y_pfi rfl rfl rfl rfl ?_
  obtain ⟨U2, eU2⟩ : ∃ T : sS, T = uI U1 904 108 (Int32.ofInt 0) := ⟨_, rfl⟩
  rw [← eU2]
  have hHU2 : RI U2 := by rw [eU2]; exact RI_w hHU1
  have hFU2 : FR md_mo_asked__15c S U2 := by rw [eU2]; exact FR.wI hFU1 (mdf_i (r := (904, 905, 108, 109)) (List.mem_of_getElem? (i := 4) rfl) (inR_i (by omega) (by omega) (by omega) (by omega)))
  have w18 : Xi U2 904 108 = 0 := by rw [eU2]; exact Xi_same (by unfold rg; omega)
  have FA7 : FR lA S U2 := by rw [eU2]; exact FR.wI FA2 (mdf_i (r := (904, 905, 108, 109)) (List.mem_of_getElem? (i := 1) rfl) (inR_i (by omega) (by omega) (by omega) (by omega)))
  refine y_aload_n rfl rfl ?_
  refine y_iconst rfl ?_
  refine y_pfi rfl rfl rfl rfl ?_
  obtain ⟨U3, eU3⟩ : ∃ T : sS, T = uI U2 904 115 (Int32.ofInt (-1)) := ⟨_, rfl⟩
  rw [← eU3]
  have hHU3 : RI U3 := by rw [eU3]; exact RI_w hHU2
  have hFU3 : FR md_mo_asked__15c S U3 := by rw [eU3]; exact FR.wI hFU2 (mdf_i (r := (904, 905, 115, 116)) (List.mem_of_getElem? (i := 9) rfl) (inR_i (by omega) (by omega) (by omega) (by omega)))
  have w19 : Xi U3 904 115 = (-1) := by rw [eU3]; exact Xi_same (by unfold rg; omega)
  have FA12 : FR lA S U3 := by rw [eU3]; exact FR.wI FA7 (mdf_i (r := (904, 905, 115, 116)) (List.mem_of_getElem? (i := 2) rfl) (inR_i (by omega) (by omega) (by omega) (by omega)))
  refine y_aload_n rfl rfl ?_
  refine y_iconst rfl ?_
  refine y_pfi rfl rfl rfl rfl ?_
  obtain ⟨U4, eU4⟩ : ∃ T : sS, T = uI U3 904 116 (Int32.ofInt (-1)) := ⟨_, rfl⟩
  rw [← eU4]
  have hHU4 : RI U4 := by rw [eU4]; exact RI_w hHU3
  have hFU4 : FR md_mo_asked__15c S U4 := by rw [eU4]; exact FR.wI hFU3 (mdf_i (r := (904, 905, 116, 117)) (List.mem_of_getElem? (i := 10) rfl) (inR_i (by omega) (by omega) (by omega) (by omega)))
  have w20 : Xi U4 904 116 = (-1) := by rw [eU4]; exact Xi_same (by unfold rg; omega)
  have FA17 : FR lA S U4 := by rw [eU4]; exact FR.wI FA12 (mdf_i (r := (904, 905, 116, 117)) (List.mem_of_getElem? (i := 3) rfl) (inR_i (by omega) (by omega) (by omega) (by omega)))
  have m17 : SMR S U4 := SMR_FR FA17 rfl rfl
  refine y_aload_n rfl rfl ?_
  refine y_gfi rfl rfl rfl rfl rfl ?_
  have w21 : (Xi U4 904 70) = (Xi S 904 70) := (show Xi U4 904 70 = Xi U3 904 70 from by rw [eU4]; exact Xi_ne (by omega)).trans ( (show Xi U3 904 70 = Xi U2 904 70 from by rw [eU3]; exact Xi_ne (by omega)).trans ( (show Xi U2 904 70 = Xi U1 904 70 from by rw [eU2]; exact Xi_ne (by omega)).trans ((show Xi U1 904 70 = Xi S 904 70 from by rw [eU1]; exact Xi_ne (by omega)))))
  rw [w21]
  refine y_tsw rfl rfl rfl rfl (by unfold rg; omega) (fun w22 => ?_) (fun ii tt hii w22 => ?_)
  · exfalso; omega
  · match ii, hii with
    | 0, hii =>
      cases hii
      have w23 : (Xi S 904 70) = 0 := by simpa using w22
      exfalso; omega
    | 1, hii =>
      cases hii
      have w24 : (Xi S 904 70) = 1 := by simpa using w22
      exfalso; omega
    | 2, hii =>
      cases hii
      have w25 : (Xi S 904 70) = 2 := by simpa using w22
      exfalso; omega
    | 3, hii =>
      cases hii
      have w26 : (Xi S 904 70) = 3 := by simpa using w22
      exfalso; omega
    | 4, hii =>
      cases hii
      have w27 : (Xi S 904 70) = 4 := by simpa using w22
      exfalso; omega
    | 5, hii =>
      cases hii
      have w28 : (Xi S 904 70) = 5 := by simpa using w22
      exfalso; omega
    | 6, hii =>
      cases hii
      have w29 : (Xi S 904 70) = 6 := by simpa using w22
      exfalso; omega
    | 7, hii =>
      cases hii
      have w30 : (Xi S 904 70) = 7 := by simpa using w22
      exfalso; omega
    | 8, hii =>
      cases hii
      have w31 : (Xi S 904 70) = 8 := by simpa using w22
      exfalso; omega
    | 9, hii =>
      cases hii
      have w32 : (Xi S 904 70) = 9 := by simpa using w22
      exfalso; omega
    | 10, hii =>
      cases hii
      have w33 : (Xi S 904 70) = 10 := by simpa using w22
      exfalso; omega
    | 11, hii =>
      cases hii
      have w34 : (Xi S 904 70) = 11 := by simpa using w22
      exfalso; omega
    | 12, hii =>
      cases hii
      have w35 : (Xi S 904 70) = 12 := by simpa using w22
      exfalso; omega
    | 13, hii =>
      cases hii
      have w36 : (Xi S 904 70) = 13 := by simpa using w22
      exfalso; omega
    | 14, hii =>
      cases hii
      have w37 : (Xi S 904 70) = 14 := by simpa using w22
      exfalso; omega
    | 15, hii =>
      cases hii
      have w38 : (Xi S 904 70) = 15 := by simpa using w22
      refine y_aload_n rfl rfl ?_
      have w39 : Xi U4 904 104 = Xi S 904 104 := (show Xi U4 904 104 = Xi U3 904 104 from by rw [eU4]; exact Xi_ne (by omega)).trans ( (show Xi U3 904 104 = Xi U2 904 104 from by rw [eU3]; exact Xi_ne (by omega)).trans ( (show Xi U2 904 104 = Xi U1 904 104 from by rw [eU2]; exact Xi_ne (by omega)).trans ((show Xi U1 904 104 = Xi S 904 104 from by rw [eU1]; exact Xi_ne (by omega)))))
      have w40 : Xi U4 904 105 = Xi S 904 105 := (show Xi U4 904 105 = Xi U3 904 105 from by rw [eU4]; exact Xi_ne (by omega)).trans ( (show Xi U3 904 105 = Xi U2 904 105 from by rw [eU3]; exact Xi_ne (by omega)).trans ( (show Xi U2 904 105 = Xi U1 904 105 from by rw [eU2]; exact Xi_ne (by omega)).trans ((show Xi U1 904 105 = Xi S 904 105 from by rw [eU1]; exact Xi_ne (by omega)))))
      have w41 : Xi U4 904 106 = Xi U1 904 106 := (show Xi U4 904 106 = Xi U3 904 106 from by rw [eU4]; exact Xi_ne (by omega)).trans ( (show Xi U3 904 106 = Xi U2 904 106 from by rw [eU3]; exact Xi_ne (by omega)).trans ((show Xi U2 904 106 = Xi U1 904 106 from by rw [eU2]; exact Xi_ne (by omega))))
      have w42 : Xi U4 904 108 = Xi U2 904 108 := (show Xi U4 904 108 = Xi U3 904 108 from by rw [eU4]; exact Xi_ne (by omega)).trans ((show Xi U3 904 108 = Xi U2 904 108 from by rw [eU3]; exact Xi_ne (by omega)))
      have w43 : Xi U4 904 15 = Xi S 904 15 := (show Xi U4 904 15 = Xi U3 904 15 from by rw [eU4]; exact Xi_ne (by omega)).trans ( (show Xi U3 904 15 = Xi U2 904 15 from by rw [eU3]; exact Xi_ne (by omega)).trans ( (show Xi U2 904 15 = Xi U1 904 15 from by rw [eU2]; exact Xi_ne (by omega)).trans ((show Xi U1 904 15 = Xi S 904 15 from by rw [eU1]; exact Xi_ne (by omega)))))
      have w44 : Xi U4 904 19 = Xi S 904 19 := (show Xi U4 904 19 = Xi U3 904 19 from by rw [eU4]; exact Xi_ne (by omega)).trans ( (show Xi U3 904 19 = Xi U2 904 19 from by rw [eU3]; exact Xi_ne (by omega)).trans ( (show Xi U2 904 19 = Xi U1 904 19 from by rw [eU2]; exact Xi_ne (by omega)).trans ((show Xi U1 904 19 = Xi S 904 19 from by rw [eU1]; exact Xi_ne (by omega)))))
      have w45 : Xi U4 904 30 = Xi S 904 30 := (show Xi U4 904 30 = Xi U3 904 30 from by rw [eU4]; exact Xi_ne (by omega)).trans ( (show Xi U3 904 30 = Xi U2 904 30 from by rw [eU3]; exact Xi_ne (by omega)).trans ( (show Xi U2 904 30 = Xi U1 904 30 from by rw [eU2]; exact Xi_ne (by omega)).trans ((show Xi U1 904 30 = Xi S 904 30 from by rw [eU1]; exact Xi_ne (by omega)))))
      have w46 : Xi U4 904 32 = Xi S 904 32 := (show Xi U4 904 32 = Xi U3 904 32 from by rw [eU4]; exact Xi_ne (by omega)).trans ( (show Xi U3 904 32 = Xi U2 904 32 from by rw [eU3]; exact Xi_ne (by omega)).trans ( (show Xi U2 904 32 = Xi U1 904 32 from by rw [eU2]; exact Xi_ne (by omega)).trans ((show Xi U1 904 32 = Xi S 904 32 from by rw [eU1]; exact Xi_ne (by omega)))))
      have w47 : Xi U4 904 69 = Xi S 904 69 := (show Xi U4 904 69 = Xi U3 904 69 from by rw [eU4]; exact Xi_ne (by omega)).trans ( (show Xi U3 904 69 = Xi U2 904 69 from by rw [eU3]; exact Xi_ne (by omega)).trans ( (show Xi U2 904 69 = Xi U1 904 69 from by rw [eU2]; exact Xi_ne (by omega)).trans ((show Xi U1 904 69 = Xi S 904 69 from by rw [eU1]; exact Xi_ne (by omega)))))
      have w48 : Xi U4 904 70 = Xi S 904 70 := (show Xi U4 904 70 = Xi U3 904 70 from by rw [eU4]; exact Xi_ne (by omega)).trans ( (show Xi U3 904 70 = Xi U2 904 70 from by rw [eU3]; exact Xi_ne (by omega)).trans ( (show Xi U2 904 70 = Xi U1 904 70 from by rw [eU2]; exact Xi_ne (by omega)).trans ((show Xi U1 904 70 = Xi S 904 70 from by rw [eU1]; exact Xi_ne (by omega)))))
      have w49 : Xi U4 904 71 = Xi S 904 71 := (show Xi U4 904 71 = Xi U3 904 71 from by rw [eU4]; exact Xi_ne (by omega)).trans ( (show Xi U3 904 71 = Xi U2 904 71 from by rw [eU3]; exact Xi_ne (by omega)).trans ( (show Xi U2 904 71 = Xi U1 904 71 from by rw [eU2]; exact Xi_ne (by omega)).trans ((show Xi U1 904 71 = Xi S 904 71 from by rw [eU1]; exact Xi_ne (by omega)))))
      have w50 : Xi U4 904 72 = Xi S 904 72 := (show Xi U4 904 72 = Xi U3 904 72 from by rw [eU4]; exact Xi_ne (by omega)).trans ( (show Xi U3 904 72 = Xi U2 904 72 from by rw [eU3]; exact Xi_ne (by omega)).trans ( (show Xi U2 904 72 = Xi U1 904 72 from by rw [eU2]; exact Xi_ne (by omega)).trans ((show Xi U1 904 72 = Xi S 904 72 from by rw [eU1]; exact Xi_ne (by omega)))))
      have w51 : Xi U4 904 75 = Xi S 904 75 := (show Xi U4 904 75 = Xi U3 904 75 from by rw [eU4]; exact Xi_ne (by omega)).trans ( (show Xi U3 904 75 = Xi U2 904 75 from by rw [eU3]; exact Xi_ne (by omega)).trans ( (show Xi U2 904 75 = Xi U1 904 75 from by rw [eU2]; exact Xi_ne (by omega)).trans ((show Xi U1 904 75 = Xi S 904 75 from by rw [eU1]; exact Xi_ne (by omega)))))
      have w52 : Xi U4 904 76 = Xi S 904 76 := (show Xi U4 904 76 = Xi U3 904 76 from by rw [eU4]; exact Xi_ne (by omega)).trans ( (show Xi U3 904 76 = Xi U2 904 76 from by rw [eU3]; exact Xi_ne (by omega)).trans ( (show Xi U2 904 76 = Xi U1 904 76 from by rw [eU2]; exact Xi_ne (by omega)).trans ((show Xi U1 904 76 = Xi S 904 76 from by rw [eU1]; exact Xi_ne (by omega)))))
      have w53 : Xi U4 904 77 = Xi S 904 77 := (show Xi U4 904 77 = Xi U3 904 77 from by rw [eU4]; exact Xi_ne (by omega)).trans ( (show Xi U3 904 77 = Xi U2 904 77 from by rw [eU3]; exact Xi_ne (by omega)).trans ( (show Xi U2 904 77 = Xi U1 904 77 from by rw [eU2]; exact Xi_ne (by omega)).trans ((show Xi U1 904 77 = Xi S 904 77 from by rw [eU1]; exact Xi_ne (by omega)))))
      have w54 : Xi U4 904 78 = Xi S 904 78 := (show Xi U4 904 78 = Xi U3 904 78 from by rw [eU4]; exact Xi_ne (by omega)).trans ( (show Xi U3 904 78 = Xi U2 904 78 from by rw [eU3]; exact Xi_ne (by omega)).trans ( (show Xi U2 904 78 = Xi U1 904 78 from by rw [eU2]; exact Xi_ne (by omega)).trans ((show Xi U1 904 78 = Xi S 904 78 from by rw [eU1]; exact Xi_ne (by omega)))))
      refine y_callV rfl rfl rfl (t_mo_askFifteen__4 hHU4 (by first | assumption | exact (LSP_FR hFU4 rfl rfl (by assumption : LSP S))) (by first | assumption | omega) (by first | assumption | exact (RBD_FR hFU4 rfl (by assumption : RBD S))) (by first | assumption | exact (LXR_FR hFU4 rfl rfl (by assumption : LXR S))) (by first | assumption | exact (ABV_FR hFU4 rfl (by assumption : ABV S))) (fun j => by rw [FA17.x 918 j rfl]; exact hko.o j) (by first | assumption | omega) (by first | assumption | omega) (fun k hk h1 => by rw [m17.1] at hk; rw [m17.2.1 914 k (by omega)] at h1; rw [m17.2.1 915 k (by omega)]; exact hkk.o k hk h1) (by first | assumption | omega) (by first | assumption | omega) (by first | assumption | omega) (⟨by omega, by omega⟩) (by unfold tU5; rw [FA17.x 904 72 rfl, FA17.x 904 71 rfl, FA17.x 904 75 rfl, r2R_sm m17]; exact hnv) (by unfold fW nW; rw [m17.2.1 950 _ (by omega), m17.2.1 951 _ (by omega), FA17.x 904 78 rfl]; exact hfw) (fun k i a b => by rw [FA17.x 904 71 rfl]; rw [FA17.x 904 72 rfl] at b; rw [pR_sm m17, pR_sm m17]; exact hpl k i a b) _) ?_
      rintro _ T5 ⟨hHT5, w56, rfl, o321⟩
      have hFT5 : FR md_mo_asked__15c S T5 := FR.tr hFU4 w56 rfl
      show Pl _ _ _ _ _ _ [] _ _
      have K321 : True := trivial
      have z321 : Xi U4 904 106 = 0 ∧ Xi U4 904 108 = 0 := ⟨by omega, by omega⟩
      refine y_goto rfl rfl ?_
      refine y_return rfl rfl ?_
      exact ⟨hHT5, hFT5, rfl, (by first | (have t := K321; exact ⟨_, FA17, z321, o321⟩) | (exfalso; omega))⟩
    | 16, hii =>
      cases hii
      have w69 : (Xi S 904 70) = 16 := by simpa using w22
      refine y_aload_n rfl rfl ?_
      have w70 : Xi U4 904 104 = Xi S 904 104 := (show Xi U4 904 104 = Xi U3 904 104 from by rw [eU4]; exact Xi_ne (by omega)).trans ( (show Xi U3 904 104 = Xi U2 904 104 from by rw [eU3]; exact Xi_ne (by omega)).trans ( (show Xi U2 904 104 = Xi U1 904 104 from by rw [eU2]; exact Xi_ne (by omega)).trans ((show Xi U1 904 104 = Xi S 904 104 from by rw [eU1]; exact Xi_ne (by omega)))))
      have w71 : Xi U4 904 105 = Xi S 904 105 := (show Xi U4 904 105 = Xi U3 904 105 from by rw [eU4]; exact Xi_ne (by omega)).trans ( (show Xi U3 904 105 = Xi U2 904 105 from by rw [eU3]; exact Xi_ne (by omega)).trans ( (show Xi U2 904 105 = Xi U1 904 105 from by rw [eU2]; exact Xi_ne (by omega)).trans ((show Xi U1 904 105 = Xi S 904 105 from by rw [eU1]; exact Xi_ne (by omega)))))
      have w72 : Xi U4 904 106 = Xi U1 904 106 := (show Xi U4 904 106 = Xi U3 904 106 from by rw [eU4]; exact Xi_ne (by omega)).trans ( (show Xi U3 904 106 = Xi U2 904 106 from by rw [eU3]; exact Xi_ne (by omega)).trans ((show Xi U2 904 106 = Xi U1 904 106 from by rw [eU2]; exact Xi_ne (by omega))))
      have w73 : Xi U4 904 108 = Xi U2 904 108 := (show Xi U4 904 108 = Xi U3 904 108 from by rw [eU4]; exact Xi_ne (by omega)).trans ((show Xi U3 904 108 = Xi U2 904 108 from by rw [eU3]; exact Xi_ne (by omega)))
      have w74 : Xi U4 904 15 = Xi S 904 15 := (show Xi U4 904 15 = Xi U3 904 15 from by rw [eU4]; exact Xi_ne (by omega)).trans ( (show Xi U3 904 15 = Xi U2 904 15 from by rw [eU3]; exact Xi_ne (by omega)).trans ( (show Xi U2 904 15 = Xi U1 904 15 from by rw [eU2]; exact Xi_ne (by omega)).trans ((show Xi U1 904 15 = Xi S 904 15 from by rw [eU1]; exact Xi_ne (by omega)))))
      have w75 : Xi U4 904 19 = Xi S 904 19 := (show Xi U4 904 19 = Xi U3 904 19 from by rw [eU4]; exact Xi_ne (by omega)).trans ( (show Xi U3 904 19 = Xi U2 904 19 from by rw [eU3]; exact Xi_ne (by omega)).trans ( (show Xi U2 904 19 = Xi U1 904 19 from by rw [eU2]; exact Xi_ne (by omega)).trans ((show Xi U1 904 19 = Xi S 904 19 from by rw [eU1]; exact Xi_ne (by omega)))))
      have w76 : Xi U4 904 30 = Xi S 904 30 := (show Xi U4 904 30 = Xi U3 904 30 from by rw [eU4]; exact Xi_ne (by omega)).trans ( (show Xi U3 904 30 = Xi U2 904 30 from by rw [eU3]; exact Xi_ne (by omega)).trans ( (show Xi U2 904 30 = Xi U1 904 30 from by rw [eU2]; exact Xi_ne (by omega)).trans ((show Xi U1 904 30 = Xi S 904 30 from by rw [eU1]; exact Xi_ne (by omega)))))
      have w77 : Xi U4 904 32 = Xi S 904 32 := (show Xi U4 904 32 = Xi U3 904 32 from by rw [eU4]; exact Xi_ne (by omega)).trans ( (show Xi U3 904 32 = Xi U2 904 32 from by rw [eU3]; exact Xi_ne (by omega)).trans ( (show Xi U2 904 32 = Xi U1 904 32 from by rw [eU2]; exact Xi_ne (by omega)).trans ((show Xi U1 904 32 = Xi S 904 32 from by rw [eU1]; exact Xi_ne (by omega)))))
      have w78 : Xi U4 904 69 = Xi S 904 69 := (show Xi U4 904 69 = Xi U3 904 69 from by rw [eU4]; exact Xi_ne (by omega)).trans ( (show Xi U3 904 69 = Xi U2 904 69 from by rw [eU3]; exact Xi_ne (by omega)).trans ( (show Xi U2 904 69 = Xi U1 904 69 from by rw [eU2]; exact Xi_ne (by omega)).trans ((show Xi U1 904 69 = Xi S 904 69 from by rw [eU1]; exact Xi_ne (by omega)))))
      have w79 : Xi U4 904 70 = Xi S 904 70 := (show Xi U4 904 70 = Xi U3 904 70 from by rw [eU4]; exact Xi_ne (by omega)).trans ( (show Xi U3 904 70 = Xi U2 904 70 from by rw [eU3]; exact Xi_ne (by omega)).trans ( (show Xi U2 904 70 = Xi U1 904 70 from by rw [eU2]; exact Xi_ne (by omega)).trans ((show Xi U1 904 70 = Xi S 904 70 from by rw [eU1]; exact Xi_ne (by omega)))))
      have w80 : Xi U4 904 71 = Xi S 904 71 := (show Xi U4 904 71 = Xi U3 904 71 from by rw [eU4]; exact Xi_ne (by omega)).trans ( (show Xi U3 904 71 = Xi U2 904 71 from by rw [eU3]; exact Xi_ne (by omega)).trans ( (show Xi U2 904 71 = Xi U1 904 71 from by rw [eU2]; exact Xi_ne (by omega)).trans ((show Xi U1 904 71 = Xi S 904 71 from by rw [eU1]; exact Xi_ne (by omega)))))
      have w81 : Xi U4 904 72 = Xi S 904 72 := (show Xi U4 904 72 = Xi U3 904 72 from by rw [eU4]; exact Xi_ne (by omega)).trans ( (show Xi U3 904 72 = Xi U2 904 72 from by rw [eU3]; exact Xi_ne (by omega)).trans ( (show Xi U2 904 72 = Xi U1 904 72 from by rw [eU2]; exact Xi_ne (by omega)).trans ((show Xi U1 904 72 = Xi S 904 72 from by rw [eU1]; exact Xi_ne (by omega)))))
      have w82 : Xi U4 904 75 = Xi S 904 75 := (show Xi U4 904 75 = Xi U3 904 75 from by rw [eU4]; exact Xi_ne (by omega)).trans ( (show Xi U3 904 75 = Xi U2 904 75 from by rw [eU3]; exact Xi_ne (by omega)).trans ( (show Xi U2 904 75 = Xi U1 904 75 from by rw [eU2]; exact Xi_ne (by omega)).trans ((show Xi U1 904 75 = Xi S 904 75 from by rw [eU1]; exact Xi_ne (by omega)))))
      have w83 : Xi U4 904 76 = Xi S 904 76 := (show Xi U4 904 76 = Xi U3 904 76 from by rw [eU4]; exact Xi_ne (by omega)).trans ( (show Xi U3 904 76 = Xi U2 904 76 from by rw [eU3]; exact Xi_ne (by omega)).trans ( (show Xi U2 904 76 = Xi U1 904 76 from by rw [eU2]; exact Xi_ne (by omega)).trans ((show Xi U1 904 76 = Xi S 904 76 from by rw [eU1]; exact Xi_ne (by omega)))))
      have w84 : Xi U4 904 77 = Xi S 904 77 := (show Xi U4 904 77 = Xi U3 904 77 from by rw [eU4]; exact Xi_ne (by omega)).trans ( (show Xi U3 904 77 = Xi U2 904 77 from by rw [eU3]; exact Xi_ne (by omega)).trans ( (show Xi U2 904 77 = Xi U1 904 77 from by rw [eU2]; exact Xi_ne (by omega)).trans ((show Xi U1 904 77 = Xi S 904 77 from by rw [eU1]; exact Xi_ne (by omega)))))
      have w85 : Xi U4 904 78 = Xi S 904 78 := (show Xi U4 904 78 = Xi U3 904 78 from by rw [eU4]; exact Xi_ne (by omega)).trans ( (show Xi U3 904 78 = Xi U2 904 78 from by rw [eU3]; exact Xi_ne (by omega)).trans ( (show Xi U2 904 78 = Xi U1 904 78 from by rw [eU2]; exact Xi_ne (by omega)).trans ((show Xi U1 904 78 = Xi S 904 78 from by rw [eU1]; exact Xi_ne (by omega)))))
      refine y_callV rfl rfl rfl (t_mo_askFifteen__4 hHU4 (by first | assumption | exact (LSP_FR hFU4 rfl rfl (by assumption : LSP S))) (by first | assumption | omega) (by first | assumption | exact (RBD_FR hFU4 rfl (by assumption : RBD S))) (by first | assumption | exact (LXR_FR hFU4 rfl rfl (by assumption : LXR S))) (by first | assumption | exact (ABV_FR hFU4 rfl (by assumption : ABV S))) (fun j => by rw [FA17.x 918 j rfl]; exact hko.o j) (by first | assumption | omega) (by first | assumption | omega) (fun k hk h1 => by rw [m17.1] at hk; rw [m17.2.1 914 k (by omega)] at h1; rw [m17.2.1 915 k (by omega)]; exact hkk.o k hk h1) (by first | assumption | omega) (by first | assumption | omega) (by first | assumption | omega) (⟨by omega, by omega⟩) (by unfold tU5; rw [FA17.x 904 72 rfl, FA17.x 904 71 rfl, FA17.x 904 75 rfl, r2R_sm m17]; exact hnv) (by unfold fW nW; rw [m17.2.1 950 _ (by omega), m17.2.1 951 _ (by omega), FA17.x 904 78 rfl]; exact hfw) (fun k i a b => by rw [FA17.x 904 71 rfl]; rw [FA17.x 904 72 rfl] at b; rw [pR_sm m17, pR_sm m17]; exact hpl k i a b) _) ?_
      rintro _ T6 ⟨hHT6, w87, rfl, o321⟩
      have hFT6 : FR md_mo_asked__15c S T6 := FR.tr hFU4 w87 rfl
      show Pl _ _ _ _ _ _ [] _ _
      have K321 : True := trivial
      have z321 : Xi U4 904 106 = 0 ∧ Xi U4 904 108 = 0 := ⟨by omega, by omega⟩
      refine y_goto rfl rfl ?_
      refine y_return rfl rfl ?_
      exact ⟨hHT6, hFT6, rfl, (by first | (have t := K321; exact ⟨_, FA17, z321, o321⟩) | (exfalso; omega))⟩
    | 17, hii =>
      cases hii
      have w100 : (Xi S 904 70) = 17 := by simpa using w22
      exfalso; omega
    | 18, hii =>
      cases hii
      have w101 : (Xi S 904 70) = 18 := by simpa using w22
      exfalso; omega
    | 19, hii =>
      cases hii
      have w102 : (Xi S 904 70) = 19 := by simpa using w22
      exfalso; omega
    | 20, hii =>
      cases hii
      have w103 : (Xi S 904 70) = 20 := by simpa using w22
      exfalso; omega
    | n + 21, hii => exact absurd hii (by simp)
end
section
/-! LISTS that begin at another name (class) -/
def NWLo (o : Nat) (S : sS) (i : Nat) : Prop := mnV S (kr7 (ty7 S) (o + i)) (re7 (ty7 S) (kr7 (ty7 S) (o + i))) = -1 ∧ re7 (ty7 S) (kr7 (ty7 S) (o + i)) - kr7 (ty7 S) (o + i) ≤ 3 ∧ ∀ j : Nat, j < i → ¬ alC S (kr7 (ty7 S) (o + j)) (re7 (ty7 S) (kr7 (ty7 S) (o + j))) (kr7 (ty7 S) (o + i)) (re7 (ty7 S) (kr7 (ty7 S) (o + i)))
def LOKo (o : Nat) (S : sS) (c M : Int) (n : Nat) : Prop := ∀ i : Nat, i < n → NWLo o S i ∧ c + i < M
def LNWo (o : Nat) (S U : sS) (n : Nat) : Prop := Xi U 891 9 = n ∧ ∀ i : Nat, i < n → Xi U 892 i = kr7 (ty7 S) (o + i) ∧ Xi U 893 i = re7 (ty7 S) (kr7 (ty7 S) (o + i))
def TLSo (o : Nat) (S S1 : sS) (z c M : Int) (n : Nat) : Prop := ∀ k : Nat, k < n → LOKo o S c M k → (¬ NWLo o S k → z = 0 ∧ FTO S S1 3 (kr7 (ty7 S) (o + k))) ∧ (NWLo o S k → M ≤ c + k → z = 0 ∧ FTO S S1 9 (kr7 (ty7 S) (o + k)))
theorem nwl_ofo {o : Nat} {S U : sS} {n : Nat} {a b : Int} (h : SMV S U) (l : LNWo o S U n) (ha : a = kr7 (ty7 S) (o + n)) (hb : b = re7 (ty7 S) (kr7 (ty7 S) (o + n))) : nwC U a b ↔ NWLo o S n := by
  unfold nwC NWLo WNC
  rw [mnV_eq h, l.1, ha, hb]
  constructor
  · rintro ⟨h1, h2, h3⟩
    refine ⟨h1, h2, fun j hj w => h3 ⟨j, by omega, ?_⟩⟩
    rw [(l.2 j hj).1, (l.2 j hj).2, alC_eq h]
    exact w
  · rintro ⟨h1, h2, h3⟩
    refine ⟨h1, h2, fun ⟨j, hj, w⟩ => h3 j (by omega) ?_⟩
    rw [(l.2 j (by omega)).1, (l.2 j (by omega)).2, alC_eq h] at w
    exact w
theorem lnw_so {o : Nat} {S U V : sS} {n : Nat} {a b : Int} (l : LNWo o S U n) (ha : a = kr7 (ty7 S) (o + n)) (hb : b = re7 (ty7 S) (kr7 (ty7 S) (o + n))) (r : Xi V 891 9 = Xi U 891 9 + 1 ∧ Xi V 892 (Xi U 891 9).toNat = a ∧ Xi V 893 (Xi U 891 9).toNat = b ∧ ∀ j : Nat, (j : Int) < Xi U 891 9 → Xi V 892 j = Xi U 892 j ∧ Xi V 893 j = Xi U 893 j) : LNWo o S V (n + 1) := by
  obtain ⟨r1, r2, r3, r4⟩ := r
  rw [l.1] at r1 r2 r3 r4
  refine ⟨by rw [r1]; omega, fun i hi => ?_⟩
  by_cases q : i = n
  · rw [q]
    rw [show ((n : Int)).toNat = n by omega] at r2 r3
    exact ⟨r2.trans ha, r3.trans hb⟩
  · obtain ⟨w1, w2⟩ := r4 i (by omega)
    rw [w1, w2]
    exact l.2 i (by omega)
theorem lok_so {o : Nat} {S : sS} {c M : Int} {n : Nat} (l : LOKo o S c M n) (h : NWLo o S n) (hc : c + n < M) : LOKo o S c M (n + 1) := fun i hi => by
  by_cases q : i = n
  · rw [q]; exact ⟨h, hc⟩
  · exact l i (by omega)
theorem lok_bo {o : Nat} {S : sS} {c M : Int} {n : Nat} (l : LOKo o S c M n) (h : 0 ≤ c) (hM : 0 ≤ M) : (n : Int) ≤ M := by
  by_cases q : n = 0
  · omega
  · have t := (l (n - 1) (by omega)).2; omega
/-- a fault in a LIST -/
theorem tls_fo {o : Nat} {S P S1 : sS} {z c M : Int} {n N : Nat} {X : Prop} {a b : Int} (l : LOKo o S c M n) (hw : nwC P a b ↔ NWLo o S n) (p : ∀ r, pc7 P r = pc7 S r) (ha : a = kr7 (ty7 S) (o + n)) (h9 : Xi P 891 9 = n) (n3 : ¬ nwC P a b → z = 0 ∧ FTO P S1 3 a) (n9 : nwC P a b → M ≤ c + Xi P 891 9 → z = 0 ∧ FTO P S1 9 a) (ok : nwC P a b → c + Xi P 891 9 < M → z = 1 ∧ X) (hz : z = 0) : TLSo o S S1 0 c M N := fun k hk lk => by
  rw [h9] at n9 ok
  rw [ha] at n3 n9
  by_cases q : k < n
  · obtain ⟨x1, x2⟩ := l k q
    exact ⟨fun w => absurd x1 w, fun _ w => by omega⟩
  · by_cases e : k = n
    · rw [e]
      exact ⟨fun w => ⟨rfl, fto_p (n3 (fun y => w (by rw [ha] at hw; exact hw.1 y))).2 p⟩, fun w v => ⟨rfl, fto_p (n9 (by rw [← ha]; exact hw.2 w) (by omega)).2 p⟩⟩
    · obtain ⟨x1, x2⟩ := lk n (by omega)
      have t := (ok (hw.2 x1) x2).1
      omega
theorem tls_yo {o : Nat} {S S1 : sS} {z c M : Int} {N : Nat} (l : LOKo o S c M N) : TLSo o S S1 z c M N := fun k hk _ => by
  obtain ⟨x1, x2⟩ := l k hk
  exact ⟨fun w => absurd x1 w, fun _ w => by omega⟩
/-- names of a LIST told one after the other -/
def TNLo (o : Nat) (S : sS) (so c : Int) : Nat → sS → Prop
  | 0, V => SMV S V
  | n + 1, V => ∃ (W : sS) (i : Nat), TNLo o S so c n W ∧ NMI W V i so (c + n) (wRw S 879 (kr7 (ty7 S) (o + n)) (re7 (ty7 S) (kr7 (ty7 S) (o + n))) 0) (wRw S 879 (kr7 (ty7 S) (o + n)) (re7 (ty7 S) (kr7 (ty7 S) (o + n))) 1) (wRw S 879 (kr7 (ty7 S) (o + n)) (re7 (ty7 S) (kr7 (ty7 S) (o + n))) 2)
theorem tnl_po {o : Nat} {S V V' : sS} {so c : Int} : ∀ {n : Nat}, TNLo o S so c n V → (∀ j, Xi V' 3 j = Xi V 3 j) → (∀ j, Xi V' 4 j = Xi V 4 j) → (∀ j, Xj V' 2 j = Xj V 2 j) → Xi V' 1 3 = Xi V 1 3 → (∀ j, Xj V' 879 j = Xj V 879 j) → TNLo o S so c n V'
  | 0, h, a, b, cc, d, e => SMV.tr h ⟨d, cc, a, b, e⟩
  | n + 1, ⟨W, i, h1, h2⟩, a, b, cc, d, _ => ⟨W, i, h1, NMI_post h2 a b cc d⟩
theorem tnl_so {o : Nat} {S V V' : sS} {so c w a b : Int} {n : Nat} (h : TNLo o S so c n V) (e : ∃ i : Nat, NMI V V' i so w (wRw V 879 a b 0) (wRw V 879 a b 1) (wRw V 879 a b 2)) (k : ∀ j, Xj V 879 j = Xj S 879 j) (ha : a = kr7 (ty7 S) (o + n)) (hb : b = re7 (ty7 S) (kr7 (ty7 S) (o + n))) (hw : w = c + n) : TNLo o S so c (n + 1) V' := by
  obtain ⟨i, hi⟩ := e
  have q : ∀ t, wRw V 879 a b t = wRw S 879 (kr7 (ty7 S) (o + n)) (re7 (ty7 S) (kr7 (ty7 S) (o + n))) t := fun t => by unfold wRw; rw [k, ha, hb]
  rw [q, q, q, hw] at hi
  exact ⟨V, i, h, hi⟩
/-- while a LIST is taken only news are written -/
def LSUo (o : Nat) (S U : sS) (n : Nat) : Prop := LNWo o S U n ∧ NRB U ∧ Xi U 876 8 = 0 ∧ (∀ k j : Nat, k < 876 → Xi U k j = Xi S k j) ∧ (∀ k j : Nat, (k < 876 ∨ (877 ≤ k ∧ k < 890)) → Xj U k j = Xj S k j) ∧ (Xi U 876 7 = Xi S 876 7 ∧ Xi U 876 5 = Xi S 876 5 ∧ Xi U 890 3 = Xi S 890 3) ∧ ∀ k j : Nat, 877 ≤ k → k < 890 → Xi U k j = Xi S k j
theorem lsu_0o {o : Nat} {S : sS} (h9 : Xi S 891 9 = 0) (hb : NRB S) (hf : Xi S 876 8 = 0) : LSUo o S S 0 :=
  ⟨⟨h9, fun i hi => by omega⟩, hb, hf, fun _ _ _ => rfl, fun _ _ _ => rfl, ⟨rfl, rfl, rfl⟩, fun _ _ _ _ => rfl⟩
theorem LSUo.v {o : Nat} {S U : sS} {n : Nat} (h : LSUo o S U n) : SMV S U := ⟨h.2.2.2.1 1 3 (by omega), fun j => h.2.2.2.2.1 2 j (by omega), fun j => h.2.2.2.1 3 j (by omega), fun j => h.2.2.2.1 4 j (by omega), fun j => h.2.2.2.2.1 879 j (by omega)⟩
theorem LSUo.t {o : Nat} {S U : sS} {n : Nat} (h : LSUo o S U n) : ty7 U = ty7 S := funext fun i => by
  unfold ty7
  rw [h.2.2.2.2.2.1.1, h.2.2.2.2.2.2 877 _ (by omega) (by omega)]
theorem LSUo.p {o : Nat} {S U : sS} {n : Nat} (h : LSUo o S U n) (r : Int) : pc7 U r = pc7 S r := by
  unfold pc7
  rw [h.2.2.2.2.2.1.1, h.2.2.2.2.2.1.2.1, h.2.2.2.2.2.2 878 _ (by omega) (by omega)]
theorem LSUo.c {o : Nat} {S U : sS} {n : Nat} (h : LSUo o S U n) (c : CEN S) : CEN U := fun i hi => by
  rw [h.2.2.2.1 1 3 (by omega)] at hi
  rw [h.2.2.2.1 3 i (by omega), h.2.2.2.1 4 i (by omega)]
  exact c i hi
theorem lsu_so {o : Nat} {S U V : sS} {n : Nat} {a b : Int} {l : List rec} (g : LSUo o S U n) (F : FR l U V) (ha : a = kr7 (ty7 S) (o + n)) (hb : b = re7 (ty7 S) (kr7 (ty7 S) (o + n))) (nb : NRB V) (r : Xi V 876 8 = 0 ∧ Xi V 891 9 = Xi U 891 9 + 1 ∧ Xi V 892 (Xi U 891 9).toNat = a ∧ Xi V 893 (Xi U 891 9).toNat = b ∧ ∀ j : Nat, (j : Int) < Xi U 891 9 → Xi V 892 j = Xi U 892 j ∧ Xi V 893 j = Xi U 893 j) (a1 : kdis l [(0, 876), (877, 891), (894, 904)] = true) (a2 : mdf l 876 7 = false) (a3 : mdf l 876 5 = false) : LSUo o S V (n + 1) := by
  obtain ⟨g1, g2, g3, g4, g5, g6, g7⟩ := g
  have m := F.smk a1
  refine ⟨lnw_so g1 ha hb r.2, nb, r.1, fun k j hk => ?_, fun k j hk => ?_, ⟨(F.x 876 7 a2).trans g6.1, (F.x 876 5 a3).trans g6.2.1, ?_⟩, fun k j h1 h2 => ?_⟩
  · exact (m.x k (ink_a hk) j).trans (g4 k j hk)
  · rcases hk with q | q
    · exact (m.xj k (ink_a q) j).trans (g5 k j (Or.inl q))
    · exact (m.xj k (ink_b q.1 (by omega)) j).trans (g5 k j (Or.inr q))
  · exact (m.x 890 (ink_b (by omega) (by omega)) 3).trans g6.2.2
  · exact (m.x k (ink_b h1 (by omega)) j).trans (g7 k j h1 h2)

theorem lsu_no {o : Nat} {S U : sS} {c M v : Int} (g : LSUo o S U (cR (ty7 S) v.toNat - o)) (l : LOKo o S c M (cR (ty7 S) v.toNat - o)) (hb : ¬ bg7 (ty7 U) v) (hv : 0 ≤ v) : LSUo o S U (cR (ty7 S) (v + 1).toNat - o) ∧ LOKo o S c M (cR (ty7 S) (v + 1).toNat - o) := by
  rw [g.t] at hb
  rw [cR_n hv hb]
  exact ⟨g, l⟩
theorem lsu_to {o : Nat} {S U V : sS} {c M v b z : Int} {l1 : List rec} (ho : o ≤ cR (ty7 S) v.toNat) (g : LSUo o S U (cR (ty7 S) v.toNat - o)) (l : LOKo o S c M (cR (ty7 S) v.toNat - o)) (hb : bg7 (ty7 U) v) (e : re7 (ty7 S) v = b) (hv : 0 ≤ v ∧ v ≤ 5130) (hr : Xi S 876 7 ≤ 5130) (F : FR l1 U V) (n3 : ¬ nwC U v b → z = 0 ∧ FTO U V 3 v) (n9 : nwC U v b → M ≤ c + Xi U 891 9 → z = 0 ∧ FTO U V 9 v) (ok : nwC U v b → c + Xi U 891 9 < M → z = 1 ∧ Xi V 876 8 = 0 ∧ Xi V 891 9 = Xi U 891 9 + 1 ∧ Xi V 892 (Xi U 891 9).toNat = v ∧ Xi V 893 (Xi U 891 9).toNat = b ∧ ∀ j : Nat, (j : Int) < Xi U 891 9 → Xi V 892 j = Xi U 892 j ∧ Xi V 893 j = Xi U 893 j) (nb : z = 1 → NRB V) (hz : z ≠ 0) (a1 : kdis l1 [(0, 876), (877, 891), (894, 904)] = true := by rfl) (a2 : mdf l1 876 7 = false := by rfl) (a3 : mdf l1 876 5 = false := by rfl) : LSUo o S V (cR (ty7 S) (v + 1).toNat - o) ∧ LOKo o S c M (cR (ty7 S) (v + 1).toNat - o) := by
  rw [g.t] at hb
  have k := cR_b (ty_nf hr) (by omega) hv.1 (by omega) hb
  have en : o + (cR (ty7 S) v.toNat - o) = cR (ty7 S) v.toNat := by omega
  have ea : v = kr7 (ty7 S) (o + (cR (ty7 S) v.toNat - o)) := by rw [en]; exact k.symm
  have eb : b = re7 (ty7 S) (kr7 (ty7 S) (o + (cR (ty7 S) v.toNat - o))) := by rw [en, k]; exact e.symm
  have w := nwl_ofo g.v g.1 ea eb
  rw [cR_y hv.1 hb, show cR (ty7 S) v.toNat + 1 - o = (cR (ty7 S) v.toNat - o) + 1 by omega]
  by_cases q : nwC U v b
  · by_cases m : c + Xi U 891 9 < M
    · have r := ok q m
      exact ⟨lsu_so g F ea eb (nb r.1) r.2 a1 a2 a3, lok_so l (w.1 q) (by have := g.1.1; omega)⟩
    · exact absurd (n9 q (by omega)).1 hz
  · exact absurd (n3 q).1 hz
theorem lsu_fo {o : Nat} {S U V : sS} {c M v b z : Int} {N : Nat} {X : Prop} (ho : o ≤ cR (ty7 S) v.toNat) (g : LSUo o S U (cR (ty7 S) v.toNat - o)) (l : LOKo o S c M (cR (ty7 S) v.toNat - o)) (hb : bg7 (ty7 U) v) (e : re7 (ty7 S) v = b) (hv : 0 ≤ v ∧ v ≤ 5130) (hr : Xi S 876 7 ≤ 5130) (n3 : ¬ nwC U v b → z = 0 ∧ FTO U V 3 v) (n9 : nwC U v b → M ≤ c + Xi U 891 9 → z = 0 ∧ FTO U V 9 v) (ok : nwC U v b → c + Xi U 891 9 < M → z = 1 ∧ X) (hz : z = 0) : TLSo o S V 0 c M N ∧ ((cR (ty7 S) v.toNat - o) < N → ¬ LOKo o S c M N) := by
  rw [g.t] at hb
  have k := cR_b (ty_nf hr) (by omega) hv.1 (by omega) hb
  have en : o + (cR (ty7 S) v.toNat - o) = cR (ty7 S) v.toNat := by omega
  have ea : v = kr7 (ty7 S) (o + (cR (ty7 S) v.toNat - o)) := by rw [en]; exact k.symm
  have eb : b = re7 (ty7 S) (kr7 (ty7 S) (o + (cR (ty7 S) v.toNat - o))) := by rw [en, k]; exact e.symm
  have w := nwl_ofo g.v g.1 ea eb
  refine ⟨tls_fo l w g.p ea g.1.1 n3 n9 ok hz, fun hN q => ?_⟩
  obtain ⟨q1, q2⟩ := q _ hN
  have t := (ok (w.2 q1) (by have := g.1.1; omega)).1
  omega
theorem lnw_ko {o : Nat} {S U V : sS} {n : Nat} (h : LNWo o S U n) (x : Xi V 891 9 = Xi U 891 9) (a : ∀ j, Xi V 892 j = Xi U 892 j) (b : ∀ j, Xi V 893 j = Xi U 893 j) : LNWo o S V n := ⟨x.trans h.1, fun i hi => ⟨(a i).trans (h.2 i hi).1, (b i).trans (h.2 i hi).2⟩⟩
end
