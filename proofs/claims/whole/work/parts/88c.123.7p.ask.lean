section
/-- 17: what the reference notes -/
def RHAS (S : sS) (x : Int × Int × Int) : Prop :=
  (rnR S 0 0 = -1 → NTB x 4 (pR S 0)) ∧
  (rnR S 0 0 ≠ -1 → r2R S 1 2 3 = -1 → NTB x 4 (pR S 1)) ∧
  (rnR S 0 0 ≠ -1 → r2R S 1 2 3 ≠ -1 → rmR S 2 = -1 → ¬ nwR0 S 2 → NTB x 3 (pR S 2)) ∧
  (rnR S 0 0 ≠ -1 → r2R S 1 2 3 ≠ -1 → rmR S 2 = -1 → nwR0 S 2 → 12 ≤ Xi S 904 32 → NTB x 9 (pR S 2)) ∧
  (rnR S 0 0 ≠ -1 → r2R S 1 2 3 ≠ -1 → rmR S 2 ≠ -1 → rnR S 2 7 = -1 → NTB x 4 (pR S 2)) ∧
  (rnR S 0 0 ≠ -1 → r2R S 1 2 3 ≠ -1 → (rmR S 2 = -1 → nwR0 S 2 ∧ Xi S 904 32 < 12) → (rmR S 2 ≠ -1 → rnR S 2 7 ≠ -1) → x.1 = 0)
theorem rhas_of {S : sS} {x0 x1 x2 x3 : Int × Int × Int} (h0 : x0.1 = 0) (h1 : x1 = if rnR S 0 0 = -1 then ntF x0 4 (pR S 0) else x0) (h2 : x2 = if r2R S 1 2 3 = -1 then ntF x1 4 (pR S 1) else x1) (y3 : rmR S 2 = -1 → nwR0 S 2 → x3 = if Xi S 904 32 < 12 then x2 else ntF x2 9 (pR S 2)) (n3 : rmR S 2 = -1 → ¬ nwR0 S 2 → x3 = ntF x2 3 (pR S 2)) (m3 : rmR S 2 ≠ -1 → x3 = if rnR S 2 7 = -1 then ntF x2 4 (pR S 2) else x2) (p1 : pR S 0 < pR S 1) (p2 : pR S 1 < pR S 2) : RHAS S x3 := by
  have keep : ∀ f p, NTB x2 f p → f ≠ 0 → p < pR S 2 → NTB x3 f p := fun f p h hf hp => by
    by_cases w : rmR S 2 = -1
    · by_cases n : nwR0 S 2
      · rw [y3 w n]
        split
        · exact h
        · exact ntb_k h hf hp
      · rw [n3 w n]; exact ntb_k h hf hp
    · rw [m3 w]; exact ntb_if h hf hp
  refine ⟨fun k => ?_, fun k a => ?_, fun k a b c => ?_, fun k a b c d => ?_, fun k a b c => ?_, fun k a b c => ?_⟩
  · rw [if_pos k] at h1
    exact keep _ _ (by rw [h2, h1]; exact ntb_if (ntb_1 h0) (by decide) p1) (by decide) (by omega)
  · rw [if_neg k] at h1
    rw [if_pos a] at h2
    exact keep _ _ (by rw [h2, h1]; exact ntb_1 h0) (by decide) p2
  · rw [if_neg k] at h1
    rw [if_neg a] at h2
    rw [n3 b c, h2, h1]; exact ntb_1 h0
  · rw [if_neg k] at h1
    rw [if_neg a] at h2
    rw [y3 b c, if_neg (by omega), h2, h1]; exact ntb_1 h0
  · rw [if_neg k] at h1
    rw [if_neg a] at h2
    rw [m3 b, if_pos c, h2, h1]; exact ntb_1 h0
  · rw [if_neg k] at h1
    rw [if_neg a] at h2
    by_cases w : rmR S 2 = -1
    · rw [y3 w (b w).1, if_pos (b w).2, h2, h1]; exact h0
    · rw [m3 w, if_neg (c w), h2, h1]; exact h0

def md_mo_asked__17 : List rec := [(904, 905, 64, 65), (904, 905, 104, 105), (904, 905, 105, 106), (904, 905, 106, 107), (904, 905, 108, 109), (904, 905, 109, 110), (904, 905, 110, 111), (904, 905, 112, 113), (904, 905, 113, 114), (904, 905, 115, 116), (904, 905, 116, 117), (904, 905, 117, 118), (904, 905, 125, 126), (904, 905, 128, 129), (904, 905, 129, 130), (904, 905, 130, 131), (904, 905, 142, 143), (904, 905, 144, 145), (904, 905, 146, 147), (904, 905, 147, 148), (904, 905, 150, 151), (904, 905, 151, 152), (904, 905, 153, 154), (904, 905, 154, 155), (904, 905, 156, 157), (904, 905, 157, 158), (904, 905, 158, 159), (904, 905, 160, 161), (966, 967, 0, 100000), (967, 968, 0, 100000), (968, 969, 0, 100000), (969, 970, 0, 100000), (970, 971, 0, 100000), (971, 972, 0, 100000), (972, 973, 0, 100000), (973, 974, 0, 100000), (974, 975, 0, 100000), (975, 976, 0, 100000), (976, 977, 0, 100000), (977, 978, 0, 100000), (978, 979, 0, 100000), (979, 980, 0, 100000), (980, 981, 0, 100000), (981, 982, 0, 100000), (982, 983, 0, 100000), (983, 984, 0, 100000), (984, 985, 0, 100000), (985, 986, 0, 100000), (986, 987, 0, 100000), (987, 988, 0, 100000), (988, 989, 0, 100000), (989, 990, 0, 100000), (990, 991, 0, 100000), (991, 992, 0, 100000), (992, 993, 0, 100000), (993, 994, 0, 100000), (994, 995, 0, 100000)]
abbrev Q_mo_asked__17 (S : sS) (first : Int) : pst := fun r S1 => RI S1 ∧ FR md_mo_asked__17 S S1 ∧ (r = none ∧ (RHAS S (NT3 S1)))
set_option maxRecDepth 100000 in
theorem t_mo_asked__17 {S : sS} (hH : RI S) (first : Int) (hfirst : 0 ≤ first ∧ first ≤ 5001) (hLS : LSP S) (h15 : 0 ≤ Xi S 904 15) (hRB : RBD S) (hs : Xi S 904 70 = 17) (hp : pR S 0 < pR S 1 ∧ pR S 1 < pR S 2) (ha : 0 ≤ Xi S 904 32 ∧ Xi S 904 32 ≤ 12) (d : Nat) : Mp lay0 (d + 13) m_mo_asked [.ref 904, iv first] S (Q_mo_asked__17 S first) := by
  refine Mp_R rfl rfl (fun fu => ?_)
  have hF : FR md_mo_asked__17 S S := FR.rf
  have w1 : -2147483648 ≤ Xi S 904 104 ∧ Xi S 904 104 ≤ 2147483647 := Xi_rgI
  have w2 : -2147483648 ≤ Xi S 904 105 ∧ Xi S 904 105 ≤ 2147483647 := Xi_rgI
  have w3 : -2147483648 ≤ Xi S 904 106 ∧ Xi S 904 106 ≤ 2147483647 := Xi_rgI
  have w4 : -2147483648 ≤ Xi S 904 108 ∧ Xi S 904 108 ≤ 2147483647 := Xi_rgI
  have w5 : -2147483648 ≤ Xi S 904 15 ∧ Xi S 904 15 ≤ 2147483647 := Xi_rgI
  have w6 : -2147483648 ≤ Xi S 904 32 ∧ Xi S 904 32 ≤ 2147483647 := Xi_rgI
  have w7 : -2147483648 ≤ Xi S 904 70 ∧ Xi S 904 70 ≤ 2147483647 := Xi_rgI
  refine y_aload_n rfl rfl ?_
  refine y_iconst rfl ?_
  refine y_pfi rfl rfl rfl rfl ?_
  obtain ⟨U1, eU1⟩ : ∃ T : sS, T = uI S 904 106 (Int32.ofInt 0) := ⟨_, rfl⟩
  rw [← eU1]
  have hHU1 : RI U1 := by rw [eU1]; exact RI_w hH
  have hFU1 : FR md_mo_asked__17 S U1 := by rw [eU1]; exact FR.wI hF (mdf_i (r := (904, 905, 106, 107)) (List.mem_of_getElem? (i := 3) rfl) (inR_i (by omega) (by omega) (by omega) (by omega)))
  have w8 : Xi U1 904 106 = 0 := by rw [eU1]; exact Xi_same (by unfold rg; omega)
  refine y_aload_n rfl rfl ?_
  refine y_iconst rfl ?_
  refine y_pfi rfl rfl rfl rfl ?_
  obtain ⟨U2, eU2⟩ : ∃ T : sS, T = uI U1 904 108 (Int32.ofInt 0) := ⟨_, rfl⟩
  rw [← eU2]
  have hHU2 : RI U2 := by rw [eU2]; exact RI_w hHU1
  have hFU2 : FR md_mo_asked__17 S U2 := by rw [eU2]; exact FR.wI hFU1 (mdf_i (r := (904, 905, 108, 109)) (List.mem_of_getElem? (i := 4) rfl) (inR_i (by omega) (by omega) (by omega) (by omega)))
  have w9 : Xi U2 904 108 = 0 := by rw [eU2]; exact Xi_same (by unfold rg; omega)
  refine y_aload_n rfl rfl ?_
  refine y_iconst rfl ?_
  refine y_pfi rfl rfl rfl rfl ?_
  obtain ⟨U3, eU3⟩ : ∃ T : sS, T = uI U2 904 115 (Int32.ofInt (-1)) := ⟨_, rfl⟩
  rw [← eU3]
  have hHU3 : RI U3 := by rw [eU3]; exact RI_w hHU2
  have hFU3 : FR md_mo_asked__17 S U3 := by rw [eU3]; exact FR.wI hFU2 (mdf_i (r := (904, 905, 115, 116)) (List.mem_of_getElem? (i := 9) rfl) (inR_i (by omega) (by omega) (by omega) (by omega)))
  have w10 : Xi U3 904 115 = (-1) := by rw [eU3]; exact Xi_same (by unfold rg; omega)
  refine y_aload_n rfl rfl ?_
  refine y_iconst rfl ?_
  refine y_pfi rfl rfl rfl rfl ?_
  obtain ⟨U4, eU4⟩ : ∃ T : sS, T = uI U3 904 116 (Int32.ofInt (-1)) := ⟨_, rfl⟩
  rw [← eU4]
  have hHU4 : RI U4 := by rw [eU4]; exact RI_w hHU3
  have hFU4 : FR md_mo_asked__17 S U4 := by rw [eU4]; exact FR.wI hFU3 (mdf_i (r := (904, 905, 116, 117)) (List.mem_of_getElem? (i := 10) rfl) (inR_i (by omega) (by omega) (by omega) (by omega)))
  have w11 : Xi U4 904 116 = (-1) := by rw [eU4]; exact Xi_same (by unfold rg; omega)
  refine y_aload_n rfl rfl ?_
  refine y_gfi rfl rfl rfl rfl rfl ?_
  have w12 : (Xi U4 904 70) = (Xi S 904 70) := (show Xi U4 904 70 = Xi U3 904 70 from by rw [eU4]; exact Xi_ne (by omega)).trans ( (show Xi U3 904 70 = Xi U2 904 70 from by rw [eU3]; exact Xi_ne (by omega)).trans ( (show Xi U2 904 70 = Xi U1 904 70 from by rw [eU2]; exact Xi_ne (by omega)).trans ((show Xi U1 904 70 = Xi S 904 70 from by rw [eU1]; exact Xi_ne (by omega)))))
  rw [w12]
  refine y_tsw rfl rfl rfl rfl (by unfold rg; omega) (fun w13 => ?_) (fun ii tt hii w13 => ?_)
  · exfalso; omega
  · match ii, hii with
    | 0, hii =>
      cases hii
      have w14 : (Xi S 904 70) = 0 := by simpa using w13
      exfalso; omega
    | 1, hii =>
      cases hii
      have w15 : (Xi S 904 70) = 1 := by simpa using w13
      exfalso; omega
    | 2, hii =>
      cases hii
      have w16 : (Xi S 904 70) = 2 := by simpa using w13
      exfalso; omega
    | 3, hii =>
      cases hii
      have w17 : (Xi S 904 70) = 3 := by simpa using w13
      exfalso; omega
    | 4, hii =>
      cases hii
      have w18 : (Xi S 904 70) = 4 := by simpa using w13
      exfalso; omega
    | 5, hii =>
      cases hii
      have w19 : (Xi S 904 70) = 5 := by simpa using w13
      exfalso; omega
    | 6, hii =>
      cases hii
      have w20 : (Xi S 904 70) = 6 := by simpa using w13
      exfalso; omega
    | 7, hii =>
      cases hii
      have w21 : (Xi S 904 70) = 7 := by simpa using w13
      exfalso; omega
    | 8, hii =>
      cases hii
      have w22 : (Xi S 904 70) = 8 := by simpa using w13
      exfalso; omega
    | 9, hii =>
      cases hii
      have w23 : (Xi S 904 70) = 9 := by simpa using w13
      exfalso; omega
    | 10, hii =>
      cases hii
      have w24 : (Xi S 904 70) = 10 := by simpa using w13
      exfalso; omega
    | 11, hii =>
      cases hii
      have w25 : (Xi S 904 70) = 11 := by simpa using w13
      exfalso; omega
    | 12, hii =>
      cases hii
      have w26 : (Xi S 904 70) = 12 := by simpa using w13
      exfalso; omega
    | 13, hii =>
      cases hii
      have w27 : (Xi S 904 70) = 13 := by simpa using w13
      exfalso; omega
    | 14, hii =>
      cases hii
      have w28 : (Xi S 904 70) = 14 := by simpa using w13
      exfalso; omega
    | 15, hii =>
      cases hii
      have w29 : (Xi S 904 70) = 15 := by simpa using w13
      exfalso; omega
    | 16, hii =>
      cases hii
      have w30 : (Xi S 904 70) = 16 := by simpa using w13
      exfalso; omega
    | 17, hii =>
      cases hii
      have w31 : (Xi S 904 70) = 17 := by simpa using w13
      refine y_aload_n rfl rfl ?_
      refine y_iconst rfl ?_
      have w32 : Xi U4 904 104 = Xi S 904 104 := (show Xi U4 904 104 = Xi U3 904 104 from by rw [eU4]; exact Xi_ne (by omega)).trans ( (show Xi U3 904 104 = Xi U2 904 104 from by rw [eU3]; exact Xi_ne (by omega)).trans ( (show Xi U2 904 104 = Xi U1 904 104 from by rw [eU2]; exact Xi_ne (by omega)).trans ((show Xi U1 904 104 = Xi S 904 104 from by rw [eU1]; exact Xi_ne (by omega)))))
      have w33 : Xi U4 904 105 = Xi S 904 105 := (show Xi U4 904 105 = Xi U3 904 105 from by rw [eU4]; exact Xi_ne (by omega)).trans ( (show Xi U3 904 105 = Xi U2 904 105 from by rw [eU3]; exact Xi_ne (by omega)).trans ( (show Xi U2 904 105 = Xi U1 904 105 from by rw [eU2]; exact Xi_ne (by omega)).trans ((show Xi U1 904 105 = Xi S 904 105 from by rw [eU1]; exact Xi_ne (by omega)))))
      have w34 : Xi U4 904 106 = Xi U1 904 106 := (show Xi U4 904 106 = Xi U3 904 106 from by rw [eU4]; exact Xi_ne (by omega)).trans ( (show Xi U3 904 106 = Xi U2 904 106 from by rw [eU3]; exact Xi_ne (by omega)).trans ((show Xi U2 904 106 = Xi U1 904 106 from by rw [eU2]; exact Xi_ne (by omega))))
      have w35 : Xi U4 904 108 = Xi U2 904 108 := (show Xi U4 904 108 = Xi U3 904 108 from by rw [eU4]; exact Xi_ne (by omega)).trans ((show Xi U3 904 108 = Xi U2 904 108 from by rw [eU3]; exact Xi_ne (by omega)))
      have w36 : Xi U4 904 15 = Xi S 904 15 := (show Xi U4 904 15 = Xi U3 904 15 from by rw [eU4]; exact Xi_ne (by omega)).trans ( (show Xi U3 904 15 = Xi U2 904 15 from by rw [eU3]; exact Xi_ne (by omega)).trans ( (show Xi U2 904 15 = Xi U1 904 15 from by rw [eU2]; exact Xi_ne (by omega)).trans ((show Xi U1 904 15 = Xi S 904 15 from by rw [eU1]; exact Xi_ne (by omega)))))
      have w37 : Xi U4 904 32 = Xi S 904 32 := (show Xi U4 904 32 = Xi U3 904 32 from by rw [eU4]; exact Xi_ne (by omega)).trans ( (show Xi U3 904 32 = Xi U2 904 32 from by rw [eU3]; exact Xi_ne (by omega)).trans ( (show Xi U2 904 32 = Xi U1 904 32 from by rw [eU2]; exact Xi_ne (by omega)).trans ((show Xi U1 904 32 = Xi S 904 32 from by rw [eU1]; exact Xi_ne (by omega)))))
      have w38 : Xi U4 904 70 = Xi S 904 70 := (show Xi U4 904 70 = Xi U3 904 70 from by rw [eU4]; exact Xi_ne (by omega)).trans ( (show Xi U3 904 70 = Xi U2 904 70 from by rw [eU3]; exact Xi_ne (by omega)).trans ( (show Xi U2 904 70 = Xi U1 904 70 from by rw [eU2]; exact Xi_ne (by omega)).trans ((show Xi U1 904 70 = Xi S 904 70 from by rw [eU1]; exact Xi_ne (by omega)))))
      refine y_callV rfl rfl rfl (t_mo_kindOfRun__p hHU4 0 ⟨by omega, by omega⟩ (by first | assumption | exact (LSP_FR hFU4 rfl rfl (by assumption : LSP S))) (by first | assumption | omega) (by first | assumption | exact (RBD_FR hFU4 rfl (by assumption : RBD S))) _) ?_
      rintro _ T5 ⟨hHT5, w41, z40, rfl, w40, w39, nt329_⟩
      have hFT5 : FR md_mo_asked__17 S T5 := FR.tr hFU4 w41 rfl
      show Pl _ _ _ _ _ _ [iv z40] _ _
      have z329 : (NT3 U4).1 = 0 := by show Xi U4 904 106 = 0; omega
      have n329 : Hid (NT3 T5 = if rnR S 0 0 = -1 then ntF (NT3 U4) 4 (pR S 0) else NT3 U4) := by have t := nt329_; rw [rnR_FR hFU4 rfl rfl, (hFU4.cx 908 rfl _).1, (hFU4.cx 950 rfl _).1] at t; exact t
      clear nt329_
      refine y_pop rfl rfl ?_
      refine y_aload_n rfl rfl ?_
      refine y_aload_n rfl rfl ?_
      refine y_iconst rfl ?_
      have w42 : Xi T5 904 108 = Xi U2 904 108 := (show Xi T5 904 108 = Xi U4 904 108 from w41.x _ _ rfl).trans ( (show Xi U4 904 108 = Xi U3 904 108 from by rw [eU4]; exact Xi_ne (by omega)).trans ((show Xi U3 904 108 = Xi U2 904 108 from by rw [eU3]; exact Xi_ne (by omega))))
      have w43 : Xi T5 904 15 = Xi S 904 15 := (show Xi T5 904 15 = Xi U4 904 15 from w41.x _ _ rfl).trans ( (show Xi U4 904 15 = Xi U3 904 15 from by rw [eU4]; exact Xi_ne (by omega)).trans ( (show Xi U3 904 15 = Xi U2 904 15 from by rw [eU3]; exact Xi_ne (by omega)).trans ( (show Xi U2 904 15 = Xi U1 904 15 from by rw [eU2]; exact Xi_ne (by omega)).trans ((show Xi U1 904 15 = Xi S 904 15 from by rw [eU1]; exact Xi_ne (by omega))))))
      have w44 : Xi T5 904 32 = Xi S 904 32 := (show Xi T5 904 32 = Xi U4 904 32 from w41.x _ _ rfl).trans ( (show Xi U4 904 32 = Xi U3 904 32 from by rw [eU4]; exact Xi_ne (by omega)).trans ( (show Xi U3 904 32 = Xi U2 904 32 from by rw [eU3]; exact Xi_ne (by omega)).trans ( (show Xi U2 904 32 = Xi U1 904 32 from by rw [eU2]; exact Xi_ne (by omega)).trans ((show Xi U1 904 32 = Xi S 904 32 from by rw [eU1]; exact Xi_ne (by omega))))))
      have w45 : Xi T5 904 70 = Xi S 904 70 := (show Xi T5 904 70 = Xi U4 904 70 from w41.x _ _ rfl).trans ( (show Xi U4 904 70 = Xi U3 904 70 from by rw [eU4]; exact Xi_ne (by omega)).trans ( (show Xi U3 904 70 = Xi U2 904 70 from by rw [eU3]; exact Xi_ne (by omega)).trans ( (show Xi U2 904 70 = Xi U1 904 70 from by rw [eU2]; exact Xi_ne (by omega)).trans ((show Xi U1 904 70 = Xi S 904 70 from by rw [eU1]; exact Xi_ne (by omega))))))
      refine y_callV rfl rfl rfl (t_mo_typeOrPlural__p hHT5 1 ⟨by omega, by omega⟩ (by first | assumption | exact (LSP_FR hFT5 rfl rfl (by assumption : LSP S))) (by first | assumption | omega) (by first | assumption | exact (RBD_FR hFT5 rfl (by assumption : RBD S))) _) ?_
      rintro _ _ ⟨rfl, z46, rfl, w46, f336⟩
      show Pl _ _ _ _ _ _ [iv z46, .ref 904] _ _
      have K336 : z46 = r2R S 1 2 3 := by have t := f336; rw [r2R_FR hFT5 rfl rfl] at t; exact t
      clear f336
      refine y_iconst rfl ?_
      refine y_icmp_eq rfl rfl (by unfold rg; omega) (by unfold rg; omega) (fun w47 => ?_) (fun w48 => ?_)
      · refine y_iconst rfl ?_
        refine y_iconst rfl ?_
        refine y_aload_n rfl rfl ?_
        refine y_gfr rfl rfl rfl rfl rfl (hHT5.r 904 67 950 rfl) ?_
        refine y_iconst rfl ?_
        refine y_ialoadP (n := 2600) rfl rfl (by unfold rg; omega) (fun w49 w50 => ?_)
        have w51 : -2147483648 ≤ (Xi T5 950 ((1 : Int).toNat)) ∧ (Xi T5 950 ((1 : Int).toNat)) ≤ 2147483647 := Xi_rgI
        have w52 : (Xi T5 950 ((1 : Int).toNat)) = Xi T5 950 1 := rfl
        refine y_callV rfl rfl rfl (t_mo_need__p hHT5 0 4 (Xi T5 950 ((1 : Int).toNat)) ⟨by omega, by omega⟩ ⟨by omega, by omega⟩ ⟨by omega, by omega⟩ _) ?_
        rintro _ T6 ⟨hHT6, w58, rfl, nt355_⟩
        have hFT6 : FR md_mo_asked__17 S T6 := FR.tr hFT5 w58 rfl
        show Pl _ _ _ _ _ _ [] _ _
        have n355 : Hid (NT3 T6 = if r2R S 1 2 3 = -1 then ntF (NT3 T5) 4 (pR S 1) else NT3 T5) := by have t := nt355_; rw [(hFT5.cx 908 rfl _).1, (hFT5.cx 950 rfl _).1] at t; first | (rw [if_pos (show (0 : Int) = 0 from rfl)] at t; rw [if_pos (by omega)]; exact t) | (rw [if_neg (show ¬ (1 : Int) = 0 by decide)] at t; rw [if_neg (by omega)]; exact t)
        clear nt355_
        refine y_aload_n rfl rfl ?_
        refine y_iconst rfl ?_
        have w59 : Xi T6 904 108 = Xi U2 904 108 := (show Xi T6 904 108 = Xi T5 904 108 from w58.x _ _ rfl).trans ( (show Xi T5 904 108 = Xi U4 904 108 from w41.x _ _ rfl).trans ( (show Xi U4 904 108 = Xi U3 904 108 from by rw [eU4]; exact Xi_ne (by omega)).trans ((show Xi U3 904 108 = Xi U2 904 108 from by rw [eU3]; exact Xi_ne (by omega)))))
        have w60 : Xi T6 904 15 = Xi S 904 15 := (show Xi T6 904 15 = Xi T5 904 15 from w58.x _ _ rfl).trans ( (show Xi T5 904 15 = Xi U4 904 15 from w41.x _ _ rfl).trans ( (show Xi U4 904 15 = Xi U3 904 15 from by rw [eU4]; exact Xi_ne (by omega)).trans ( (show Xi U3 904 15 = Xi U2 904 15 from by rw [eU3]; exact Xi_ne (by omega)).trans ( (show Xi U2 904 15 = Xi U1 904 15 from by rw [eU2]; exact Xi_ne (by omega)).trans ((show Xi U1 904 15 = Xi S 904 15 from by rw [eU1]; exact Xi_ne (by omega)))))))
        have w61 : Xi T6 904 32 = Xi S 904 32 := (show Xi T6 904 32 = Xi T5 904 32 from w58.x _ _ rfl).trans ( (show Xi T5 904 32 = Xi U4 904 32 from w41.x _ _ rfl).trans ( (show Xi U4 904 32 = Xi U3 904 32 from by rw [eU4]; exact Xi_ne (by omega)).trans ( (show Xi U3 904 32 = Xi U2 904 32 from by rw [eU3]; exact Xi_ne (by omega)).trans ( (show Xi U2 904 32 = Xi U1 904 32 from by rw [eU2]; exact Xi_ne (by omega)).trans ((show Xi U1 904 32 = Xi S 904 32 from by rw [eU1]; exact Xi_ne (by omega)))))))
        have w62 : Xi T6 904 70 = Xi S 904 70 := (show Xi T6 904 70 = Xi T5 904 70 from w58.x _ _ rfl).trans ( (show Xi T5 904 70 = Xi U4 904 70 from w41.x _ _ rfl).trans ( (show Xi U4 904 70 = Xi U3 904 70 from by rw [eU4]; exact Xi_ne (by omega)).trans ( (show Xi U3 904 70 = Xi U2 904 70 from by rw [eU3]; exact Xi_ne (by omega)).trans ( (show Xi U2 904 70 = Xi U1 904 70 from by rw [eU2]; exact Xi_ne (by omega)).trans ((show Xi U1 904 70 = Xi S 904 70 from by rw [eU1]; exact Xi_ne (by omega)))))))
        refine y_callV rfl rfl rfl (t_mo_meansNothing__p hHT6 2 ⟨by omega, by omega⟩ (by first | assumption | exact (LSP_FR hFT6 rfl rfl (by assumption : LSP S))) (by first | assumption | omega) (by first | assumption | exact (RBD_FR hFT6 rfl (by assumption : RBD S))) _) ?_
        rintro _ _ ⟨rfl, z63, rfl, w63, f360⟩
        show Pl _ _ _ _ _ _ [iv z63] _ _
        have M360 : Hid ((z63 = 1 → rmR S 2 = -1) ∧ (z63 = 0 → rmR S 2 ≠ -1)) := by have t := f360; rw [rmR_FR hFT6 rfl rfl] at t; exact t
        clear f360
        refine y_if_eq rfl rfl (by unfold rg; omega) (fun w64 => ?_) (fun w65 => ?_)
        · refine y_aload_n rfl rfl ?_
          refine y_aload_n rfl rfl ?_
          refine y_iconst rfl ?_
          refine y_bipush rfl rfl ?_
          refine y_callV rfl rfl rfl (t_mo_meansRun__p hHT6 2 7 ⟨by omega, by omega⟩ ⟨by omega, by omega⟩ (by first | assumption | exact (LSP_FR hFT6 rfl rfl (by assumption : LSP S))) (by first | assumption | omega) (by first | assumption | exact (RBD_FR hFT6 rfl (by assumption : RBD S))) _) ?_
          rintro _ _ ⟨rfl, z70, rfl, w70, f385⟩
          show Pl _ _ _ _ _ _ [iv z70, .ref 904] _ _
          have K385 : z70 = rnR S 2 7 := by have t := f385; rw [rnR_FR hFT6 rfl rfl] at t; exact t
          clear f385
          refine y_iconst rfl ?_
          refine y_icmp_eq rfl rfl (by unfold rg; omega) (by unfold rg; omega) (fun w71 => ?_) (fun w72 => ?_)
          · refine y_iconst rfl ?_
            refine y_iconst rfl ?_
            refine y_aload_n rfl rfl ?_
            refine y_gfr rfl rfl rfl rfl rfl (hHT6.r 904 67 950 rfl) ?_
            refine y_iconst rfl ?_
            refine y_ialoadP (n := 2600) rfl rfl (by unfold rg; omega) (fun w73 w74 => ?_)
            have w75 : -2147483648 ≤ (Xi T6 950 ((2 : Int).toNat)) ∧ (Xi T6 950 ((2 : Int).toNat)) ≤ 2147483647 := Xi_rgI
            have w76 : (Xi T6 950 ((2 : Int).toNat)) = Xi T6 950 2 := rfl
            refine y_callV rfl rfl rfl (t_mo_need__p hHT6 0 4 (Xi T6 950 ((2 : Int).toNat)) ⟨by omega, by omega⟩ ⟨by omega, by omega⟩ ⟨by omega, by omega⟩ _) ?_
            rintro _ T7 ⟨hHT7, w82, rfl, nt404_⟩
            have hFT7 : FR md_mo_asked__17 S T7 := FR.tr hFT6 w82 rfl
            show Pl _ _ _ _ _ _ [] _ _
            have n404 : Hid (NT3 T7 = if rnR S 2 7 = -1 then ntF (NT3 T6) 4 (pR S 2) else NT3 T6) := by have t := nt404_; rw [(hFT6.cx 908 rfl _).1, (hFT6.cx 950 rfl _).1] at t; first | (rw [if_pos (show (0 : Int) = 0 from rfl)] at t; rw [if_pos (by omega)]; exact t) | (rw [if_neg (show ¬ (1 : Int) = 0 by decide)] at t; rw [if_neg (by omega)]; exact t)
            clear nt404_
            refine y_goto rfl rfl ?_
            refine y_return rfl rfl ?_
            have w83 : Xi T7 904 108 = Xi U2 904 108 := (show Xi T7 904 108 = Xi T6 904 108 from w82.x _ _ rfl).trans ( (show Xi T6 904 108 = Xi T5 904 108 from w58.x _ _ rfl).trans ( (show Xi T5 904 108 = Xi U4 904 108 from w41.x _ _ rfl).trans ( (show Xi U4 904 108 = Xi U3 904 108 from by rw [eU4]; exact Xi_ne (by omega)).trans ((show Xi U3 904 108 = Xi U2 904 108 from by rw [eU3]; exact Xi_ne (by omega))))))
            have w84 : Xi T7 904 15 = Xi S 904 15 := (show Xi T7 904 15 = Xi T6 904 15 from w82.x _ _ rfl).trans ( (show Xi T6 904 15 = Xi T5 904 15 from w58.x _ _ rfl).trans ( (show Xi T5 904 15 = Xi U4 904 15 from w41.x _ _ rfl).trans ( (show Xi U4 904 15 = Xi U3 904 15 from by rw [eU4]; exact Xi_ne (by omega)).trans ( (show Xi U3 904 15 = Xi U2 904 15 from by rw [eU3]; exact Xi_ne (by omega)).trans ( (show Xi U2 904 15 = Xi U1 904 15 from by rw [eU2]; exact Xi_ne (by omega)).trans ((show Xi U1 904 15 = Xi S 904 15 from by rw [eU1]; exact Xi_ne (by omega))))))))
            have w85 : Xi T7 904 32 = Xi S 904 32 := (show Xi T7 904 32 = Xi T6 904 32 from w82.x _ _ rfl).trans ( (show Xi T6 904 32 = Xi T5 904 32 from w58.x _ _ rfl).trans ( (show Xi T5 904 32 = Xi U4 904 32 from w41.x _ _ rfl).trans ( (show Xi U4 904 32 = Xi U3 904 32 from by rw [eU4]; exact Xi_ne (by omega)).trans ( (show Xi U3 904 32 = Xi U2 904 32 from by rw [eU3]; exact Xi_ne (by omega)).trans ( (show Xi U2 904 32 = Xi U1 904 32 from by rw [eU2]; exact Xi_ne (by omega)).trans ((show Xi U1 904 32 = Xi S 904 32 from by rw [eU1]; exact Xi_ne (by omega))))))))
            have w86 : Xi T7 904 70 = Xi S 904 70 := (show Xi T7 904 70 = Xi T6 904 70 from w82.x _ _ rfl).trans ( (show Xi T6 904 70 = Xi T5 904 70 from w58.x _ _ rfl).trans ( (show Xi T5 904 70 = Xi U4 904 70 from w41.x _ _ rfl).trans ( (show Xi U4 904 70 = Xi U3 904 70 from by rw [eU4]; exact Xi_ne (by omega)).trans ( (show Xi U3 904 70 = Xi U2 904 70 from by rw [eU3]; exact Xi_ne (by omega)).trans ( (show Xi U2 904 70 = Xi U1 904 70 from by rw [eU2]; exact Xi_ne (by omega)).trans ((show Xi U1 904 70 = Xi S 904 70 from by rw [eU1]; exact Xi_ne (by omega))))))))
            exact ⟨hHT7, hFT7, rfl, (by first | (have t := K374; exact rhas_of z329 n329.o n355.o (fun _ => y374.o) (fun _ => m374.o) (fun q => absurd (M360.o.1 (by omega)) q) hp.1 hp.2) | exact rhas_of z329 n329.o n355.o (fun q => absurd q (M360.o.2 (by omega))) (fun q => absurd q (M360.o.2 (by omega))) (fun _ => n404.o) hp.1 hp.2)⟩
          · refine y_iconst rfl ?_
            refine y_goto rfl rfl ?_
            refine y_iconst rfl ?_
            refine y_aload_n rfl rfl ?_
            refine y_gfr rfl rfl rfl rfl rfl (hHT6.r 904 67 950 rfl) ?_
            refine y_iconst rfl ?_
            refine y_ialoadP (n := 2600) rfl rfl (by unfold rg; omega) (fun w87 w88 => ?_)
            have w89 : -2147483648 ≤ (Xi T6 950 ((2 : Int).toNat)) ∧ (Xi T6 950 ((2 : Int).toNat)) ≤ 2147483647 := Xi_rgI
            have w90 : (Xi T6 950 ((2 : Int).toNat)) = Xi T6 950 2 := rfl
            refine y_callV rfl rfl rfl (t_mo_need__p hHT6 1 4 (Xi T6 950 ((2 : Int).toNat)) ⟨by omega, by omega⟩ ⟨by omega, by omega⟩ ⟨by omega, by omega⟩ _) ?_
            rintro _ T8 ⟨hHT8, w96, rfl, nt404_⟩
            have hFT8 : FR md_mo_asked__17 S T8 := FR.tr hFT6 w96 rfl
            show Pl _ _ _ _ _ _ [] _ _
            have n404 : Hid (NT3 T8 = if rnR S 2 7 = -1 then ntF (NT3 T6) 4 (pR S 2) else NT3 T6) := by have t := nt404_; rw [(hFT6.cx 908 rfl _).1, (hFT6.cx 950 rfl _).1] at t; first | (rw [if_pos (show (0 : Int) = 0 from rfl)] at t; rw [if_pos (by omega)]; exact t) | (rw [if_neg (show ¬ (1 : Int) = 0 by decide)] at t; rw [if_neg (by omega)]; exact t)
            clear nt404_
            refine y_goto rfl rfl ?_
            refine y_return rfl rfl ?_
            have w97 : Xi T8 904 108 = Xi U2 904 108 := (show Xi T8 904 108 = Xi T6 904 108 from w96.x _ _ rfl).trans ( (show Xi T6 904 108 = Xi T5 904 108 from w58.x _ _ rfl).trans ( (show Xi T5 904 108 = Xi U4 904 108 from w41.x _ _ rfl).trans ( (show Xi U4 904 108 = Xi U3 904 108 from by rw [eU4]; exact Xi_ne (by omega)).trans ((show Xi U3 904 108 = Xi U2 904 108 from by rw [eU3]; exact Xi_ne (by omega))))))
            have w98 : Xi T8 904 15 = Xi S 904 15 := (show Xi T8 904 15 = Xi T6 904 15 from w96.x _ _ rfl).trans ( (show Xi T6 904 15 = Xi T5 904 15 from w58.x _ _ rfl).trans ( (show Xi T5 904 15 = Xi U4 904 15 from w41.x _ _ rfl).trans ( (show Xi U4 904 15 = Xi U3 904 15 from by rw [eU4]; exact Xi_ne (by omega)).trans ( (show Xi U3 904 15 = Xi U2 904 15 from by rw [eU3]; exact Xi_ne (by omega)).trans ( (show Xi U2 904 15 = Xi U1 904 15 from by rw [eU2]; exact Xi_ne (by omega)).trans ((show Xi U1 904 15 = Xi S 904 15 from by rw [eU1]; exact Xi_ne (by omega))))))))
            have w99 : Xi T8 904 32 = Xi S 904 32 := (show Xi T8 904 32 = Xi T6 904 32 from w96.x _ _ rfl).trans ( (show Xi T6 904 32 = Xi T5 904 32 from w58.x _ _ rfl).trans ( (show Xi T5 904 32 = Xi U4 904 32 from w41.x _ _ rfl).trans ( (show Xi U4 904 32 = Xi U3 904 32 from by rw [eU4]; exact Xi_ne (by omega)).trans ( (show Xi U3 904 32 = Xi U2 904 32 from by rw [eU3]; exact Xi_ne (by omega)).trans ( (show Xi U2 904 32 = Xi U1 904 32 from by rw [eU2]; exact Xi_ne (by omega)).trans ((show Xi U1 904 32 = Xi S 904 32 from by rw [eU1]; exact Xi_ne (by omega))))))))
            have w100 : Xi T8 904 70 = Xi S 904 70 := (show Xi T8 904 70 = Xi T6 904 70 from w96.x _ _ rfl).trans ( (show Xi T6 904 70 = Xi T5 904 70 from w58.x _ _ rfl).trans ( (show Xi T5 904 70 = Xi U4 904 70 from w41.x _ _ rfl).trans ( (show Xi U4 904 70 = Xi U3 904 70 from by rw [eU4]; exact Xi_ne (by omega)).trans ( (show Xi U3 904 70 = Xi U2 904 70 from by rw [eU3]; exact Xi_ne (by omega)).trans ( (show Xi U2 904 70 = Xi U1 904 70 from by rw [eU2]; exact Xi_ne (by omega)).trans ((show Xi U1 904 70 = Xi S 904 70 from by rw [eU1]; exact Xi_ne (by omega))))))))
            exact ⟨hHT8, hFT8, rfl, (by first | (have t := K374; exact rhas_of z329 n329.o n355.o (fun _ => y374.o) (fun _ => m374.o) (fun q => absurd (M360.o.1 (by omega)) q) hp.1 hp.2) | exact rhas_of z329 n329.o n355.o (fun q => absurd q (M360.o.2 (by omega))) (fun q => absurd q (M360.o.2 (by omega))) (fun _ => n404.o) hp.1 hp.2)⟩
        · refine y_aload_n rfl rfl ?_
          refine y_iconst rfl ?_
          refine y_aload_n rfl rfl ?_
          refine y_gfi rfl rfl rfl rfl rfl ?_
          have w101 : (Xi T6 904 32) = (Xi S 904 32) := (show Xi T6 904 32 = Xi T5 904 32 from w58.x _ _ rfl).trans ( (show Xi T5 904 32 = Xi U4 904 32 from w41.x _ _ rfl).trans ( (show Xi U4 904 32 = Xi U3 904 32 from by rw [eU4]; exact Xi_ne (by omega)).trans ( (show Xi U3 904 32 = Xi U2 904 32 from by rw [eU3]; exact Xi_ne (by omega)).trans ( (show Xi U2 904 32 = Xi U1 904 32 from by rw [eU2]; exact Xi_ne (by omega)).trans ((show Xi U1 904 32 = Xi S 904 32 from by rw [eU1]; exact Xi_ne (by omega)))))))
          rw [w101]
          refine y_bipush rfl rfl ?_
          refine y_callV rfl rfl rfl (t_mo_mustBeNew__p hHT6 2 (Xi S 904 32) 12 ⟨by omega, by omega⟩ ⟨by omega, by omega⟩ ⟨by omega, by omega⟩ (by first | assumption | exact (LSP_FR hFT6 rfl rfl (by assumption : LSP S))) (by first | assumption | omega) (by first | assumption | exact (RBD_FR hFT6 rfl (by assumption : RBD S))) (by first | assumption | omega) _) ?_
          rintro _ T9 ⟨hHT9, w107, rfl, y374_, m374_⟩
          have hFT9 : FR md_mo_asked__17 S T9 := FR.tr hFT6 w107 rfl
          show Pl _ _ _ _ _ _ [] _ _
          have K374 : True := trivial
          have q374 : Hid (nwR T6 2 ↔ nwR0 S 2) := nwR_0 (fun j => (hFT6.cx 951 rfl j).1) (rmR_FR hFT6 rfl rfl) (by omega)
          have y374 : Hid (nwR0 S 2 → NT3 T9 = (if Xi S 904 32 < 12 then NT3 T6 else ntF (NT3 T6) 9 (pR S 2))) := fun q => by have t := (y374_ (q374.o.2 q)).1; rw [(hFT6.cx 908 rfl _).1, (hFT6.cx 950 rfl _).1] at t; exact t
          have m374 : Hid (¬ nwR0 S 2 → NT3 T9 = ntF (NT3 T6) 3 (pR S 2)) := fun q => by have t := (m374_ (fun w => q (q374.o.1 w))).1; rw [(hFT6.cx 908 rfl _).1, (hFT6.cx 950 rfl _).1] at t; exact t
          clear y374_ m374_
          refine y_goto rfl rfl ?_
          refine y_return rfl rfl ?_
          have w108 : Xi T9 904 15 = Xi S 904 15 := (show Xi T9 904 15 = Xi T6 904 15 from w107.x _ _ rfl).trans ( (show Xi T6 904 15 = Xi T5 904 15 from w58.x _ _ rfl).trans ( (show Xi T5 904 15 = Xi U4 904 15 from w41.x _ _ rfl).trans ( (show Xi U4 904 15 = Xi U3 904 15 from by rw [eU4]; exact Xi_ne (by omega)).trans ( (show Xi U3 904 15 = Xi U2 904 15 from by rw [eU3]; exact Xi_ne (by omega)).trans ( (show Xi U2 904 15 = Xi U1 904 15 from by rw [eU2]; exact Xi_ne (by omega)).trans ((show Xi U1 904 15 = Xi S 904 15 from by rw [eU1]; exact Xi_ne (by omega))))))))
          have w109 : Xi T9 904 32 = Xi S 904 32 := (show Xi T9 904 32 = Xi T6 904 32 from w107.x _ _ rfl).trans ( (show Xi T6 904 32 = Xi T5 904 32 from w58.x _ _ rfl).trans ( (show Xi T5 904 32 = Xi U4 904 32 from w41.x _ _ rfl).trans ( (show Xi U4 904 32 = Xi U3 904 32 from by rw [eU4]; exact Xi_ne (by omega)).trans ( (show Xi U3 904 32 = Xi U2 904 32 from by rw [eU3]; exact Xi_ne (by omega)).trans ( (show Xi U2 904 32 = Xi U1 904 32 from by rw [eU2]; exact Xi_ne (by omega)).trans ((show Xi U1 904 32 = Xi S 904 32 from by rw [eU1]; exact Xi_ne (by omega))))))))
          have w110 : Xi T9 904 70 = Xi S 904 70 := (show Xi T9 904 70 = Xi T6 904 70 from w107.x _ _ rfl).trans ( (show Xi T6 904 70 = Xi T5 904 70 from w58.x _ _ rfl).trans ( (show Xi T5 904 70 = Xi U4 904 70 from w41.x _ _ rfl).trans ( (show Xi U4 904 70 = Xi U3 904 70 from by rw [eU4]; exact Xi_ne (by omega)).trans ( (show Xi U3 904 70 = Xi U2 904 70 from by rw [eU3]; exact Xi_ne (by omega)).trans ( (show Xi U2 904 70 = Xi U1 904 70 from by rw [eU2]; exact Xi_ne (by omega)).trans ((show Xi U1 904 70 = Xi S 904 70 from by rw [eU1]; exact Xi_ne (by omega))))))))
          exact ⟨hHT9, hFT9, rfl, (by first | (have t := K374; exact rhas_of z329 n329.o n355.o (fun _ => y374.o) (fun _ => m374.o) (fun q => absurd (M360.o.1 (by omega)) q) hp.1 hp.2) | exact rhas_of z329 n329.o n355.o (fun q => absurd q (M360.o.2 (by omega))) (fun q => absurd q (M360.o.2 (by omega))) (fun _ => n404.o) hp.1 hp.2)⟩
      · refine y_iconst rfl ?_
        refine y_goto rfl rfl ?_
        refine y_iconst rfl ?_
        refine y_aload_n rfl rfl ?_
        refine y_gfr rfl rfl rfl rfl rfl (hHT5.r 904 67 950 rfl) ?_
        refine y_iconst rfl ?_
        refine y_ialoadP (n := 2600) rfl rfl (by unfold rg; omega) (fun w111 w112 => ?_)
        have w113 : -2147483648 ≤ (Xi T5 950 ((1 : Int).toNat)) ∧ (Xi T5 950 ((1 : Int).toNat)) ≤ 2147483647 := Xi_rgI
        have w114 : (Xi T5 950 ((1 : Int).toNat)) = Xi T5 950 1 := rfl
        refine y_callV rfl rfl rfl (t_mo_need__p hHT5 1 4 (Xi T5 950 ((1 : Int).toNat)) ⟨by omega, by omega⟩ ⟨by omega, by omega⟩ ⟨by omega, by omega⟩ _) ?_
        rintro _ T10 ⟨hHT10, w120, rfl, nt355_⟩
        have hFT10 : FR md_mo_asked__17 S T10 := FR.tr hFT5 w120 rfl
        show Pl _ _ _ _ _ _ [] _ _
        have n355 : Hid (NT3 T10 = if r2R S 1 2 3 = -1 then ntF (NT3 T5) 4 (pR S 1) else NT3 T5) := by have t := nt355_; rw [(hFT5.cx 908 rfl _).1, (hFT5.cx 950 rfl _).1] at t; first | (rw [if_pos (show (0 : Int) = 0 from rfl)] at t; rw [if_pos (by omega)]; exact t) | (rw [if_neg (show ¬ (1 : Int) = 0 by decide)] at t; rw [if_neg (by omega)]; exact t)
        clear nt355_
        refine y_aload_n rfl rfl ?_
        refine y_iconst rfl ?_
        have w121 : Xi T10 904 108 = Xi U2 904 108 := (show Xi T10 904 108 = Xi T5 904 108 from w120.x _ _ rfl).trans ( (show Xi T5 904 108 = Xi U4 904 108 from w41.x _ _ rfl).trans ( (show Xi U4 904 108 = Xi U3 904 108 from by rw [eU4]; exact Xi_ne (by omega)).trans ((show Xi U3 904 108 = Xi U2 904 108 from by rw [eU3]; exact Xi_ne (by omega)))))
        have w122 : Xi T10 904 15 = Xi S 904 15 := (show Xi T10 904 15 = Xi T5 904 15 from w120.x _ _ rfl).trans ( (show Xi T5 904 15 = Xi U4 904 15 from w41.x _ _ rfl).trans ( (show Xi U4 904 15 = Xi U3 904 15 from by rw [eU4]; exact Xi_ne (by omega)).trans ( (show Xi U3 904 15 = Xi U2 904 15 from by rw [eU3]; exact Xi_ne (by omega)).trans ( (show Xi U2 904 15 = Xi U1 904 15 from by rw [eU2]; exact Xi_ne (by omega)).trans ((show Xi U1 904 15 = Xi S 904 15 from by rw [eU1]; exact Xi_ne (by omega)))))))
        have w123 : Xi T10 904 32 = Xi S 904 32 := (show Xi T10 904 32 = Xi T5 904 32 from w120.x _ _ rfl).trans ( (show Xi T5 904 32 = Xi U4 904 32 from w41.x _ _ rfl).trans ( (show Xi U4 904 32 = Xi U3 904 32 from by rw [eU4]; exact Xi_ne (by omega)).trans ( (show Xi U3 904 32 = Xi U2 904 32 from by rw [eU3]; exact Xi_ne (by omega)).trans ( (show Xi U2 904 32 = Xi U1 904 32 from by rw [eU2]; exact Xi_ne (by omega)).trans ((show Xi U1 904 32 = Xi S 904 32 from by rw [eU1]; exact Xi_ne (by omega)))))))
        have w124 : Xi T10 904 70 = Xi S 904 70 := (show Xi T10 904 70 = Xi T5 904 70 from w120.x _ _ rfl).trans ( (show Xi T5 904 70 = Xi U4 904 70 from w41.x _ _ rfl).trans ( (show Xi U4 904 70 = Xi U3 904 70 from by rw [eU4]; exact Xi_ne (by omega)).trans ( (show Xi U3 904 70 = Xi U2 904 70 from by rw [eU3]; exact Xi_ne (by omega)).trans ( (show Xi U2 904 70 = Xi U1 904 70 from by rw [eU2]; exact Xi_ne (by omega)).trans ((show Xi U1 904 70 = Xi S 904 70 from by rw [eU1]; exact Xi_ne (by omega)))))))
        refine y_callV rfl rfl rfl (t_mo_meansNothing__p hHT10 2 ⟨by omega, by omega⟩ (by first | assumption | exact (LSP_FR hFT10 rfl rfl (by assumption : LSP S))) (by first | assumption | omega) (by first | assumption | exact (RBD_FR hFT10 rfl (by assumption : RBD S))) _) ?_
        rintro _ _ ⟨rfl, z125, rfl, w125, f360⟩
        show Pl _ _ _ _ _ _ [iv z125] _ _
        have M360 : Hid ((z125 = 1 → rmR S 2 = -1) ∧ (z125 = 0 → rmR S 2 ≠ -1)) := by have t := f360; rw [rmR_FR hFT10 rfl rfl] at t; exact t
        clear f360
        refine y_if_eq rfl rfl (by unfold rg; omega) (fun w126 => ?_) (fun w127 => ?_)
        · refine y_aload_n rfl rfl ?_
          refine y_aload_n rfl rfl ?_
          refine y_iconst rfl ?_
          refine y_bipush rfl rfl ?_
          refine y_callV rfl rfl rfl (t_mo_meansRun__p hHT10 2 7 ⟨by omega, by omega⟩ ⟨by omega, by omega⟩ (by first | assumption | exact (LSP_FR hFT10 rfl rfl (by assumption : LSP S))) (by first | assumption | omega) (by first | assumption | exact (RBD_FR hFT10 rfl (by assumption : RBD S))) _) ?_
          rintro _ _ ⟨rfl, z132, rfl, w132, f385⟩
          show Pl _ _ _ _ _ _ [iv z132, .ref 904] _ _
          have K385 : z132 = rnR S 2 7 := by have t := f385; rw [rnR_FR hFT10 rfl rfl] at t; exact t
          clear f385
          refine y_iconst rfl ?_
          refine y_icmp_eq rfl rfl (by unfold rg; omega) (by unfold rg; omega) (fun w133 => ?_) (fun w134 => ?_)
          · refine y_iconst rfl ?_
            refine y_iconst rfl ?_
            refine y_aload_n rfl rfl ?_
            refine y_gfr rfl rfl rfl rfl rfl (hHT10.r 904 67 950 rfl) ?_
            refine y_iconst rfl ?_
            refine y_ialoadP (n := 2600) rfl rfl (by unfold rg; omega) (fun w135 w136 => ?_)
            have w137 : -2147483648 ≤ (Xi T10 950 ((2 : Int).toNat)) ∧ (Xi T10 950 ((2 : Int).toNat)) ≤ 2147483647 := Xi_rgI
            have w138 : (Xi T10 950 ((2 : Int).toNat)) = Xi T10 950 2 := rfl
            refine y_callV rfl rfl rfl (t_mo_need__p hHT10 0 4 (Xi T10 950 ((2 : Int).toNat)) ⟨by omega, by omega⟩ ⟨by omega, by omega⟩ ⟨by omega, by omega⟩ _) ?_
            rintro _ T11 ⟨hHT11, w144, rfl, nt404_⟩
            have hFT11 : FR md_mo_asked__17 S T11 := FR.tr hFT10 w144 rfl
            show Pl _ _ _ _ _ _ [] _ _
            have n404 : Hid (NT3 T11 = if rnR S 2 7 = -1 then ntF (NT3 T10) 4 (pR S 2) else NT3 T10) := by have t := nt404_; rw [(hFT10.cx 908 rfl _).1, (hFT10.cx 950 rfl _).1] at t; first | (rw [if_pos (show (0 : Int) = 0 from rfl)] at t; rw [if_pos (by omega)]; exact t) | (rw [if_neg (show ¬ (1 : Int) = 0 by decide)] at t; rw [if_neg (by omega)]; exact t)
            clear nt404_
            refine y_goto rfl rfl ?_
            refine y_return rfl rfl ?_
            have w145 : Xi T11 904 108 = Xi U2 904 108 := (show Xi T11 904 108 = Xi T10 904 108 from w144.x _ _ rfl).trans ( (show Xi T10 904 108 = Xi T5 904 108 from w120.x _ _ rfl).trans ( (show Xi T5 904 108 = Xi U4 904 108 from w41.x _ _ rfl).trans ( (show Xi U4 904 108 = Xi U3 904 108 from by rw [eU4]; exact Xi_ne (by omega)).trans ((show Xi U3 904 108 = Xi U2 904 108 from by rw [eU3]; exact Xi_ne (by omega))))))
            have w146 : Xi T11 904 15 = Xi S 904 15 := (show Xi T11 904 15 = Xi T10 904 15 from w144.x _ _ rfl).trans ( (show Xi T10 904 15 = Xi T5 904 15 from w120.x _ _ rfl).trans ( (show Xi T5 904 15 = Xi U4 904 15 from w41.x _ _ rfl).trans ( (show Xi U4 904 15 = Xi U3 904 15 from by rw [eU4]; exact Xi_ne (by omega)).trans ( (show Xi U3 904 15 = Xi U2 904 15 from by rw [eU3]; exact Xi_ne (by omega)).trans ( (show Xi U2 904 15 = Xi U1 904 15 from by rw [eU2]; exact Xi_ne (by omega)).trans ((show Xi U1 904 15 = Xi S 904 15 from by rw [eU1]; exact Xi_ne (by omega))))))))
            have w147 : Xi T11 904 32 = Xi S 904 32 := (show Xi T11 904 32 = Xi T10 904 32 from w144.x _ _ rfl).trans ( (show Xi T10 904 32 = Xi T5 904 32 from w120.x _ _ rfl).trans ( (show Xi T5 904 32 = Xi U4 904 32 from w41.x _ _ rfl).trans ( (show Xi U4 904 32 = Xi U3 904 32 from by rw [eU4]; exact Xi_ne (by omega)).trans ( (show Xi U3 904 32 = Xi U2 904 32 from by rw [eU3]; exact Xi_ne (by omega)).trans ( (show Xi U2 904 32 = Xi U1 904 32 from by rw [eU2]; exact Xi_ne (by omega)).trans ((show Xi U1 904 32 = Xi S 904 32 from by rw [eU1]; exact Xi_ne (by omega))))))))
            have w148 : Xi T11 904 70 = Xi S 904 70 := (show Xi T11 904 70 = Xi T10 904 70 from w144.x _ _ rfl).trans ( (show Xi T10 904 70 = Xi T5 904 70 from w120.x _ _ rfl).trans ( (show Xi T5 904 70 = Xi U4 904 70 from w41.x _ _ rfl).trans ( (show Xi U4 904 70 = Xi U3 904 70 from by rw [eU4]; exact Xi_ne (by omega)).trans ( (show Xi U3 904 70 = Xi U2 904 70 from by rw [eU3]; exact Xi_ne (by omega)).trans ( (show Xi U2 904 70 = Xi U1 904 70 from by rw [eU2]; exact Xi_ne (by omega)).trans ((show Xi U1 904 70 = Xi S 904 70 from by rw [eU1]; exact Xi_ne (by omega))))))))
            exact ⟨hHT11, hFT11, rfl, (by first | (have t := K374; exact rhas_of z329 n329.o n355.o (fun _ => y374.o) (fun _ => m374.o) (fun q => absurd (M360.o.1 (by omega)) q) hp.1 hp.2) | exact rhas_of z329 n329.o n355.o (fun q => absurd q (M360.o.2 (by omega))) (fun q => absurd q (M360.o.2 (by omega))) (fun _ => n404.o) hp.1 hp.2)⟩
          · refine y_iconst rfl ?_
            refine y_goto rfl rfl ?_
            refine y_iconst rfl ?_
            refine y_aload_n rfl rfl ?_
            refine y_gfr rfl rfl rfl rfl rfl (hHT10.r 904 67 950 rfl) ?_
            refine y_iconst rfl ?_
            refine y_ialoadP (n := 2600) rfl rfl (by unfold rg; omega) (fun w149 w150 => ?_)
            have w151 : -2147483648 ≤ (Xi T10 950 ((2 : Int).toNat)) ∧ (Xi T10 950 ((2 : Int).toNat)) ≤ 2147483647 := Xi_rgI
            have w152 : (Xi T10 950 ((2 : Int).toNat)) = Xi T10 950 2 := rfl
            refine y_callV rfl rfl rfl (t_mo_need__p hHT10 1 4 (Xi T10 950 ((2 : Int).toNat)) ⟨by omega, by omega⟩ ⟨by omega, by omega⟩ ⟨by omega, by omega⟩ _) ?_
            rintro _ T12 ⟨hHT12, w158, rfl, nt404_⟩
            have hFT12 : FR md_mo_asked__17 S T12 := FR.tr hFT10 w158 rfl
            show Pl _ _ _ _ _ _ [] _ _
            have n404 : Hid (NT3 T12 = if rnR S 2 7 = -1 then ntF (NT3 T10) 4 (pR S 2) else NT3 T10) := by have t := nt404_; rw [(hFT10.cx 908 rfl _).1, (hFT10.cx 950 rfl _).1] at t; first | (rw [if_pos (show (0 : Int) = 0 from rfl)] at t; rw [if_pos (by omega)]; exact t) | (rw [if_neg (show ¬ (1 : Int) = 0 by decide)] at t; rw [if_neg (by omega)]; exact t)
            clear nt404_
            refine y_goto rfl rfl ?_
            refine y_return rfl rfl ?_
            have w159 : Xi T12 904 108 = Xi U2 904 108 := (show Xi T12 904 108 = Xi T10 904 108 from w158.x _ _ rfl).trans ( (show Xi T10 904 108 = Xi T5 904 108 from w120.x _ _ rfl).trans ( (show Xi T5 904 108 = Xi U4 904 108 from w41.x _ _ rfl).trans ( (show Xi U4 904 108 = Xi U3 904 108 from by rw [eU4]; exact Xi_ne (by omega)).trans ((show Xi U3 904 108 = Xi U2 904 108 from by rw [eU3]; exact Xi_ne (by omega))))))
            have w160 : Xi T12 904 15 = Xi S 904 15 := (show Xi T12 904 15 = Xi T10 904 15 from w158.x _ _ rfl).trans ( (show Xi T10 904 15 = Xi T5 904 15 from w120.x _ _ rfl).trans ( (show Xi T5 904 15 = Xi U4 904 15 from w41.x _ _ rfl).trans ( (show Xi U4 904 15 = Xi U3 904 15 from by rw [eU4]; exact Xi_ne (by omega)).trans ( (show Xi U3 904 15 = Xi U2 904 15 from by rw [eU3]; exact Xi_ne (by omega)).trans ( (show Xi U2 904 15 = Xi U1 904 15 from by rw [eU2]; exact Xi_ne (by omega)).trans ((show Xi U1 904 15 = Xi S 904 15 from by rw [eU1]; exact Xi_ne (by omega))))))))
            have w161 : Xi T12 904 32 = Xi S 904 32 := (show Xi T12 904 32 = Xi T10 904 32 from w158.x _ _ rfl).trans ( (show Xi T10 904 32 = Xi T5 904 32 from w120.x _ _ rfl).trans ( (show Xi T5 904 32 = Xi U4 904 32 from w41.x _ _ rfl).trans ( (show Xi U4 904 32 = Xi U3 904 32 from by rw [eU4]; exact Xi_ne (by omega)).trans ( (show Xi U3 904 32 = Xi U2 904 32 from by rw [eU3]; exact Xi_ne (by omega)).trans ( (show Xi U2 904 32 = Xi U1 904 32 from by rw [eU2]; exact Xi_ne (by omega)).trans ((show Xi U1 904 32 = Xi S 904 32 from by rw [eU1]; exact Xi_ne (by omega))))))))
            have w162 : Xi T12 904 70 = Xi S 904 70 := (show Xi T12 904 70 = Xi T10 904 70 from w158.x _ _ rfl).trans ( (show Xi T10 904 70 = Xi T5 904 70 from w120.x _ _ rfl).trans ( (show Xi T5 904 70 = Xi U4 904 70 from w41.x _ _ rfl).trans ( (show Xi U4 904 70 = Xi U3 904 70 from by rw [eU4]; exact Xi_ne (by omega)).trans ( (show Xi U3 904 70 = Xi U2 904 70 from by rw [eU3]; exact Xi_ne (by omega)).trans ( (show Xi U2 904 70 = Xi U1 904 70 from by rw [eU2]; exact Xi_ne (by omega)).trans ((show Xi U1 904 70 = Xi S 904 70 from by rw [eU1]; exact Xi_ne (by omega))))))))
            exact ⟨hHT12, hFT12, rfl, (by first | (have t := K374; exact rhas_of z329 n329.o n355.o (fun _ => y374.o) (fun _ => m374.o) (fun q => absurd (M360.o.1 (by omega)) q) hp.1 hp.2) | exact rhas_of z329 n329.o n355.o (fun q => absurd q (M360.o.2 (by omega))) (fun q => absurd q (M360.o.2 (by omega))) (fun _ => n404.o) hp.1 hp.2)⟩
        · refine y_aload_n rfl rfl ?_
          refine y_iconst rfl ?_
          refine y_aload_n rfl rfl ?_
          refine y_gfi rfl rfl rfl rfl rfl ?_
          have w163 : (Xi T10 904 32) = (Xi S 904 32) := (show Xi T10 904 32 = Xi T5 904 32 from w120.x _ _ rfl).trans ( (show Xi T5 904 32 = Xi U4 904 32 from w41.x _ _ rfl).trans ( (show Xi U4 904 32 = Xi U3 904 32 from by rw [eU4]; exact Xi_ne (by omega)).trans ( (show Xi U3 904 32 = Xi U2 904 32 from by rw [eU3]; exact Xi_ne (by omega)).trans ( (show Xi U2 904 32 = Xi U1 904 32 from by rw [eU2]; exact Xi_ne (by omega)).trans ((show Xi U1 904 32 = Xi S 904 32 from by rw [eU1]; exact Xi_ne (by omega)))))))
          rw [w163]
          refine y_bipush rfl rfl ?_
          refine y_callV rfl rfl rfl (t_mo_mustBeNew__p hHT10 2 (Xi S 904 32) 12 ⟨by omega, by omega⟩ ⟨by omega, by omega⟩ ⟨by omega, by omega⟩ (by first | assumption | exact (LSP_FR hFT10 rfl rfl (by assumption : LSP S))) (by first | assumption | omega) (by first | assumption | exact (RBD_FR hFT10 rfl (by assumption : RBD S))) (by first | assumption | omega) _) ?_
          rintro _ T13 ⟨hHT13, w169, rfl, y374_, m374_⟩
          have hFT13 : FR md_mo_asked__17 S T13 := FR.tr hFT10 w169 rfl
          show Pl _ _ _ _ _ _ [] _ _
          have K374 : True := trivial
          have q374 : Hid (nwR T10 2 ↔ nwR0 S 2) := nwR_0 (fun j => (hFT10.cx 951 rfl j).1) (rmR_FR hFT10 rfl rfl) (by omega)
          have y374 : Hid (nwR0 S 2 → NT3 T13 = (if Xi S 904 32 < 12 then NT3 T10 else ntF (NT3 T10) 9 (pR S 2))) := fun q => by have t := (y374_ (q374.o.2 q)).1; rw [(hFT10.cx 908 rfl _).1, (hFT10.cx 950 rfl _).1] at t; exact t
          have m374 : Hid (¬ nwR0 S 2 → NT3 T13 = ntF (NT3 T10) 3 (pR S 2)) := fun q => by have t := (m374_ (fun w => q (q374.o.1 w))).1; rw [(hFT10.cx 908 rfl _).1, (hFT10.cx 950 rfl _).1] at t; exact t
          clear y374_ m374_
          refine y_goto rfl rfl ?_
          refine y_return rfl rfl ?_
          have w170 : Xi T13 904 15 = Xi S 904 15 := (show Xi T13 904 15 = Xi T10 904 15 from w169.x _ _ rfl).trans ( (show Xi T10 904 15 = Xi T5 904 15 from w120.x _ _ rfl).trans ( (show Xi T5 904 15 = Xi U4 904 15 from w41.x _ _ rfl).trans ( (show Xi U4 904 15 = Xi U3 904 15 from by rw [eU4]; exact Xi_ne (by omega)).trans ( (show Xi U3 904 15 = Xi U2 904 15 from by rw [eU3]; exact Xi_ne (by omega)).trans ( (show Xi U2 904 15 = Xi U1 904 15 from by rw [eU2]; exact Xi_ne (by omega)).trans ((show Xi U1 904 15 = Xi S 904 15 from by rw [eU1]; exact Xi_ne (by omega))))))))
          have w171 : Xi T13 904 32 = Xi S 904 32 := (show Xi T13 904 32 = Xi T10 904 32 from w169.x _ _ rfl).trans ( (show Xi T10 904 32 = Xi T5 904 32 from w120.x _ _ rfl).trans ( (show Xi T5 904 32 = Xi U4 904 32 from w41.x _ _ rfl).trans ( (show Xi U4 904 32 = Xi U3 904 32 from by rw [eU4]; exact Xi_ne (by omega)).trans ( (show Xi U3 904 32 = Xi U2 904 32 from by rw [eU3]; exact Xi_ne (by omega)).trans ( (show Xi U2 904 32 = Xi U1 904 32 from by rw [eU2]; exact Xi_ne (by omega)).trans ((show Xi U1 904 32 = Xi S 904 32 from by rw [eU1]; exact Xi_ne (by omega))))))))
          have w172 : Xi T13 904 70 = Xi S 904 70 := (show Xi T13 904 70 = Xi T10 904 70 from w169.x _ _ rfl).trans ( (show Xi T10 904 70 = Xi T5 904 70 from w120.x _ _ rfl).trans ( (show Xi T5 904 70 = Xi U4 904 70 from w41.x _ _ rfl).trans ( (show Xi U4 904 70 = Xi U3 904 70 from by rw [eU4]; exact Xi_ne (by omega)).trans ( (show Xi U3 904 70 = Xi U2 904 70 from by rw [eU3]; exact Xi_ne (by omega)).trans ( (show Xi U2 904 70 = Xi U1 904 70 from by rw [eU2]; exact Xi_ne (by omega)).trans ((show Xi U1 904 70 = Xi S 904 70 from by rw [eU1]; exact Xi_ne (by omega))))))))
          exact ⟨hHT13, hFT13, rfl, (by first | (have t := K374; exact rhas_of z329 n329.o n355.o (fun _ => y374.o) (fun _ => m374.o) (fun q => absurd (M360.o.1 (by omega)) q) hp.1 hp.2) | exact rhas_of z329 n329.o n355.o (fun q => absurd q (M360.o.2 (by omega))) (fun q => absurd q (M360.o.2 (by omega))) (fun _ => n404.o) hp.1 hp.2)⟩
    | 18, hii =>
      cases hii
      have w173 : (Xi S 904 70) = 18 := by simpa using w13
      exfalso; omega
    | 19, hii =>
      cases hii
      have w174 : (Xi S 904 70) = 19 := by simpa using w13
      exfalso; omega
    | 20, hii =>
      cases hii
      have w175 : (Xi S 904 70) = 20 := by simpa using w13
      exfalso; omega
    | n + 21, hii => exact absurd hii (by simp)
end
section
/-! the reference: what is told -/
def ADJ (S S1 : sS) (k o : Int) : Prop := Xi S1 904 23 = Xi S 904 23 + 1 ∧ (Xi S1 921 (Xi S 904 23).toNat = k ∧ Xi S1 922 (Xi S 904 23).toNat = o ∧ Xi S1 924 (Xi S 904 23).toNat = 0) ∧ ∀ j : Nat, j ≠ (Xi S 904 23).toNat → Xi S1 921 j = Xi S 921 j ∧ Xi S1 922 j = Xi S 922 j ∧ Xi S1 924 j = Xi S 924 j
theorem adj_of {S U1 U2 U3 U4 : sS} {k o : Int} (e1 : U1 = uI S 921 (Xi S 904 23).toNat (Int32.ofInt k)) (e2 : U2 = uI U1 922 (Xi S 904 23).toNat (Int32.ofInt o)) (e3 : U3 = uI U2 924 (Xi S 904 23).toNat (Int32.ofInt 0)) (e4 : U4 = uI U3 904 23 (Int32.ofInt (Xi S 904 23 + 1))) (h : 0 ≤ Xi S 904 23 ∧ Xi S 904 23 ≤ 30) (hk : rg k) (ho : rg o) : ADJ S U4 k o := by
  refine ⟨?_, ⟨?_, ?_, ?_⟩, fun j hj => ⟨?_, ?_, ?_⟩⟩
  · rw [e4]; exact Xi_same (by unfold rg; omega)
  · rw [e4, Xi_ne (by omega), e3, Xi_ne (by omega), e2, Xi_ne (by omega), e1]; exact Xi_same hk
  · rw [e4, Xi_ne (by omega), e3, Xi_ne (by omega), e2]; exact Xi_same ho
  · rw [e4, Xi_ne (by omega), e3]; exact Xi_same (by unfold rg; omega)
  · rw [e4, Xi_ne (by omega), e3, Xi_ne (by omega), e2, Xi_ne (by omega), e1, Xi_ne (by omega)]
  · rw [e4, Xi_ne (by omega), e3, Xi_ne (by omega), e2, Xi_ne (by omega), e1, Xi_ne (by omega)]
  · rw [e4, Xi_ne (by omega), e3, Xi_ne (by omega), e2, Xi_ne (by omega), e1, Xi_ne (by omega)]
/-- a run of Z told as a word -/
def TLW (S S1 Z : sS) (so ix r : Int) : Prop := TLR S S1 so ix (Xj Z 910 (Xi Z 950 r.toNat).toNat) (if 1 < Xi Z 951 r.toNat then Xj Z 910 (Xi Z 950 r.toNat + 1).toNat else 0) (if 2 < Xi Z 951 r.toNat then Xj Z 910 (Xi Z 950 r.toNat + 2).toNat else 0) (Xi Z 951 r.toNat)
theorem TLR_pre {S P S1 : sS} {so ix a b c n : Int} (h : TLR P S1 so ix a b c n) (x : ∀ k j : Nat, (k = 912 ∨ k = 914 ∨ k = 915 ∨ k = 916) → Xi P k j = Xi S k j) (y : ∀ j, Xj P 913 j = Xj S 913 j) (z : Xi P 904 15 = Xi S 904 15) : TLR S S1 so ix a b c n := by
  unfold TLR at h ⊢
  rw [z] at h
  simp only [x 912 _ (by omega), x 914 _ (by omega), x 915 _ (by omega), x 916 _ (by omega), y] at h
  exact h
theorem TLW_pre {S P S1 Z Y : sS} {so ix r : Int} (h : TLW P S1 Y so ix r) (x : ∀ k j : Nat, (k = 912 ∨ k = 914 ∨ k = 915 ∨ k = 916) → Xi P k j = Xi S k j) (y : ∀ j, Xj P 913 j = Xj S 913 j) (z : Xi P 904 15 = Xi S 904 15) (w : ∀ j, Xj Y 910 j = Xj Z 910 j) (u : ∀ j, Xi Y 950 j = Xi Z 950 j) (v : ∀ j, Xi Y 951 j = Xi Z 951 j) : TLW S S1 Z so ix r := by
  unfold TLW at h ⊢
  simp only [w, u, v] at h
  exact TLR_pre h x y z
theorem lxk_tl {A B : sS} {so ix a b c n : Int} (t : TLR A B so ix a b c n) (h0 : 0 ≤ Xi A 904 15) : LXK B A (Xi A 904 15).toNat := fun k hk0 hk => by
  obtain ⟨_, h, _⟩ := t
  obtain ⟨q1, q2, q3, q4, q5⟩ := h k.toNat (by omega)
  have w0 := q5 0 (by omega)
  have w1 := q5 1 (by omega)
  have w2 := q5 2 (by omega)
  rw [show 3 * k.toNat + 0 = (3 * k).toNat by omega] at w0
  rw [show 3 * k.toNat + 1 = (3 * k + 1).toNat by omega] at w1
  rw [show 3 * k.toNat + 2 = (3 * k + 2).toNat by omega] at w2
  exact ⟨q3, w0, w1, w2, q4, q1, q2⟩
theorem nmR_tl {A B : sS} {so ix a b c n x m : Int} (t : TLR A B so ix a b c n) (h0 : 0 ≤ Xi A 904 15) (w : ∀ j, Xj B 910 j = Xj A 910 j) (h : nmR A x m ≠ -1) : nmR B x m = nmR A x m := by
  unfold nmR at h ⊢
  by_cases q : m < 1 ∨ 3 < m
  · rw [if_pos q] at h; exact absurd rfl h
  · rw [if_neg q] at h
    rw [if_neg q, if_neg q, t.2.2, show (Xi A 904 15 + 1).toNat = (Xi A 904 15).toNat + 1 by omega]
    rw [w, w, w]
    exact fdR_up (fdR_k _ (lxk_tl t h0)) h 1
theorem rnR_tl {A B : sS} {so ix a b c n r s : Int} (t : TLR A B so ix a b c n) (h0 : 0 ≤ Xi A 904 15) (w : ∀ j, Xj B 910 j = Xj A 910 j) (u : ∀ j, Xi B 950 j = Xi A 950 j) (v : ∀ j, Xi B 951 j = Xi A 951 j) (h : rnR A r s ≠ -1) : rnR B r s = rnR A r s := by
  unfold rnR at h ⊢
  rw [u, v]
  unfold msR at h ⊢
  by_cases q : nmR A (Xi A 950 r.toNat) (Xi A 951 r.toNat) ≠ -1 ∧ Xi A 914 (nmR A (Xi A 950 r.toNat) (Xi A 951 r.toNat)).toNat = s
  · have e := nmR_tl t h0 w q.1
    have g := nmR_rg (S := A) (t := Xi A 950 r.toNat) (n := Xi A 951 r.toNat) h0
    have l := lxk_tl t h0 (nmR A (Xi A 950 r.toNat) (Xi A 951 r.toNat)) (by have := q.1; omega) (by have := q.1; omega)
    rw [e, l.2.2.2.2.2.1, l.2.2.2.2.2.2]
  · rw [if_neg q] at h; exact absurd rfl h
/-- 18: what the reference does -/
def RD18 (S S1 : sS) : Prop := Xi S1 904 23 = Xi S 904 23 + 2 ∧ (∃ V : sS, TLW S V S 5 (Xi S 904 23) 1 ∧ TLW V S1 S 5 (Xi S 904 23 + 1) 2) ∧ (Xi S1 921 (Xi S 904 23).toNat = rnR S 0 0 ∧ Xi S1 922 (Xi S 904 23).toNat = Xi S 904 23 + 1 ∧ Xi S1 924 (Xi S 904 23).toNat = 0) ∧ (Xi S1 921 (Xi S 904 23 + 1).toNat = rnR S 0 0 ∧ Xi S1 922 (Xi S 904 23 + 1).toNat = Xi S 904 23 ∧ Xi S1 924 (Xi S 904 23 + 1).toNat = 0) ∧ ∀ j : Nat, j ≠ (Xi S 904 23).toNat → j ≠ (Xi S 904 23 + 1).toNat → Xi S1 921 j = Xi S 921 j ∧ Xi S1 922 j = Xi S 922 j ∧ Xi S1 924 j = Xi S 924 j
theorem rd18_of {S A B C S1 : sS} {k : Int} (h0 : 0 ≤ Xi S 904 23) (a1 : ADJ S A k (Xi S 904 23 + 1)) (b : ∀ j, Xi B 921 j = Xi A 921 j ∧ Xi B 922 j = Xi A 922 j ∧ Xi B 924 j = Xi A 924 j) (b2 : Xi B 904 23 = Xi A 904 23) (a2 : ADJ B C k (Xi S 904 23)) (d : ∀ j, Xi S1 921 j = Xi C 921 j ∧ Xi S1 922 j = Xi C 922 j ∧ Xi S1 924 j = Xi C 924 j) (d2 : Xi S1 904 23 = Xi C 904 23) (hk : k = rnR S 0 0) (t : ∃ V : sS, TLW S V S 5 (Xi S 904 23) 1 ∧ TLW V S1 S 5 (Xi S 904 23 + 1) 2) : RD18 S S1 := by
  obtain ⟨p1, ⟨p2, p3, p4⟩, p5⟩ := a1
  obtain ⟨q1, ⟨q2, q3, q4⟩, q5⟩ := a2
  have e : Xi B 904 23 = Xi S 904 23 + 1 := b2.trans p1
  rw [e] at q1 q2 q3 q4 q5
  refine ⟨by omega, t, ⟨?_, ?_, ?_⟩, ⟨?_, ?_, ?_⟩, fun j h1 h2 => ⟨?_, ?_, ?_⟩⟩
  · rw [(d _).1, (q5 _ (by omega)).1, (b _).1, p2, hk]
  · rw [(d _).2.1, (q5 _ (by omega)).2.1, (b _).2.1, p3]
  · rw [(d _).2.2, (q5 _ (by omega)).2.2, (b _).2.2, p4]
  · rw [(d _).1, q2, hk]
  · rw [(d _).2.1, q3]
  · rw [(d _).2.2, q4]
  · rw [(d _).1, (q5 _ h2).1, (b _).1, (p5 _ h1).1]
  · rw [(d _).2.1, (q5 _ h2).2.1, (b _).2.1, (p5 _ h1).2.1]
  · rw [(d _).2.2, (q5 _ h2).2.2, (b _).2.2, (p5 _ h1).2.2]

def md_mo_addAdjective__p : List rec := [(904, 905, 23, 24), (921, 922, 0, 100000), (922, 923, 0, 100000), (924, 925, 0, 100000)]
abbrev Q_mo_addAdjective__p (S : sS) (kind : Int) (other : Int) : pst := fun r S1 => RI S1 ∧ FR md_mo_addAdjective__p S S1 ∧ (∃ z : Int, r = some (iv z) ∧ (-2147483648 ≤ z ∧ z ≤ 2147483647) ∧ (z = Xi S 904 23) ∧ (ADJ S S1 kind other))
set_option maxRecDepth 100000 in
theorem t_mo_addAdjective__p {S : sS} (hH : RI S) (kind : Int) (other : Int) (hkind : -2147483648 ≤ kind ∧ kind ≤ 2147483647) (hother : -2147483648 ≤ other ∧ other ≤ 2147483647) (ha : 0 ≤ Xi S 904 23 ∧ Xi S 904 23 ≤ 30) (d : Nat) : Mp lay0 (d + 1) m_mo_addAdjective [.ref 904, iv kind, iv other] S (Q_mo_addAdjective__p S kind other) := by
  refine Mp_R rfl rfl (fun fu => ?_)
  have hF : FR md_mo_addAdjective__p S S := FR.rf
  have w1 : -2147483648 ≤ Xi S 904 23 ∧ Xi S 904 23 ≤ 2147483647 := Xi_rgI
  refine y_aload_n rfl rfl ?_
  refine y_gfr rfl rfl rfl rfl rfl (hH.r 904 24 921 rfl) ?_
  refine y_aload_n rfl rfl ?_
  refine y_gfi rfl rfl rfl rfl rfl ?_
  refine y_iload_n rfl rfl ?_
  refine y_iastoreP (n := 24) rfl rfl (by unfold rg; omega) (fun w2 w3 => ?_)
  obtain ⟨U1, eU1⟩ : ∃ T : sS, T = uI S 921 (((Xi S 904 23)).toNat) (Int32.ofInt kind) := ⟨_, rfl⟩
  rw [← eU1]
  have hHU1 : RI U1 := by rw [eU1]; exact RI_w hH
  have hFU1 : FR md_mo_addAdjective__p S U1 := by rw [eU1]; exact FR.wI hF (mdf_i (r := (921, 922, 0, 100000)) (List.mem_of_getElem? (i := 1) rfl) (inR_i (by omega) (by omega) (by omega) (by omega)))
  have w4 : Xi U1 921 (((Xi S 904 23)).toNat) = kind := by rw [eU1]; exact Xi_same (by unfold rg; omega)
  refine y_aload_n rfl rfl ?_
  refine y_gfr rfl rfl rfl rfl rfl (hHU1.r 904 25 922 rfl) ?_
  refine y_aload_n rfl rfl ?_
  refine y_gfi rfl rfl rfl rfl rfl ?_
  have w5 : (Xi U1 904 23) = (Xi S 904 23) := (show Xi U1 904 23 = Xi S 904 23 from by rw [eU1]; exact Xi_ne (by omega))
  rw [w5]
  refine y_iload_n rfl rfl ?_
  refine y_iastoreP (n := 24) rfl rfl (by unfold rg; omega) (fun w6 w7 => ?_)
  obtain ⟨U2, eU2⟩ : ∃ T : sS, T = uI U1 922 (((Xi S 904 23)).toNat) (Int32.ofInt other) := ⟨_, rfl⟩
  rw [← eU2]
  have hHU2 : RI U2 := by rw [eU2]; exact RI_w hHU1
  have hFU2 : FR md_mo_addAdjective__p S U2 := by rw [eU2]; exact FR.wI hFU1 (mdf_i (r := (922, 923, 0, 100000)) (List.mem_of_getElem? (i := 2) rfl) (inR_i (by omega) (by omega) (by omega) (by omega)))
  have w8 : Xi U2 922 (((Xi S 904 23)).toNat) = other := by rw [eU2]; exact Xi_same (by unfold rg; omega)
  refine y_aload_n rfl rfl ?_
  refine y_gfr rfl rfl rfl rfl rfl (hHU2.r 904 27 924 rfl) ?_
  refine y_aload_n rfl rfl ?_
  refine y_gfi rfl rfl rfl rfl rfl ?_
  have w9 : (Xi U2 904 23) = (Xi S 904 23) := (show Xi U2 904 23 = Xi U1 904 23 from by rw [eU2]; exact Xi_ne (by omega)).trans ((show Xi U1 904 23 = Xi S 904 23 from by rw [eU1]; exact Xi_ne (by omega)))
  rw [w9]
  refine y_iconst rfl ?_
  refine y_iastoreP (n := 24) rfl rfl (by unfold rg; omega) (fun w10 w11 => ?_)
  obtain ⟨U3, eU3⟩ : ∃ T : sS, T = uI U2 924 (((Xi S 904 23)).toNat) (Int32.ofInt 0) := ⟨_, rfl⟩
  rw [← eU3]
  have hHU3 : RI U3 := by rw [eU3]; exact RI_w hHU2
  have hFU3 : FR md_mo_addAdjective__p S U3 := by rw [eU3]; exact FR.wI hFU2 (mdf_i (r := (924, 925, 0, 100000)) (List.mem_of_getElem? (i := 3) rfl) (inR_i (by omega) (by omega) (by omega) (by omega)))
  have w12 : Xi U3 924 (((Xi S 904 23)).toNat) = 0 := by rw [eU3]; exact Xi_same (by unfold rg; omega)
  refine y_aload_n rfl rfl ?_
  refine y_dup rfl rfl ?_
  refine y_gfi rfl rfl rfl rfl rfl ?_
  have w13 : (Xi U3 904 23) = (Xi S 904 23) := (show Xi U3 904 23 = Xi U2 904 23 from by rw [eU3]; exact Xi_ne (by omega)).trans ( (show Xi U2 904 23 = Xi U1 904 23 from by rw [eU2]; exact Xi_ne (by omega)).trans ((show Xi U1 904 23 = Xi S 904 23 from by rw [eU1]; exact Xi_ne (by omega))))
  rw [w13]
  refine y_iconst rfl ?_
  refine y_iadd rfl ?_
  refine y_pfi rfl rfl rfl rfl ?_
  obtain ⟨U4, eU4⟩ : ∃ T : sS, T = uI U3 904 23 (Int32.ofInt ((Xi S 904 23) + 1)) := ⟨_, rfl⟩
  rw [← eU4]
  have hHU4 : RI U4 := by rw [eU4]; exact RI_w hHU3
  have hFU4 : FR md_mo_addAdjective__p S U4 := by rw [eU4]; exact FR.wI hFU3 (mdf_i (r := (904, 905, 23, 24)) (List.mem_of_getElem? (i := 0) rfl) (inR_i (by omega) (by omega) (by omega) (by omega)))
  have w14 : Xi U4 904 23 = ((Xi S 904 23) + 1) := by rw [eU4]; exact Xi_same (by unfold rg; omega)
  refine y_aload_n rfl rfl ?_
  refine y_gfi rfl rfl rfl rfl rfl ?_
  refine y_iconst rfl ?_
  refine y_isub rfl ?_
  refine y_ireturn rfl rfl ?_
  exact ⟨hHU4, hFU4, _, rfl, ⟨by omega, by omega⟩, (by omega), (adj_of eU1 eU2 eU3 eU4 (by omega) (by unfold rg; omega) (by unfold rg; omega))⟩
end
section
theorem LSP_tl {A B : sS} {so ix a b c n : Int} (t : TLR A B so ix a b c n) (h0 : 0 ≤ Xi A 904 15) (hs : 0 ≤ so) (h : LSP A) : LSP B := fun k hk => by
  rcases (by have := t.2.2; omega : (k : Int) < Xi A 904 15 ∨ k = (Xi A 904 15).toNat) with q | q
  · rw [(t.2.1 k (by omega)).1]; exact h k q
  · rw [q, t.1.1]; exact hs

def md_mo_does__18 : List rec := [(904, 905, 15, 16), (904, 905, 16, 17), (904, 905, 18, 19), (904, 905, 19, 20), (904, 905, 23, 24), (904, 905, 30, 31), (904, 905, 32, 33), (904, 905, 41, 42), (904, 905, 47, 48), (904, 905, 49, 50), (904, 905, 51, 52), (904, 905, 55, 56), (904, 905, 60, 61), (904, 905, 64, 65), (904, 905, 73, 74), (904, 905, 105, 106), (904, 905, 106, 107), (904, 905, 113, 114), (904, 905, 117, 118), (912, 913, 0, 100000), (913, 914, 0, 100000), (914, 915, 0, 100000), (915, 916, 0, 100000), (916, 917, 0, 100000), (917, 918, 0, 100000), (918, 919, 0, 100000), (919, 920, 0, 100000), (920, 921, 0, 100000), (921, 922, 0, 100000), (922, 923, 0, 100000), (923, 924, 0, 100000), (924, 925, 0, 100000), (925, 926, 0, 100000), (926, 927, 0, 100000), (927, 928, 0, 100000), (928, 929, 0, 100000), (929, 930, 0, 100000), (930, 931, 0, 100000), (931, 932, 0, 100000), (932, 933, 0, 100000), (933, 934, 0, 100000), (934, 935, 0, 100000), (935, 936, 0, 100000), (936, 937, 0, 100000), (937, 938, 0, 100000), (938, 939, 0, 100000), (939, 940, 0, 100000), (940, 941, 0, 100000), (941, 942, 0, 100000), (942, 943, 0, 100000), (943, 944, 0, 100000), (944, 945, 0, 100000), (945, 946, 0, 100000), (946, 947, 0, 100000), (947, 948, 0, 100000), (948, 949, 0, 100000), (949, 950, 0, 100000)]
abbrev Q_mo_does__18 (S : sS) (first : Int) : pst := fun r S1 => RI S1 ∧ FR md_mo_does__18 S S1 ∧ (r = none ∧ (RD18 S S1))
set_option maxRecDepth 100000 in
theorem t_mo_does__18 {S : sS} (hH : RI S) (first : Int) (hfirst : 0 ≤ first ∧ first ≤ 5001) (hLS : LSP S) (h15 : 0 ≤ Xi S 904 15) (hRB : RBD S) (hs : Xi S 904 70 = 18) (hk : rnR S 0 0 ≠ -1) (ha : 0 ≤ Xi S 904 23 ∧ Xi S 904 23 ≤ 24) (d : Nat) : Mp lay0 (d + 8) m_mo_does [.ref 904, iv first] S (Q_mo_does__18 S first) := by
  refine Mp_R rfl rfl (fun fu => ?_)
  have hF : FR md_mo_does__18 S S := FR.rf
  have w1 : -2147483648 ≤ Xi S 904 15 ∧ Xi S 904 15 ≤ 2147483647 := Xi_rgI
  have w2 : -2147483648 ≤ Xi S 904 23 ∧ Xi S 904 23 ≤ 2147483647 := Xi_rgI
  have w3 : -2147483648 ≤ Xi S 904 70 ∧ Xi S 904 70 ≤ 2147483647 := Xi_rgI
  have C300 : ∀ (n300 : Nat) (_ : n300 ≤ fu) (T1 : sS) (_ : RI T1) (_ : FR md_mo_does__18 S T1) (v2 : Int), (-2147483648 ≤ v2 ∧ v2 ≤ 2147483647) → ((1 : Int) = 0) → Pl n300 lay0 (d + 7) m_mo_does 300 [(0, .ref 904), (2, iv v2)] [] T1 (Q_mo_does__18 S first) := by
    intro n300
    induction n300 with
    | zero => intros; exact Pl_0
    | succ n300 ih300 =>
      intro hm300 T1 hHT1 hFT1 v2 w4 w5
      have w6 : Xi T1 904 110 = Xi S 904 110 := hFT1.x _ _ rfl
      have w7 : Xi T1 904 112 = Xi S 904 112 := hFT1.x _ _ rfl
      have w8 : Xi T1 904 142 = Xi S 904 142 := hFT1.x _ _ rfl
      have w9 : Xi T1 904 69 = Xi S 904 69 := hFT1.x _ _ rfl
      have w10 : Xi T1 904 70 = Xi S 904 70 := hFT1.x _ _ rfl
      have w11 : Xi T1 904 71 = Xi S 904 71 := hFT1.x _ _ rfl
      have w12 : Xi T1 904 72 = Xi S 904 72 := hFT1.x _ _ rfl
      have w13 : Xi T1 904 74 = Xi S 904 74 := hFT1.x _ _ rfl
      have w14 : Xi T1 904 78 = Xi S 904 78 := hFT1.x _ _ rfl
      have w15 : Xi T1 904 94 = Xi S 904 94 := hFT1.x _ _ rfl
      have w16 : Xi T1 951 1 = Xi S 951 1 := hFT1.x _ _ rfl
      have w17 : Xi T1 951 2 = Xi S 951 2 := hFT1.x _ _ rfl
      have w18 : Xi T1 967 0 = Xi S 967 0 := hFT1.x _ _ rfl
      have w19 : -2147483648 ≤ Xi T1 904 15 ∧ Xi T1 904 15 ≤ 2147483647 := Xi_rgI
      have w20 : -2147483648 ≤ Xi T1 904 23 ∧ Xi T1 904 23 ≤ 2147483647 := Xi_rgI
      have w21 : -2147483648 ≤ Xi T1 904 70 ∧ Xi T1 904 70 ≤ 2147483647 := Xi_rgI
      exfalso; omega
  refine y_aload_n rfl rfl ?_
  refine y_gfi rfl rfl rfl rfl rfl ?_
  refine y_tsw rfl rfl rfl rfl (by unfold rg; omega) (fun w22 => ?_) (fun ii tt hii w22 => ?_)
  · refine y_return rfl rfl ?_
    exact ⟨hH, hF, rfl, (by first | (have t := K420; exact rd18_of ha.1 A395 (fun j => ⟨(F403.cx 921 rfl j).1, (F403.cx 922 rfl j).1, (F403.cx 924 rfl j).1⟩) (F403.x 904 23 rfl) A416 (fun j => ⟨(F420.cx 921 rfl j).1, (F420.cx 922 rfl j).1, (F420.cx 924 rfl j).1⟩) (F420.x 904 23 rfl) rfl ⟨nomark, W403, W420⟩) | (exfalso; omega))⟩
  · match ii, hii with
    | 0, hii =>
      cases hii
      have w23 : (Xi S 904 70) = 0 := by simpa using w22
      exfalso; omega
    | 1, hii =>
      cases hii
      have w24 : (Xi S 904 70) = 1 := by simpa using w22
      exfalso; omega
    | 2, hii =>
      cases hii
      have w25 : (Xi S 904 70) = 2 := by simpa using w22
      exfalso; omega
    | 3, hii =>
      cases hii
      have w26 : (Xi S 904 70) = 3 := by simpa using w22
      refine y_return rfl rfl ?_
      exact ⟨hH, hF, rfl, (by first | (have t := K420; exact rd18_of ha.1 A395 (fun j => ⟨(F403.cx 921 rfl j).1, (F403.cx 922 rfl j).1, (F403.cx 924 rfl j).1⟩) (F403.x 904 23 rfl) A416 (fun j => ⟨(F420.cx 921 rfl j).1, (F420.cx 922 rfl j).1, (F420.cx 924 rfl j).1⟩) (F420.x 904 23 rfl) rfl ⟨nomark, W403, W420⟩) | (exfalso; omega))⟩
    | 4, hii =>
      cases hii
      have w27 : (Xi S 904 70) = 4 := by simpa using w22
      refine y_return rfl rfl ?_
      exact ⟨hH, hF, rfl, (by first | (have t := K420; exact rd18_of ha.1 A395 (fun j => ⟨(F403.cx 921 rfl j).1, (F403.cx 922 rfl j).1, (F403.cx 924 rfl j).1⟩) (F403.x 904 23 rfl) A416 (fun j => ⟨(F420.cx 921 rfl j).1, (F420.cx 922 rfl j).1, (F420.cx 924 rfl j).1⟩) (F420.x 904 23 rfl) rfl ⟨nomark, W403, W420⟩) | (exfalso; omega))⟩
    | 5, hii =>
      cases hii
      have w28 : (Xi S 904 70) = 5 := by simpa using w22
      refine y_return rfl rfl ?_
      exact ⟨hH, hF, rfl, (by first | (have t := K420; exact rd18_of ha.1 A395 (fun j => ⟨(F403.cx 921 rfl j).1, (F403.cx 922 rfl j).1, (F403.cx 924 rfl j).1⟩) (F403.x 904 23 rfl) A416 (fun j => ⟨(F420.cx 921 rfl j).1, (F420.cx 922 rfl j).1, (F420.cx 924 rfl j).1⟩) (F420.x 904 23 rfl) rfl ⟨nomark, W403, W420⟩) | (exfalso; omega))⟩
    | 6, hii =>
      cases hii
      have w29 : (Xi S 904 70) = 6 := by simpa using w22
      refine y_return rfl rfl ?_
      exact ⟨hH, hF, rfl, (by first | (have t := K420; exact rd18_of ha.1 A395 (fun j => ⟨(F403.cx 921 rfl j).1, (F403.cx 922 rfl j).1, (F403.cx 924 rfl j).1⟩) (F403.x 904 23 rfl) A416 (fun j => ⟨(F420.cx 921 rfl j).1, (F420.cx 922 rfl j).1, (F420.cx 924 rfl j).1⟩) (F420.x 904 23 rfl) rfl ⟨nomark, W403, W420⟩) | (exfalso; omega))⟩
    | 7, hii =>
      cases hii
      have w30 : (Xi S 904 70) = 7 := by simpa using w22
      exfalso; omega
    | 8, hii =>
      cases hii
      have w31 : (Xi S 904 70) = 8 := by simpa using w22
      exfalso; omega
    | 9, hii =>
      cases hii
      have w32 : (Xi S 904 70) = 9 := by simpa using w22
      exfalso; omega
    | 10, hii =>
      cases hii
      have w33 : (Xi S 904 70) = 10 := by simpa using w22
      exfalso; omega
    | 11, hii =>
      cases hii
      have w34 : (Xi S 904 70) = 11 := by simpa using w22
      exfalso; omega
    | 12, hii =>
      cases hii
      have w35 : (Xi S 904 70) = 12 := by simpa using w22
      exfalso; omega
    | 13, hii =>
      cases hii
      have w36 : (Xi S 904 70) = 13 := by simpa using w22
      exfalso; omega
    | 14, hii =>
      cases hii
      have w37 : (Xi S 904 70) = 14 := by simpa using w22
      exfalso; omega
    | 15, hii =>
      cases hii
      have w38 : (Xi S 904 70) = 15 := by simpa using w22
      exfalso; omega
    | 16, hii =>
      cases hii
      have w39 : (Xi S 904 70) = 16 := by simpa using w22
      exfalso; omega
    | 17, hii =>
      cases hii
      have w40 : (Xi S 904 70) = 17 := by simpa using w22
      exfalso; omega
    | 18, hii =>
      cases hii
      have w41 : (Xi S 904 70) = 18 := by simpa using w22
      refine y_aload_n rfl rfl ?_
      refine y_aload_n rfl rfl ?_
      refine y_iconst rfl ?_
      refine y_iconst rfl ?_
      refine y_callV rfl rfl rfl (t_mo_meansRun__p hH 0 0 ⟨by omega, by omega⟩ ⟨by omega, by omega⟩ (by first | assumption | exact (by assumption : LSP S)) (by first | assumption | omega) (by first | assumption | exact (RBD_FR hF rfl (by assumption : RBD S))) _) ?_
      rintro _ _ ⟨rfl, z42, rfl, w42, f386⟩
      show Pl _ _ _ _ _ _ [iv z42, .ref 904] _ _
      refine y_aload_n rfl rfl ?_
      refine y_gfi rfl rfl rfl rfl rfl ?_
      refine y_iconst rfl ?_
      refine y_iadd rfl ?_
      refine y_callV rfl rfl rfl (t_mo_addAdjective__p hH z42 ((Xi S 904 23) + 1) ⟨by omega, by omega⟩ ⟨by omega, by omega⟩ (by first | assumption | omega) _) ?_
      rintro _ T2 ⟨hHT2, w44, z43, rfl, w43, z395, e395⟩
      have hFT2 : FR md_mo_does__18 S T2 := FR.tr hF w44 rfl
      show Pl _ _ _ _ _ _ [iv z43] _ _
      have F395 := (by assumption : FR md_mo_addAdjective__p S T2)
      have A395 : ADJ S T2 (rnR S 0 0) (Xi S 904 23 + 1) := by have t := e395; rw [f386] at t; exact t
      have k395 : rnR T2 0 0 = rnR S 0 0 := rnR_FR F395 rfl rfl
      have l395 : Xi T2 904 15 = Xi S 904 15 := F395.x 904 15 rfl
      have c395 : Xi T2 904 23 = Xi S 904 23 + 1 := A395.1
      clear e395
      refine y_istore_n rfl rfl rfl ?_
      refine y_aload_n rfl rfl ?_
      refine y_iconst rfl ?_
      refine y_iload_n rfl rfl ?_
      refine y_iconst rfl ?_
      have w45 : Xi T2 904 15 = Xi S 904 15 := (show Xi T2 904 15 = Xi S 904 15 from w44.x _ _ rfl)
      have w46 : Xi T2 904 70 = Xi S 904 70 := (show Xi T2 904 70 = Xi S 904 70 from w44.x _ _ rfl)
      refine y_callV rfl rfl rfl (t_mo_tellRun__p hHT2 5 z43 1 ⟨by omega, by omega⟩ ⟨by omega, by omega⟩ ⟨by omega, by omega⟩ (by first | assumption | exact (RBD_FR hFT2 rfl (by assumption : RBD S))) _) ?_
      rintro _ T3 ⟨hHT3, w48, rfl, e403⟩
      have hFT3 : FR md_mo_does__18 S T3 := FR.tr hFT2 w48 rfl
      show Pl _ _ _ _ _ _ [] _ _
      have F403 := (by assumption : FR md_mo_tellRun__p T2 T3)
      have T403 : TLW T2 T3 T2 5 (Xi S 904 23) 1 := by have t := e403; rw [z395] at t; exact t
      have W403 : TLW S T3 S 5 (Xi S 904 23) 1 := TLW_pre T403 (fun k j h => by rcases h with h | h | h | h <;> rw [h] <;> first | exact (F395.cx 912 rfl j).1 | exact (F395.cx 914 rfl j).1 | exact (F395.cx 915 rfl j).1 | exact (F395.cx 916 rfl j).1) (fun j => (F395.cx 913 rfl j).2) l395 (fun j => (F395.cx 910 rfl j).2) (fun j => (F395.cx 950 rfl j).1) (fun j => (F395.cx 951 rfl j).1)
      have L403 : LSP T3 := LSP_tl e403 (by omega) (by omega) (LSP_FR F395 rfl rfl hLS)
      have h403 : 0 ≤ Xi T3 904 15 := by have t := e403.2.2; omega
      have r403 : rnR T3 0 0 = rnR S 0 0 := (rnR_tl e403 (by omega) (fun j => (F403.cx 910 rfl j).2) (fun j => (F403.cx 950 rfl j).1) (fun j => (F403.cx 951 rfl j).1) (by rw [k395]; exact hk)).trans k395
      have c403 : Xi T3 904 23 = Xi S 904 23 + 1 := (F403.x 904 23 rfl).trans c395
      clear e403
      refine y_aload_n rfl rfl ?_
      refine y_iconst rfl ?_
      refine y_aload_n rfl rfl ?_
      refine y_aload_n rfl rfl ?_
      refine y_iconst rfl ?_
      refine y_iconst rfl ?_
      refine y_callV rfl rfl rfl (t_mo_meansRun__p hHT3 0 0 ⟨by omega, by omega⟩ ⟨by omega, by omega⟩ (by first | assumption | exact (by assumption : LSP T3)) (by first | assumption | omega) (by first | assumption | exact (RBD_FR hFT3 rfl (by assumption : RBD S))) _) ?_
      rintro _ _ ⟨rfl, z51, rfl, w51, f412⟩
      show Pl _ _ _ _ _ _ [iv z51, .ref 904, iv 5, .ref 904] _ _
      have K412 : z51 = rnR S 0 0 := f412.trans r403
      refine y_iload_n rfl rfl ?_
      have w52 : Xi T3 904 23 = Xi T2 904 23 := (show Xi T3 904 23 = Xi T2 904 23 from w48.x _ _ rfl)
      refine y_callV rfl rfl rfl (t_mo_addAdjective__p hHT3 z51 z43 ⟨by omega, by omega⟩ ⟨by omega, by omega⟩ (by first | assumption | omega) _) ?_
      rintro _ T4 ⟨hHT4, w55, z54, rfl, w54, z416, e416⟩
      have hFT4 : FR md_mo_does__18 S T4 := FR.tr hFT3 w55 rfl
      show Pl _ _ _ _ _ _ [iv z54, iv 5, .ref 904] _ _
      have F416 := (by assumption : FR md_mo_addAdjective__p T3 T4)
      have A416 : ADJ T3 T4 (rnR S 0 0) (Xi S 904 23) := by have t := e416; rw [K412, z395] at t; exact t
      have l416 : Xi T4 904 15 = Xi T3 904 15 := F416.x 904 15 rfl
      have y416 : z54 = Xi S 904 23 + 1 := by omega
      clear e416
      refine y_iconst rfl ?_
      refine y_callV rfl rfl rfl (t_mo_tellRun__p hHT4 5 z54 2 ⟨by omega, by omega⟩ ⟨by omega, by omega⟩ ⟨by omega, by omega⟩ (by first | assumption | exact (RBD_FR hFT4 rfl (by assumption : RBD S))) _) ?_
      rintro _ T5 ⟨hHT5, w59, rfl, e420⟩
      have hFT5 : FR md_mo_does__18 S T5 := FR.tr hFT4 w59 rfl
      show Pl _ _ _ _ _ _ [] _ _
      have K420 : True := trivial
      have F420 := (by assumption : FR md_mo_tellRun__p T4 T5)
      have T420 : TLW T4 T5 T4 5 (Xi S 904 23 + 1) 2 := by have t := e420; rw [y416] at t; exact t
      have W420 : TLW T3 T5 S 5 (Xi S 904 23 + 1) 2 := TLW_pre T420 (fun k j h => by rcases h with h | h | h | h <;> rw [h] <;> first | exact (F416.cx 912 rfl j).1 | exact (F416.cx 914 rfl j).1 | exact (F416.cx 915 rfl j).1 | exact (F416.cx 916 rfl j).1) (fun j => (F416.cx 913 rfl j).2) l416 (fun j => by rw [(F416.cx 910 rfl j).2, (F403.cx 910 rfl j).2, (F395.cx 910 rfl j).2]) (fun j => by rw [(F416.cx 950 rfl j).1, (F403.cx 950 rfl j).1, (F395.cx 950 rfl j).1]) (fun j => by rw [(F416.cx 951 rfl j).1, (F403.cx 951 rfl j).1, (F395.cx 951 rfl j).1])
      clear e420
      refine y_goto rfl rfl ?_
      refine y_return rfl rfl ?_
      exact ⟨hHT5, hFT5, rfl, (by first | (have t := K420; exact rd18_of ha.1 A395 (fun j => ⟨(F403.cx 921 rfl j).1, (F403.cx 922 rfl j).1, (F403.cx 924 rfl j).1⟩) (F403.x 904 23 rfl) A416 (fun j => ⟨(F420.cx 921 rfl j).1, (F420.cx 922 rfl j).1, (F420.cx 924 rfl j).1⟩) (F420.x 904 23 rfl) rfl ⟨T3, W403, W420⟩) | (exfalso; omega))⟩
    | 19, hii =>
      cases hii
      have w62 : (Xi S 904 70) = 19 := by simpa using w22
      exfalso; omega
    | 20, hii =>
      cases hii
      have w63 : (Xi S 904 70) = 20 := by simpa using w22
      exfalso; omega
    | n + 21, hii => exact absurd hii (by simp)
end
section
theorem TLR_post {S V S1 : sS} {so ix a b c n : Int} (h : TLR S V so ix a b c n) (x : ∀ k j : Nat, (k = 912 ∨ k = 914 ∨ k = 915 ∨ k = 916) → Xi S1 k j = Xi V k j) (y : ∀ j, Xj S1 913 j = Xj V 913 j) (z : Xi S1 904 15 = Xi V 904 15) : TLR S S1 so ix a b c n := by
  unfold TLR at h ⊢
  rw [z]
  simp only [x 912 _ (by omega), x 914 _ (by omega), x 915 _ (by omega), x 916 _ (by omega), y]
  exact h
/-- 19: what the reference does -/
def RD19 (S S1 : sS) : Prop := Xi S1 904 41 = Xi S 904 41 + 1 ∧ TLW S S1 S 8 (Xi S 904 41) 0 ∧ (Xi S1 936 (Xi S 904 41).toNat = r2R S 1 0 1 ∧ Xi S1 937 (Xi S 904 41).toNat = r2R S 2 0 1 ∧ Xi S1 938 (Xi S 904 41).toNat = Xi S 904 79 ∧ Xi S1 939 (Xi S 904 41).toNat = Xi S 904 80) ∧ ∀ j : Nat, j ≠ (Xi S 904 41).toNat → Xi S1 936 j = Xi S 936 j ∧ Xi S1 937 j = Xi S 937 j ∧ Xi S1 938 j = Xi S 938 j ∧ Xi S1 939 j = Xi S 939 j
theorem rd19_of {S U1 U2 U3 U4 T S1 : sS} {k1 k2 b1 b2 : Int} (e1 : U1 = uI S 936 (Xi S 904 41).toNat (Int32.ofInt k1)) (e2 : U2 = uI U1 937 (Xi S 904 41).toNat (Int32.ofInt k2)) (e3 : U3 = uI U2 938 (Xi S 904 41).toNat (Int32.ofInt b1)) (e4 : U4 = uI U3 939 (Xi S 904 41).toNat (Int32.ofInt b2)) (f : ∀ j, Xi T 936 j = Xi U4 936 j ∧ Xi T 937 j = Xi U4 937 j ∧ Xi T 938 j = Xi U4 938 j ∧ Xi T 939 j = Xi U4 939 j) (t : TLW U4 T U4 8 (Xi S 904 41) 0) (e6 : S1 = uI T 904 41 (Int32.ofInt (Xi S 904 41 + 1))) (h : 0 ≤ Xi S 904 41 ∧ Xi S 904 41 ≤ 6) (r1 : rg k1) (r2 : rg k2) (r3 : b1 = 0 ∨ b1 = 1) (r4 : b2 = 0 ∨ b2 = 1) (q1 : k1 = r2R S 1 0 1) (q2 : k2 = r2R S 2 0 1) (q3 : b1 = Xi S 904 79) (q4 : b2 = Xi S 904 80) : RD19 S S1 := by
  have g : ∀ k j : Nat, (k < 904 ∨ 904 < k) → Xi S1 k j = Xi T k j := fun k j hk => by rw [e6, Xi_ne (by omega)]
  have u : ∀ k j : Nat, k ≠ 936 → k ≠ 937 → k ≠ 938 → k ≠ 939 → Xi U4 k j = Xi S k j := fun k j h1 h2 h3 h4 => by rw [e4, Xi_ne (by omega), e3, Xi_ne (by omega), e2, Xi_ne (by omega), e1, Xi_ne (by omega)]
  have uj : ∀ k j : Nat, Xj U4 k j = Xj S k j := fun k j => by rw [e4, Xj_I, e3, Xj_I, e2, Xj_I, e1, Xj_I]
  refine ⟨?_, ?_, ⟨?_, ?_, ?_, ?_⟩, fun j hj => ⟨?_, ?_, ?_, ?_⟩⟩
  · rw [e6]; exact Xi_same (by unfold rg; omega)
  · have w := TLW_pre (Z := S) t (fun k j hk => u k j (by omega) (by omega) (by omega) (by omega)) (fun j => uj 913 j) (u 904 15 (by omega) (by omega) (by omega) (by omega)) (fun j => uj 910 j) (fun j => u 950 j (by omega) (by omega) (by omega) (by omega)) (fun j => u 951 j (by omega) (by omega) (by omega) (by omega))
    exact TLR_post w (fun k j hk => g k j (by omega)) (fun j => by rw [e6, Xj_I]) (by rw [e6, Xi_ne (by omega)])
  · rw [g _ _ (by omega), (f _).1, e4, Xi_ne (by omega), e3, Xi_ne (by omega), e2, Xi_ne (by omega), e1, ← q1]; exact Xi_same r1
  · rw [g _ _ (by omega), (f _).2.1, e4, Xi_ne (by omega), e3, Xi_ne (by omega), e2, ← q2]; exact Xi_same r2
  · rw [g _ _ (by omega), (f _).2.2.1, e4, Xi_ne (by omega), e3, ← q3]; exact Xi_same (by unfold rg; omega)
  · rw [g _ _ (by omega), (f _).2.2.2, e4, ← q4]; exact Xi_same (by unfold rg; omega)
  · rw [g _ _ (by omega), (f _).1, e4, Xi_ne (by omega), e3, Xi_ne (by omega), e2, Xi_ne (by omega), e1, Xi_ne (by omega)]
  · rw [g _ _ (by omega), (f _).2.1, e4, Xi_ne (by omega), e3, Xi_ne (by omega), e2, Xi_ne (by omega), e1, Xi_ne (by omega)]
  · rw [g _ _ (by omega), (f _).2.2.1, e4, Xi_ne (by omega), e3, Xi_ne (by omega), e2, Xi_ne (by omega), e1, Xi_ne (by omega)]
  · rw [g _ _ (by omega), (f _).2.2.2, e4, Xi_ne (by omega), e3, Xi_ne (by omega), e2, Xi_ne (by omega), e1, Xi_ne (by omega)]

def md_mo_does__19 : List rec := [(904, 905, 15, 16), (904, 905, 16, 17), (904, 905, 18, 19), (904, 905, 19, 20), (904, 905, 23, 24), (904, 905, 30, 31), (904, 905, 32, 33), (904, 905, 41, 42), (904, 905, 47, 48), (904, 905, 49, 50), (904, 905, 51, 52), (904, 905, 55, 56), (904, 905, 60, 61), (904, 905, 64, 65), (904, 905, 73, 74), (904, 905, 105, 106), (904, 905, 106, 107), (904, 905, 113, 114), (904, 905, 117, 118), (912, 913, 0, 100000), (913, 914, 0, 100000), (914, 915, 0, 100000), (915, 916, 0, 100000), (916, 917, 0, 100000), (917, 918, 0, 100000), (918, 919, 0, 100000), (919, 920, 0, 100000), (920, 921, 0, 100000), (921, 922, 0, 100000), (922, 923, 0, 100000), (923, 924, 0, 100000), (924, 925, 0, 100000), (925, 926, 0, 100000), (926, 927, 0, 100000), (927, 928, 0, 100000), (928, 929, 0, 100000), (929, 930, 0, 100000), (930, 931, 0, 100000), (931, 932, 0, 100000), (932, 933, 0, 100000), (933, 934, 0, 100000), (934, 935, 0, 100000), (935, 936, 0, 100000), (936, 937, 0, 100000), (937, 938, 0, 100000), (938, 939, 0, 100000), (939, 940, 0, 100000), (940, 941, 0, 100000), (941, 942, 0, 100000), (942, 943, 0, 100000), (943, 944, 0, 100000), (944, 945, 0, 100000), (945, 946, 0, 100000), (946, 947, 0, 100000), (947, 948, 0, 100000), (948, 949, 0, 100000), (949, 950, 0, 100000)]
abbrev Q_mo_does__19 (S : sS) (first : Int) : pst := fun r S1 => RI S1 ∧ FR md_mo_does__19 S S1 ∧ (r = none ∧ (RD19 S S1))
set_option maxRecDepth 100000 in
theorem t_mo_does__19 {S : sS} (hH : RI S) (first : Int) (hfirst : 0 ≤ first ∧ first ≤ 5001) (hLS : LSP S) (h15 : 0 ≤ Xi S 904 15) (hRB : RBD S) (hs : Xi S 904 70 = 19) (ha : 0 ≤ Xi S 904 41 ∧ Xi S 904 41 ≤ 6) (hb : (Xi S 904 79 = 0 ∨ Xi S 904 79 = 1) ∧ (Xi S 904 80 = 0 ∨ Xi S 904 80 = 1)) (d : Nat) : Mp lay0 (d + 8) m_mo_does [.ref 904, iv first] S (Q_mo_does__19 S first) := by
  refine Mp_R rfl rfl (fun fu => ?_)
  have hF : FR md_mo_does__19 S S := FR.rf
  have w1 : -2147483648 ≤ Xi S 904 15 ∧ Xi S 904 15 ≤ 2147483647 := Xi_rgI
  have w2 : -2147483648 ≤ Xi S 904 41 ∧ Xi S 904 41 ≤ 2147483647 := Xi_rgI
  have w3 : -2147483648 ≤ Xi S 904 70 ∧ Xi S 904 70 ≤ 2147483647 := Xi_rgI
  have w4 : -2147483648 ≤ Xi S 904 79 ∧ Xi S 904 79 ≤ 2147483647 := Xi_rgI
  have w5 : -2147483648 ≤ Xi S 904 80 ∧ Xi S 904 80 ≤ 2147483647 := Xi_rgI
  have C300 : ∀ (n300 : Nat) (_ : n300 ≤ fu) (T1 : sS) (_ : RI T1) (_ : FR md_mo_does__19 S T1) (v2 : Int), (-2147483648 ≤ v2 ∧ v2 ≤ 2147483647) → ((1 : Int) = 0) → Pl n300 lay0 (d + 7) m_mo_does 300 [(0, .ref 904), (2, iv v2)] [] T1 (Q_mo_does__19 S first) := by
    intro n300
    induction n300 with
    | zero => intros; exact Pl_0
    | succ n300 ih300 =>
      intro hm300 T1 hHT1 hFT1 v2 w6 w7
      have w8 : Xi T1 904 110 = Xi S 904 110 := hFT1.x _ _ rfl
      have w9 : Xi T1 904 112 = Xi S 904 112 := hFT1.x _ _ rfl
      have w10 : Xi T1 904 142 = Xi S 904 142 := hFT1.x _ _ rfl
      have w11 : Xi T1 904 69 = Xi S 904 69 := hFT1.x _ _ rfl
      have w12 : Xi T1 904 70 = Xi S 904 70 := hFT1.x _ _ rfl
      have w13 : Xi T1 904 71 = Xi S 904 71 := hFT1.x _ _ rfl
      have w14 : Xi T1 904 72 = Xi S 904 72 := hFT1.x _ _ rfl
      have w15 : Xi T1 904 74 = Xi S 904 74 := hFT1.x _ _ rfl
      have w16 : Xi T1 904 78 = Xi S 904 78 := hFT1.x _ _ rfl
      have w17 : Xi T1 904 79 = Xi S 904 79 := hFT1.x _ _ rfl
      have w18 : Xi T1 904 80 = Xi S 904 80 := hFT1.x _ _ rfl
      have w19 : Xi T1 904 94 = Xi S 904 94 := hFT1.x _ _ rfl
      have w20 : Xi T1 951 1 = Xi S 951 1 := hFT1.x _ _ rfl
      have w21 : Xi T1 951 2 = Xi S 951 2 := hFT1.x _ _ rfl
      have w22 : Xi T1 967 0 = Xi S 967 0 := hFT1.x _ _ rfl
      have w23 : -2147483648 ≤ Xi T1 904 15 ∧ Xi T1 904 15 ≤ 2147483647 := Xi_rgI
      have w24 : -2147483648 ≤ Xi T1 904 41 ∧ Xi T1 904 41 ≤ 2147483647 := Xi_rgI
      have w25 : -2147483648 ≤ Xi T1 904 70 ∧ Xi T1 904 70 ≤ 2147483647 := Xi_rgI
      have w26 : -2147483648 ≤ Xi T1 904 79 ∧ Xi T1 904 79 ≤ 2147483647 := Xi_rgI
      have w27 : -2147483648 ≤ Xi T1 904 80 ∧ Xi T1 904 80 ≤ 2147483647 := Xi_rgI
      exfalso; omega
  refine y_aload_n rfl rfl ?_
  refine y_gfi rfl rfl rfl rfl rfl ?_
  refine y_tsw rfl rfl rfl rfl (by unfold rg; omega) (fun w28 => ?_) (fun ii tt hii w28 => ?_)
  · refine y_return rfl rfl ?_
    exact ⟨hH, hF, rfl, (by first | (have t := K498; exact R498) | (exfalso; omega))⟩
  · match ii, hii with
    | 0, hii =>
      cases hii
      have w29 : (Xi S 904 70) = 0 := by simpa using w28
      exfalso; omega
    | 1, hii =>
      cases hii
      have w30 : (Xi S 904 70) = 1 := by simpa using w28
      exfalso; omega
    | 2, hii =>
      cases hii
      have w31 : (Xi S 904 70) = 2 := by simpa using w28
      exfalso; omega
    | 3, hii =>
      cases hii
      have w32 : (Xi S 904 70) = 3 := by simpa using w28
      refine y_return rfl rfl ?_
      exact ⟨hH, hF, rfl, (by first | (have t := K498; exact R498) | (exfalso; omega))⟩
    | 4, hii =>
      cases hii
      have w33 : (Xi S 904 70) = 4 := by simpa using w28
      refine y_return rfl rfl ?_
      exact ⟨hH, hF, rfl, (by first | (have t := K498; exact R498) | (exfalso; omega))⟩
    | 5, hii =>
      cases hii
      have w34 : (Xi S 904 70) = 5 := by simpa using w28
      refine y_return rfl rfl ?_
      exact ⟨hH, hF, rfl, (by first | (have t := K498; exact R498) | (exfalso; omega))⟩
    | 6, hii =>
      cases hii
      have w35 : (Xi S 904 70) = 6 := by simpa using w28
      refine y_return rfl rfl ?_
      exact ⟨hH, hF, rfl, (by first | (have t := K498; exact R498) | (exfalso; omega))⟩
    | 7, hii =>
      cases hii
      have w36 : (Xi S 904 70) = 7 := by simpa using w28
      exfalso; omega
    | 8, hii =>
      cases hii
      have w37 : (Xi S 904 70) = 8 := by simpa using w28
      exfalso; omega
    | 9, hii =>
      cases hii
      have w38 : (Xi S 904 70) = 9 := by simpa using w28
      exfalso; omega
    | 10, hii =>
      cases hii
      have w39 : (Xi S 904 70) = 10 := by simpa using w28
      exfalso; omega
    | 11, hii =>
      cases hii
      have w40 : (Xi S 904 70) = 11 := by simpa using w28
      exfalso; omega
    | 12, hii =>
      cases hii
      have w41 : (Xi S 904 70) = 12 := by simpa using w28
      exfalso; omega
    | 13, hii =>
      cases hii
      have w42 : (Xi S 904 70) = 13 := by simpa using w28
      exfalso; omega
    | 14, hii =>
      cases hii
      have w43 : (Xi S 904 70) = 14 := by simpa using w28
      exfalso; omega
    | 15, hii =>
      cases hii
      have w44 : (Xi S 904 70) = 15 := by simpa using w28
      exfalso; omega
    | 16, hii =>
      cases hii
      have w45 : (Xi S 904 70) = 16 := by simpa using w28
      exfalso; omega
    | 17, hii =>
      cases hii
      have w46 : (Xi S 904 70) = 17 := by simpa using w28
      exfalso; omega
    | 18, hii =>
      cases hii
      have w47 : (Xi S 904 70) = 18 := by simpa using w28
      exfalso; omega
    | 19, hii =>
      cases hii
      have w48 : (Xi S 904 70) = 19 := by simpa using w28
      refine y_aload_n rfl rfl ?_
      refine y_gfr rfl rfl rfl rfl rfl (hH.r 904 42 936 rfl) ?_
      refine y_aload_n rfl rfl ?_
      refine y_gfi rfl rfl rfl rfl rfl ?_
      refine y_aload_n rfl rfl ?_
      refine y_iconst rfl ?_
      refine y_callV rfl rfl rfl (t_mo_kindOrPlural__p hH 1 ⟨by omega, by omega⟩ (by first | assumption | exact (by assumption : LSP S)) (by first | assumption | omega) (by first | assumption | exact (RBD_FR hF rfl (by assumption : RBD S))) _) ?_
      rintro _ _ ⟨rfl, z49, rfl, w49, f436⟩
      show Pl _ _ _ _ _ _ [iv z49, iv (Xi S 904 41), .ref 936] _ _
      refine y_iastoreP (n := 6) rfl rfl (by unfold rg; omega) (fun w50 w51 => ?_)
      obtain ⟨U2, eU2⟩ : ∃ T : sS, T = uI S 936 (((Xi S 904 41)).toNat) (Int32.ofInt z49) := ⟨_, rfl⟩
      rw [← eU2]
      have hHU2 : RI U2 := by rw [eU2]; exact RI_w hH
      have hFU2 : FR md_mo_does__19 S U2 := by rw [eU2]; exact FR.wI hF (mdf_i (r := (936, 937, 0, 100000)) (List.mem_of_getElem? (i := 43) rfl) (inR_i (by omega) (by omega) (by omega) (by omega)))
      have w52 : Xi U2 936 (((Xi S 904 41)).toNat) = z49 := by rw [eU2]; exact Xi_same (by unfold rg; omega)
      have w439 := eU2
      refine y_aload_n rfl rfl ?_
      refine y_gfr rfl rfl rfl rfl rfl (hHU2.r 904 43 937 rfl) ?_
      refine y_aload_n rfl rfl ?_
      refine y_gfi rfl rfl rfl rfl rfl ?_
      have w53 : (Xi U2 904 41) = (Xi S 904 41) := (show Xi U2 904 41 = Xi S 904 41 from by rw [eU2]; exact Xi_ne (by omega))
      rw [w53]
      refine y_aload_n rfl rfl ?_
      refine y_iconst rfl ?_
      have w54 : Xi U2 904 15 = Xi S 904 15 := (show Xi U2 904 15 = Xi S 904 15 from by rw [eU2]; exact Xi_ne (by omega))
      have w55 : Xi U2 904 41 = Xi S 904 41 := (show Xi U2 904 41 = Xi S 904 41 from by rw [eU2]; exact Xi_ne (by omega))
      have w56 : Xi U2 904 70 = Xi S 904 70 := (show Xi U2 904 70 = Xi S 904 70 from by rw [eU2]; exact Xi_ne (by omega))
      have w57 : Xi U2 904 79 = Xi S 904 79 := (show Xi U2 904 79 = Xi S 904 79 from by rw [eU2]; exact Xi_ne (by omega))
      have w58 : Xi U2 904 80 = Xi S 904 80 := (show Xi U2 904 80 = Xi S 904 80 from by rw [eU2]; exact Xi_ne (by omega))
      refine y_callV rfl rfl rfl (t_mo_kindOrPlural__p hHU2 2 ⟨by omega, by omega⟩ (by first | assumption | exact (LSP_FR (FR_e eU2) rfl rfl (by assumption : LSP S))) (by first | assumption | omega) (by first | assumption | exact (RBD_FR hFU2 rfl (by assumption : RBD S))) _) ?_
      rintro _ _ ⟨rfl, z59, rfl, w59, f450⟩
      show Pl _ _ _ _ _ _ [iv z59, iv (Xi S 904 41), .ref 937] _ _
      have K450 : z59 = r2R S 2 0 1 := f450.trans (r2R_FR (FR_e w439) rfl rfl)
      refine y_iastoreP (n := 6) rfl rfl (by unfold rg; omega) (fun w60 w61 => ?_)
      obtain ⟨U3, eU3⟩ : ∃ T : sS, T = uI U2 937 (((Xi S 904 41)).toNat) (Int32.ofInt z59) := ⟨_, rfl⟩
      rw [← eU3]
      have hHU3 : RI U3 := by rw [eU3]; exact RI_w hHU2
      have hFU3 : FR md_mo_does__19 S U3 := by rw [eU3]; exact FR.wI hFU2 (mdf_i (r := (937, 938, 0, 100000)) (List.mem_of_getElem? (i := 44) rfl) (inR_i (by omega) (by omega) (by omega) (by omega)))
      have w62 : Xi U3 937 (((Xi S 904 41)).toNat) = z59 := by rw [eU3]; exact Xi_same (by unfold rg; omega)
      have w453 := eU3
      refine y_aload_n rfl rfl ?_
      refine y_gfr rfl rfl rfl rfl rfl (hHU3.r 904 44 938 rfl) ?_
      refine y_aload_n rfl rfl ?_
      refine y_gfi rfl rfl rfl rfl rfl ?_
      have w63 : (Xi U3 904 41) = (Xi S 904 41) := (show Xi U3 904 41 = Xi U2 904 41 from by rw [eU3]; exact Xi_ne (by omega)).trans ((show Xi U2 904 41 = Xi S 904 41 from by rw [eU2]; exact Xi_ne (by omega)))
      rw [w63]
      refine y_aload_n rfl rfl ?_
      refine y_gfi rfl rfl rfl rfl rfl ?_
      have w64 : (Xi U3 904 79) = (Xi S 904 79) := (show Xi U3 904 79 = Xi U2 904 79 from by rw [eU3]; exact Xi_ne (by omega)).trans ((show Xi U2 904 79 = Xi S 904 79 from by rw [eU2]; exact Xi_ne (by omega)))
      rw [w64]
      refine y_bastoreZP (n := 6) rfl rfl (by unfold rg; omega) ⟨by omega, by omega⟩ (fun w65 w66 => ?_)
      obtain ⟨U4, eU4⟩ : ∃ T : sS, T = uI U3 938 (((Xi S 904 41)).toNat) (Int32.ofInt (Xi S 904 79)) := ⟨_, rfl⟩
      rw [← eU4]
      have hHU4 : RI U4 := by rw [eU4]; exact RI_w hHU3
      have hFU4 : FR md_mo_does__19 S U4 := by rw [eU4]; exact FR.wI hFU3 (mdf_i (r := (938, 939, 0, 100000)) (List.mem_of_getElem? (i := 45) rfl) (inR_i (by omega) (by omega) (by omega) (by omega)))
      have w67 : Xi U4 938 (((Xi S 904 41)).toNat) = (Xi S 904 79) := by rw [eU4]; exact Xi_same (by unfold rg; omega)
      have w466 := eU4
      refine y_aload_n rfl rfl ?_
      refine y_gfr rfl rfl rfl rfl rfl (hHU4.r 904 45 939 rfl) ?_
      refine y_aload_n rfl rfl ?_
      refine y_gfi rfl rfl rfl rfl rfl ?_
      have w68 : (Xi U4 904 41) = (Xi S 904 41) := (show Xi U4 904 41 = Xi U3 904 41 from by rw [eU4]; exact Xi_ne (by omega)).trans ( (show Xi U3 904 41 = Xi U2 904 41 from by rw [eU3]; exact Xi_ne (by omega)).trans ((show Xi U2 904 41 = Xi S 904 41 from by rw [eU2]; exact Xi_ne (by omega))))
      rw [w68]
      refine y_aload_n rfl rfl ?_
      refine y_gfi rfl rfl rfl rfl rfl ?_
      have w69 : (Xi U4 904 80) = (Xi S 904 80) := (show Xi U4 904 80 = Xi U3 904 80 from by rw [eU4]; exact Xi_ne (by omega)).trans ( (show Xi U3 904 80 = Xi U2 904 80 from by rw [eU3]; exact Xi_ne (by omega)).trans ((show Xi U2 904 80 = Xi S 904 80 from by rw [eU2]; exact Xi_ne (by omega))))
      rw [w69]
      refine y_bastoreZP (n := 6) rfl rfl (by unfold rg; omega) ⟨by omega, by omega⟩ (fun w70 w71 => ?_)
      obtain ⟨U5, eU5⟩ : ∃ T : sS, T = uI U4 939 (((Xi S 904 41)).toNat) (Int32.ofInt (Xi S 904 80)) := ⟨_, rfl⟩
      rw [← eU5]
      have hHU5 : RI U5 := by rw [eU5]; exact RI_w hHU4
      have hFU5 : FR md_mo_does__19 S U5 := by rw [eU5]; exact FR.wI hFU4 (mdf_i (r := (939, 940, 0, 100000)) (List.mem_of_getElem? (i := 46) rfl) (inR_i (by omega) (by omega) (by omega) (by omega)))
      have w72 : Xi U5 939 (((Xi S 904 41)).toNat) = (Xi S 904 80) := by rw [eU5]; exact Xi_same (by unfold rg; omega)
      have w479 := eU5
      refine y_aload_n rfl rfl ?_
      refine y_bipush rfl rfl ?_
      refine y_aload_n rfl rfl ?_
      refine y_gfi rfl rfl rfl rfl rfl ?_
      have w73 : (Xi U5 904 41) = (Xi S 904 41) := (show Xi U5 904 41 = Xi U4 904 41 from by rw [eU5]; exact Xi_ne (by omega)).trans ( (show Xi U4 904 41 = Xi U3 904 41 from by rw [eU4]; exact Xi_ne (by omega)).trans ( (show Xi U3 904 41 = Xi U2 904 41 from by rw [eU3]; exact Xi_ne (by omega)).trans ((show Xi U2 904 41 = Xi S 904 41 from by rw [eU2]; exact Xi_ne (by omega)))))
      rw [w73]
      refine y_iconst rfl ?_
      have w74 : Xi U5 904 15 = Xi S 904 15 := (show Xi U5 904 15 = Xi U4 904 15 from by rw [eU5]; exact Xi_ne (by omega)).trans ( (show Xi U4 904 15 = Xi U3 904 15 from by rw [eU4]; exact Xi_ne (by omega)).trans ( (show Xi U3 904 15 = Xi U2 904 15 from by rw [eU3]; exact Xi_ne (by omega)).trans ((show Xi U2 904 15 = Xi S 904 15 from by rw [eU2]; exact Xi_ne (by omega)))))
      have w75 : Xi U5 904 41 = Xi S 904 41 := (show Xi U5 904 41 = Xi U4 904 41 from by rw [eU5]; exact Xi_ne (by omega)).trans ( (show Xi U4 904 41 = Xi U3 904 41 from by rw [eU4]; exact Xi_ne (by omega)).trans ( (show Xi U3 904 41 = Xi U2 904 41 from by rw [eU3]; exact Xi_ne (by omega)).trans ((show Xi U2 904 41 = Xi S 904 41 from by rw [eU2]; exact Xi_ne (by omega)))))
      have w76 : Xi U5 904 70 = Xi S 904 70 := (show Xi U5 904 70 = Xi U4 904 70 from by rw [eU5]; exact Xi_ne (by omega)).trans ( (show Xi U4 904 70 = Xi U3 904 70 from by rw [eU4]; exact Xi_ne (by omega)).trans ( (show Xi U3 904 70 = Xi U2 904 70 from by rw [eU3]; exact Xi_ne (by omega)).trans ((show Xi U2 904 70 = Xi S 904 70 from by rw [eU2]; exact Xi_ne (by omega)))))
      have w77 : Xi U5 904 79 = Xi S 904 79 := (show Xi U5 904 79 = Xi U4 904 79 from by rw [eU5]; exact Xi_ne (by omega)).trans ( (show Xi U4 904 79 = Xi U3 904 79 from by rw [eU4]; exact Xi_ne (by omega)).trans ( (show Xi U3 904 79 = Xi U2 904 79 from by rw [eU3]; exact Xi_ne (by omega)).trans ((show Xi U2 904 79 = Xi S 904 79 from by rw [eU2]; exact Xi_ne (by omega)))))
      have w78 : Xi U5 904 80 = Xi S 904 80 := (show Xi U5 904 80 = Xi U4 904 80 from by rw [eU5]; exact Xi_ne (by omega)).trans ( (show Xi U4 904 80 = Xi U3 904 80 from by rw [eU4]; exact Xi_ne (by omega)).trans ( (show Xi U3 904 80 = Xi U2 904 80 from by rw [eU3]; exact Xi_ne (by omega)).trans ((show Xi U2 904 80 = Xi S 904 80 from by rw [eU2]; exact Xi_ne (by omega)))))
      refine y_callV rfl rfl rfl (t_mo_tellRun__p hHU5 8 (Xi S 904 41) 0 ⟨by omega, by omega⟩ ⟨by omega, by omega⟩ ⟨by omega, by omega⟩ (by first | assumption | exact (RBD_FR hFU5 rfl (by assumption : RBD S))) _) ?_
      rintro _ T6 ⟨hHT6, w80, rfl, e488⟩
      have hFT6 : FR md_mo_does__19 S T6 := FR.tr hFU5 w80 rfl
      show Pl _ _ _ _ _ _ [] _ _
      have F488 := (by assumption : FR md_mo_tellRun__p U5 T6)
      have T488 : TLW U5 T6 U5 8 (Xi S 904 41) 0 := e488
      clear e488
      refine y_aload_n rfl rfl ?_
      refine y_dup rfl rfl ?_
      refine y_gfi rfl rfl rfl rfl rfl ?_
      have w81 : (Xi T6 904 41) = (Xi S 904 41) := (show Xi T6 904 41 = Xi U5 904 41 from w80.x _ _ rfl).trans ( (show Xi U5 904 41 = Xi U4 904 41 from by rw [eU5]; exact Xi_ne (by omega)).trans ( (show Xi U4 904 41 = Xi U3 904 41 from by rw [eU4]; exact Xi_ne (by omega)).trans ( (show Xi U3 904 41 = Xi U2 904 41 from by rw [eU3]; exact Xi_ne (by omega)).trans ((show Xi U2 904 41 = Xi S 904 41 from by rw [eU2]; exact Xi_ne (by omega))))))
      rw [w81]
      refine y_iconst rfl ?_
      refine y_iadd rfl ?_
      refine y_pfi rfl rfl rfl rfl ?_
      obtain ⟨U7, eU7⟩ : ∃ T : sS, T = uI T6 904 41 (Int32.ofInt ((Xi S 904 41) + 1)) := ⟨_, rfl⟩
      rw [← eU7]
      have hHU7 : RI U7 := by rw [eU7]; exact RI_w hHT6
      have hFU7 : FR md_mo_does__19 S U7 := by rw [eU7]; exact FR.wI hFT6 (mdf_i (r := (904, 905, 41, 42)) (List.mem_of_getElem? (i := 7) rfl) (inR_i (by omega) (by omega) (by omega) (by omega)))
      have w82 : Xi U7 904 41 = ((Xi S 904 41) + 1) := by rw [eU7]; exact Xi_same (by unfold rg; omega)
      have K498 : True := trivial
      have R498 : RD19 S U7 := rd19_of w439 w453 w466 w479 (fun j => ⟨(F488.cx 936 rfl j).1, (F488.cx 937 rfl j).1, (F488.cx 938 rfl j).1, (F488.cx 939 rfl j).1⟩) T488 eU7 ha (by unfold rg; omega) (by unfold rg; omega) (by omega) (by omega) f436 K450 (by first | rfl | omega) (by first | rfl | omega)
      refine y_goto rfl rfl ?_
      refine y_return rfl rfl ?_
      exact ⟨hHU7, hFU7, rfl, (by first | (have t := K498; exact R498) | (exfalso; omega))⟩
    | 20, hii =>
      cases hii
      have w87 : (Xi S 904 70) = 20 := by simpa using w28
      exfalso; omega
    | n + 21, hii => exact absurd hii (by simp)
end
section
/-- 8: what the reference notes -/
def RPL (S : sS) (x : Int × Int × Int) : Prop :=
  (r2R S 0 0 1 = -1 → r2R S 0 2 3 = -1 → NTB x 4 (pR S 0)) ∧
  (¬ (r2R S 0 0 1 = -1 ∧ r2R S 0 2 3 = -1) → ¬ nwR0 S 1 → NTB x 3 (pR S 1)) ∧
  (¬ (r2R S 0 0 1 = -1 ∧ r2R S 0 2 3 = -1) → nwR0 S 1 → x.1 = 0)
theorem rpl_of {S : sS} {x0 x1 x2 : Int × Int × Int} (h0 : x0.1 = 0) (h1 : r2R S 0 0 1 = -1 → r2R S 0 2 3 = -1 → x1 = ntF x0 4 (pR S 0)) (g1 : ¬ (r2R S 0 0 1 = -1 ∧ r2R S 0 2 3 = -1) → x1 = x0) (y2 : nwR0 S 1 → x2 = x1) (n2 : ¬ nwR0 S 1 → x2 = ntF x1 3 (pR S 1)) (p1 : pR S 0 < pR S 1) : RPL S x2 := by
  refine ⟨fun a b => ?_, fun a n => ?_, fun a n => ?_⟩
  · by_cases n : nwR0 S 1
    · rw [y2 n, h1 a b]; exact ntb_1 h0
    · rw [n2 n, h1 a b]; exact ntb_k (ntb_1 h0) (by decide) p1
  · rw [n2 n, g1 a]; exact ntb_1 h0
  · rw [y2 n, g1 a]; exact h0

def md_mo_asked__8 : List rec := [(904, 905, 64, 65), (904, 905, 104, 105), (904, 905, 105, 106), (904, 905, 106, 107), (904, 905, 108, 109), (904, 905, 109, 110), (904, 905, 110, 111), (904, 905, 112, 113), (904, 905, 113, 114), (904, 905, 115, 116), (904, 905, 116, 117), (904, 905, 117, 118), (904, 905, 125, 126), (904, 905, 128, 129), (904, 905, 129, 130), (904, 905, 130, 131), (904, 905, 142, 143), (904, 905, 144, 145), (904, 905, 146, 147), (904, 905, 147, 148), (904, 905, 150, 151), (904, 905, 151, 152), (904, 905, 153, 154), (904, 905, 154, 155), (904, 905, 156, 157), (904, 905, 157, 158), (904, 905, 158, 159), (904, 905, 160, 161), (966, 967, 0, 100000), (967, 968, 0, 100000), (968, 969, 0, 100000), (969, 970, 0, 100000), (970, 971, 0, 100000), (971, 972, 0, 100000), (972, 973, 0, 100000), (973, 974, 0, 100000), (974, 975, 0, 100000), (975, 976, 0, 100000), (976, 977, 0, 100000), (977, 978, 0, 100000), (978, 979, 0, 100000), (979, 980, 0, 100000), (980, 981, 0, 100000), (981, 982, 0, 100000), (982, 983, 0, 100000), (983, 984, 0, 100000), (984, 985, 0, 100000), (985, 986, 0, 100000), (986, 987, 0, 100000), (987, 988, 0, 100000), (988, 989, 0, 100000), (989, 990, 0, 100000), (990, 991, 0, 100000), (991, 992, 0, 100000), (992, 993, 0, 100000), (993, 994, 0, 100000), (994, 995, 0, 100000)]
abbrev Q_mo_asked__8 (S : sS) (first : Int) : pst := fun r S1 => RI S1 ∧ FR md_mo_asked__8 S S1 ∧ (r = none ∧ (RPL S (NT3 S1)))
set_option maxRecDepth 100000 in
theorem t_mo_asked__8 {S : sS} (hH : RI S) (first : Int) (hfirst : 0 ≤ first ∧ first ≤ 5001) (hLS : LSP S) (h15 : 0 ≤ Xi S 904 15) (hRB : RBD S) (hs : Xi S 904 70 = 8) (hp : pR S 0 < pR S 1) (d : Nat) : Mp lay0 (d + 13) m_mo_asked [.ref 904, iv first] S (Q_mo_asked__8 S first) := by
  refine Mp_R rfl rfl (fun fu => ?_)
  have hF : FR md_mo_asked__8 S S := FR.rf
  have w1 : -2147483648 ≤ Xi S 904 104 ∧ Xi S 904 104 ≤ 2147483647 := Xi_rgI
  have w2 : -2147483648 ≤ Xi S 904 105 ∧ Xi S 904 105 ≤ 2147483647 := Xi_rgI
  have w3 : -2147483648 ≤ Xi S 904 106 ∧ Xi S 904 106 ≤ 2147483647 := Xi_rgI
  have w4 : -2147483648 ≤ Xi S 904 108 ∧ Xi S 904 108 ≤ 2147483647 := Xi_rgI
  have w5 : -2147483648 ≤ Xi S 904 15 ∧ Xi S 904 15 ≤ 2147483647 := Xi_rgI
  have w6 : -2147483648 ≤ Xi S 904 70 ∧ Xi S 904 70 ≤ 2147483647 := Xi_rgI
  refine y_aload_n rfl rfl ?_
  refine y_iconst rfl ?_
  refine y_pfi rfl rfl rfl rfl ?_
  obtain ⟨U1, eU1⟩ : ∃ T : sS, T = uI S 904 106 (Int32.ofInt 0) := ⟨_, rfl⟩
  rw [← eU1]
  have hHU1 : RI U1 := by rw [eU1]; exact RI_w hH
  have hFU1 : FR md_mo_asked__8 S U1 := by rw [eU1]; exact FR.wI hF (mdf_i (r := (904, 905, 106, 107)) (List.mem_of_getElem? (i := 3) rfl) (inR_i (by omega) (by omega) (by omega) (by omega)))
  have w7 : Xi U1 904 106 = 0 := by rw [eU1]; exact Xi_same (by unfold rg; omega)
  refine y_aload_n rfl rfl ?_
  refine y_iconst rfl ?_
  refine y_pfi rfl rfl rfl rfl ?_
  obtain ⟨U2, eU2⟩ : ∃ T : sS, T = uI U1 904 108 (Int32.ofInt 0) := ⟨_, rfl⟩
  rw [← eU2]
  have hHU2 : RI U2 := by rw [eU2]; exact RI_w hHU1
  have hFU2 : FR md_mo_asked__8 S U2 := by rw [eU2]; exact FR.wI hFU1 (mdf_i (r := (904, 905, 108, 109)) (List.mem_of_getElem? (i := 4) rfl) (inR_i (by omega) (by omega) (by omega) (by omega)))
  have w8 : Xi U2 904 108 = 0 := by rw [eU2]; exact Xi_same (by unfold rg; omega)
  refine y_aload_n rfl rfl ?_
  refine y_iconst rfl ?_
  refine y_pfi rfl rfl rfl rfl ?_
  obtain ⟨U3, eU3⟩ : ∃ T : sS, T = uI U2 904 115 (Int32.ofInt (-1)) := ⟨_, rfl⟩
  rw [← eU3]
  have hHU3 : RI U3 := by rw [eU3]; exact RI_w hHU2
  have hFU3 : FR md_mo_asked__8 S U3 := by rw [eU3]; exact FR.wI hFU2 (mdf_i (r := (904, 905, 115, 116)) (List.mem_of_getElem? (i := 9) rfl) (inR_i (by omega) (by omega) (by omega) (by omega)))
  have w9 : Xi U3 904 115 = (-1) := by rw [eU3]; exact Xi_same (by unfold rg; omega)
  refine y_aload_n rfl rfl ?_
  refine y_iconst rfl ?_
  refine y_pfi rfl rfl rfl rfl ?_
  obtain ⟨U4, eU4⟩ : ∃ T : sS, T = uI U3 904 116 (Int32.ofInt (-1)) := ⟨_, rfl⟩
  rw [← eU4]
  have hHU4 : RI U4 := by rw [eU4]; exact RI_w hHU3
  have hFU4 : FR md_mo_asked__8 S U4 := by rw [eU4]; exact FR.wI hFU3 (mdf_i (r := (904, 905, 116, 117)) (List.mem_of_getElem? (i := 10) rfl) (inR_i (by omega) (by omega) (by omega) (by omega)))
  have w10 : Xi U4 904 116 = (-1) := by rw [eU4]; exact Xi_same (by unfold rg; omega)
  refine y_aload_n rfl rfl ?_
  refine y_gfi rfl rfl rfl rfl rfl ?_
  have w11 : (Xi U4 904 70) = (Xi S 904 70) := (show Xi U4 904 70 = Xi U3 904 70 from by rw [eU4]; exact Xi_ne (by omega)).trans ( (show Xi U3 904 70 = Xi U2 904 70 from by rw [eU3]; exact Xi_ne (by omega)).trans ( (show Xi U2 904 70 = Xi U1 904 70 from by rw [eU2]; exact Xi_ne (by omega)).trans ((show Xi U1 904 70 = Xi S 904 70 from by rw [eU1]; exact Xi_ne (by omega)))))
  rw [w11]
  refine y_tsw rfl rfl rfl rfl (by unfold rg; omega) (fun w12 => ?_) (fun ii tt hii w12 => ?_)
  · exfalso; omega
  · match ii, hii with
    | 0, hii =>
      cases hii
      have w13 : (Xi S 904 70) = 0 := by simpa using w12
      exfalso; omega
    | 1, hii =>
      cases hii
      have w14 : (Xi S 904 70) = 1 := by simpa using w12
      exfalso; omega
    | 2, hii =>
      cases hii
      have w15 : (Xi S 904 70) = 2 := by simpa using w12
      exfalso; omega
    | 3, hii =>
      cases hii
      have w16 : (Xi S 904 70) = 3 := by simpa using w12
      exfalso; omega
    | 4, hii =>
      cases hii
      have w17 : (Xi S 904 70) = 4 := by simpa using w12
      exfalso; omega
    | 5, hii =>
      cases hii
      have w18 : (Xi S 904 70) = 5 := by simpa using w12
      exfalso; omega
    | 6, hii =>
      cases hii
      have w19 : (Xi S 904 70) = 6 := by simpa using w12
      exfalso; omega
    | 7, hii =>
      cases hii
      have w20 : (Xi S 904 70) = 7 := by simpa using w12
      exfalso; omega
    | 8, hii =>
      cases hii
      have w21 : (Xi S 904 70) = 8 := by simpa using w12
      refine y_aload_n rfl rfl ?_
      refine y_aload_n rfl rfl ?_
      refine y_iconst rfl ?_
      have w22 : Xi U4 904 104 = Xi S 904 104 := (show Xi U4 904 104 = Xi U3 904 104 from by rw [eU4]; exact Xi_ne (by omega)).trans ( (show Xi U3 904 104 = Xi U2 904 104 from by rw [eU3]; exact Xi_ne (by omega)).trans ( (show Xi U2 904 104 = Xi U1 904 104 from by rw [eU2]; exact Xi_ne (by omega)).trans ((show Xi U1 904 104 = Xi S 904 104 from by rw [eU1]; exact Xi_ne (by omega)))))
      have w23 : Xi U4 904 105 = Xi S 904 105 := (show Xi U4 904 105 = Xi U3 904 105 from by rw [eU4]; exact Xi_ne (by omega)).trans ( (show Xi U3 904 105 = Xi U2 904 105 from by rw [eU3]; exact Xi_ne (by omega)).trans ( (show Xi U2 904 105 = Xi U1 904 105 from by rw [eU2]; exact Xi_ne (by omega)).trans ((show Xi U1 904 105 = Xi S 904 105 from by rw [eU1]; exact Xi_ne (by omega)))))
      have w24 : Xi U4 904 106 = Xi U1 904 106 := (show Xi U4 904 106 = Xi U3 904 106 from by rw [eU4]; exact Xi_ne (by omega)).trans ( (show Xi U3 904 106 = Xi U2 904 106 from by rw [eU3]; exact Xi_ne (by omega)).trans ((show Xi U2 904 106 = Xi U1 904 106 from by rw [eU2]; exact Xi_ne (by omega))))
      have w25 : Xi U4 904 108 = Xi U2 904 108 := (show Xi U4 904 108 = Xi U3 904 108 from by rw [eU4]; exact Xi_ne (by omega)).trans ((show Xi U3 904 108 = Xi U2 904 108 from by rw [eU3]; exact Xi_ne (by omega)))
      have w26 : Xi U4 904 15 = Xi S 904 15 := (show Xi U4 904 15 = Xi U3 904 15 from by rw [eU4]; exact Xi_ne (by omega)).trans ( (show Xi U3 904 15 = Xi U2 904 15 from by rw [eU3]; exact Xi_ne (by omega)).trans ( (show Xi U2 904 15 = Xi U1 904 15 from by rw [eU2]; exact Xi_ne (by omega)).trans ((show Xi U1 904 15 = Xi S 904 15 from by rw [eU1]; exact Xi_ne (by omega)))))
      have w27 : Xi U4 904 70 = Xi S 904 70 := (show Xi U4 904 70 = Xi U3 904 70 from by rw [eU4]; exact Xi_ne (by omega)).trans ( (show Xi U3 904 70 = Xi U2 904 70 from by rw [eU3]; exact Xi_ne (by omega)).trans ( (show Xi U2 904 70 = Xi U1 904 70 from by rw [eU2]; exact Xi_ne (by omega)).trans ((show Xi U1 904 70 = Xi S 904 70 from by rw [eU1]; exact Xi_ne (by omega)))))
      refine y_callV rfl rfl rfl (t_mo_kindOrPlural__p hHU4 0 ⟨by omega, by omega⟩ (by first | assumption | exact (LSP_FR hFU4 rfl rfl (by assumption : LSP S))) (by first | assumption | omega) (by first | assumption | exact (RBD_FR hFU4 rfl (by assumption : RBD S))) _) ?_
      rintro _ _ ⟨rfl, z28, rfl, w28, f193⟩
      show Pl _ _ _ _ _ _ [iv z28, .ref 904] _ _
      have K193 : z28 = r2R S 0 0 1 := by have t := f193; rw [r2R_FR hFU4 rfl rfl] at t; exact t
      clear f193
      refine y_iconst rfl ?_
      refine y_icmp_ne rfl rfl (by unfold rg; omega) (by unfold rg; omega) (fun w29 => ?_) (fun w30 => ?_)
      · refine y_iconst rfl ?_
        refine y_goto rfl rfl ?_
        refine y_iconst rfl ?_
        refine y_aload_n rfl rfl ?_
        refine y_gfr rfl rfl rfl rfl rfl (hHU4.r 904 67 950 rfl) ?_
        refine y_iconst rfl ?_
        refine y_ialoadP (n := 2600) rfl rfl (by unfold rg; omega) (fun w31 w32 => ?_)
        have w33 : -2147483648 ≤ (Xi U4 950 ((0 : Int).toNat)) ∧ (Xi U4 950 ((0 : Int).toNat)) ≤ 2147483647 := Xi_rgI
        have w34 : (Xi U4 950 ((0 : Int).toNat)) = Xi U4 950 0 := rfl
        refine y_callV rfl rfl rfl (t_mo_need__p hHU4 1 4 (Xi U4 950 ((0 : Int).toNat)) ⟨by omega, by omega⟩ ⟨by omega, by omega⟩ ⟨by omega, by omega⟩ _) ?_
        rintro _ T5 ⟨hHT5, w42, rfl, nt221_⟩
        have hFT5 : FR md_mo_asked__8 S T5 := FR.tr hFU4 w42 rfl
        show Pl _ _ _ _ _ _ [] _ _
        have z221 : (NT3 U4).1 = 0 := by show Xi U4 904 106 = 0; omega
        have t221 := nt221_
        rw [(hFU4.cx 908 rfl _).1, (hFU4.cx 950 rfl _).1] at t221
        have h221 : Hid (r2R S 0 0 1 = -1 → r2R S 0 2 3 = -1 → NT3 T5 = ntF (NT3 U4) 4 (pR S 0)) := fun a b => by first | (rw [if_pos (show (0 : Int) = 0 from rfl)] at t221; exact t221) | (exfalso; omega)
        have g221 : Hid (¬ (r2R S 0 0 1 = -1 ∧ r2R S 0 2 3 = -1) → NT3 T5 = NT3 U4) := fun a => by first | (rw [if_neg (show ¬ (1 : Int) = 0 by decide)] at t221; exact t221) | exact absurd ⟨by omega, by omega⟩ a
        clear nt221_ t221
        refine y_aload_n rfl rfl ?_
        refine y_iconst rfl ?_
        refine y_iconst rfl ?_
        refine y_iconst rfl ?_
        have w43 : Xi T5 904 108 = Xi U2 904 108 := (show Xi T5 904 108 = Xi U4 904 108 from w42.x _ _ rfl).trans ( (show Xi U4 904 108 = Xi U3 904 108 from by rw [eU4]; exact Xi_ne (by omega)).trans ((show Xi U3 904 108 = Xi U2 904 108 from by rw [eU3]; exact Xi_ne (by omega))))
        have w44 : Xi T5 904 15 = Xi S 904 15 := (show Xi T5 904 15 = Xi U4 904 15 from w42.x _ _ rfl).trans ( (show Xi U4 904 15 = Xi U3 904 15 from by rw [eU4]; exact Xi_ne (by omega)).trans ( (show Xi U3 904 15 = Xi U2 904 15 from by rw [eU3]; exact Xi_ne (by omega)).trans ( (show Xi U2 904 15 = Xi U1 904 15 from by rw [eU2]; exact Xi_ne (by omega)).trans ((show Xi U1 904 15 = Xi S 904 15 from by rw [eU1]; exact Xi_ne (by omega))))))
        have w45 : Xi T5 904 70 = Xi S 904 70 := (show Xi T5 904 70 = Xi U4 904 70 from w42.x _ _ rfl).trans ( (show Xi U4 904 70 = Xi U3 904 70 from by rw [eU4]; exact Xi_ne (by omega)).trans ( (show Xi U3 904 70 = Xi U2 904 70 from by rw [eU3]; exact Xi_ne (by omega)).trans ( (show Xi U2 904 70 = Xi U1 904 70 from by rw [eU2]; exact Xi_ne (by omega)).trans ((show Xi U1 904 70 = Xi S 904 70 from by rw [eU1]; exact Xi_ne (by omega))))))
        refine y_callV rfl rfl rfl (t_mo_mustBeNew__p hHT5 1 0 1 ⟨by omega, by omega⟩ ⟨by omega, by omega⟩ ⟨by omega, by omega⟩ (by first | assumption | exact (LSP_FR hFT5 rfl rfl (by assumption : LSP S))) (by first | assumption | omega) (by first | assumption | exact (RBD_FR hFT5 rfl (by assumption : RBD S))) (by first | assumption | omega) _) ?_
        rintro _ T6 ⟨hHT6, w47, rfl, y228_, m228_⟩
        have hFT6 : FR md_mo_asked__8 S T6 := FR.tr hFT5 w47 rfl
        show Pl _ _ _ _ _ _ [] _ _
        have q228 : Hid (nwR T5 1 ↔ nwR0 S 1) := nwR_0 (fun j => (hFT5.cx 951 rfl j).1) (rmR_FR hFT5 rfl rfl) (by omega)
        have y228 : Hid (nwR0 S 1 → NT3 T6 = NT3 T5) := fun q => by have t := (y228_ (q228.o.2 q)).1; rw [if_pos (by decide)] at t; exact t
        have m228 : Hid (¬ nwR0 S 1 → NT3 T6 = ntF (NT3 T5) 3 (pR S 1)) := fun q => by have t := (m228_ (fun w => q (q228.o.1 w))).1; rw [(hFT5.cx 908 rfl _).1, (hFT5.cx 950 rfl _).1] at t; exact t
        clear y228_ m228_
        refine y_goto rfl rfl ?_
        refine y_return rfl rfl ?_
        exact ⟨hHT6, hFT6, rfl, (rpl_of z221 h221.o g221.o y228.o m228.o hp)⟩
      · refine y_aload_n rfl rfl ?_
        refine y_iconst rfl ?_
        refine y_callV rfl rfl rfl (t_mo_typeOrPlural__p hHU4 0 ⟨by omega, by omega⟩ (by first | assumption | exact (LSP_FR hFU4 rfl rfl (by assumption : LSP S))) (by first | assumption | omega) (by first | assumption | exact (RBD_FR hFU4 rfl (by assumption : RBD S))) _) ?_
        rintro _ _ ⟨rfl, z56, rfl, w56, f202⟩
        show Pl _ _ _ _ _ _ [iv z56, .ref 904] _ _
        have K202 : z56 = r2R S 0 2 3 := by have t := f202; rw [r2R_FR hFU4 rfl rfl] at t; exact t
        clear f202
        refine y_iconst rfl ?_
        refine y_icmp_eq rfl rfl (by unfold rg; omega) (by unfold rg; omega) (fun w57 => ?_) (fun w58 => ?_)
        · refine y_iconst rfl ?_
          refine y_iconst rfl ?_
          refine y_aload_n rfl rfl ?_
          refine y_gfr rfl rfl rfl rfl rfl (hHU4.r 904 67 950 rfl) ?_
          refine y_iconst rfl ?_
          refine y_ialoadP (n := 2600) rfl rfl (by unfold rg; omega) (fun w59 w60 => ?_)
          have w61 : -2147483648 ≤ (Xi U4 950 ((0 : Int).toNat)) ∧ (Xi U4 950 ((0 : Int).toNat)) ≤ 2147483647 := Xi_rgI
          have w62 : (Xi U4 950 ((0 : Int).toNat)) = Xi U4 950 0 := rfl
          refine y_callV rfl rfl rfl (t_mo_need__p hHU4 0 4 (Xi U4 950 ((0 : Int).toNat)) ⟨by omega, by omega⟩ ⟨by omega, by omega⟩ ⟨by omega, by omega⟩ _) ?_
          rintro _ T7 ⟨hHT7, w70, rfl, nt221_⟩
          have hFT7 : FR md_mo_asked__8 S T7 := FR.tr hFU4 w70 rfl
          show Pl _ _ _ _ _ _ [] _ _
          have z221 : (NT3 U4).1 = 0 := by show Xi U4 904 106 = 0; omega
          have t221 := nt221_
          rw [(hFU4.cx 908 rfl _).1, (hFU4.cx 950 rfl _).1] at t221
          have h221 : Hid (r2R S 0 0 1 = -1 → r2R S 0 2 3 = -1 → NT3 T7 = ntF (NT3 U4) 4 (pR S 0)) := fun a b => by first | (rw [if_pos (show (0 : Int) = 0 from rfl)] at t221; exact t221) | (exfalso; omega)
          have g221 : Hid (¬ (r2R S 0 0 1 = -1 ∧ r2R S 0 2 3 = -1) → NT3 T7 = NT3 U4) := fun a => by first | (rw [if_neg (show ¬ (1 : Int) = 0 by decide)] at t221; exact t221) | exact absurd ⟨by omega, by omega⟩ a
          clear nt221_ t221
          refine y_aload_n rfl rfl ?_
          refine y_iconst rfl ?_
          refine y_iconst rfl ?_
          refine y_iconst rfl ?_
          have w71 : Xi T7 904 108 = Xi U2 904 108 := (show Xi T7 904 108 = Xi U4 904 108 from w70.x _ _ rfl).trans ( (show Xi U4 904 108 = Xi U3 904 108 from by rw [eU4]; exact Xi_ne (by omega)).trans ((show Xi U3 904 108 = Xi U2 904 108 from by rw [eU3]; exact Xi_ne (by omega))))
          have w72 : Xi T7 904 15 = Xi S 904 15 := (show Xi T7 904 15 = Xi U4 904 15 from w70.x _ _ rfl).trans ( (show Xi U4 904 15 = Xi U3 904 15 from by rw [eU4]; exact Xi_ne (by omega)).trans ( (show Xi U3 904 15 = Xi U2 904 15 from by rw [eU3]; exact Xi_ne (by omega)).trans ( (show Xi U2 904 15 = Xi U1 904 15 from by rw [eU2]; exact Xi_ne (by omega)).trans ((show Xi U1 904 15 = Xi S 904 15 from by rw [eU1]; exact Xi_ne (by omega))))))
          have w73 : Xi T7 904 70 = Xi S 904 70 := (show Xi T7 904 70 = Xi U4 904 70 from w70.x _ _ rfl).trans ( (show Xi U4 904 70 = Xi U3 904 70 from by rw [eU4]; exact Xi_ne (by omega)).trans ( (show Xi U3 904 70 = Xi U2 904 70 from by rw [eU3]; exact Xi_ne (by omega)).trans ( (show Xi U2 904 70 = Xi U1 904 70 from by rw [eU2]; exact Xi_ne (by omega)).trans ((show Xi U1 904 70 = Xi S 904 70 from by rw [eU1]; exact Xi_ne (by omega))))))
          refine y_callV rfl rfl rfl (t_mo_mustBeNew__p hHT7 1 0 1 ⟨by omega, by omega⟩ ⟨by omega, by omega⟩ ⟨by omega, by omega⟩ (by first | assumption | exact (LSP_FR hFT7 rfl rfl (by assumption : LSP S))) (by first | assumption | omega) (by first | assumption | exact (RBD_FR hFT7 rfl (by assumption : RBD S))) (by first | assumption | omega) _) ?_
          rintro _ T8 ⟨hHT8, w75, rfl, y228_, m228_⟩
          have hFT8 : FR md_mo_asked__8 S T8 := FR.tr hFT7 w75 rfl
          show Pl _ _ _ _ _ _ [] _ _
          have q228 : Hid (nwR T7 1 ↔ nwR0 S 1) := nwR_0 (fun j => (hFT7.cx 951 rfl j).1) (rmR_FR hFT7 rfl rfl) (by omega)
          have y228 : Hid (nwR0 S 1 → NT3 T8 = NT3 T7) := fun q => by have t := (y228_ (q228.o.2 q)).1; rw [if_pos (by decide)] at t; exact t
          have m228 : Hid (¬ nwR0 S 1 → NT3 T8 = ntF (NT3 T7) 3 (pR S 1)) := fun q => by have t := (m228_ (fun w => q (q228.o.1 w))).1; rw [(hFT7.cx 908 rfl _).1, (hFT7.cx 950 rfl _).1] at t; exact t
          clear y228_ m228_
          refine y_goto rfl rfl ?_
          refine y_return rfl rfl ?_
          exact ⟨hHT8, hFT8, rfl, (rpl_of z221 h221.o g221.o y228.o m228.o hp)⟩
        · refine y_iconst rfl ?_
          refine y_goto rfl rfl ?_
          refine y_iconst rfl ?_
          refine y_aload_n rfl rfl ?_
          refine y_gfr rfl rfl rfl rfl rfl (hHU4.r 904 67 950 rfl) ?_
          refine y_iconst rfl ?_
          refine y_ialoadP (n := 2600) rfl rfl (by unfold rg; omega) (fun w78 w79 => ?_)
          have w80 : -2147483648 ≤ (Xi U4 950 ((0 : Int).toNat)) ∧ (Xi U4 950 ((0 : Int).toNat)) ≤ 2147483647 := Xi_rgI
          have w81 : (Xi U4 950 ((0 : Int).toNat)) = Xi U4 950 0 := rfl
          refine y_callV rfl rfl rfl (t_mo_need__p hHU4 1 4 (Xi U4 950 ((0 : Int).toNat)) ⟨by omega, by omega⟩ ⟨by omega, by omega⟩ ⟨by omega, by omega⟩ _) ?_
          rintro _ T9 ⟨hHT9, w89, rfl, nt221_⟩
          have hFT9 : FR md_mo_asked__8 S T9 := FR.tr hFU4 w89 rfl
          show Pl _ _ _ _ _ _ [] _ _
          have z221 : (NT3 U4).1 = 0 := by show Xi U4 904 106 = 0; omega
          have t221 := nt221_
          rw [(hFU4.cx 908 rfl _).1, (hFU4.cx 950 rfl _).1] at t221
          have h221 : Hid (r2R S 0 0 1 = -1 → r2R S 0 2 3 = -1 → NT3 T9 = ntF (NT3 U4) 4 (pR S 0)) := fun a b => by first | (rw [if_pos (show (0 : Int) = 0 from rfl)] at t221; exact t221) | (exfalso; omega)
          have g221 : Hid (¬ (r2R S 0 0 1 = -1 ∧ r2R S 0 2 3 = -1) → NT3 T9 = NT3 U4) := fun a => by first | (rw [if_neg (show ¬ (1 : Int) = 0 by decide)] at t221; exact t221) | exact absurd ⟨by omega, by omega⟩ a
          clear nt221_ t221
          refine y_aload_n rfl rfl ?_
          refine y_iconst rfl ?_
          refine y_iconst rfl ?_
          refine y_iconst rfl ?_
          have w90 : Xi T9 904 108 = Xi U2 904 108 := (show Xi T9 904 108 = Xi U4 904 108 from w89.x _ _ rfl).trans ( (show Xi U4 904 108 = Xi U3 904 108 from by rw [eU4]; exact Xi_ne (by omega)).trans ((show Xi U3 904 108 = Xi U2 904 108 from by rw [eU3]; exact Xi_ne (by omega))))
          have w91 : Xi T9 904 15 = Xi S 904 15 := (show Xi T9 904 15 = Xi U4 904 15 from w89.x _ _ rfl).trans ( (show Xi U4 904 15 = Xi U3 904 15 from by rw [eU4]; exact Xi_ne (by omega)).trans ( (show Xi U3 904 15 = Xi U2 904 15 from by rw [eU3]; exact Xi_ne (by omega)).trans ( (show Xi U2 904 15 = Xi U1 904 15 from by rw [eU2]; exact Xi_ne (by omega)).trans ((show Xi U1 904 15 = Xi S 904 15 from by rw [eU1]; exact Xi_ne (by omega))))))
          have w92 : Xi T9 904 70 = Xi S 904 70 := (show Xi T9 904 70 = Xi U4 904 70 from w89.x _ _ rfl).trans ( (show Xi U4 904 70 = Xi U3 904 70 from by rw [eU4]; exact Xi_ne (by omega)).trans ( (show Xi U3 904 70 = Xi U2 904 70 from by rw [eU3]; exact Xi_ne (by omega)).trans ( (show Xi U2 904 70 = Xi U1 904 70 from by rw [eU2]; exact Xi_ne (by omega)).trans ((show Xi U1 904 70 = Xi S 904 70 from by rw [eU1]; exact Xi_ne (by omega))))))
          refine y_callV rfl rfl rfl (t_mo_mustBeNew__p hHT9 1 0 1 ⟨by omega, by omega⟩ ⟨by omega, by omega⟩ ⟨by omega, by omega⟩ (by first | assumption | exact (LSP_FR hFT9 rfl rfl (by assumption : LSP S))) (by first | assumption | omega) (by first | assumption | exact (RBD_FR hFT9 rfl (by assumption : RBD S))) (by first | assumption | omega) _) ?_
          rintro _ T10 ⟨hHT10, w94, rfl, y228_, m228_⟩
          have hFT10 : FR md_mo_asked__8 S T10 := FR.tr hFT9 w94 rfl
          show Pl _ _ _ _ _ _ [] _ _
          have q228 : Hid (nwR T9 1 ↔ nwR0 S 1) := nwR_0 (fun j => (hFT9.cx 951 rfl j).1) (rmR_FR hFT9 rfl rfl) (by omega)
          have y228 : Hid (nwR0 S 1 → NT3 T10 = NT3 T9) := fun q => by have t := (y228_ (q228.o.2 q)).1; rw [if_pos (by decide)] at t; exact t
          have m228 : Hid (¬ nwR0 S 1 → NT3 T10 = ntF (NT3 T9) 3 (pR S 1)) := fun q => by have t := (m228_ (fun w => q (q228.o.1 w))).1; rw [(hFT9.cx 908 rfl _).1, (hFT9.cx 950 rfl _).1] at t; exact t
          clear y228_ m228_
          refine y_goto rfl rfl ?_
          refine y_return rfl rfl ?_
          exact ⟨hHT10, hFT10, rfl, (rpl_of z221 h221.o g221.o y228.o m228.o hp)⟩
    | 9, hii =>
      cases hii
      have w97 : (Xi S 904 70) = 9 := by simpa using w12
      exfalso; omega
    | 10, hii =>
      cases hii
      have w98 : (Xi S 904 70) = 10 := by simpa using w12
      exfalso; omega
    | 11, hii =>
      cases hii
      have w99 : (Xi S 904 70) = 11 := by simpa using w12
      exfalso; omega
    | 12, hii =>
      cases hii
      have w100 : (Xi S 904 70) = 12 := by simpa using w12
      exfalso; omega
    | 13, hii =>
      cases hii
      have w101 : (Xi S 904 70) = 13 := by simpa using w12
      exfalso; omega
    | 14, hii =>
      cases hii
      have w102 : (Xi S 904 70) = 14 := by simpa using w12
      exfalso; omega
    | 15, hii =>
      cases hii
      have w103 : (Xi S 904 70) = 15 := by simpa using w12
      exfalso; omega
    | 16, hii =>
      cases hii
      have w104 : (Xi S 904 70) = 16 := by simpa using w12
      exfalso; omega
    | 17, hii =>
      cases hii
      have w105 : (Xi S 904 70) = 17 := by simpa using w12
      exfalso; omega
    | 18, hii =>
      cases hii
      have w106 : (Xi S 904 70) = 18 := by simpa using w12
      exfalso; omega
    | 19, hii =>
      cases hii
      have w107 : (Xi S 904 70) = 19 := by simpa using w12
      exfalso; omega
    | 20, hii =>
      cases hii
      have w108 : (Xi S 904 70) = 20 := by simpa using w12
      exfalso; omega
    | n + 21, hii => exact absurd hii (by simp)
end
section
theorem Hid.i {p : Prop} (h : p) : Hid p := h
theorem msc_rg {S : sS} {a b c : Int} : ∀ (m i : Nat), msc S a b c m i = -1 ∨ ∃ j : Nat, i ≤ j ∧ j < i + m ∧ msc S a b c m i = Xi S 3 j * 256 + Xi S 4 j
  | 0, _ => Or.inl rfl
  | m + 1, i => by
    show (if Xj S 2 (3 * i) = a ∧ Xj S 2 (3 * i + 1) = b ∧ Xj S 2 (3 * i + 2) = c then Xi S 3 i * 256 + Xi S 4 i else msc S a b c m (i + 1)) = -1 ∨ ∃ j : Nat, i ≤ j ∧ j < i + (m + 1) ∧ (if Xj S 2 (3 * i) = a ∧ Xj S 2 (3 * i + 1) = b ∧ Xj S 2 (3 * i + 2) = c then Xi S 3 i * 256 + Xi S 4 i else msc S a b c m (i + 1)) = Xi S 3 j * 256 + Xi S 4 j
    split
    · exact Or.inr ⟨i, by omega, by omega, rfl⟩
    · rcases msc_rg m (i + 1) with q | ⟨j, h1, h2, h3⟩
      · exact Or.inl q
      · exact Or.inr ⟨j, by omega, by omega, h3⟩
theorem mn_rg {S : sS} {a b : Int} (h : CEN S) : mnV S a b = -1 ∨ (0 ≤ mnV S a b ∧ 0 ≤ mnV S a b % 256 ∧ mnV S a b % 256 ≤ 63 ∧ mnV S a b / 256 ≤ 14) := by
  unfold mnV
  split
  · unfold mnR mnF
    rcases msc_rg (S := S) (a := Xj S 879 a.toNat) (b := if 1 < (b - a).toNat then Xj S 879 (a.toNat + 1) else 0) (c := if 2 < (b - a).toNat then Xj S 879 (a.toNat + 2) else 0) (Xi S 1 3).toNat 0 with q | ⟨j, h1, h2, h3⟩
    · exact Or.inl q
    · have c := h j (by omega)
      rw [h3]
      omega
  · exact Or.inl rfl
def tmC (S : sS) (a b : Int) : Int := if mnV S a b / 256 = 1 ∨ mnV S a b / 256 = 12 then mnV S a b % 256 else -1
theorem tm_y {S : sS} {a b m : Int} (hm : mnV S a b = m) (h : m / 256 = 1 ∨ m / 256 = 12) : m % 256 = tmC S a b := by unfold tmC; rw [hm, if_pos h]
theorem tm_n {S : sS} {a b m : Int} (hm : mnV S a b = m) (h : ¬ (m / 256 = 1 ∨ m / 256 = 12)) : -1 = tmC S a b := by unfold tmC; rw [hm, if_neg h]
/-- 8: what the class does -/
def TPL (S S1 : sS) (z f b a t : Int) : Prop :=
  (kmC S f b = -1 → tmC S f b = -1 → z = 0 ∧ FTO S S1 4 f) ∧
  (¬ (kmC S f b = -1 ∧ tmC S f b = -1) → ¬ nwC S a t → z = 0 ∧ FTO S S1 3 a) ∧
  (kmC S f b ≠ -1 → nwC S a t → z = 1 ∧ Xi S1 876 8 = 0 ∧ TN1 S S1 11 (kmC S f b) a t ∧ ∀ j, Xi S1 5 j = Xi S 5 j) ∧
  (kmC S f b = -1 → tmC S f b ≠ -1 → nwC S a t → z = 1 ∧ Xi S1 876 8 = 0 ∧ TN1 S S1 12 (tmC S f b) a t ∧ ∀ j, Xi S1 5 j = Xi S 5 j)
theorem tpl_1 {S S1 : sS} {z f b a t : Int} (h1 : kmC S f b = -1) (h2 : tmC S f b = -1) (hz : z = 0) (o : FTO S S1 4 f) : TPL S S1 z f b a t :=
  ⟨fun _ _ => ⟨hz, o⟩, fun q => absurd ⟨h1, h2⟩ q, fun q => absurd h1 q, fun _ q => absurd h2 q⟩
theorem tpl_2 {S S1 : sS} {z f b a t : Int} {X : Prop} (h : ¬ (kmC S f b = -1 ∧ tmC S f b = -1)) (n3 : ¬ nwC S a t → z = 0 ∧ FTO S S1 3 a) (ok : nwC S a t → 0 + Xi S 891 9 < 1000 → z = 1 ∧ X) (hz : z = 0) (hn : Xi S 891 9 = 0) : TPL S S1 0 f b a t :=
  ⟨fun q r => absurd ⟨q, r⟩ h, fun _ q => ⟨rfl, (n3 q).2⟩, fun _ q => by have := (ok q (by omega)).1; omega, fun _ _ q => by have := (ok q (by omega)).1; omega⟩
theorem tpl_k {S S1 : sS} {f b a t : Int} (h : kmC S f b ≠ -1) (n : nwC S a t) (r : Xi S1 876 8 = 0 ∧ TN1 S S1 11 (kmC S f b) a t ∧ ∀ j, Xi S1 5 j = Xi S 5 j) : TPL S S1 1 f b a t :=
  ⟨fun q => absurd q h, fun _ q => absurd n q, fun _ _ => ⟨rfl, r⟩, fun q => absurd q h⟩
theorem tpl_t {S S1 : sS} {f b a t : Int} (h : kmC S f b = -1) (h2 : tmC S f b ≠ -1) (n : nwC S a t) (r : Xi S1 876 8 = 0 ∧ TN1 S S1 12 (tmC S f b) a t ∧ ∀ j, Xi S1 5 j = Xi S 5 j) : TPL S S1 1 f b a t :=
  ⟨fun _ q => absurd q h2, fun _ q => absurd n q, fun q => absurd h q, fun _ _ _ => ⟨rfl, r⟩⟩

def md_re_tellPlural__p : List rec := [(1, 2, 3, 4), (2, 3, 0, 100000), (3, 4, 0, 100000), (4, 5, 0, 100000), (876, 877, 8, 9), (876, 877, 9, 10), (891, 892, 9, 10), (892, 893, 0, 100000), (893, 894, 0, 100000)]
abbrev Q_re_tellPlural__p (S : sS) : pst := fun r S1 => RI S1 ∧ FR md_re_tellPlural__p S S1 ∧ (∃ z : Int, r = some (iv z) ∧ (0 ≤ z ∧ z ≤ 1) ∧ (TPL S S1 z (bA (ty7 S) 3) (re7 (ty7 S) (bA (ty7 S) 3)) ((re7 (ty7 S) (bA (ty7 S) 3)) + 1) (re7 (ty7 S) ((re7 (ty7 S) (bA (ty7 S) 3)) + 1))))
set_option maxRecDepth 100000 in
theorem t_re_tellPlural__p {S : sS} (hH : RI S) (h13 : 0 ≤ Xi S 1 3 ∧ Xi S 1 3 ≤ 200) (hCE : CEN S) (hNB : NRB S) (hf : Xi S 876 8 = 0) (hr : Xi S 876 7 ≤ 5130) (hn0 : Xi S 891 9 = 0) (h2 : Xi S 1 3 < 199) (hb : (re7 (ty7 S) (bA (ty7 S) 3)) < Xi S 876 7) (d : Nat) : Mp lay0 (d + 3) m_re_tellPlural [.ref 891] S (Q_re_tellPlural__p S) := by
  refine Mp_R rfl rfl (fun fu => ?_)
  have hF : FR md_re_tellPlural__p S S := FR.rf
  have w1 : -2147483648 ≤ Xi S 1 3 ∧ Xi S 1 3 ≤ 2147483647 := Xi_rgI
  have w2 : -2147483648 ≤ Xi S 876 7 ∧ Xi S 876 7 ≤ 2147483647 := Xi_rgI
  have w3 : -2147483648 ≤ Xi S 876 8 ∧ Xi S 876 8 ≤ 2147483647 := Xi_rgI
  have w4 : -2147483648 ≤ Xi S 891 9 ∧ Xi S 891 9 ≤ 2147483647 := Xi_rgI
  refine y_aload_n rfl rfl ?_
  refine y_gfr rfl rfl rfl rfl rfl (hH.r 891 0 876 rfl) ?_
  refine y_iconst rfl ?_
  refine y_callV rfl rfl rfl (t_to_behindArt__p hH 3 ⟨by omega, by omega⟩ _) ?_
  rintro _ _ ⟨rfl, z7, rfl, w7, w5, w6⟩
  show Pl _ _ _ _ _ _ [iv z7] _ _
  have gq5 := w5
  clear w5
  refine y_istore_n rfl rfl rfl ?_
  refine y_aload_n rfl rfl ?_
  refine y_gfr rfl rfl rfl rfl rfl (hH.r 891 0 876 rfl) ?_
  refine y_iload_n rfl rfl ?_
  refine y_callV rfl rfl rfl (t_to_runEnd__p hH z7 ⟨by omega, by omega⟩ _) ?_
  rintro _ _ ⟨rfl, z10, rfl, w10, w8, w9⟩
  show Pl _ _ _ _ _ _ [iv z10] _ _
  have gq14 := w8
  clear w8
  have b14 : z10 < Xi S 876 7 := by have t := hb; rw [gq5, gq14] at t; exact t
  refine y_istore_n rfl rfl rfl ?_
  refine y_aload_n rfl rfl ?_
  refine y_gfr rfl rfl rfl rfl rfl (hH.r 891 2 1 rfl) ?_
  refine y_aload_n rfl rfl ?_
  refine y_gfr rfl rfl rfl rfl rfl (hH.r 891 0 876 rfl) ?_
  refine y_gfr rfl rfl rfl rfl rfl (hH.r 876 2 879 rfl) ?_
  refine y_iload_n rfl rfl ?_
  refine y_iload_n rfl rfl ?_
  refine y_callV rfl rfl rfl (t_vo_meaning__p hH 879 5130 z7 z10 rfl ⟨by omega, by omega⟩ ⟨by omega, by omega⟩ ⟨by omega, by omega⟩ (by first | assumption | omega) (by first | assumption | exact (by assumption : CEN S)) _) ?_
  rintro _ _ ⟨rfl, z11, rfl, w11, f31, n31⟩
  show Pl _ _ _ _ _ _ [iv z11] _ _
  have hmv : mnV S (bA (ty7 S) 3) (re7 (ty7 S) (bA (ty7 S) 3)) = z11 := by have t := mnV_of f31 n31; rw [← gq14, ← gq5] at t; exact t
  clear f31 n31
  have g31 : Hid (_ ∨ _) := mn_rg (a := (bA (ty7 S) 3)) (b := (re7 (ty7 S) (bA (ty7 S) 3))) hCE
  refine y_istore_n rfl rfl rfl ?_
  refine y_iload_n rfl rfl ?_
  refine y_bipush rfl rfl ?_
  refine y_ishr8 rfl (by unfold rg; omega) ?_
  refine y_istore rfl rfl rfl ?_
  refine y_iload rfl rfl ?_
  refine y_if_eq rfl rfl (by unfold rg; omega) (fun w13 => ?_) (fun w14 => ?_)
  · refine y_iconst rfl ?_
    refine y_goto rfl rfl ?_
    refine y_istore rfl rfl rfl ?_
    refine y_iload rfl rfl ?_
    refine y_if_ne rfl rfl (by unfold rg; omega) (fun w15 => ?_) (fun w16 => absurd w16 (by omega))
    · refine y_aload_n rfl rfl ?_
      refine y_gfr rfl rfl rfl rfl rfl (hH.r 891 0 876 rfl) ?_
      refine y_iload_n rfl rfl ?_
      refine y_iconst rfl ?_
      refine y_iadd rfl ?_
      refine y_callV rfl rfl rfl (t_to_runEnd__p hH (z10 + 1) ⟨by omega, by omega⟩ _) ?_
      rintro _ _ ⟨rfl, z19, rfl, w19, w17, w18⟩
      show Pl _ _ _ _ _ _ [iv z19] _ _
      have gq95 := w17
      clear w17
      refine y_istore rfl rfl rfl ?_
      refine y_aload_n rfl rfl ?_
      refine y_iload_n rfl rfl ?_
      refine y_iconst rfl ?_
      refine y_iadd rfl ?_
      refine y_iload rfl rfl ?_
      refine y_iconst rfl ?_
      refine y_sipush rfl rfl ?_
      refine y_callV rfl rfl rfl (t_re_takeNew__p hH (z10 + 1) z19 0 1000 ⟨by omega, by omega⟩ ⟨by omega, by omega⟩ ⟨by omega, by omega⟩ ⟨by omega, by omega⟩ (by first | assumption | omega) (by first | assumption | exact (by assumption : CEN S)) (by first | assumption | exact (by assumption : NRB S)) (by first | assumption | omega) (by first | assumption | omega) (by first | assumption | omega) (by omega) _) ?_
      rintro _ T1 ⟨hHT1, w21, z20, rfl, w20, n3_110_, n9_110_, ok_110_, nb_110⟩
      have hFT1 : FR md_re_tellPlural__p S T1 := FR.tr hF w21 rfl
      show Pl _ _ _ _ _ _ [iv z20] _ _
      have K110 : True := trivial
      have km110 : Hid (¬ (kmC S (bA (ty7 S) 3) (re7 (ty7 S) (bA (ty7 S) 3)) = -1 ∧ tmC S (bA (ty7 S) 3) (re7 (ty7 S) (bA (ty7 S) 3)) = -1)) := fun q => by first | (have a := km_y hmv (by omega); omega) | (have a := tm_y hmv (by omega); omega)
      have n3_110 : Hid (¬ nwC S ((re7 (ty7 S) (bA (ty7 S) 3)) + 1) (re7 (ty7 S) ((re7 (ty7 S) (bA (ty7 S) 3)) + 1)) → z20 = 0 ∧ FTO S T1 3 ((re7 (ty7 S) (bA (ty7 S) 3)) + 1)) := by have t := n3_110_; rw [← gq95, ← gq14, ← gq5] at t; exact t
      have n9_110 : Hid (nwC S ((re7 (ty7 S) (bA (ty7 S) 3)) + 1) (re7 (ty7 S) ((re7 (ty7 S) (bA (ty7 S) 3)) + 1)) → 1000 ≤ 0 + Xi S 891 9 → z20 = 0 ∧ FTO S T1 9 ((re7 (ty7 S) (bA (ty7 S) 3)) + 1)) := by have t := n9_110_; rw [← gq95, ← gq14, ← gq5] at t; exact t
      have ok_110 : Hid (nwC S ((re7 (ty7 S) (bA (ty7 S) 3)) + 1) (re7 (ty7 S) ((re7 (ty7 S) (bA (ty7 S) 3)) + 1)) → 0 + Xi S 891 9 < 1000 → z20 = 1 ∧ Xi T1 876 8 = 0 ∧ Xi T1 891 9 = Xi S 891 9 + 1 ∧ Xi T1 892 (Xi S 891 9).toNat = ((re7 (ty7 S) (bA (ty7 S) 3)) + 1) ∧ Xi T1 893 (Xi S 891 9).toNat = (re7 (ty7 S) ((re7 (ty7 S) (bA (ty7 S) 3)) + 1)) ∧ ∀ j : Nat, (j : Int) < Xi S 891 9 → Xi T1 892 j = Xi S 892 j ∧ Xi T1 893 j = Xi S 893 j) := by have t := ok_110_; rw [← gq95, ← gq14, ← gq5] at t; exact t
      clear n3_110_ n9_110_ ok_110_
      refine y_if_ne rfl rfl (by unfold rg; omega) (fun w22 => ?_) (fun w23 => ?_)
      · refine y_aload_n rfl rfl ?_
        have A118 : Hid (nwC S ((re7 (ty7 S) (bA (ty7 S) 3)) + 1) (re7 (ty7 S) ((re7 (ty7 S) (bA (ty7 S) 3)) + 1)) ∧ (0 : Int) < 1000) := nk_m n3_110.o n9_110.o (by omega) hn0
        have f118 : Xi T1 876 8 = 0 := (ok_110.o A118.o.1 (by omega)).2.1
        have F118 := (by assumption : FR md_re_takeNew__p S T1)
        have V118 : SMV S T1 := SMV_FR F118 rfl rfl
        have e118 : Xi T1 1 3 = Xi S 1 3 := V118.1
        have g118 : 0 ≤ z11 % 256 ∧ z11 % 256 ≤ 63 := by have t := g31.o; rw [hmv] at t; rcases t with q | q; (exfalso; omega); omega
        refine y_gfr rfl rfl rfl rfl rfl (hHT1.r 891 2 1 rfl) ?_
        refine y_iload rfl rfl ?_
        refine y_if_eq rfl rfl (by unfold rg; omega) (fun w24 => absurd w24 (by omega)) (fun w25 => ?_)
        · refine y_bipush rfl rfl ?_
          refine y_goto rfl rfl ?_
          refine y_iload_n rfl rfl ?_
          refine y_sipush rfl rfl ?_
          refine y_iand255 rfl (by unfold rg; omega) ?_
          refine y_aload_n rfl rfl ?_
          refine y_gfr rfl rfl rfl rfl rfl (hHT1.r 891 0 876 rfl) ?_
          refine y_gfr rfl rfl rfl rfl rfl (hHT1.r 876 2 879 rfl) ?_
          refine y_iload_n rfl rfl ?_
          refine y_iconst rfl ?_
          refine y_iadd rfl ?_
          refine y_iload rfl rfl ?_
          have w27 : Xi T1 1 3 = Xi S 1 3 := (show Xi T1 1 3 = Xi S 1 3 from w21.x _ _ rfl)
          refine y_callV rfl rfl rfl (t_vo_nameIt__p hHT1 11 (z11 % 256) 879 5130 (z10 + 1) z19 ⟨by omega, by omega⟩ ⟨by omega, by omega⟩ rfl ⟨by omega, by omega⟩ ⟨by omega, by omega⟩ ⟨by omega, by omega⟩ (by first | assumption | omega) (by first | assumption | omega) (Or.inl rfl) _) ?_
          rintro _ T2 ⟨hHT2, w29, rfl, e151⟩
          have hFT2 : FR md_re_tellPlural__p S T2 := FR.tr hFT1 w29 rfl
          show Pl _ _ _ _ _ _ [] _ _
          have K151 : True := trivial
          have F151 := (by assumption : FR md_vo_nameIt__p T1 T2)
          have f151 : Xi T2 876 8 = 0 := (F151.x 876 8 rfl).trans f118
          have C151 : Hid (∀ j, Xi T2 5 j = Xi S 5 j) := fun j => by rw [(F151.cx 5 rfl j).1, (F118.cx 5 rfl j).1]
          have t := e151
          rw [← gq95, ← gq14, ← gq5] at t
          have t151 := Hid.i t
          clear e151 t
          have R151 : TPL S T2 1 (bA (ty7 S) 3) (re7 (ty7 S) (bA (ty7 S) 3)) ((re7 (ty7 S) (bA (ty7 S) 3)) + 1) (re7 (ty7 S) ((re7 (ty7 S) (bA (ty7 S) 3)) + 1)) := by first | exact tpl_k (by rw [← km_y hmv (by omega)]; omega) A118.o.1 ⟨f151, by rw [← km_y hmv (by omega)]; exact tn1_of V118 t151.o (fun _ => rfl) (fun _ => rfl) (fun _ => rfl) rfl, C151.o⟩ | exact tpl_t (km_n hmv (by omega)).symm (by rw [← tm_y hmv (by omega)]; omega) A118.o.1 ⟨f151, by rw [← tm_y hmv (by omega)]; exact tn1_of V118 t151.o (fun _ => rfl) (fun _ => rfl) (fun _ => rfl) rfl, C151.o⟩
          refine y_iconst rfl ?_
          refine y_ireturn rfl rfl ?_
          have w30 : Xi T2 876 8 = Xi T1 876 8 := (show Xi T2 876 8 = Xi T1 876 8 from w29.x _ _ rfl)
          have w31 : Xi T2 891 9 = Xi T1 891 9 := (show Xi T2 891 9 = Xi T1 891 9 from w29.x _ _ rfl)
          exact ⟨hHT2, hFT2, _, rfl, ⟨by omega, by omega⟩, (by first | (have t := K151; exact R151) | (have t := K110; exact tpl_2 km110.o n3_110.o ok_110.o (by omega) hn0) | (have t := K84; exact tpl_1 (by omega) (by omega) (by omega) Y84))⟩
      · refine y_iconst rfl ?_
        refine y_ireturn rfl rfl ?_
        have w32 : Xi T1 1 3 = Xi S 1 3 := (show Xi T1 1 3 = Xi S 1 3 from w21.x _ _ rfl)
        exact ⟨hHT1, hFT1, _, rfl, ⟨by omega, by omega⟩, (by first | (have t := K151; exact R151) | (have t := K110; exact tpl_2 km110.o n3_110.o ok_110.o (by omega) hn0) | (have t := K84; exact tpl_1 (by omega) (by omega) (by omega) Y84))⟩
  · refine y_iload rfl rfl ?_
    refine y_bipush rfl rfl ?_
    refine y_icmp_ne rfl rfl (by unfold rg; omega) (by unfold rg; omega) (fun w33 => ?_) (fun w34 => ?_)
    · refine y_iconst rfl ?_
      refine y_istore rfl rfl rfl ?_
      refine y_iload rfl rfl ?_
      refine y_if_ne rfl rfl (by unfold rg; omega) (fun w35 => absurd w35 (by omega)) (fun w36 => ?_)
      · refine y_iload rfl rfl ?_
        refine y_iconst rfl ?_
        refine y_icmp_eq rfl rfl (by unfold rg; omega) (by unfold rg; omega) (fun w37 => ?_) (fun w38 => ?_)
        · refine y_aload_n rfl rfl ?_
          refine y_gfr rfl rfl rfl rfl rfl (hH.r 891 0 876 rfl) ?_
          refine y_iload_n rfl rfl ?_
          refine y_iconst rfl ?_
          refine y_iadd rfl ?_
          refine y_callV rfl rfl rfl (t_to_runEnd__p hH (z10 + 1) ⟨by omega, by omega⟩ _) ?_
          rintro _ _ ⟨rfl, z41, rfl, w41, w39, w40⟩
          show Pl _ _ _ _ _ _ [iv z41] _ _
          have gq95 := w39
          clear w39
          refine y_istore rfl rfl rfl ?_
          refine y_aload_n rfl rfl ?_
          refine y_iload_n rfl rfl ?_
          refine y_iconst rfl ?_
          refine y_iadd rfl ?_
          refine y_iload rfl rfl ?_
          refine y_iconst rfl ?_
          refine y_sipush rfl rfl ?_
          refine y_callV rfl rfl rfl (t_re_takeNew__p hH (z10 + 1) z41 0 1000 ⟨by omega, by omega⟩ ⟨by omega, by omega⟩ ⟨by omega, by omega⟩ ⟨by omega, by omega⟩ (by first | assumption | omega) (by first | assumption | exact (by assumption : CEN S)) (by first | assumption | exact (by assumption : NRB S)) (by first | assumption | omega) (by first | assumption | omega) (by first | assumption | omega) (by omega) _) ?_
          rintro _ T3 ⟨hHT3, w43, z42, rfl, w42, n3_110_, n9_110_, ok_110_, nb_110⟩
          have hFT3 : FR md_re_tellPlural__p S T3 := FR.tr hF w43 rfl
          show Pl _ _ _ _ _ _ [iv z42] _ _
          have K110 : True := trivial
          have km110 : Hid (¬ (kmC S (bA (ty7 S) 3) (re7 (ty7 S) (bA (ty7 S) 3)) = -1 ∧ tmC S (bA (ty7 S) 3) (re7 (ty7 S) (bA (ty7 S) 3)) = -1)) := fun q => by first | (have a := km_y hmv (by omega); omega) | (have a := tm_y hmv (by omega); omega)
          have n3_110 : Hid (¬ nwC S ((re7 (ty7 S) (bA (ty7 S) 3)) + 1) (re7 (ty7 S) ((re7 (ty7 S) (bA (ty7 S) 3)) + 1)) → z42 = 0 ∧ FTO S T3 3 ((re7 (ty7 S) (bA (ty7 S) 3)) + 1)) := by have t := n3_110_; rw [← gq95, ← gq14, ← gq5] at t; exact t
          have n9_110 : Hid (nwC S ((re7 (ty7 S) (bA (ty7 S) 3)) + 1) (re7 (ty7 S) ((re7 (ty7 S) (bA (ty7 S) 3)) + 1)) → 1000 ≤ 0 + Xi S 891 9 → z42 = 0 ∧ FTO S T3 9 ((re7 (ty7 S) (bA (ty7 S) 3)) + 1)) := by have t := n9_110_; rw [← gq95, ← gq14, ← gq5] at t; exact t
          have ok_110 : Hid (nwC S ((re7 (ty7 S) (bA (ty7 S) 3)) + 1) (re7 (ty7 S) ((re7 (ty7 S) (bA (ty7 S) 3)) + 1)) → 0 + Xi S 891 9 < 1000 → z42 = 1 ∧ Xi T3 876 8 = 0 ∧ Xi T3 891 9 = Xi S 891 9 + 1 ∧ Xi T3 892 (Xi S 891 9).toNat = ((re7 (ty7 S) (bA (ty7 S) 3)) + 1) ∧ Xi T3 893 (Xi S 891 9).toNat = (re7 (ty7 S) ((re7 (ty7 S) (bA (ty7 S) 3)) + 1)) ∧ ∀ j : Nat, (j : Int) < Xi S 891 9 → Xi T3 892 j = Xi S 892 j ∧ Xi T3 893 j = Xi S 893 j) := by have t := ok_110_; rw [← gq95, ← gq14, ← gq5] at t; exact t
          clear n3_110_ n9_110_ ok_110_
          refine y_if_ne rfl rfl (by unfold rg; omega) (fun w44 => ?_) (fun w45 => ?_)
          · refine y_aload_n rfl rfl ?_
            have A118 : Hid (nwC S ((re7 (ty7 S) (bA (ty7 S) 3)) + 1) (re7 (ty7 S) ((re7 (ty7 S) (bA (ty7 S) 3)) + 1)) ∧ (0 : Int) < 1000) := nk_m n3_110.o n9_110.o (by omega) hn0
            have f118 : Xi T3 876 8 = 0 := (ok_110.o A118.o.1 (by omega)).2.1
            have F118 := (by assumption : FR md_re_takeNew__p S T3)
            have V118 : SMV S T3 := SMV_FR F118 rfl rfl
            have e118 : Xi T3 1 3 = Xi S 1 3 := V118.1
            have g118 : 0 ≤ z11 % 256 ∧ z11 % 256 ≤ 63 := by have t := g31.o; rw [hmv] at t; rcases t with q | q; (exfalso; omega); omega
            refine y_gfr rfl rfl rfl rfl rfl (hHT3.r 891 2 1 rfl) ?_
            refine y_iload rfl rfl ?_
            refine y_if_eq rfl rfl (by unfold rg; omega) (fun w46 => ?_) (fun w47 => absurd w47 (by omega))
            · refine y_bipush rfl rfl ?_
              refine y_iload_n rfl rfl ?_
              refine y_sipush rfl rfl ?_
              refine y_iand255 rfl (by unfold rg; omega) ?_
              refine y_aload_n rfl rfl ?_
              refine y_gfr rfl rfl rfl rfl rfl (hHT3.r 891 0 876 rfl) ?_
              refine y_gfr rfl rfl rfl rfl rfl (hHT3.r 876 2 879 rfl) ?_
              refine y_iload_n rfl rfl ?_
              refine y_iconst rfl ?_
              refine y_iadd rfl ?_
              refine y_iload rfl rfl ?_
              have w49 : Xi T3 1 3 = Xi S 1 3 := (show Xi T3 1 3 = Xi S 1 3 from w43.x _ _ rfl)
              refine y_callV rfl rfl rfl (t_vo_nameIt__p hHT3 12 (z11 % 256) 879 5130 (z10 + 1) z41 ⟨by omega, by omega⟩ ⟨by omega, by omega⟩ rfl ⟨by omega, by omega⟩ ⟨by omega, by omega⟩ ⟨by omega, by omega⟩ (by first | assumption | omega) (by first | assumption | omega) (Or.inl rfl) _) ?_
              rintro _ T4 ⟨hHT4, w51, rfl, e151⟩
              have hFT4 : FR md_re_tellPlural__p S T4 := FR.tr hFT3 w51 rfl
              show Pl _ _ _ _ _ _ [] _ _
              have K151 : True := trivial
              have F151 := (by assumption : FR md_vo_nameIt__p T3 T4)
              have f151 : Xi T4 876 8 = 0 := (F151.x 876 8 rfl).trans f118
              have C151 : Hid (∀ j, Xi T4 5 j = Xi S 5 j) := fun j => by rw [(F151.cx 5 rfl j).1, (F118.cx 5 rfl j).1]
              have t := e151
              rw [← gq95, ← gq14, ← gq5] at t
              have t151 := Hid.i t
              clear e151 t
              have R151 : TPL S T4 1 (bA (ty7 S) 3) (re7 (ty7 S) (bA (ty7 S) 3)) ((re7 (ty7 S) (bA (ty7 S) 3)) + 1) (re7 (ty7 S) ((re7 (ty7 S) (bA (ty7 S) 3)) + 1)) := by first | exact tpl_k (by rw [← km_y hmv (by omega)]; omega) A118.o.1 ⟨f151, by rw [← km_y hmv (by omega)]; exact tn1_of V118 t151.o (fun _ => rfl) (fun _ => rfl) (fun _ => rfl) rfl, C151.o⟩ | exact tpl_t (km_n hmv (by omega)).symm (by rw [← tm_y hmv (by omega)]; omega) A118.o.1 ⟨f151, by rw [← tm_y hmv (by omega)]; exact tn1_of V118 t151.o (fun _ => rfl) (fun _ => rfl) (fun _ => rfl) rfl, C151.o⟩
              refine y_iconst rfl ?_
              refine y_ireturn rfl rfl ?_
              have w52 : Xi T4 876 8 = Xi T3 876 8 := (show Xi T4 876 8 = Xi T3 876 8 from w51.x _ _ rfl)
              have w53 : Xi T4 891 9 = Xi T3 891 9 := (show Xi T4 891 9 = Xi T3 891 9 from w51.x _ _ rfl)
              exact ⟨hHT4, hFT4, _, rfl, ⟨by omega, by omega⟩, (by first | (have t := K151; exact R151) | (have t := K110; exact tpl_2 km110.o n3_110.o ok_110.o (by omega) hn0) | (have t := K84; exact tpl_1 (by omega) (by omega) (by omega) Y84))⟩
          · refine y_iconst rfl ?_
            refine y_ireturn rfl rfl ?_
            have w54 : Xi T3 1 3 = Xi S 1 3 := (show Xi T3 1 3 = Xi S 1 3 from w43.x _ _ rfl)
            exact ⟨hHT3, hFT3, _, rfl, ⟨by omega, by omega⟩, (by first | (have t := K151; exact R151) | (have t := K110; exact tpl_2 km110.o n3_110.o ok_110.o (by omega) hn0) | (have t := K84; exact tpl_1 (by omega) (by omega) (by omega) Y84))⟩
        · refine y_iload rfl rfl ?_
          refine y_bipush rfl rfl ?_
          refine y_icmp_eq rfl rfl (by unfold rg; omega) (by unfold rg; omega) (fun w55 => ?_) (fun w56 => ?_)
          · refine y_aload_n rfl rfl ?_
            refine y_gfr rfl rfl rfl rfl rfl (hH.r 891 0 876 rfl) ?_
            refine y_iload_n rfl rfl ?_
            refine y_iconst rfl ?_
            refine y_iadd rfl ?_
            refine y_callV rfl rfl rfl (t_to_runEnd__p hH (z10 + 1) ⟨by omega, by omega⟩ _) ?_
            rintro _ _ ⟨rfl, z59, rfl, w59, w57, w58⟩
            show Pl _ _ _ _ _ _ [iv z59] _ _
            have gq95 := w57
            clear w57
            refine y_istore rfl rfl rfl ?_
            refine y_aload_n rfl rfl ?_
            refine y_iload_n rfl rfl ?_
            refine y_iconst rfl ?_
            refine y_iadd rfl ?_
            refine y_iload rfl rfl ?_
            refine y_iconst rfl ?_
            refine y_sipush rfl rfl ?_
            refine y_callV rfl rfl rfl (t_re_takeNew__p hH (z10 + 1) z59 0 1000 ⟨by omega, by omega⟩ ⟨by omega, by omega⟩ ⟨by omega, by omega⟩ ⟨by omega, by omega⟩ (by first | assumption | omega) (by first | assumption | exact (by assumption : CEN S)) (by first | assumption | exact (by assumption : NRB S)) (by first | assumption | omega) (by first | assumption | omega) (by first | assumption | omega) (by omega) _) ?_
            rintro _ T5 ⟨hHT5, w61, z60, rfl, w60, n3_110_, n9_110_, ok_110_, nb_110⟩
            have hFT5 : FR md_re_tellPlural__p S T5 := FR.tr hF w61 rfl
            show Pl _ _ _ _ _ _ [iv z60] _ _
            have K110 : True := trivial
            have km110 : Hid (¬ (kmC S (bA (ty7 S) 3) (re7 (ty7 S) (bA (ty7 S) 3)) = -1 ∧ tmC S (bA (ty7 S) 3) (re7 (ty7 S) (bA (ty7 S) 3)) = -1)) := fun q => by first | (have a := km_y hmv (by omega); omega) | (have a := tm_y hmv (by omega); omega)
            have n3_110 : Hid (¬ nwC S ((re7 (ty7 S) (bA (ty7 S) 3)) + 1) (re7 (ty7 S) ((re7 (ty7 S) (bA (ty7 S) 3)) + 1)) → z60 = 0 ∧ FTO S T5 3 ((re7 (ty7 S) (bA (ty7 S) 3)) + 1)) := by have t := n3_110_; rw [← gq95, ← gq14, ← gq5] at t; exact t
            have n9_110 : Hid (nwC S ((re7 (ty7 S) (bA (ty7 S) 3)) + 1) (re7 (ty7 S) ((re7 (ty7 S) (bA (ty7 S) 3)) + 1)) → 1000 ≤ 0 + Xi S 891 9 → z60 = 0 ∧ FTO S T5 9 ((re7 (ty7 S) (bA (ty7 S) 3)) + 1)) := by have t := n9_110_; rw [← gq95, ← gq14, ← gq5] at t; exact t
            have ok_110 : Hid (nwC S ((re7 (ty7 S) (bA (ty7 S) 3)) + 1) (re7 (ty7 S) ((re7 (ty7 S) (bA (ty7 S) 3)) + 1)) → 0 + Xi S 891 9 < 1000 → z60 = 1 ∧ Xi T5 876 8 = 0 ∧ Xi T5 891 9 = Xi S 891 9 + 1 ∧ Xi T5 892 (Xi S 891 9).toNat = ((re7 (ty7 S) (bA (ty7 S) 3)) + 1) ∧ Xi T5 893 (Xi S 891 9).toNat = (re7 (ty7 S) ((re7 (ty7 S) (bA (ty7 S) 3)) + 1)) ∧ ∀ j : Nat, (j : Int) < Xi S 891 9 → Xi T5 892 j = Xi S 892 j ∧ Xi T5 893 j = Xi S 893 j) := by have t := ok_110_; rw [← gq95, ← gq14, ← gq5] at t; exact t
            clear n3_110_ n9_110_ ok_110_
            refine y_if_ne rfl rfl (by unfold rg; omega) (fun w62 => ?_) (fun w63 => ?_)
            · refine y_aload_n rfl rfl ?_
              have A118 : Hid (nwC S ((re7 (ty7 S) (bA (ty7 S) 3)) + 1) (re7 (ty7 S) ((re7 (ty7 S) (bA (ty7 S) 3)) + 1)) ∧ (0 : Int) < 1000) := nk_m n3_110.o n9_110.o (by omega) hn0
              have f118 : Xi T5 876 8 = 0 := (ok_110.o A118.o.1 (by omega)).2.1
              have F118 := (by assumption : FR md_re_takeNew__p S T5)
              have V118 : SMV S T5 := SMV_FR F118 rfl rfl
              have e118 : Xi T5 1 3 = Xi S 1 3 := V118.1
              have g118 : 0 ≤ z11 % 256 ∧ z11 % 256 ≤ 63 := by have t := g31.o; rw [hmv] at t; rcases t with q | q; (exfalso; omega); omega
              refine y_gfr rfl rfl rfl rfl rfl (hHT5.r 891 2 1 rfl) ?_
              refine y_iload rfl rfl ?_
              refine y_if_eq rfl rfl (by unfold rg; omega) (fun w64 => ?_) (fun w65 => absurd w65 (by omega))
              · refine y_bipush rfl rfl ?_
                refine y_iload_n rfl rfl ?_
                refine y_sipush rfl rfl ?_
                refine y_iand255 rfl (by unfold rg; omega) ?_
                refine y_aload_n rfl rfl ?_
                refine y_gfr rfl rfl rfl rfl rfl (hHT5.r 891 0 876 rfl) ?_
                refine y_gfr rfl rfl rfl rfl rfl (hHT5.r 876 2 879 rfl) ?_
                refine y_iload_n rfl rfl ?_
                refine y_iconst rfl ?_
                refine y_iadd rfl ?_
                refine y_iload rfl rfl ?_
                have w67 : Xi T5 1 3 = Xi S 1 3 := (show Xi T5 1 3 = Xi S 1 3 from w61.x _ _ rfl)
                refine y_callV rfl rfl rfl (t_vo_nameIt__p hHT5 12 (z11 % 256) 879 5130 (z10 + 1) z59 ⟨by omega, by omega⟩ ⟨by omega, by omega⟩ rfl ⟨by omega, by omega⟩ ⟨by omega, by omega⟩ ⟨by omega, by omega⟩ (by first | assumption | omega) (by first | assumption | omega) (Or.inl rfl) _) ?_
                rintro _ T6 ⟨hHT6, w69, rfl, e151⟩
                have hFT6 : FR md_re_tellPlural__p S T6 := FR.tr hFT5 w69 rfl
                show Pl _ _ _ _ _ _ [] _ _
                have K151 : True := trivial
                have F151 := (by assumption : FR md_vo_nameIt__p T5 T6)
                have f151 : Xi T6 876 8 = 0 := (F151.x 876 8 rfl).trans f118
                have C151 : Hid (∀ j, Xi T6 5 j = Xi S 5 j) := fun j => by rw [(F151.cx 5 rfl j).1, (F118.cx 5 rfl j).1]
                have t := e151
                rw [← gq95, ← gq14, ← gq5] at t
                have t151 := Hid.i t
                clear e151 t
                have R151 : TPL S T6 1 (bA (ty7 S) 3) (re7 (ty7 S) (bA (ty7 S) 3)) ((re7 (ty7 S) (bA (ty7 S) 3)) + 1) (re7 (ty7 S) ((re7 (ty7 S) (bA (ty7 S) 3)) + 1)) := by first | exact tpl_k (by rw [← km_y hmv (by omega)]; omega) A118.o.1 ⟨f151, by rw [← km_y hmv (by omega)]; exact tn1_of V118 t151.o (fun _ => rfl) (fun _ => rfl) (fun _ => rfl) rfl, C151.o⟩ | exact tpl_t (km_n hmv (by omega)).symm (by rw [← tm_y hmv (by omega)]; omega) A118.o.1 ⟨f151, by rw [← tm_y hmv (by omega)]; exact tn1_of V118 t151.o (fun _ => rfl) (fun _ => rfl) (fun _ => rfl) rfl, C151.o⟩
                refine y_iconst rfl ?_
                refine y_ireturn rfl rfl ?_
                have w70 : Xi T6 876 8 = Xi T5 876 8 := (show Xi T6 876 8 = Xi T5 876 8 from w69.x _ _ rfl)
                have w71 : Xi T6 891 9 = Xi T5 891 9 := (show Xi T6 891 9 = Xi T5 891 9 from w69.x _ _ rfl)
                exact ⟨hHT6, hFT6, _, rfl, ⟨by omega, by omega⟩, (by first | (have t := K151; exact R151) | (have t := K110; exact tpl_2 km110.o n3_110.o ok_110.o (by omega) hn0) | (have t := K84; exact tpl_1 (by omega) (by omega) (by omega) Y84))⟩
            · refine y_iconst rfl ?_
              refine y_ireturn rfl rfl ?_
              have w72 : Xi T5 1 3 = Xi S 1 3 := (show Xi T5 1 3 = Xi S 1 3 from w61.x _ _ rfl)
              exact ⟨hHT5, hFT5, _, rfl, ⟨by omega, by omega⟩, (by first | (have t := K151; exact R151) | (have t := K110; exact tpl_2 km110.o n3_110.o ok_110.o (by omega) hn0) | (have t := K84; exact tpl_1 (by omega) (by omega) (by omega) Y84))⟩
          · refine y_aload_n rfl rfl ?_
            refine y_gfr rfl rfl rfl rfl rfl (hH.r 891 0 876 rfl) ?_
            refine y_iconst rfl ?_
            have k84 : kmC S (bA (ty7 S) 3) (re7 (ty7 S) (bA (ty7 S) 3)) = -1 := (km_n hmv (by omega)).symm
            have t84 : tmC S (bA (ty7 S) 3) (re7 (ty7 S) (bA (ty7 S) 3)) = -1 := (tm_n hmv (by omega)).symm
            refine y_iload_n rfl rfl ?_
            refine y_callV rfl rfl rfl (t_to_wrong__p hH 4 z7 ⟨by omega, by omega⟩ ⟨by omega, by omega⟩ _) ?_
            rintro _ T7 ⟨hHT7, w76, z75, rfl, w75, w73, f84, w74⟩
            have hFT7 : FR md_re_tellPlural__p S T7 := FR.tr hF w76 rfl
            show Pl _ _ _ _ _ _ [iv z75] _ _
            have K84 : True := trivial
            have Y84 : FTO S T7 4 (bA (ty7 S) 3) := by have t := f84 hf; rw [← gq5] at t; exact t
            refine y_ireturn rfl (retI_z (by omega)) ?_
            have w77 : Xi T7 1 3 = Xi S 1 3 := (show Xi T7 1 3 = Xi S 1 3 from w76.x _ _ rfl)
            have w78 : Xi T7 891 9 = Xi S 891 9 := (show Xi T7 891 9 = Xi S 891 9 from w76.x _ _ rfl)
            exact ⟨hHT7, hFT7, _, rfl, ⟨by omega, by omega⟩, (by first | (have t := K151; exact R151) | (have t := K110; exact tpl_2 km110.o n3_110.o ok_110.o (by omega) hn0) | (have t := K84; exact tpl_1 (by omega) (by omega) (by omega) Y84))⟩
    · refine y_iconst rfl ?_
      refine y_goto rfl rfl ?_
      refine y_istore rfl rfl rfl ?_
      refine y_iload rfl rfl ?_
      refine y_if_ne rfl rfl (by unfold rg; omega) (fun w79 => ?_) (fun w80 => absurd w80 (by omega))
      · refine y_aload_n rfl rfl ?_
        refine y_gfr rfl rfl rfl rfl rfl (hH.r 891 0 876 rfl) ?_
        refine y_iload_n rfl rfl ?_
        refine y_iconst rfl ?_
        refine y_iadd rfl ?_
        refine y_callV rfl rfl rfl (t_to_runEnd__p hH (z10 + 1) ⟨by omega, by omega⟩ _) ?_
        rintro _ _ ⟨rfl, z83, rfl, w83, w81, w82⟩
        show Pl _ _ _ _ _ _ [iv z83] _ _
        have gq95 := w81
        clear w81
        refine y_istore rfl rfl rfl ?_
        refine y_aload_n rfl rfl ?_
        refine y_iload_n rfl rfl ?_
        refine y_iconst rfl ?_
        refine y_iadd rfl ?_
        refine y_iload rfl rfl ?_
        refine y_iconst rfl ?_
        refine y_sipush rfl rfl ?_
        refine y_callV rfl rfl rfl (t_re_takeNew__p hH (z10 + 1) z83 0 1000 ⟨by omega, by omega⟩ ⟨by omega, by omega⟩ ⟨by omega, by omega⟩ ⟨by omega, by omega⟩ (by first | assumption | omega) (by first | assumption | exact (by assumption : CEN S)) (by first | assumption | exact (by assumption : NRB S)) (by first | assumption | omega) (by first | assumption | omega) (by first | assumption | omega) (by omega) _) ?_
        rintro _ T8 ⟨hHT8, w85, z84, rfl, w84, n3_110_, n9_110_, ok_110_, nb_110⟩
        have hFT8 : FR md_re_tellPlural__p S T8 := FR.tr hF w85 rfl
        show Pl _ _ _ _ _ _ [iv z84] _ _
        have K110 : True := trivial
        have km110 : Hid (¬ (kmC S (bA (ty7 S) 3) (re7 (ty7 S) (bA (ty7 S) 3)) = -1 ∧ tmC S (bA (ty7 S) 3) (re7 (ty7 S) (bA (ty7 S) 3)) = -1)) := fun q => by first | (have a := km_y hmv (by omega); omega) | (have a := tm_y hmv (by omega); omega)
        have n3_110 : Hid (¬ nwC S ((re7 (ty7 S) (bA (ty7 S) 3)) + 1) (re7 (ty7 S) ((re7 (ty7 S) (bA (ty7 S) 3)) + 1)) → z84 = 0 ∧ FTO S T8 3 ((re7 (ty7 S) (bA (ty7 S) 3)) + 1)) := by have t := n3_110_; rw [← gq95, ← gq14, ← gq5] at t; exact t
        have n9_110 : Hid (nwC S ((re7 (ty7 S) (bA (ty7 S) 3)) + 1) (re7 (ty7 S) ((re7 (ty7 S) (bA (ty7 S) 3)) + 1)) → 1000 ≤ 0 + Xi S 891 9 → z84 = 0 ∧ FTO S T8 9 ((re7 (ty7 S) (bA (ty7 S) 3)) + 1)) := by have t := n9_110_; rw [← gq95, ← gq14, ← gq5] at t; exact t
        have ok_110 : Hid (nwC S ((re7 (ty7 S) (bA (ty7 S) 3)) + 1) (re7 (ty7 S) ((re7 (ty7 S) (bA (ty7 S) 3)) + 1)) → 0 + Xi S 891 9 < 1000 → z84 = 1 ∧ Xi T8 876 8 = 0 ∧ Xi T8 891 9 = Xi S 891 9 + 1 ∧ Xi T8 892 (Xi S 891 9).toNat = ((re7 (ty7 S) (bA (ty7 S) 3)) + 1) ∧ Xi T8 893 (Xi S 891 9).toNat = (re7 (ty7 S) ((re7 (ty7 S) (bA (ty7 S) 3)) + 1)) ∧ ∀ j : Nat, (j : Int) < Xi S 891 9 → Xi T8 892 j = Xi S 892 j ∧ Xi T8 893 j = Xi S 893 j) := by have t := ok_110_; rw [← gq95, ← gq14, ← gq5] at t; exact t
        clear n3_110_ n9_110_ ok_110_
        refine y_if_ne rfl rfl (by unfold rg; omega) (fun w86 => ?_) (fun w87 => ?_)
        · refine y_aload_n rfl rfl ?_
          have A118 : Hid (nwC S ((re7 (ty7 S) (bA (ty7 S) 3)) + 1) (re7 (ty7 S) ((re7 (ty7 S) (bA (ty7 S) 3)) + 1)) ∧ (0 : Int) < 1000) := nk_m n3_110.o n9_110.o (by omega) hn0
          have f118 : Xi T8 876 8 = 0 := (ok_110.o A118.o.1 (by omega)).2.1
          have F118 := (by assumption : FR md_re_takeNew__p S T8)
          have V118 : SMV S T8 := SMV_FR F118 rfl rfl
          have e118 : Xi T8 1 3 = Xi S 1 3 := V118.1
          have g118 : 0 ≤ z11 % 256 ∧ z11 % 256 ≤ 63 := by have t := g31.o; rw [hmv] at t; rcases t with q | q; (exfalso; omega); omega
          refine y_gfr rfl rfl rfl rfl rfl (hHT8.r 891 2 1 rfl) ?_
          refine y_iload rfl rfl ?_
          refine y_if_eq rfl rfl (by unfold rg; omega) (fun w88 => absurd w88 (by omega)) (fun w89 => ?_)
          · refine y_bipush rfl rfl ?_
            refine y_goto rfl rfl ?_
            refine y_iload_n rfl rfl ?_
            refine y_sipush rfl rfl ?_
            refine y_iand255 rfl (by unfold rg; omega) ?_
            refine y_aload_n rfl rfl ?_
            refine y_gfr rfl rfl rfl rfl rfl (hHT8.r 891 0 876 rfl) ?_
            refine y_gfr rfl rfl rfl rfl rfl (hHT8.r 876 2 879 rfl) ?_
            refine y_iload_n rfl rfl ?_
            refine y_iconst rfl ?_
            refine y_iadd rfl ?_
            refine y_iload rfl rfl ?_
            have w91 : Xi T8 1 3 = Xi S 1 3 := (show Xi T8 1 3 = Xi S 1 3 from w85.x _ _ rfl)
            refine y_callV rfl rfl rfl (t_vo_nameIt__p hHT8 11 (z11 % 256) 879 5130 (z10 + 1) z83 ⟨by omega, by omega⟩ ⟨by omega, by omega⟩ rfl ⟨by omega, by omega⟩ ⟨by omega, by omega⟩ ⟨by omega, by omega⟩ (by first | assumption | omega) (by first | assumption | omega) (Or.inl rfl) _) ?_
            rintro _ T9 ⟨hHT9, w93, rfl, e151⟩
            have hFT9 : FR md_re_tellPlural__p S T9 := FR.tr hFT8 w93 rfl
            show Pl _ _ _ _ _ _ [] _ _
            have K151 : True := trivial
            have F151 := (by assumption : FR md_vo_nameIt__p T8 T9)
            have f151 : Xi T9 876 8 = 0 := (F151.x 876 8 rfl).trans f118
            have C151 : Hid (∀ j, Xi T9 5 j = Xi S 5 j) := fun j => by rw [(F151.cx 5 rfl j).1, (F118.cx 5 rfl j).1]
            have t := e151
            rw [← gq95, ← gq14, ← gq5] at t
            have t151 := Hid.i t
            clear e151 t
            have R151 : TPL S T9 1 (bA (ty7 S) 3) (re7 (ty7 S) (bA (ty7 S) 3)) ((re7 (ty7 S) (bA (ty7 S) 3)) + 1) (re7 (ty7 S) ((re7 (ty7 S) (bA (ty7 S) 3)) + 1)) := by first | exact tpl_k (by rw [← km_y hmv (by omega)]; omega) A118.o.1 ⟨f151, by rw [← km_y hmv (by omega)]; exact tn1_of V118 t151.o (fun _ => rfl) (fun _ => rfl) (fun _ => rfl) rfl, C151.o⟩ | exact tpl_t (km_n hmv (by omega)).symm (by rw [← tm_y hmv (by omega)]; omega) A118.o.1 ⟨f151, by rw [← tm_y hmv (by omega)]; exact tn1_of V118 t151.o (fun _ => rfl) (fun _ => rfl) (fun _ => rfl) rfl, C151.o⟩
            refine y_iconst rfl ?_
            refine y_ireturn rfl rfl ?_
            have w94 : Xi T9 876 8 = Xi T8 876 8 := (show Xi T9 876 8 = Xi T8 876 8 from w93.x _ _ rfl)
            have w95 : Xi T9 891 9 = Xi T8 891 9 := (show Xi T9 891 9 = Xi T8 891 9 from w93.x _ _ rfl)
            exact ⟨hHT9, hFT9, _, rfl, ⟨by omega, by omega⟩, (by first | (have t := K151; exact R151) | (have t := K110; exact tpl_2 km110.o n3_110.o ok_110.o (by omega) hn0) | (have t := K84; exact tpl_1 (by omega) (by omega) (by omega) Y84))⟩
        · refine y_iconst rfl ?_
          refine y_ireturn rfl rfl ?_
          have w96 : Xi T8 1 3 = Xi S 1 3 := (show Xi T8 1 3 = Xi S 1 3 from w85.x _ _ rfl)
          exact ⟨hHT8, hFT8, _, rfl, ⟨by omega, by omega⟩, (by first | (have t := K151; exact R151) | (have t := K110; exact tpl_2 km110.o n3_110.o ok_110.o (by omega) hn0) | (have t := K84; exact tpl_1 (by omega) (by omega) (by omega) Y84))⟩
end
section
/-! class and reference: what words mean -/
/-- the reference's sorts as the class's -/
def sg7 (s : Int) : Int := if s = 0 then 0 else if s = 1 then 11 else if s = 2 then 1 else if s = 3 then 12 else if s = 4 then 2 else if s = 5 then 3 else if s = 6 then 4 else if s = 7 then 5 else if s = 8 then 6 else if s = 9 then 7 else if s = 10 then 13 else if s = 11 then 8 else 14
def ug7 (s : Int) : Int := if s = 0 then 0 else if s = 11 then 1 else if s = 1 then 2 else if s = 12 then 3 else if s = 2 then 4 else if s = 3 then 5 else if s = 4 then 6 else if s = 5 then 7 else if s = 6 then 8 else if s = 7 then 9 else if s = 13 then 10 else if s = 8 then 11 else 12
theorem ug_sg {s : Int} (h : 0 ≤ s ∧ s ≤ 12) : ug7 (sg7 s) = s ∧ 0 ≤ sg7 s ∧ sg7 s ≤ 14 := by
  rcases (by omega : s = 0 ∨ s = 1 ∨ s = 2 ∨ s = 3 ∨ s = 4 ∨ s = 5 ∨ s = 6 ∨ s = 7 ∨ s = 8 ∨ s = 9 ∨ s = 10 ∨ s = 11 ∨ s = 12) with q | q | q | q | q | q | q | q | q | q | q | q | q <;> subst q <;> exact ⟨by decide, by decide, by decide⟩
theorem sg_inj {s t : Int} (h : 0 ≤ s ∧ s ≤ 12) (k : 0 ≤ t ∧ t ≤ 12) (e : sg7 s = sg7 t) : s = t := by
  have a := (ug_sg h).1
  have b := (ug_sg k).1
  rw [e] at a
  exact a.symm.trans b
/-- what tokens mean to the reference, in the class's numbers -/
noncomputable def mR (S : sS) (t n : Int) : Int := if nmR S t n = -1 then -1 else sg7 (Xi S 914 (nmR S t n).toNat) * 256 + Xi S 915 (nmR S t n).toNat
/-- sorts and numbers of the reference's words -/
def LXR (S : sS) : Prop := ∀ k : Nat, (k : Int) < Xi S 904 15 → (0 ≤ Xi S 914 k ∧ Xi S 914 k ≤ 12) ∧ 0 ≤ Xi S 915 k ∧ Xi S 915 k ≤ 63
theorem mR_cs {S : sS} {t n : Int} (hx : LXR S) (h15 : 0 ≤ Xi S 904 15) : (nmR S t n = -1 ∧ mR S t n = -1) ∨ (nmR S t n ≠ -1 ∧ mR S t n / 256 = sg7 (Xi S 914 (nmR S t n).toNat) ∧ mR S t n % 256 = Xi S 915 (nmR S t n).toNat ∧ 0 ≤ Xi S 914 (nmR S t n).toNat ∧ Xi S 914 (nmR S t n).toNat ≤ 12 ∧ 0 ≤ mR S t n) := by
  by_cases q : nmR S t n = -1
  · exact Or.inl ⟨q, by unfold mR; rw [if_pos q]⟩
  · have g := nmR_rg (S := S) (t := t) (n := n) h15
    obtain ⟨x1, x2⟩ := hx (nmR S t n).toNat (by omega)
    have u := (ug_sg x1).2
    refine Or.inr ⟨q, ?_, ?_, x1.1, x1.2, ?_⟩ <;> unfold mR <;> rw [if_neg q] <;> omega
/-- a word of one sort: both find the same -/
theorem fnd_ms {U S : sS} {a b t n s : Int} (h : mnV U a b = mR S t n) (hx : LXR S) (h15 : 0 ≤ Xi S 904 15) (hs : 0 ≤ s ∧ s ≤ 12) : fnd U (sg7 s) a b = msR S t n s := by
  have u := (ug_sg hs).2
  unfold fnd msR
  rw [h]
  rcases mR_cs (t := t) (n := n) hx h15 with ⟨q, e⟩ | ⟨q, e1, e2, e3, e4, _⟩
  · rw [e, if_neg (by omega), if_neg (fun w => w.1 q)]
  · rw [e1, e2]
    by_cases w : Xi S 914 (nmR S t n).toNat = s
    · rw [if_pos (congrArg sg7 w), if_pos ⟨q, w⟩]
    · rw [if_neg (fun z => w (sg_inj ⟨e3, e4⟩ hs z)), if_neg (fun z => w z.2)]
/-- nothing is meant to both, or to none -/
theorem mn_no {U S : sS} {a b t n : Int} (h : mnV U a b = mR S t n) (hx : LXR S) (h15 : 0 ≤ Xi S 904 15) : mnV U a b = -1 ↔ nmR S t n = -1 := by
  rw [h]
  rcases mR_cs (t := t) (n := n) hx h15 with ⟨q, e⟩ | ⟨q, e1, e2, e3, e4, e5⟩
  · exact ⟨fun _ => q, fun _ => e⟩
  · exact ⟨fun w => by omega, fun w => absurd w q⟩
theorem km_r2 {U S : sS} {a b r : Int} (h : mnV U a b = mR S (Xi S 950 r.toNat) (Xi S 951 r.toNat)) (hx : LXR S) (h15 : 0 ≤ Xi S 904 15) : kmC U a b = r2R S r 0 1 := by
  have f0 := fnd_ms (s := 0) h hx h15 (by omega)
  have f1 := fnd_ms (s := 1) h hx h15 (by omega)
  rw [show sg7 0 = 0 from rfl] at f0
  rw [show sg7 1 = 11 from rfl] at f1
  unfold r2R rnR
  rw [← f0, ← f1]
  unfold kmC fnd
  rcases mR_cs (t := Xi S 950 r.toNat) (n := Xi S 951 r.toNat) hx h15 with ⟨q, e⟩ | ⟨q, e1, e2, e3, e4, e5⟩
  · rw [h, e, if_neg (by omega), if_neg (by omega), if_neg (by omega)]
  · by_cases w : mnV U a b / 256 = 0
    · rw [if_pos (Or.inl w), if_pos w, if_pos (by omega)]
    · rw [if_neg w, if_neg (show ¬ ((-1 : Int) ≠ -1) from fun z => z rfl)]
      by_cases w2 : mnV U a b / 256 = 11
      · rw [if_pos (Or.inr w2), if_pos w2]
      · rw [if_neg (by omega), if_neg w2]
end
section
/-- a sentence in both: rows from 0, tokens from f -/
def SRL (U S : sS) (f : Nat) : Prop := (∀ a b : Int, 0 ≤ a → b ≤ Xi U 876 7 → (∀ i : Int, a ≤ i → i < b → ty7 U i = 100) → mnV U a b = mR S (f + a) (b - a)) ∧ (∀ r : Int, 0 ≤ r → r < Xi U 876 7 → pc7 U r = Xi S 908 (f + r).toNat) ∧ ∀ i j : Int, 0 ≤ i → 0 ≤ j → ty7 U i = 100 → ty7 U j = 100 → (Xj U 879 i.toNat = Xj U 879 j.toNat ↔ Xj S 910 (f + i).toNat = Xj S 910 (f + j).toNat)
/-- the run r is the rows from a to b -/
def RNR (U S : sS) (f : Nat) (r a b : Int) : Prop := 0 ≤ a ∧ a < b ∧ b ≤ Xi U 876 7 ∧ Xi S 950 r.toNat = f + a ∧ Xi S 951 r.toNat = b - a ∧ ∀ i : Int, a ≤ i → i < b → ty7 U i = 100
theorem rn_fnd {U S : sS} {f : Nat} {r a b s : Int} (h : SRL U S f) (k : RNR U S f r a b) (hx : LXR S) (h15 : 0 ≤ Xi S 904 15) (hs : 0 ≤ s ∧ s ≤ 12) : fnd U (sg7 s) a b = rnR S r s := by
  unfold rnR
  rw [k.2.2.2.1, k.2.2.2.2.1]
  exact fnd_ms (h.1 a b k.1 k.2.2.1 k.2.2.2.2.2) hx h15 hs
theorem rn_pc {U S : sS} {f : Nat} {r a b : Int} (h : SRL U S f) (k : RNR U S f r a b) : pc7 U a = pR S r := by
  unfold pR
  rw [k.2.2.2.1]
  exact h.2.1 a k.1 (by have := k.2.1; have := k.2.2.1; omega)
theorem rn_new {U S : sS} {f : Nat} {r a b : Int} (h : SRL U S f) (k : RNR U S f r a b) (hx : LXR S) (h15 : 0 ≤ Xi S 904 15) (hn : Xi U 891 9 = 0) : nwC U a b ↔ nwR0 S r := by
  have m := mn_no (h.1 a b k.1 k.2.2.1 k.2.2.2.2.2) hx h15
  unfold nwC nwR0 rmR
  rw [k.2.2.2.1, k.2.2.2.2.1, m]
  constructor
  · intro w; exact ⟨w.2.1, w.1⟩
  · intro w; exact ⟨w.2, w.1, fun ⟨i, hi, _⟩ => by omega⟩
theorem rn_al {U S : sS} {f : Nat} {r q a b c d : Int} (h : SRL U S f) (k : RNR U S f q a b) (l : RNR U S f r c d) : alC U a b c d ↔ alR S r q := by
  unfold alC alR
  rw [k.2.2.2.1, k.2.2.2.2.1, l.2.2.2.1, l.2.2.2.2.1]
  have ha := k.1
  have hc := l.1
  constructor
  · rintro ⟨e, w⟩
    refine ⟨by omega, fun i h0 h1 => ?_⟩
    have t := w i.toNat (by omega)
    rw [show ((i.toNat : Nat) : Int) = i by omega] at t
    have z := (h.2.2 (a + i) (c + i) (by omega) (by omega) (k.2.2.2.2.2 _ (by omega) (by omega)) (l.2.2.2.2.2 _ (by omega) (by omega))).1 t
    rw [show (f : Int) + c + i = f + (c + i) by omega, show (f : Int) + a + i = f + (a + i) by omega]
    exact z.symm
  · rintro ⟨e, w⟩
    refine ⟨by omega, fun i h1 => ?_⟩
    have t := w i (by omega) (by omega)
    rw [show (f : Int) + c + i = f + (c + i) by omega, show (f : Int) + a + i = f + (a + i) by omega] at t
    exact (h.2.2 (a + i) (c + i) (by omega) (by omega) (k.2.2.2.2.2 _ (by omega) (by omega)) (l.2.2.2.2.2 _ (by omega) (by omega))).2 t.symm
theorem rn_nw1 {U S : sS} {f : Nat} {r q a b c d : Int} (h : SRL U S f) (k : RNR U S f q a b) (l : RNR U S f r c d) (hx : LXR S) (h15 : 0 ≤ Xi S 904 15) : nw1 U a b c d ↔ nwR1 S q r := by
  have m := mn_no (h.1 c d l.1 l.2.2.1 l.2.2.2.2.2) hx h15
  unfold nw1 nwR1 nwR0 rmR
  rw [l.2.2.2.1, l.2.2.2.2.1, m, rn_al h k l]
  exact ⟨fun w => ⟨⟨w.2.1, w.1⟩, w.2.2⟩, fun w => ⟨w.1.2, w.1.1, w.2⟩⟩
/-- both tell the same fault, or none -/
def SFT (U1 : sS) (z : Int) (x : Int × Int × Int) : Prop := (z = 0 ∧ NTB x (Xi U1 876 8) (Xi U1 876 9)) ∨ (z = 1 ∧ x.1 = 0 ∧ Xi U1 876 8 = 0)
theorem sft_f {U U1 S : sS} {c r p z : Int} {x : Int × Int × Int} (h : z = 0 ∧ FTO U U1 c r) (e : pc7 U r = p) (n : NTB x c p) : SFT U1 z x := by
  obtain ⟨h1, h2, h3⟩ := h
  refine Or.inl ⟨h1, ?_⟩
  rw [h2, h3, e]
  exact n
/-- 18 -/
theorem can_same {U U1 S : sS} {f : Nat} {z nm e a o t : Int} {x : Int × Int × Int} (h : SRL U S f) (k0 : RNR U S f 0 nm e) (k1 : RNR U S f 1 a o) (k2 : RNR U S f 2 (o + 1) t) (hx : LXR S) (h15 : 0 ≤ Xi S 904 15) (hn : Xi U 891 9 = 0) (hc : Xi U 5 3 = Xi S 904 23) (h24 : Xi U 5 3 ≤ 24) (tc : TCAN U U1 z nm e a o t) (rc : RCAN S x) : SFT U1 z x := by
  have fk : fnd U 0 nm e = rnR S 0 0 := rn_fnd (s := 0) h k0 hx h15 (by omega)
  have n1 := rn_new h k1 hx h15 hn
  have n2 := rn_nw1 h k1 k2 hx h15
  obtain ⟨t1, t2, t3, t4, t5, t6⟩ := tc
  obtain ⟨r1, r2, r3, r4, r5, r6⟩ := rc
  by_cases q : rnR S 0 0 = -1
  · exact sft_f (S := S) (t1 (by rw [fk]; exact q)) (rn_pc h k0) (r1 q)
  · have q' : fnd U 0 nm e ≠ -1 := by rw [fk]; exact q
    by_cases w : nwR0 S 1
    · by_cases c : 24 ≤ Xi S 904 23
      · exact sft_f (S := S) (t3 q' (n1.2 w) (by omega)) (rn_pc h k1) (r3 q w c)
      · by_cases v : nwR1 S 1 2
        · by_cases d : Xi S 904 23 = 23
          · exact sft_f (S := S) (t5 q' (n1.2 w) (n2.2 v) (by omega)) (rn_pc h k2) (r5 q v w d)
          · obtain ⟨z1, z2, _⟩ := t6 q' (n1.2 w) (n2.2 v) (by omega)
            exact Or.inr ⟨z1, r6 q v w (by omega), z2⟩
        · exact sft_f (S := S) (t4 q' (n1.2 w) (by omega) (fun y => v (n2.1 y))) (rn_pc h k2) (r4 q w (by omega) v)
    · exact sft_f (S := S) (t2 q' (fun y => w (n1.1 y))) (rn_pc h k1) (r2 q w)
theorem rn_km {U S : sS} {f : Nat} {r a b : Int} (h : SRL U S f) (k : RNR U S f r a b) (hx : LXR S) (h15 : 0 ≤ Xi S 904 15) : kmC U a b = r2R S r 0 1 :=
  km_r2 (by rw [k.2.2.2.1, k.2.2.2.2.1]; exact h.1 a b k.1 k.2.2.1 k.2.2.2.2.2) hx h15
/-- 19 -/
theorem rel_same {U U1 S : sS} {f : Nat} {z nm e a o l m x y : Int} {w : Int × Int × Int} (h : SRL U S f) (k0 : RNR U S f 0 nm e) (k1 : RNR U S f 1 a o) (k2 : RNR U S f 2 l m) (hx : LXR S) (h15 : 0 ≤ Xi S 904 15) (hn : Xi U 891 9 = 0) (hc : Xi U 5 6 = Xi S 904 41) (tc : TREL U U1 z nm e a o l m x y) (rc : RREL S w) : SFT U1 z w := by
  have n0 := rn_new h k0 hx h15 hn
  have m1 := rn_km h k1 hx h15
  have m2 := rn_km h k2 hx h15
  obtain ⟨t1, t2, t3, t4, t5⟩ := tc
  obtain ⟨r1, r2, r3, r4, r5⟩ := rc
  by_cases q : nwR0 S 0
  · by_cases c : 6 ≤ Xi S 904 41
    · exact sft_f (S := S) (t2 (n0.2 q) (by omega)) (rn_pc h k0) (r2 q c)
    · by_cases v : r2R S 1 0 1 = -1
      · exact sft_f (S := S) (t3 (n0.2 q) (by omega) (by rw [m1]; exact v)) (rn_pc h k1) (r3 q (by omega) v)
      · by_cases v2 : r2R S 2 0 1 = -1
        · exact sft_f (S := S) (t4 (n0.2 q) (by omega) (by rw [m1]; exact v) (by rw [m2]; exact v2)) (rn_pc h k2) (r4 q (by omega) v v2)
        · obtain ⟨z1, z2, _⟩ := t5 (n0.2 q) (by omega) (by rw [m1]; exact v) (by rw [m2]; exact v2)
          exact Or.inr ⟨z1, r5 q (by omega) v v2, z2⟩
  · exact sft_f (S := S) (t1 (fun y => q (n0.1 y))) (rn_pc h k0) (r1 q)
end
section
theorem tm_r2 {U S : sS} {a b r : Int} (h : mnV U a b = mR S (Xi S 950 r.toNat) (Xi S 951 r.toNat)) (hx : LXR S) (h15 : 0 ≤ Xi S 904 15) : tmC U a b = r2R S r 2 3 := by
  have f0 := fnd_ms (s := 2) h hx h15 (by omega)
  have f1 := fnd_ms (s := 3) h hx h15 (by omega)
  rw [show sg7 2 = 1 from rfl] at f0
  rw [show sg7 3 = 12 from rfl] at f1
  unfold r2R rnR
  rw [← f0, ← f1]
  unfold tmC fnd
  rcases mR_cs (t := Xi S 950 r.toNat) (n := Xi S 951 r.toNat) hx h15 with ⟨q, e⟩ | ⟨q, e1, e2, e3, e4, e5⟩
  · rw [h, e, if_neg (by omega), if_neg (by omega), if_neg (by omega)]
  · by_cases w : mnV U a b / 256 = 1
    · rw [if_pos (Or.inl w), if_pos w, if_pos (by omega)]
    · rw [if_neg w, if_neg (show ¬ ((-1 : Int) ≠ -1) from fun z => z rfl)]
      by_cases w2 : mnV U a b / 256 = 12
      · rw [if_pos (Or.inr w2), if_pos w2]
      · rw [if_neg (by omega), if_neg w2]
/-- 8 -/
theorem pl_same {U U1 S : sS} {f : Nat} {z g b a t : Int} {w : Int × Int × Int} (h : SRL U S f) (k0 : RNR U S f 0 g b) (k1 : RNR U S f 1 a t) (hx : LXR S) (h15 : 0 ≤ Xi S 904 15) (hn : Xi U 891 9 = 0) (tc : TPL U U1 z g b a t) (rc : RPL S w) : SFT U1 z w := by
  have n1 := rn_new h k1 hx h15 hn
  have m0 := rn_km h k0 hx h15
  have m2 : tmC U g b = r2R S 0 2 3 := tm_r2 (by rw [k0.2.2.2.1, k0.2.2.2.2.1]; exact h.1 g b k0.1 k0.2.2.1 k0.2.2.2.2.2) hx h15
  obtain ⟨t1, t2, t3, t4⟩ := tc
  obtain ⟨r1, r2, r3⟩ := rc
  rw [m0, m2] at t1 t2 t4
  rw [m0] at t3
  by_cases q : r2R S 0 0 1 = -1 ∧ r2R S 0 2 3 = -1
  · exact sft_f (S := S) (t1 q.1 q.2) (rn_pc h k0) (r1 q.1 q.2)
  · by_cases v : nwR0 S 1
    · by_cases c : r2R S 0 0 1 = -1
      · obtain ⟨z1, z2, _⟩ := t4 c (fun y => q ⟨c, y⟩) (n1.2 v)
        exact Or.inr ⟨z1, r3 q v, z2⟩
      · obtain ⟨z1, z2, _⟩ := t3 c (n1.2 v)
        exact Or.inr ⟨z1, r3 q v, z2⟩
    · exact sft_f (S := S) (t2 q (fun y => v (n1.1 y))) (rn_pc h k1) (r2 q v)
end
