section
def md_mo_asked__0f : List rec := [(904, 905, 104, 105), (904, 905, 105, 106), (904, 905, 106, 107), (904, 905, 108, 109), (904, 905, 115, 116), (904, 905, 116, 117)]
abbrev Q_mo_asked__0f (S : sS) (first : Int) : pst := fun r S1 => RI S1 ∧ FR md_mo_asked__0f S S1 ∧ (r = none)
set_option maxRecDepth 100000 in
theorem t_mo_asked__0f {S : sS} (hH : RI S) (first : Int) (hfirst : 0 ≤ first ∧ first ≤ 5001) (hs : Xi S 904 70 = 0) (d : Nat) : Mp lay0 (d + 13) m_mo_asked [.ref 904, iv first] S (Q_mo_asked__0f S first) := by
  refine Mp_R rfl rfl (fun fu => ?_)
  have hF : FR md_mo_asked__0f S S := FR.rf
  have w1 : -2147483648 ≤ Xi S 904 104 ∧ Xi S 904 104 ≤ 2147483647 := Xi_rgI
  have w2 : -2147483648 ≤ Xi S 904 105 ∧ Xi S 904 105 ≤ 2147483647 := Xi_rgI
  have w3 : -2147483648 ≤ Xi S 904 106 ∧ Xi S 904 106 ≤ 2147483647 := Xi_rgI
  have w4 : -2147483648 ≤ Xi S 904 108 ∧ Xi S 904 108 ≤ 2147483647 := Xi_rgI
  have w5 : -2147483648 ≤ Xi S 904 60 ∧ Xi S 904 60 ≤ 2147483647 := Xi_rgI
  have w6 : -2147483648 ≤ Xi S 904 70 ∧ Xi S 904 70 ≤ 2147483647 := Xi_rgI
  refine y_aload_n rfl rfl ?_
  refine y_iconst rfl ?_
  refine y_pfi rfl rfl rfl rfl ?_
  obtain ⟨U1, eU1⟩ : ∃ T : sS, T = uI S 904 106 (Int32.ofInt 0) := ⟨_, rfl⟩
  rw [← eU1]
  have hHU1 : RI U1 := by rw [eU1]; exact RI_w hH
  have hFU1 : FR md_mo_asked__0f S U1 := by rw [eU1]; exact FR.wI hF (mdf_i (r := (904, 905, 106, 107)) (List.mem_of_getElem? (i := 2) rfl) (inR_i (by omega) (by omega) (by omega) (by omega)))
  have w7 : Xi U1 904 106 = 0 := by rw [eU1]; exact Xi_same (by unfold rg; omega)
  refine y_aload_n rfl rfl ?_
  refine y_iconst rfl ?_
  refine y_pfi rfl rfl rfl rfl ?_
  obtain ⟨U2, eU2⟩ : ∃ T : sS, T = uI U1 904 108 (Int32.ofInt 0) := ⟨_, rfl⟩
  rw [← eU2]
  have hHU2 : RI U2 := by rw [eU2]; exact RI_w hHU1
  have hFU2 : FR md_mo_asked__0f S U2 := by rw [eU2]; exact FR.wI hFU1 (mdf_i (r := (904, 905, 108, 109)) (List.mem_of_getElem? (i := 3) rfl) (inR_i (by omega) (by omega) (by omega) (by omega)))
  have w8 : Xi U2 904 108 = 0 := by rw [eU2]; exact Xi_same (by unfold rg; omega)
  refine y_aload_n rfl rfl ?_
  refine y_iconst rfl ?_
  refine y_pfi rfl rfl rfl rfl ?_
  obtain ⟨U3, eU3⟩ : ∃ T : sS, T = uI U2 904 115 (Int32.ofInt (-1)) := ⟨_, rfl⟩
  rw [← eU3]
  have hHU3 : RI U3 := by rw [eU3]; exact RI_w hHU2
  have hFU3 : FR md_mo_asked__0f S U3 := by rw [eU3]; exact FR.wI hFU2 (mdf_i (r := (904, 905, 115, 116)) (List.mem_of_getElem? (i := 4) rfl) (inR_i (by omega) (by omega) (by omega) (by omega)))
  have w9 : Xi U3 904 115 = (-1) := by rw [eU3]; exact Xi_same (by unfold rg; omega)
  refine y_aload_n rfl rfl ?_
  refine y_iconst rfl ?_
  refine y_pfi rfl rfl rfl rfl ?_
  obtain ⟨U4, eU4⟩ : ∃ T : sS, T = uI U3 904 116 (Int32.ofInt (-1)) := ⟨_, rfl⟩
  rw [← eU4]
  have hHU4 : RI U4 := by rw [eU4]; exact RI_w hHU3
  have hFU4 : FR md_mo_asked__0f S U4 := by rw [eU4]; exact FR.wI hFU3 (mdf_i (r := (904, 905, 116, 117)) (List.mem_of_getElem? (i := 5) rfl) (inR_i (by omega) (by omega) (by omega) (by omega)))
  have w10 : Xi U4 904 116 = (-1) := by rw [eU4]; exact Xi_same (by unfold rg; omega)
  refine y_aload_n rfl rfl ?_
  refine y_gfi rfl rfl rfl rfl rfl ?_
  have w11 : (Xi U4 904 70) = (Xi S 904 70) := (show Xi U4 904 70 = Xi U3 904 70 from by rw [eU4]; exact Xi_ne (by omega)).trans ( (show Xi U3 904 70 = Xi U2 904 70 from by rw [eU3]; exact Xi_ne (by omega)).trans ( (show Xi U2 904 70 = Xi U1 904 70 from by rw [eU2]; exact Xi_ne (by omega)).trans ((show Xi U1 904 70 = Xi S 904 70 from by rw [eU1]; exact Xi_ne (by omega)))))
  rw [w11]
  refine y_tsw rfl rfl rfl rfl (by unfold rg; omega) (fun w12 => ?_) (fun ii tt hii w12 => ?_)
  · exfalso; omega
  · match ii, hii with
    | 0, hii =>
      cases hii
      have w13 : (Xi S 904 70) = 0 := by simpa using w12
      refine y_aload_n rfl rfl ?_
      refine y_aload_n rfl rfl ?_
      refine y_gfi rfl rfl rfl rfl rfl ?_
      have w14 : (Xi U4 904 60) = (Xi S 904 60) := (show Xi U4 904 60 = Xi U3 904 60 from by rw [eU4]; exact Xi_ne (by omega)).trans ( (show Xi U3 904 60 = Xi U2 904 60 from by rw [eU3]; exact Xi_ne (by omega)).trans ( (show Xi U2 904 60 = Xi U1 904 60 from by rw [eU2]; exact Xi_ne (by omega)).trans ((show Xi U1 904 60 = Xi S 904 60 from by rw [eU1]; exact Xi_ne (by omega)))))
      rw [w14]
      refine y_iconst rfl ?_
      refine y_icmp_eq rfl rfl (by unfold rg; omega) (by unfold rg; omega) (fun w15 => ?_) (fun w16 => ?_)
      · refine y_iconst rfl ?_
        refine y_iconst rfl ?_
        refine y_aload_n rfl rfl ?_
        refine y_gfi rfl rfl rfl rfl rfl ?_
        have w17 : -2147483648 ≤ (Xi U4 904 81) ∧ (Xi U4 904 81) ≤ 2147483647 := Xi_rgI
        have e140 : (Xi U4 904 81) = Xi S 904 81 := hFU4.x 904 81 rfl
        have w18 : Xi U4 904 104 = Xi S 904 104 := (show Xi U4 904 104 = Xi U3 904 104 from by rw [eU4]; exact Xi_ne (by omega)).trans ( (show Xi U3 904 104 = Xi U2 904 104 from by rw [eU3]; exact Xi_ne (by omega)).trans ( (show Xi U2 904 104 = Xi U1 904 104 from by rw [eU2]; exact Xi_ne (by omega)).trans ((show Xi U1 904 104 = Xi S 904 104 from by rw [eU1]; exact Xi_ne (by omega)))))
        have w19 : Xi U4 904 105 = Xi S 904 105 := (show Xi U4 904 105 = Xi U3 904 105 from by rw [eU4]; exact Xi_ne (by omega)).trans ( (show Xi U3 904 105 = Xi U2 904 105 from by rw [eU3]; exact Xi_ne (by omega)).trans ( (show Xi U2 904 105 = Xi U1 904 105 from by rw [eU2]; exact Xi_ne (by omega)).trans ((show Xi U1 904 105 = Xi S 904 105 from by rw [eU1]; exact Xi_ne (by omega)))))
        have w20 : Xi U4 904 106 = Xi U1 904 106 := (show Xi U4 904 106 = Xi U3 904 106 from by rw [eU4]; exact Xi_ne (by omega)).trans ( (show Xi U3 904 106 = Xi U2 904 106 from by rw [eU3]; exact Xi_ne (by omega)).trans ((show Xi U2 904 106 = Xi U1 904 106 from by rw [eU2]; exact Xi_ne (by omega))))
        have w21 : Xi U4 904 108 = Xi U2 904 108 := (show Xi U4 904 108 = Xi U3 904 108 from by rw [eU4]; exact Xi_ne (by omega)).trans ((show Xi U3 904 108 = Xi U2 904 108 from by rw [eU3]; exact Xi_ne (by omega)))
        have w22 : Xi U4 904 60 = Xi S 904 60 := (show Xi U4 904 60 = Xi U3 904 60 from by rw [eU4]; exact Xi_ne (by omega)).trans ( (show Xi U3 904 60 = Xi U2 904 60 from by rw [eU3]; exact Xi_ne (by omega)).trans ( (show Xi U2 904 60 = Xi U1 904 60 from by rw [eU2]; exact Xi_ne (by omega)).trans ((show Xi U1 904 60 = Xi S 904 60 from by rw [eU1]; exact Xi_ne (by omega)))))
        have w23 : Xi U4 904 70 = Xi S 904 70 := (show Xi U4 904 70 = Xi U3 904 70 from by rw [eU4]; exact Xi_ne (by omega)).trans ( (show Xi U3 904 70 = Xi U2 904 70 from by rw [eU3]; exact Xi_ne (by omega)).trans ( (show Xi U2 904 70 = Xi U1 904 70 from by rw [eU2]; exact Xi_ne (by omega)).trans ((show Xi U1 904 70 = Xi S 904 70 from by rw [eU1]; exact Xi_ne (by omega)))))
        refine y_callV rfl rfl rfl (t_mo_need__p hHU4 0 4 (Xi U4 904 81) ⟨by omega, by omega⟩ ⟨by omega, by omega⟩ ⟨by omega, by omega⟩ _) ?_
        rintro _ T5 ⟨hHT5, w25, rfl, nt143⟩
        have hFT5 : FR md_mo_asked__0f S T5 := FR.tr hFU4 w25 rfl
        show Pl _ _ _ _ _ _ [] _ _
        have K143 : True := trivial
        have z143 : (NT3 U4).1 = 0 := by show Xi U4 904 106 = 0; omega
        have n143 := nt143
        rw [(hFU4.cx 908 rfl _).1, e140] at n143
        have R143 : RA0 S T5 := by first | exact ra0_n (by omega) z143 n143 | exact ra0_y (by omega) z143 n143
        refine y_goto rfl rfl ?_
        refine y_return rfl rfl ?_
        exact ⟨hHT5, hFT5, rfl⟩
      · refine y_iconst rfl ?_
        refine y_goto rfl rfl ?_
        refine y_iconst rfl ?_
        refine y_aload_n rfl rfl ?_
        refine y_gfi rfl rfl rfl rfl rfl ?_
        have w29 : -2147483648 ≤ (Xi U4 904 81) ∧ (Xi U4 904 81) ≤ 2147483647 := Xi_rgI
        have e140 : (Xi U4 904 81) = Xi S 904 81 := hFU4.x 904 81 rfl
        have w30 : Xi U4 904 104 = Xi S 904 104 := (show Xi U4 904 104 = Xi U3 904 104 from by rw [eU4]; exact Xi_ne (by omega)).trans ( (show Xi U3 904 104 = Xi U2 904 104 from by rw [eU3]; exact Xi_ne (by omega)).trans ( (show Xi U2 904 104 = Xi U1 904 104 from by rw [eU2]; exact Xi_ne (by omega)).trans ((show Xi U1 904 104 = Xi S 904 104 from by rw [eU1]; exact Xi_ne (by omega)))))
        have w31 : Xi U4 904 105 = Xi S 904 105 := (show Xi U4 904 105 = Xi U3 904 105 from by rw [eU4]; exact Xi_ne (by omega)).trans ( (show Xi U3 904 105 = Xi U2 904 105 from by rw [eU3]; exact Xi_ne (by omega)).trans ( (show Xi U2 904 105 = Xi U1 904 105 from by rw [eU2]; exact Xi_ne (by omega)).trans ((show Xi U1 904 105 = Xi S 904 105 from by rw [eU1]; exact Xi_ne (by omega)))))
        have w32 : Xi U4 904 106 = Xi U1 904 106 := (show Xi U4 904 106 = Xi U3 904 106 from by rw [eU4]; exact Xi_ne (by omega)).trans ( (show Xi U3 904 106 = Xi U2 904 106 from by rw [eU3]; exact Xi_ne (by omega)).trans ((show Xi U2 904 106 = Xi U1 904 106 from by rw [eU2]; exact Xi_ne (by omega))))
        have w33 : Xi U4 904 108 = Xi U2 904 108 := (show Xi U4 904 108 = Xi U3 904 108 from by rw [eU4]; exact Xi_ne (by omega)).trans ((show Xi U3 904 108 = Xi U2 904 108 from by rw [eU3]; exact Xi_ne (by omega)))
        have w34 : Xi U4 904 60 = Xi S 904 60 := (show Xi U4 904 60 = Xi U3 904 60 from by rw [eU4]; exact Xi_ne (by omega)).trans ( (show Xi U3 904 60 = Xi U2 904 60 from by rw [eU3]; exact Xi_ne (by omega)).trans ( (show Xi U2 904 60 = Xi U1 904 60 from by rw [eU2]; exact Xi_ne (by omega)).trans ((show Xi U1 904 60 = Xi S 904 60 from by rw [eU1]; exact Xi_ne (by omega)))))
        have w35 : Xi U4 904 70 = Xi S 904 70 := (show Xi U4 904 70 = Xi U3 904 70 from by rw [eU4]; exact Xi_ne (by omega)).trans ( (show Xi U3 904 70 = Xi U2 904 70 from by rw [eU3]; exact Xi_ne (by omega)).trans ( (show Xi U2 904 70 = Xi U1 904 70 from by rw [eU2]; exact Xi_ne (by omega)).trans ((show Xi U1 904 70 = Xi S 904 70 from by rw [eU1]; exact Xi_ne (by omega)))))
        refine y_callV rfl rfl rfl (t_mo_need__p hHU4 1 4 (Xi U4 904 81) ⟨by omega, by omega⟩ ⟨by omega, by omega⟩ ⟨by omega, by omega⟩ _) ?_
        rintro _ T6 ⟨hHT6, w37, rfl, nt143⟩
        have hFT6 : FR md_mo_asked__0f S T6 := FR.tr hFU4 w37 rfl
        show Pl _ _ _ _ _ _ [] _ _
        have K143 : True := trivial
        have z143 : (NT3 U4).1 = 0 := by show Xi U4 904 106 = 0; omega
        have n143 := nt143
        rw [(hFU4.cx 908 rfl _).1, e140] at n143
        have R143 : RA0 S T6 := by first | exact ra0_n (by omega) z143 n143 | exact ra0_y (by omega) z143 n143
        refine y_goto rfl rfl ?_
        refine y_return rfl rfl ?_
        exact ⟨hHT6, hFT6, rfl⟩
    | 1, hii =>
      cases hii
      have w41 : (Xi S 904 70) = 1 := by simpa using w12
      exfalso; omega
    | 2, hii =>
      cases hii
      have w42 : (Xi S 904 70) = 2 := by simpa using w12
      exfalso; omega
    | 3, hii =>
      cases hii
      have w43 : (Xi S 904 70) = 3 := by simpa using w12
      exfalso; omega
    | 4, hii =>
      cases hii
      have w44 : (Xi S 904 70) = 4 := by simpa using w12
      exfalso; omega
    | 5, hii =>
      cases hii
      have w45 : (Xi S 904 70) = 5 := by simpa using w12
      exfalso; omega
    | 6, hii =>
      cases hii
      have w46 : (Xi S 904 70) = 6 := by simpa using w12
      exfalso; omega
    | 7, hii =>
      cases hii
      have w47 : (Xi S 904 70) = 7 := by simpa using w12
      exfalso; omega
    | 8, hii =>
      cases hii
      have w48 : (Xi S 904 70) = 8 := by simpa using w12
      exfalso; omega
    | 9, hii =>
      cases hii
      have w49 : (Xi S 904 70) = 9 := by simpa using w12
      exfalso; omega
    | 10, hii =>
      cases hii
      have w50 : (Xi S 904 70) = 10 := by simpa using w12
      exfalso; omega
    | 11, hii =>
      cases hii
      have w51 : (Xi S 904 70) = 11 := by simpa using w12
      exfalso; omega
    | 12, hii =>
      cases hii
      have w52 : (Xi S 904 70) = 12 := by simpa using w12
      exfalso; omega
    | 13, hii =>
      cases hii
      have w53 : (Xi S 904 70) = 13 := by simpa using w12
      exfalso; omega
    | 14, hii =>
      cases hii
      have w54 : (Xi S 904 70) = 14 := by simpa using w12
      exfalso; omega
    | 15, hii =>
      cases hii
      have w55 : (Xi S 904 70) = 15 := by simpa using w12
      exfalso; omega
    | 16, hii =>
      cases hii
      have w56 : (Xi S 904 70) = 16 := by simpa using w12
      exfalso; omega
    | 17, hii =>
      cases hii
      have w57 : (Xi S 904 70) = 17 := by simpa using w12
      exfalso; omega
    | 18, hii =>
      cases hii
      have w58 : (Xi S 904 70) = 18 := by simpa using w12
      exfalso; omega
    | 19, hii =>
      cases hii
      have w59 : (Xi S 904 70) = 19 := by simpa using w12
      exfalso; omega
    | 20, hii =>
      cases hii
      have w60 : (Xi S 904 70) = 20 := by simpa using w12
      exfalso; omega
    | n + 21, hii => exact absurd hii (by simp)
def md_mo_asked__1f : List rec := [(904, 905, 104, 105), (904, 905, 105, 106), (904, 905, 106, 107), (904, 905, 108, 109), (904, 905, 115, 116), (904, 905, 116, 117), (904, 905, 150, 151), (904, 905, 151, 152), (904, 905, 153, 154), (991, 992, 0, 100000), (992, 993, 0, 100000)]
abbrev Q_mo_asked__1f (S : sS) (first : Int) : pst := fun r S1 => RI S1 ∧ FR md_mo_asked__1f S S1 ∧ (r = none)
set_option maxRecDepth 100000 in
theorem t_mo_asked__1f {S : sS} (hH : RI S) (first : Int) (hfirst : 0 ≤ first ∧ first ≤ 5001) (hLS : LSP S) (h15 : 0 ≤ Xi S 904 15) (hRB : RBD S) (hB : ABV S) (hb6 : BYT S 906) (hkx : Hid (∀ j : Nat, -1 ≤ Xi S 915 j ∧ Xi S 915 j ≤ 300)) (hlx : Hid (∀ j : Nat, (j : Int) < Xi S 904 15 → Xi S 914 j = 0 → Xi S 915 j ≤ 15)) (htt : 0 ≤ (Xi S 908 (Xi S 904 81).toNat) ∧ 0 ≤ Xi S 909 (Xi S 904 81).toNat ∧ (Xi S 908 (Xi S 904 81).toNat + 1 + Xi S 909 (Xi S 904 81).toNat) < 5000) (hs : Xi S 904 70 = 1) (d : Nat) : Mp lay0 (d + 13) m_mo_asked [.ref 904, iv first] S (Q_mo_asked__1f S first) := by
  refine Mp_R rfl rfl (fun fu => ?_)
  have hF : FR md_mo_asked__1f S S := FR.rf
  have w1 : -2147483648 ≤ Xi S 904 104 ∧ Xi S 904 104 ≤ 2147483647 := Xi_rgI
  have w2 : -2147483648 ≤ Xi S 904 105 ∧ Xi S 904 105 ≤ 2147483647 := Xi_rgI
  have w3 : -2147483648 ≤ Xi S 904 106 ∧ Xi S 904 106 ≤ 2147483647 := Xi_rgI
  have w4 : -2147483648 ≤ Xi S 904 108 ∧ Xi S 904 108 ≤ 2147483647 := Xi_rgI
  have w5 : -2147483648 ≤ Xi S 904 15 ∧ Xi S 904 15 ≤ 2147483647 := Xi_rgI
  have w6 : -2147483648 ≤ Xi S 904 70 ∧ Xi S 904 70 ≤ 2147483647 := Xi_rgI
  have w7 : -2147483648 ≤ Xi S 904 81 ∧ Xi S 904 81 ≤ 2147483647 := Xi_rgI
  refine y_aload_n rfl rfl ?_
  refine y_iconst rfl ?_
  refine y_pfi rfl rfl rfl rfl ?_
  obtain ⟨U1, eU1⟩ : ∃ T : sS, T = uI S 904 106 (Int32.ofInt 0) := ⟨_, rfl⟩
  rw [← eU1]
  have hHU1 : RI U1 := by rw [eU1]; exact RI_w hH
  have hFU1 : FR md_mo_asked__1f S U1 := by rw [eU1]; exact FR.wI hF (mdf_i (r := (904, 905, 106, 107)) (List.mem_of_getElem? (i := 2) rfl) (inR_i (by omega) (by omega) (by omega) (by omega)))
  have w8 : Xi U1 904 106 = 0 := by rw [eU1]; exact Xi_same (by unfold rg; omega)
  have FA2 : FR lA S U1 := by rw [eU1]; exact FR.wI FR.rf (mdf_i (r := (904, 905, 106, 107)) (List.mem_of_getElem? (i := 0) rfl) (inR_i (by omega) (by omega) (by omega) (by omega)))
  refine y_aload_n rfl rfl ?_
  refine y_iconst rfl ?_
  refine y_pfi rfl rfl rfl rfl ?_
  obtain ⟨U2, eU2⟩ : ∃ T : sS, T = uI U1 904 108 (Int32.ofInt 0) := ⟨_, rfl⟩
  rw [← eU2]
  have hHU2 : RI U2 := by rw [eU2]; exact RI_w hHU1
  have hFU2 : FR md_mo_asked__1f S U2 := by rw [eU2]; exact FR.wI hFU1 (mdf_i (r := (904, 905, 108, 109)) (List.mem_of_getElem? (i := 3) rfl) (inR_i (by omega) (by omega) (by omega) (by omega)))
  have w9 : Xi U2 904 108 = 0 := by rw [eU2]; exact Xi_same (by unfold rg; omega)
  have FA7 : FR lA S U2 := by rw [eU2]; exact FR.wI FA2 (mdf_i (r := (904, 905, 108, 109)) (List.mem_of_getElem? (i := 1) rfl) (inR_i (by omega) (by omega) (by omega) (by omega)))
  refine y_aload_n rfl rfl ?_
  refine y_iconst rfl ?_
  refine y_pfi rfl rfl rfl rfl ?_
  obtain ⟨U3, eU3⟩ : ∃ T : sS, T = uI U2 904 115 (Int32.ofInt (-1)) := ⟨_, rfl⟩
  rw [← eU3]
  have hHU3 : RI U3 := by rw [eU3]; exact RI_w hHU2
  have hFU3 : FR md_mo_asked__1f S U3 := by rw [eU3]; exact FR.wI hFU2 (mdf_i (r := (904, 905, 115, 116)) (List.mem_of_getElem? (i := 4) rfl) (inR_i (by omega) (by omega) (by omega) (by omega)))
  have w10 : Xi U3 904 115 = (-1) := by rw [eU3]; exact Xi_same (by unfold rg; omega)
  have FA12 : FR lA S U3 := by rw [eU3]; exact FR.wI FA7 (mdf_i (r := (904, 905, 115, 116)) (List.mem_of_getElem? (i := 2) rfl) (inR_i (by omega) (by omega) (by omega) (by omega)))
  refine y_aload_n rfl rfl ?_
  refine y_iconst rfl ?_
  refine y_pfi rfl rfl rfl rfl ?_
  obtain ⟨U4, eU4⟩ : ∃ T : sS, T = uI U3 904 116 (Int32.ofInt (-1)) := ⟨_, rfl⟩
  rw [← eU4]
  have hHU4 : RI U4 := by rw [eU4]; exact RI_w hHU3
  have hFU4 : FR md_mo_asked__1f S U4 := by rw [eU4]; exact FR.wI hFU3 (mdf_i (r := (904, 905, 116, 117)) (List.mem_of_getElem? (i := 5) rfl) (inR_i (by omega) (by omega) (by omega) (by omega)))
  have w11 : Xi U4 904 116 = (-1) := by rw [eU4]; exact Xi_same (by unfold rg; omega)
  have FA17 : FR lA S U4 := by rw [eU4]; exact FR.wI FA12 (mdf_i (r := (904, 905, 116, 117)) (List.mem_of_getElem? (i := 3) rfl) (inR_i (by omega) (by omega) (by omega) (by omega)))
  have t17 : Xi U4 904 81 = Xi S 904 81 := FA17.x 904 81 rfl
  refine y_aload_n rfl rfl ?_
  refine y_gfi rfl rfl rfl rfl rfl ?_
  have w12 : (Xi U4 904 70) = (Xi S 904 70) := (show Xi U4 904 70 = Xi U3 904 70 from by rw [eU4]; exact Xi_ne (by omega)).trans ( (show Xi U3 904 70 = Xi U2 904 70 from by rw [eU3]; exact Xi_ne (by omega)).trans ( (show Xi U2 904 70 = Xi U1 904 70 from by rw [eU2]; exact Xi_ne (by omega)).trans ((show Xi U1 904 70 = Xi S 904 70 from by rw [eU1]; exact Xi_ne (by omega)))))
  rw [w12]
  refine y_tsw rfl rfl rfl rfl (by unfold rg; omega) (fun w13 => ?_) (fun ii tt hii w13 => ?_)
  · exfalso; omega
  · match ii, hii with
    | 0, hii =>
      cases hii
      have w14 : (Xi S 904 70) = 0 := by simpa using w13
      exfalso; omega
    | 1, hii =>
      cases hii
      have w15 : (Xi S 904 70) = 1 := by simpa using w13
      refine y_aload_n rfl rfl ?_
      have w18 : Xi U4 904 106 = Xi U1 904 106 := (show Xi U4 904 106 = Xi U3 904 106 from by rw [eU4]; exact Xi_ne (by omega)).trans ( (show Xi U3 904 106 = Xi U2 904 106 from by rw [eU3]; exact Xi_ne (by omega)).trans ((show Xi U2 904 106 = Xi U1 904 106 from by rw [eU2]; exact Xi_ne (by omega))))
      have w19 : Xi U4 904 108 = Xi U2 904 108 := (show Xi U4 904 108 = Xi U3 904 108 from by rw [eU4]; exact Xi_ne (by omega)).trans ((show Xi U3 904 108 = Xi U2 904 108 from by rw [eU3]; exact Xi_ne (by omega)))
      have w20 : Xi U4 904 15 = Xi S 904 15 := (show Xi U4 904 15 = Xi U3 904 15 from by rw [eU4]; exact Xi_ne (by omega)).trans ( (show Xi U3 904 15 = Xi U2 904 15 from by rw [eU3]; exact Xi_ne (by omega)).trans ( (show Xi U2 904 15 = Xi U1 904 15 from by rw [eU2]; exact Xi_ne (by omega)).trans ((show Xi U1 904 15 = Xi S 904 15 from by rw [eU1]; exact Xi_ne (by omega)))))
      have w22 : Xi U4 904 81 = Xi S 904 81 := (show Xi U4 904 81 = Xi U3 904 81 from by rw [eU4]; exact Xi_ne (by omega)).trans ( (show Xi U3 904 81 = Xi U2 904 81 from by rw [eU3]; exact Xi_ne (by omega)).trans ( (show Xi U2 904 81 = Xi U1 904 81 from by rw [eU2]; exact Xi_ne (by omega)).trans ((show Xi U1 904 81 = Xi S 904 81 from by rw [eU1]; exact Xi_ne (by omega)))))
      refine y_callV rfl rfl rfl (t_mo_askCommand__p hHU4 (by first | assumption | exact (LSP_FR hFU4 rfl rfl (by assumption : LSP S))) (by first | assumption | omega) (by first | assumption | exact (RBD_FR hFU4 rfl (by assumption : RBD S))) (by first | assumption | exact (ABV_FR hFU4 rfl (by assumption : ABV S))) (fun j => by rw [FA17.x 906 j rfl]; exact hb6 j) (fun j => by rw [FA17.x 915 j rfl]; exact hkx.o j) (fun j l q => by rw [FA17.x 914 j rfl] at q; rw [FA17.x 904 15 rfl] at l; rw [FA17.x 915 j rfl]; exact hlx.o j l q) (by rw [t17, FA17.x 908 _ rfl, FA17.x 909 _ rfl]; exact htt) _) ?_
      rintro _ T5 ⟨hHT5, w24, rfl, o150⟩
      have hFT5 : FR md_mo_asked__1f S T5 := FR.tr hFU4 w24 rfl
      show Pl _ _ _ _ _ _ [] _ _
      have K150 : True := trivial
      have z150 : Xi U4 904 106 = 0 ∧ Xi U4 904 108 = 0 := ⟨by omega, by omega⟩
      refine y_goto rfl rfl ?_
      refine y_return rfl rfl ?_
      exact ⟨hHT5, hFT5, rfl⟩
    | 2, hii =>
      cases hii
      have w29 : (Xi S 904 70) = 2 := by simpa using w13
      exfalso; omega
    | 3, hii =>
      cases hii
      have w30 : (Xi S 904 70) = 3 := by simpa using w13
      exfalso; omega
    | 4, hii =>
      cases hii
      have w31 : (Xi S 904 70) = 4 := by simpa using w13
      exfalso; omega
    | 5, hii =>
      cases hii
      have w32 : (Xi S 904 70) = 5 := by simpa using w13
      exfalso; omega
    | 6, hii =>
      cases hii
      have w33 : (Xi S 904 70) = 6 := by simpa using w13
      exfalso; omega
    | 7, hii =>
      cases hii
      have w34 : (Xi S 904 70) = 7 := by simpa using w13
      exfalso; omega
    | 8, hii =>
      cases hii
      have w35 : (Xi S 904 70) = 8 := by simpa using w13
      exfalso; omega
    | 9, hii =>
      cases hii
      have w36 : (Xi S 904 70) = 9 := by simpa using w13
      exfalso; omega
    | 10, hii =>
      cases hii
      have w37 : (Xi S 904 70) = 10 := by simpa using w13
      exfalso; omega
    | 11, hii =>
      cases hii
      have w38 : (Xi S 904 70) = 11 := by simpa using w13
      exfalso; omega
    | 12, hii =>
      cases hii
      have w39 : (Xi S 904 70) = 12 := by simpa using w13
      exfalso; omega
    | 13, hii =>
      cases hii
      have w40 : (Xi S 904 70) = 13 := by simpa using w13
      exfalso; omega
    | 14, hii =>
      cases hii
      have w41 : (Xi S 904 70) = 14 := by simpa using w13
      exfalso; omega
    | 15, hii =>
      cases hii
      have w42 : (Xi S 904 70) = 15 := by simpa using w13
      exfalso; omega
    | 16, hii =>
      cases hii
      have w43 : (Xi S 904 70) = 16 := by simpa using w13
      exfalso; omega
    | 17, hii =>
      cases hii
      have w44 : (Xi S 904 70) = 17 := by simpa using w13
      exfalso; omega
    | 18, hii =>
      cases hii
      have w45 : (Xi S 904 70) = 18 := by simpa using w13
      exfalso; omega
    | 19, hii =>
      cases hii
      have w46 : (Xi S 904 70) = 19 := by simpa using w13
      exfalso; omega
    | 20, hii =>
      cases hii
      have w47 : (Xi S 904 70) = 20 := by simpa using w13
      exfalso; omega
    | n + 21, hii => exact absurd hii (by simp)
def md_mo_asked__2f : List rec := [(904, 905, 64, 65), (904, 905, 104, 105), (904, 905, 105, 106), (904, 905, 106, 107), (904, 905, 108, 109), (904, 905, 113, 114), (904, 905, 115, 116), (904, 905, 116, 117), (966, 967, 0, 100000), (969, 970, 0, 100000), (970, 971, 0, 100000), (971, 972, 0, 100000), (972, 973, 0, 100000), (973, 974, 0, 100000), (974, 975, 0, 100000), (975, 976, 0, 100000)]
abbrev Q_mo_asked__2f (S : sS) (first : Int) : pst := fun r S1 => RI S1 ∧ FR md_mo_asked__2f S S1 ∧ (r = none)
set_option maxRecDepth 100000 in
theorem t_mo_asked__2f {S : sS} (hH : RI S) (first : Int) (hfirst : 0 ≤ first ∧ first ≤ 5001) (hLS : LSP S) (h15 : 0 ≤ Xi S 904 15) (hRB : RBD S) (hB : ABV S) (hkx : Hid (∀ j : Nat, -1 ≤ Xi S 918 j ∧ Xi S 918 j ≤ 15)) (hLX : LXR S) (hp32 : 0 ≤ Xi S 904 32 ∧ Xi S 904 32 ≤ 12) (h94 : 0 ≤ Xi S 904 94 ∧ Xi S 904 94 ≤ 1700) (h117 : 0 ≤ Xi S 904 117 ∧ Xi S 904 117 + Xi S 904 94 ≤ 2400) (htk : Hid (∀ k : Nat, (k : Int) < Xi S 904 94 → TRK S k)) (hs : Xi S 904 70 = 2) (hk0 : -1 ≤ rnR S 0 0 ∧ rnR S 0 0 ≤ 15) (d : Nat) : Mp lay0 (d + 13) m_mo_asked [.ref 904, iv first] S (Q_mo_asked__2f S first) := by
  refine Mp_R rfl rfl (fun fu => ?_)
  have hF : FR md_mo_asked__2f S S := FR.rf
  have w1 : -2147483648 ≤ Xi S 904 106 ∧ Xi S 904 106 ≤ 2147483647 := Xi_rgI
  have w2 : -2147483648 ≤ Xi S 904 108 ∧ Xi S 904 108 ≤ 2147483647 := Xi_rgI
  have w3 : -2147483648 ≤ Xi S 904 115 ∧ Xi S 904 115 ≤ 2147483647 := Xi_rgI
  have w4 : -2147483648 ≤ Xi S 904 116 ∧ Xi S 904 116 ≤ 2147483647 := Xi_rgI
  have w5 : -2147483648 ≤ Xi S 904 117 ∧ Xi S 904 117 ≤ 2147483647 := Xi_rgI
  have w6 : -2147483648 ≤ Xi S 904 15 ∧ Xi S 904 15 ≤ 2147483647 := Xi_rgI
  have w7 : -2147483648 ≤ Xi S 904 23 ∧ Xi S 904 23 ≤ 2147483647 := Xi_rgI
  have w8 : -2147483648 ≤ Xi S 904 32 ∧ Xi S 904 32 ≤ 2147483647 := Xi_rgI
  have w9 : -2147483648 ≤ Xi S 904 70 ∧ Xi S 904 70 ≤ 2147483647 := Xi_rgI
  have w10 : -2147483648 ≤ Xi S 904 94 ∧ Xi S 904 94 ≤ 2147483647 := Xi_rgI
  refine y_aload_n rfl rfl ?_
  refine y_iconst rfl ?_
  refine y_pfi rfl rfl rfl rfl ?_
  obtain ⟨U1, eU1⟩ : ∃ T : sS, T = uI S 904 106 (Int32.ofInt 0) := ⟨_, rfl⟩
  rw [← eU1]
  have hHU1 : RI U1 := by rw [eU1]; exact RI_w hH
  have hFU1 : FR md_mo_asked__2f S U1 := by rw [eU1]; exact FR.wI hF (mdf_i (r := (904, 905, 106, 107)) (List.mem_of_getElem? (i := 3) rfl) (inR_i (by omega) (by omega) (by omega) (by omega)))
  have w11 : Xi U1 904 106 = 0 := by rw [eU1]; exact Xi_same (by unfold rg; omega)
  have FA2 : FR lA S U1 := by rw [eU1]; exact FR.wI FR.rf (mdf_i (r := (904, 905, 106, 107)) (List.mem_of_getElem? (i := 0) rfl) (inR_i (by omega) (by omega) (by omega) (by omega)))
  refine y_aload_n rfl rfl ?_
  refine y_iconst rfl ?_
  refine y_pfi rfl rfl rfl rfl ?_
  obtain ⟨U2, eU2⟩ : ∃ T : sS, T = uI U1 904 108 (Int32.ofInt 0) := ⟨_, rfl⟩
  rw [← eU2]
  have hHU2 : RI U2 := by rw [eU2]; exact RI_w hHU1
  have hFU2 : FR md_mo_asked__2f S U2 := by rw [eU2]; exact FR.wI hFU1 (mdf_i (r := (904, 905, 108, 109)) (List.mem_of_getElem? (i := 4) rfl) (inR_i (by omega) (by omega) (by omega) (by omega)))
  have w12 : Xi U2 904 108 = 0 := by rw [eU2]; exact Xi_same (by unfold rg; omega)
  have FA7 : FR lA S U2 := by rw [eU2]; exact FR.wI FA2 (mdf_i (r := (904, 905, 108, 109)) (List.mem_of_getElem? (i := 1) rfl) (inR_i (by omega) (by omega) (by omega) (by omega)))
  refine y_aload_n rfl rfl ?_
  refine y_iconst rfl ?_
  refine y_pfi rfl rfl rfl rfl ?_
  obtain ⟨U3, eU3⟩ : ∃ T : sS, T = uI U2 904 115 (Int32.ofInt (-1)) := ⟨_, rfl⟩
  rw [← eU3]
  have hHU3 : RI U3 := by rw [eU3]; exact RI_w hHU2
  have hFU3 : FR md_mo_asked__2f S U3 := by rw [eU3]; exact FR.wI hFU2 (mdf_i (r := (904, 905, 115, 116)) (List.mem_of_getElem? (i := 6) rfl) (inR_i (by omega) (by omega) (by omega) (by omega)))
  have w13 : Xi U3 904 115 = (-1) := by rw [eU3]; exact Xi_same (by unfold rg; omega)
  have FA12 : FR lA S U3 := by rw [eU3]; exact FR.wI FA7 (mdf_i (r := (904, 905, 115, 116)) (List.mem_of_getElem? (i := 2) rfl) (inR_i (by omega) (by omega) (by omega) (by omega)))
  refine y_aload_n rfl rfl ?_
  refine y_iconst rfl ?_
  refine y_pfi rfl rfl rfl rfl ?_
  obtain ⟨U4, eU4⟩ : ∃ T : sS, T = uI U3 904 116 (Int32.ofInt (-1)) := ⟨_, rfl⟩
  rw [← eU4]
  have hHU4 : RI U4 := by rw [eU4]; exact RI_w hHU3
  have hFU4 : FR md_mo_asked__2f S U4 := by rw [eU4]; exact FR.wI hFU3 (mdf_i (r := (904, 905, 116, 117)) (List.mem_of_getElem? (i := 7) rfl) (inR_i (by omega) (by omega) (by omega) (by omega)))
  have w14 : Xi U4 904 116 = (-1) := by rw [eU4]; exact Xi_same (by unfold rg; omega)
  have FA17 : FR lA S U4 := by rw [eU4]; exact FR.wI FA12 (mdf_i (r := (904, 905, 116, 117)) (List.mem_of_getElem? (i := 3) rfl) (inR_i (by omega) (by omega) (by omega) (by omega)))
  refine y_aload_n rfl rfl ?_
  refine y_gfi rfl rfl rfl rfl rfl ?_
  have w15 : (Xi U4 904 70) = (Xi S 904 70) := (show Xi U4 904 70 = Xi U3 904 70 from by rw [eU4]; exact Xi_ne (by omega)).trans ( (show Xi U3 904 70 = Xi U2 904 70 from by rw [eU3]; exact Xi_ne (by omega)).trans ( (show Xi U2 904 70 = Xi U1 904 70 from by rw [eU2]; exact Xi_ne (by omega)).trans ((show Xi U1 904 70 = Xi S 904 70 from by rw [eU1]; exact Xi_ne (by omega)))))
  rw [w15]
  refine y_tsw rfl rfl rfl rfl (by unfold rg; omega) (fun w16 => ?_) (fun ii tt hii w16 => ?_)
  · exfalso; omega
  · match ii, hii with
    | 0, hii =>
      cases hii
      have w17 : (Xi S 904 70) = 0 := by simpa using w16
      exfalso; omega
    | 1, hii =>
      cases hii
      have w18 : (Xi S 904 70) = 1 := by simpa using w16
      exfalso; omega
    | 2, hii =>
      cases hii
      have w19 : (Xi S 904 70) = 2 := by simpa using w16
      refine y_aload_n rfl rfl ?_
      refine y_aload_n rfl rfl ?_
      refine y_iconst rfl ?_
      have w20 : Xi U4 904 106 = Xi U1 904 106 := (show Xi U4 904 106 = Xi U3 904 106 from by rw [eU4]; exact Xi_ne (by omega)).trans ( (show Xi U3 904 106 = Xi U2 904 106 from by rw [eU3]; exact Xi_ne (by omega)).trans ((show Xi U2 904 106 = Xi U1 904 106 from by rw [eU2]; exact Xi_ne (by omega))))
      have w21 : Xi U4 904 108 = Xi U2 904 108 := (show Xi U4 904 108 = Xi U3 904 108 from by rw [eU4]; exact Xi_ne (by omega)).trans ((show Xi U3 904 108 = Xi U2 904 108 from by rw [eU3]; exact Xi_ne (by omega)))
      have w22 : Xi U4 904 115 = Xi U3 904 115 := (show Xi U4 904 115 = Xi U3 904 115 from by rw [eU4]; exact Xi_ne (by omega))
      have w23 : Xi U4 904 117 = Xi S 904 117 := (show Xi U4 904 117 = Xi U3 904 117 from by rw [eU4]; exact Xi_ne (by omega)).trans ( (show Xi U3 904 117 = Xi U2 904 117 from by rw [eU3]; exact Xi_ne (by omega)).trans ( (show Xi U2 904 117 = Xi U1 904 117 from by rw [eU2]; exact Xi_ne (by omega)).trans ((show Xi U1 904 117 = Xi S 904 117 from by rw [eU1]; exact Xi_ne (by omega)))))
      have w24 : Xi U4 904 15 = Xi S 904 15 := (show Xi U4 904 15 = Xi U3 904 15 from by rw [eU4]; exact Xi_ne (by omega)).trans ( (show Xi U3 904 15 = Xi U2 904 15 from by rw [eU3]; exact Xi_ne (by omega)).trans ( (show Xi U2 904 15 = Xi U1 904 15 from by rw [eU2]; exact Xi_ne (by omega)).trans ((show Xi U1 904 15 = Xi S 904 15 from by rw [eU1]; exact Xi_ne (by omega)))))
      have w25 : Xi U4 904 23 = Xi S 904 23 := (show Xi U4 904 23 = Xi U3 904 23 from by rw [eU4]; exact Xi_ne (by omega)).trans ( (show Xi U3 904 23 = Xi U2 904 23 from by rw [eU3]; exact Xi_ne (by omega)).trans ( (show Xi U2 904 23 = Xi U1 904 23 from by rw [eU2]; exact Xi_ne (by omega)).trans ((show Xi U1 904 23 = Xi S 904 23 from by rw [eU1]; exact Xi_ne (by omega)))))
      have w26 : Xi U4 904 32 = Xi S 904 32 := (show Xi U4 904 32 = Xi U3 904 32 from by rw [eU4]; exact Xi_ne (by omega)).trans ( (show Xi U3 904 32 = Xi U2 904 32 from by rw [eU3]; exact Xi_ne (by omega)).trans ( (show Xi U2 904 32 = Xi U1 904 32 from by rw [eU2]; exact Xi_ne (by omega)).trans ((show Xi U1 904 32 = Xi S 904 32 from by rw [eU1]; exact Xi_ne (by omega)))))
      have w27 : Xi U4 904 70 = Xi S 904 70 := (show Xi U4 904 70 = Xi U3 904 70 from by rw [eU4]; exact Xi_ne (by omega)).trans ( (show Xi U3 904 70 = Xi U2 904 70 from by rw [eU3]; exact Xi_ne (by omega)).trans ( (show Xi U2 904 70 = Xi U1 904 70 from by rw [eU2]; exact Xi_ne (by omega)).trans ((show Xi U1 904 70 = Xi S 904 70 from by rw [eU1]; exact Xi_ne (by omega)))))
      have w28 : Xi U4 904 94 = Xi S 904 94 := (show Xi U4 904 94 = Xi U3 904 94 from by rw [eU4]; exact Xi_ne (by omega)).trans ( (show Xi U3 904 94 = Xi U2 904 94 from by rw [eU3]; exact Xi_ne (by omega)).trans ( (show Xi U2 904 94 = Xi U1 904 94 from by rw [eU2]; exact Xi_ne (by omega)).trans ((show Xi U1 904 94 = Xi S 904 94 from by rw [eU1]; exact Xi_ne (by omega)))))
      refine y_callV rfl rfl rfl (t_mo_kindOfRun__p hHU4 0 ⟨by omega, by omega⟩ (by first | assumption | exact (LSP_FR hFU4 rfl rfl (by assumption : LSP S))) (by first | assumption | omega) (by first | assumption | exact (RBD_FR hFU4 rfl (by assumption : RBD S))) _) ?_
      rintro _ T5 ⟨hHT5, w30, z29, rfl, w29, f159, n159⟩
      have hFT5 : FR md_mo_asked__2f S T5 := FR.tr hFU4 w30 rfl
      show Pl _ _ _ _ _ _ [iv z29, .ref 904] _ _
      have F159 := (by assumption : FR md_mo_kindOfRun__p U4 T5)
      have z159 : Xi U4 904 106 = 0 ∧ Xi U4 904 108 = 0 ∧ Xi U4 904 116 = -1 := ⟨by omega, by omega, by omega⟩
      have r159 : rnR U4 0 0 = rnR S 0 0 := rnR_sm (SMR_FR FA17 rfl rfl)
      refine y_pfi rfl rfl rfl rfl ?_
      obtain ⟨U6, eU6⟩ : ∃ T : sS, T = uI T5 904 115 (Int32.ofInt z29) := ⟨_, rfl⟩
      rw [← eU6]
      have hHU6 : RI U6 := by rw [eU6]; exact RI_w hHT5
      have hFU6 : FR md_mo_asked__2f S U6 := by rw [eU6]; exact FR.wI hFT5 (mdf_i (r := (904, 905, 115, 116)) (List.mem_of_getElem? (i := 6) rfl) (inR_i (by omega) (by omega) (by omega) (by omega)))
      have w31 : Xi U6 904 115 = z29 := by rw [eU6]; exact Xi_same (by unfold rg; omega)
      have e162 := eU6
      refine y_aload_n rfl rfl ?_
      refine y_iconst rfl ?_
      refine y_aload_n rfl rfl ?_
      refine y_gfi rfl rfl rfl rfl rfl ?_
      have w32 : (Xi U6 904 23) = (Xi S 904 23) := (show Xi U6 904 23 = Xi T5 904 23 from by rw [eU6]; exact Xi_ne (by omega)).trans ( (show Xi T5 904 23 = Xi U4 904 23 from w30.x _ _ rfl).trans ( (show Xi U4 904 23 = Xi U3 904 23 from by rw [eU4]; exact Xi_ne (by omega)).trans ( (show Xi U3 904 23 = Xi U2 904 23 from by rw [eU3]; exact Xi_ne (by omega)).trans ( (show Xi U2 904 23 = Xi U1 904 23 from by rw [eU2]; exact Xi_ne (by omega)).trans ((show Xi U1 904 23 = Xi S 904 23 from by rw [eU1]; exact Xi_ne (by omega)))))))
      rw [w32]
      refine y_bipush rfl rfl ?_
      have w33 : Xi U6 904 106 = Xi T5 904 106 := (show Xi U6 904 106 = Xi T5 904 106 from by rw [eU6]; exact Xi_ne (by omega))
      have w34 : Xi U6 904 108 = Xi U2 904 108 := (show Xi U6 904 108 = Xi T5 904 108 from by rw [eU6]; exact Xi_ne (by omega)).trans ( (show Xi T5 904 108 = Xi U4 904 108 from w30.x _ _ rfl).trans ( (show Xi U4 904 108 = Xi U3 904 108 from by rw [eU4]; exact Xi_ne (by omega)).trans ((show Xi U3 904 108 = Xi U2 904 108 from by rw [eU3]; exact Xi_ne (by omega)))))
      have w35 : Xi U6 904 116 = Xi U4 904 116 := (show Xi U6 904 116 = Xi T5 904 116 from by rw [eU6]; exact Xi_ne (by omega)).trans ((show Xi T5 904 116 = Xi U4 904 116 from w30.x _ _ rfl))
      have w36 : Xi U6 904 117 = Xi S 904 117 := (show Xi U6 904 117 = Xi T5 904 117 from by rw [eU6]; exact Xi_ne (by omega)).trans ( (show Xi T5 904 117 = Xi U4 904 117 from w30.x _ _ rfl).trans ( (show Xi U4 904 117 = Xi U3 904 117 from by rw [eU4]; exact Xi_ne (by omega)).trans ( (show Xi U3 904 117 = Xi U2 904 117 from by rw [eU3]; exact Xi_ne (by omega)).trans ( (show Xi U2 904 117 = Xi U1 904 117 from by rw [eU2]; exact Xi_ne (by omega)).trans ((show Xi U1 904 117 = Xi S 904 117 from by rw [eU1]; exact Xi_ne (by omega)))))))
      have w37 : Xi U6 904 15 = Xi S 904 15 := (show Xi U6 904 15 = Xi T5 904 15 from by rw [eU6]; exact Xi_ne (by omega)).trans ( (show Xi T5 904 15 = Xi U4 904 15 from w30.x _ _ rfl).trans ( (show Xi U4 904 15 = Xi U3 904 15 from by rw [eU4]; exact Xi_ne (by omega)).trans ( (show Xi U3 904 15 = Xi U2 904 15 from by rw [eU3]; exact Xi_ne (by omega)).trans ( (show Xi U2 904 15 = Xi U1 904 15 from by rw [eU2]; exact Xi_ne (by omega)).trans ((show Xi U1 904 15 = Xi S 904 15 from by rw [eU1]; exact Xi_ne (by omega)))))))
      have w38 : Xi U6 904 23 = Xi S 904 23 := (show Xi U6 904 23 = Xi T5 904 23 from by rw [eU6]; exact Xi_ne (by omega)).trans ( (show Xi T5 904 23 = Xi U4 904 23 from w30.x _ _ rfl).trans ( (show Xi U4 904 23 = Xi U3 904 23 from by rw [eU4]; exact Xi_ne (by omega)).trans ( (show Xi U3 904 23 = Xi U2 904 23 from by rw [eU3]; exact Xi_ne (by omega)).trans ( (show Xi U2 904 23 = Xi U1 904 23 from by rw [eU2]; exact Xi_ne (by omega)).trans ((show Xi U1 904 23 = Xi S 904 23 from by rw [eU1]; exact Xi_ne (by omega)))))))
      have w39 : Xi U6 904 32 = Xi S 904 32 := (show Xi U6 904 32 = Xi T5 904 32 from by rw [eU6]; exact Xi_ne (by omega)).trans ( (show Xi T5 904 32 = Xi U4 904 32 from w30.x _ _ rfl).trans ( (show Xi U4 904 32 = Xi U3 904 32 from by rw [eU4]; exact Xi_ne (by omega)).trans ( (show Xi U3 904 32 = Xi U2 904 32 from by rw [eU3]; exact Xi_ne (by omega)).trans ( (show Xi U2 904 32 = Xi U1 904 32 from by rw [eU2]; exact Xi_ne (by omega)).trans ((show Xi U1 904 32 = Xi S 904 32 from by rw [eU1]; exact Xi_ne (by omega)))))))
      have w40 : Xi U6 904 70 = Xi S 904 70 := (show Xi U6 904 70 = Xi T5 904 70 from by rw [eU6]; exact Xi_ne (by omega)).trans ( (show Xi T5 904 70 = Xi U4 904 70 from w30.x _ _ rfl).trans ( (show Xi U4 904 70 = Xi U3 904 70 from by rw [eU4]; exact Xi_ne (by omega)).trans ( (show Xi U3 904 70 = Xi U2 904 70 from by rw [eU3]; exact Xi_ne (by omega)).trans ( (show Xi U2 904 70 = Xi U1 904 70 from by rw [eU2]; exact Xi_ne (by omega)).trans ((show Xi U1 904 70 = Xi S 904 70 from by rw [eU1]; exact Xi_ne (by omega)))))))
      have w41 : Xi U6 904 94 = Xi S 904 94 := (show Xi U6 904 94 = Xi T5 904 94 from by rw [eU6]; exact Xi_ne (by omega)).trans ( (show Xi T5 904 94 = Xi U4 904 94 from w30.x _ _ rfl).trans ( (show Xi U4 904 94 = Xi U3 904 94 from by rw [eU4]; exact Xi_ne (by omega)).trans ( (show Xi U3 904 94 = Xi U2 904 94 from by rw [eU3]; exact Xi_ne (by omega)).trans ( (show Xi U2 904 94 = Xi U1 904 94 from by rw [eU2]; exact Xi_ne (by omega)).trans ((show Xi U1 904 94 = Xi S 904 94 from by rw [eU1]; exact Xi_ne (by omega)))))))
      refine y_callV rfl rfl rfl (t_mo_mustBeNew__p hHU6 1 (Xi S 904 23) 24 ⟨by omega, by omega⟩ ⟨by omega, by omega⟩ ⟨by omega, by omega⟩ (by first | assumption | exact (LSP_FR hFU6 rfl rfl (by assumption : LSP S))) (by first | assumption | omega) (by first | assumption | exact (RBD_FR hFU6 rfl (by assumption : RBD S))) (by first | assumption | omega) _) ?_
      rintro _ T7 ⟨hHT7, w43, rfl, y173, n173⟩
      have hFT7 : FR md_mo_asked__2f S T7 := FR.tr hFU6 w43 rfl
      show Pl _ _ _ _ _ _ [] _ _
      have E173 : U6 = uI T5 904 115 (Int32.ofInt (rnR U4 0 0)) := by have u := e162; rw [f159] at u; exact u
      have F173 : FR md_mo_mustBeNew__p (uI T5 904 115 (Int32.ofInt (rnR U4 0 0))) T7 := by rw [← E173]; assumption
      have M173 : MBN (uI T5 904 115 (Int32.ofInt (rnR U4 0 0))) T7 1 (Xi U4 904 23) 24 := by rw [← E173]; first | exact ⟨y173, n173⟩ | (have u : Xi U4 904 23 = Xi S 904 23 := (by omega); rw [u]; exact ⟨y173, n173⟩)
      clear y173 n173
      refine y_aload_n rfl rfl ?_
      have w44 : Xi T7 904 115 = Xi U6 904 115 := (show Xi T7 904 115 = Xi U6 904 115 from w43.x _ _ rfl)
      have w45 : Xi T7 904 116 = Xi U4 904 116 := (show Xi T7 904 116 = Xi U6 904 116 from w43.x _ _ rfl).trans ( (show Xi U6 904 116 = Xi T5 904 116 from by rw [eU6]; exact Xi_ne (by omega)).trans ((show Xi T5 904 116 = Xi U4 904 116 from w30.x _ _ rfl)))
      have w46 : Xi T7 904 117 = Xi S 904 117 := (show Xi T7 904 117 = Xi U6 904 117 from w43.x _ _ rfl).trans ( (show Xi U6 904 117 = Xi T5 904 117 from by rw [eU6]; exact Xi_ne (by omega)).trans ( (show Xi T5 904 117 = Xi U4 904 117 from w30.x _ _ rfl).trans ( (show Xi U4 904 117 = Xi U3 904 117 from by rw [eU4]; exact Xi_ne (by omega)).trans ( (show Xi U3 904 117 = Xi U2 904 117 from by rw [eU3]; exact Xi_ne (by omega)).trans ( (show Xi U2 904 117 = Xi U1 904 117 from by rw [eU2]; exact Xi_ne (by omega)).trans ((show Xi U1 904 117 = Xi S 904 117 from by rw [eU1]; exact Xi_ne (by omega))))))))
      have w47 : Xi T7 904 15 = Xi S 904 15 := (show Xi T7 904 15 = Xi U6 904 15 from w43.x _ _ rfl).trans ( (show Xi U6 904 15 = Xi T5 904 15 from by rw [eU6]; exact Xi_ne (by omega)).trans ( (show Xi T5 904 15 = Xi U4 904 15 from w30.x _ _ rfl).trans ( (show Xi U4 904 15 = Xi U3 904 15 from by rw [eU4]; exact Xi_ne (by omega)).trans ( (show Xi U3 904 15 = Xi U2 904 15 from by rw [eU3]; exact Xi_ne (by omega)).trans ( (show Xi U2 904 15 = Xi U1 904 15 from by rw [eU2]; exact Xi_ne (by omega)).trans ((show Xi U1 904 15 = Xi S 904 15 from by rw [eU1]; exact Xi_ne (by omega))))))))
      have w48 : Xi T7 904 23 = Xi S 904 23 := (show Xi T7 904 23 = Xi U6 904 23 from w43.x _ _ rfl).trans ( (show Xi U6 904 23 = Xi T5 904 23 from by rw [eU6]; exact Xi_ne (by omega)).trans ( (show Xi T5 904 23 = Xi U4 904 23 from w30.x _ _ rfl).trans ( (show Xi U4 904 23 = Xi U3 904 23 from by rw [eU4]; exact Xi_ne (by omega)).trans ( (show Xi U3 904 23 = Xi U2 904 23 from by rw [eU3]; exact Xi_ne (by omega)).trans ( (show Xi U2 904 23 = Xi U1 904 23 from by rw [eU2]; exact Xi_ne (by omega)).trans ((show Xi U1 904 23 = Xi S 904 23 from by rw [eU1]; exact Xi_ne (by omega))))))))
      have w49 : Xi T7 904 32 = Xi S 904 32 := (show Xi T7 904 32 = Xi U6 904 32 from w43.x _ _ rfl).trans ( (show Xi U6 904 32 = Xi T5 904 32 from by rw [eU6]; exact Xi_ne (by omega)).trans ( (show Xi T5 904 32 = Xi U4 904 32 from w30.x _ _ rfl).trans ( (show Xi U4 904 32 = Xi U3 904 32 from by rw [eU4]; exact Xi_ne (by omega)).trans ( (show Xi U3 904 32 = Xi U2 904 32 from by rw [eU3]; exact Xi_ne (by omega)).trans ( (show Xi U2 904 32 = Xi U1 904 32 from by rw [eU2]; exact Xi_ne (by omega)).trans ((show Xi U1 904 32 = Xi S 904 32 from by rw [eU1]; exact Xi_ne (by omega))))))))
      have w50 : Xi T7 904 70 = Xi S 904 70 := (show Xi T7 904 70 = Xi U6 904 70 from w43.x _ _ rfl).trans ( (show Xi U6 904 70 = Xi T5 904 70 from by rw [eU6]; exact Xi_ne (by omega)).trans ( (show Xi T5 904 70 = Xi U4 904 70 from w30.x _ _ rfl).trans ( (show Xi U4 904 70 = Xi U3 904 70 from by rw [eU4]; exact Xi_ne (by omega)).trans ( (show Xi U3 904 70 = Xi U2 904 70 from by rw [eU3]; exact Xi_ne (by omega)).trans ( (show Xi U2 904 70 = Xi U1 904 70 from by rw [eU2]; exact Xi_ne (by omega)).trans ((show Xi U1 904 70 = Xi S 904 70 from by rw [eU1]; exact Xi_ne (by omega))))))))
      have w51 : Xi T7 904 94 = Xi S 904 94 := (show Xi T7 904 94 = Xi U6 904 94 from w43.x _ _ rfl).trans ( (show Xi U6 904 94 = Xi T5 904 94 from by rw [eU6]; exact Xi_ne (by omega)).trans ( (show Xi T5 904 94 = Xi U4 904 94 from w30.x _ _ rfl).trans ( (show Xi U4 904 94 = Xi U3 904 94 from by rw [eU4]; exact Xi_ne (by omega)).trans ( (show Xi U3 904 94 = Xi U2 904 94 from by rw [eU3]; exact Xi_ne (by omega)).trans ( (show Xi U2 904 94 = Xi U1 904 94 from by rw [eU2]; exact Xi_ne (by omega)).trans ((show Xi U1 904 94 = Xi S 904 94 from by rw [eU1]; exact Xi_ne (by omega))))))))
      refine y_callV rfl rfl rfl (t_mo_testsMeant__p hHT7 (by first | assumption | exact (LSP_FR hFT7 rfl rfl (by assumption : LSP S))) (by first | assumption | omega) (by first | assumption | exact (RBD_FR hFT7 rfl (by assumption : RBD S))) (by first | assumption | exact (ABV_FR hFT7 rfl (by assumption : ABV S))) (fun j => by rw [hFT7.x 918 j rfl]; exact hkx.o j) (by first | assumption | omega) (LXR_FR hFT7 rfl rfl hLX) (by first | assumption | omega) (by first | assumption | omega) (by first | assumption | omega) (fun k hk => TRK_F hFT7 (SMR_FR hFT7 rfl rfl) rfl rfl (htk.o k (by omega))) _) ?_
      rintro _ T8 ⟨hHT8, w53, rfl, o177⟩
      have hFT8 : FR md_mo_asked__2f S T8 := FR.tr hFT7 w53 rfl
      show Pl _ _ _ _ _ _ [] _ _
      have K177 : True := trivial
      have o177_ : TSR md_mo_need__p md_mo_testMeant__p T7 (Xi U4 904 94).toNat T8 := by have u := o177; rw [show Xi T7 904 94 = Xi U4 904 94 by omega] at u; exact u
      refine y_goto rfl rfl ?_
      refine y_return rfl rfl ?_
      have w54 : Xi T8 904 108 = Xi T7 904 108 := (show Xi T8 904 108 = Xi T7 904 108 from w53.x _ _ rfl)
      have w55 : Xi T8 904 115 = Xi U6 904 115 := (show Xi T8 904 115 = Xi T7 904 115 from w53.x _ _ rfl).trans ((show Xi T7 904 115 = Xi U6 904 115 from w43.x _ _ rfl))
      have w56 : Xi T8 904 116 = Xi U4 904 116 := (show Xi T8 904 116 = Xi T7 904 116 from w53.x _ _ rfl).trans ( (show Xi T7 904 116 = Xi U6 904 116 from w43.x _ _ rfl).trans ( (show Xi U6 904 116 = Xi T5 904 116 from by rw [eU6]; exact Xi_ne (by omega)).trans ((show Xi T5 904 116 = Xi U4 904 116 from w30.x _ _ rfl))))
      have w57 : Xi T8 904 117 = Xi S 904 117 := (show Xi T8 904 117 = Xi T7 904 117 from w53.x _ _ rfl).trans ( (show Xi T7 904 117 = Xi U6 904 117 from w43.x _ _ rfl).trans ( (show Xi U6 904 117 = Xi T5 904 117 from by rw [eU6]; exact Xi_ne (by omega)).trans ( (show Xi T5 904 117 = Xi U4 904 117 from w30.x _ _ rfl).trans ( (show Xi U4 904 117 = Xi U3 904 117 from by rw [eU4]; exact Xi_ne (by omega)).trans ( (show Xi U3 904 117 = Xi U2 904 117 from by rw [eU3]; exact Xi_ne (by omega)).trans ( (show Xi U2 904 117 = Xi U1 904 117 from by rw [eU2]; exact Xi_ne (by omega)).trans ((show Xi U1 904 117 = Xi S 904 117 from by rw [eU1]; exact Xi_ne (by omega)))))))))
      have w58 : Xi T8 904 15 = Xi S 904 15 := (show Xi T8 904 15 = Xi T7 904 15 from w53.x _ _ rfl).trans ( (show Xi T7 904 15 = Xi U6 904 15 from w43.x _ _ rfl).trans ( (show Xi U6 904 15 = Xi T5 904 15 from by rw [eU6]; exact Xi_ne (by omega)).trans ( (show Xi T5 904 15 = Xi U4 904 15 from w30.x _ _ rfl).trans ( (show Xi U4 904 15 = Xi U3 904 15 from by rw [eU4]; exact Xi_ne (by omega)).trans ( (show Xi U3 904 15 = Xi U2 904 15 from by rw [eU3]; exact Xi_ne (by omega)).trans ( (show Xi U2 904 15 = Xi U1 904 15 from by rw [eU2]; exact Xi_ne (by omega)).trans ((show Xi U1 904 15 = Xi S 904 15 from by rw [eU1]; exact Xi_ne (by omega)))))))))
      have w59 : Xi T8 904 23 = Xi S 904 23 := (show Xi T8 904 23 = Xi T7 904 23 from w53.x _ _ rfl).trans ( (show Xi T7 904 23 = Xi U6 904 23 from w43.x _ _ rfl).trans ( (show Xi U6 904 23 = Xi T5 904 23 from by rw [eU6]; exact Xi_ne (by omega)).trans ( (show Xi T5 904 23 = Xi U4 904 23 from w30.x _ _ rfl).trans ( (show Xi U4 904 23 = Xi U3 904 23 from by rw [eU4]; exact Xi_ne (by omega)).trans ( (show Xi U3 904 23 = Xi U2 904 23 from by rw [eU3]; exact Xi_ne (by omega)).trans ( (show Xi U2 904 23 = Xi U1 904 23 from by rw [eU2]; exact Xi_ne (by omega)).trans ((show Xi U1 904 23 = Xi S 904 23 from by rw [eU1]; exact Xi_ne (by omega)))))))))
      have w60 : Xi T8 904 32 = Xi S 904 32 := (show Xi T8 904 32 = Xi T7 904 32 from w53.x _ _ rfl).trans ( (show Xi T7 904 32 = Xi U6 904 32 from w43.x _ _ rfl).trans ( (show Xi U6 904 32 = Xi T5 904 32 from by rw [eU6]; exact Xi_ne (by omega)).trans ( (show Xi T5 904 32 = Xi U4 904 32 from w30.x _ _ rfl).trans ( (show Xi U4 904 32 = Xi U3 904 32 from by rw [eU4]; exact Xi_ne (by omega)).trans ( (show Xi U3 904 32 = Xi U2 904 32 from by rw [eU3]; exact Xi_ne (by omega)).trans ( (show Xi U2 904 32 = Xi U1 904 32 from by rw [eU2]; exact Xi_ne (by omega)).trans ((show Xi U1 904 32 = Xi S 904 32 from by rw [eU1]; exact Xi_ne (by omega)))))))))
      have w61 : Xi T8 904 70 = Xi S 904 70 := (show Xi T8 904 70 = Xi T7 904 70 from w53.x _ _ rfl).trans ( (show Xi T7 904 70 = Xi U6 904 70 from w43.x _ _ rfl).trans ( (show Xi U6 904 70 = Xi T5 904 70 from by rw [eU6]; exact Xi_ne (by omega)).trans ( (show Xi T5 904 70 = Xi U4 904 70 from w30.x _ _ rfl).trans ( (show Xi U4 904 70 = Xi U3 904 70 from by rw [eU4]; exact Xi_ne (by omega)).trans ( (show Xi U3 904 70 = Xi U2 904 70 from by rw [eU3]; exact Xi_ne (by omega)).trans ( (show Xi U2 904 70 = Xi U1 904 70 from by rw [eU2]; exact Xi_ne (by omega)).trans ((show Xi U1 904 70 = Xi S 904 70 from by rw [eU1]; exact Xi_ne (by omega)))))))))
      have w62 : Xi T8 904 94 = Xi S 904 94 := (show Xi T8 904 94 = Xi T7 904 94 from w53.x _ _ rfl).trans ( (show Xi T7 904 94 = Xi U6 904 94 from w43.x _ _ rfl).trans ( (show Xi U6 904 94 = Xi T5 904 94 from by rw [eU6]; exact Xi_ne (by omega)).trans ( (show Xi T5 904 94 = Xi U4 904 94 from w30.x _ _ rfl).trans ( (show Xi U4 904 94 = Xi U3 904 94 from by rw [eU4]; exact Xi_ne (by omega)).trans ( (show Xi U3 904 94 = Xi U2 904 94 from by rw [eU3]; exact Xi_ne (by omega)).trans ( (show Xi U2 904 94 = Xi U1 904 94 from by rw [eU2]; exact Xi_ne (by omega)).trans ((show Xi U1 904 94 = Xi S 904 94 from by rw [eU1]; exact Xi_ne (by omega)))))))))
      exact ⟨hHT8, hFT8, rfl⟩
    | 3, hii =>
      cases hii
      have w63 : (Xi S 904 70) = 3 := by simpa using w16
      exfalso; omega
    | 4, hii =>
      cases hii
      have w64 : (Xi S 904 70) = 4 := by simpa using w16
      exfalso; omega
    | 5, hii =>
      cases hii
      have w65 : (Xi S 904 70) = 5 := by simpa using w16
      exfalso; omega
    | 6, hii =>
      cases hii
      have w66 : (Xi S 904 70) = 6 := by simpa using w16
      exfalso; omega
    | 7, hii =>
      cases hii
      have w67 : (Xi S 904 70) = 7 := by simpa using w16
      exfalso; omega
    | 8, hii =>
      cases hii
      have w68 : (Xi S 904 70) = 8 := by simpa using w16
      exfalso; omega
    | 9, hii =>
      cases hii
      have w69 : (Xi S 904 70) = 9 := by simpa using w16
      exfalso; omega
    | 10, hii =>
      cases hii
      have w70 : (Xi S 904 70) = 10 := by simpa using w16
      exfalso; omega
    | 11, hii =>
      cases hii
      have w71 : (Xi S 904 70) = 11 := by simpa using w16
      exfalso; omega
    | 12, hii =>
      cases hii
      have w72 : (Xi S 904 70) = 12 := by simpa using w16
      exfalso; omega
    | 13, hii =>
      cases hii
      have w73 : (Xi S 904 70) = 13 := by simpa using w16
      exfalso; omega
    | 14, hii =>
      cases hii
      have w74 : (Xi S 904 70) = 14 := by simpa using w16
      exfalso; omega
    | 15, hii =>
      cases hii
      have w75 : (Xi S 904 70) = 15 := by simpa using w16
      exfalso; omega
    | 16, hii =>
      cases hii
      have w76 : (Xi S 904 70) = 16 := by simpa using w16
      exfalso; omega
    | 17, hii =>
      cases hii
      have w77 : (Xi S 904 70) = 17 := by simpa using w16
      exfalso; omega
    | 18, hii =>
      cases hii
      have w78 : (Xi S 904 70) = 18 := by simpa using w16
      exfalso; omega
    | 19, hii =>
      cases hii
      have w79 : (Xi S 904 70) = 19 := by simpa using w16
      exfalso; omega
    | 20, hii =>
      cases hii
      have w80 : (Xi S 904 70) = 20 := by simpa using w16
      exfalso; omega
    | n + 21, hii => exact absurd hii (by simp)
def md_mo_asked__3f : List rec := [(904, 905, 64, 65), (904, 905, 104, 105), (904, 905, 105, 106), (904, 905, 106, 107), (904, 905, 108, 109), (904, 905, 109, 110), (904, 905, 110, 111), (904, 905, 112, 113), (904, 905, 113, 114), (904, 905, 115, 116), (904, 905, 116, 117), (904, 905, 117, 118), (904, 905, 125, 126), (904, 905, 128, 129), (904, 905, 129, 130), (904, 905, 130, 131), (904, 905, 154, 155), (904, 905, 156, 157), (904, 905, 157, 158), (904, 905, 158, 159), (904, 905, 160, 161), (967, 968, 0, 100000), (968, 969, 0, 100000), (969, 970, 0, 100000), (970, 971, 0, 100000), (971, 972, 0, 100000), (972, 973, 0, 100000), (973, 974, 0, 100000), (974, 975, 0, 100000), (975, 976, 0, 100000), (976, 977, 0, 100000), (977, 978, 0, 100000), (978, 979, 0, 100000), (979, 980, 0, 100000), (980, 981, 0, 100000), (981, 982, 0, 100000), (982, 983, 0, 100000), (983, 984, 0, 100000), (984, 985, 0, 100000), (985, 986, 0, 100000), (986, 987, 0, 100000), (987, 988, 0, 100000), (993, 994, 0, 100000), (994, 995, 0, 100000), (1000, 1001, 0, 1)]
abbrev Q_mo_asked__3f (S : sS) (first : Int) : pst := fun r S1 => RI S1 ∧ FR md_mo_asked__3f S S1 ∧ (r = none)
set_option maxRecDepth 100000 in
theorem t_mo_asked__3f {S : sS} (hH : RI S) (first : Int) (hfirst : 0 ≤ first ∧ first ≤ 5001) (hLS : LSP S) (h15 : 0 ≤ Xi S 904 15) (hRB : RBD S) (hB : ABV S) (hkx : Hid (∀ j : Nat, -1 ≤ Xi S 918 j ∧ Xi S 918 j ≤ 15)) (hLX : LXR S) (hp32 : 0 ≤ Xi S 904 32 ∧ Xi S 904 32 ≤ 12) (hkk : Hid (∀ k : Nat, (k : Int) < Xi S 904 15 → Xi S 914 k ≤ 1 → Xi S 915 k ≤ 15)) (hak : Hid (∀ j : Nat, -2 ≤ Xi S 942 j ∧ Xi S 942 j ≤ 15)) (hb6 : BYT S 906) (hlx7 : Hid (∀ j : Nat, (j : Int) < Xi S 904 15 → Xi S 914 j = 7 → 0 ≤ Xi S 915 j ∧ Xi S 915 j ≤ 11)) (hgb : Hid (AGB S)) (h94 : 0 ≤ Xi S 904 94 ∧ Xi S 904 94 ≤ 1700) (h98 : 0 ≤ Xi S 904 98 ∧ Xi S 904 98 ≤ 1700) (h117 : 0 ≤ Xi S 904 117 ∧ Xi S 904 117 + Xi S 904 94 + Xi S 904 98 ≤ 2400) (h125 : 0 ≤ Xi S 904 125 ∧ Xi S 904 125 + Xi S 904 98 ≤ 2000) (h130 : 0 ≤ Xi S 904 130 ∧ Xi S 904 130 ≤ 24) (htk : Hid (∀ k : Nat, (k : Int) < Xi S 904 94 → TRK S k)) (hpk : Hid (∀ k : Nat, (k : Int) < Xi S 904 98 → PKB S k)) (hs : 3 ≤ Xi S 904 70 ∧ Xi S 904 70 ≤ 6) (d : Nat) : Mp lay0 (d + 13) m_mo_asked [.ref 904, iv first] S (Q_mo_asked__3f S first) := by
  refine Mp_R rfl rfl (fun fu => ?_)
  have hF : FR md_mo_asked__3f S S := FR.rf
  have w1 : -2147483648 ≤ Xi S 904 102 ∧ Xi S 904 102 ≤ 2147483647 := Xi_rgI
  have w2 : -2147483648 ≤ Xi S 904 103 ∧ Xi S 904 103 ≤ 2147483647 := Xi_rgI
  have w3 : -2147483648 ≤ Xi S 904 106 ∧ Xi S 904 106 ≤ 2147483647 := Xi_rgI
  have w4 : -2147483648 ≤ Xi S 904 108 ∧ Xi S 904 108 ≤ 2147483647 := Xi_rgI
  have w5 : -2147483648 ≤ Xi S 904 115 ∧ Xi S 904 115 ≤ 2147483647 := Xi_rgI
  have w6 : -2147483648 ≤ Xi S 904 116 ∧ Xi S 904 116 ≤ 2147483647 := Xi_rgI
  have w7 : -2147483648 ≤ Xi S 904 117 ∧ Xi S 904 117 ≤ 2147483647 := Xi_rgI
  have w8 : -2147483648 ≤ Xi S 904 125 ∧ Xi S 904 125 ≤ 2147483647 := Xi_rgI
  have w9 : -2147483648 ≤ Xi S 904 130 ∧ Xi S 904 130 ≤ 2147483647 := Xi_rgI
  have w10 : -2147483648 ≤ Xi S 904 15 ∧ Xi S 904 15 ≤ 2147483647 := Xi_rgI
  have w11 : -2147483648 ≤ Xi S 904 32 ∧ Xi S 904 32 ≤ 2147483647 := Xi_rgI
  have w12 : -2147483648 ≤ Xi S 904 70 ∧ Xi S 904 70 ≤ 2147483647 := Xi_rgI
  have w13 : -2147483648 ≤ Xi S 904 94 ∧ Xi S 904 94 ≤ 2147483647 := Xi_rgI
  have w14 : -2147483648 ≤ Xi S 904 98 ∧ Xi S 904 98 ≤ 2147483647 := Xi_rgI
  refine y_aload_n rfl rfl ?_
  refine y_iconst rfl ?_
  refine y_pfi rfl rfl rfl rfl ?_
  obtain ⟨U1, eU1⟩ : ∃ T : sS, T = uI S 904 106 (Int32.ofInt 0) := ⟨_, rfl⟩
  rw [← eU1]
  have hHU1 : RI U1 := by rw [eU1]; exact RI_w hH
  have hFU1 : FR md_mo_asked__3f S U1 := by rw [eU1]; exact FR.wI hF (mdf_i (r := (904, 905, 106, 107)) (List.mem_of_getElem? (i := 3) rfl) (inR_i (by omega) (by omega) (by omega) (by omega)))
  have w15 : Xi U1 904 106 = 0 := by rw [eU1]; exact Xi_same (by unfold rg; omega)
  have FA2 : FR lA S U1 := by rw [eU1]; exact FR.wI FR.rf (mdf_i (r := (904, 905, 106, 107)) (List.mem_of_getElem? (i := 0) rfl) (inR_i (by omega) (by omega) (by omega) (by omega)))
  refine y_aload_n rfl rfl ?_
  refine y_iconst rfl ?_
  refine y_pfi rfl rfl rfl rfl ?_
  obtain ⟨U2, eU2⟩ : ∃ T : sS, T = uI U1 904 108 (Int32.ofInt 0) := ⟨_, rfl⟩
  rw [← eU2]
  have hHU2 : RI U2 := by rw [eU2]; exact RI_w hHU1
  have hFU2 : FR md_mo_asked__3f S U2 := by rw [eU2]; exact FR.wI hFU1 (mdf_i (r := (904, 905, 108, 109)) (List.mem_of_getElem? (i := 4) rfl) (inR_i (by omega) (by omega) (by omega) (by omega)))
  have w16 : Xi U2 904 108 = 0 := by rw [eU2]; exact Xi_same (by unfold rg; omega)
  have FA7 : FR lA S U2 := by rw [eU2]; exact FR.wI FA2 (mdf_i (r := (904, 905, 108, 109)) (List.mem_of_getElem? (i := 1) rfl) (inR_i (by omega) (by omega) (by omega) (by omega)))
  refine y_aload_n rfl rfl ?_
  refine y_iconst rfl ?_
  refine y_pfi rfl rfl rfl rfl ?_
  obtain ⟨U3, eU3⟩ : ∃ T : sS, T = uI U2 904 115 (Int32.ofInt (-1)) := ⟨_, rfl⟩
  rw [← eU3]
  have hHU3 : RI U3 := by rw [eU3]; exact RI_w hHU2
  have hFU3 : FR md_mo_asked__3f S U3 := by rw [eU3]; exact FR.wI hFU2 (mdf_i (r := (904, 905, 115, 116)) (List.mem_of_getElem? (i := 9) rfl) (inR_i (by omega) (by omega) (by omega) (by omega)))
  have w17 : Xi U3 904 115 = (-1) := by rw [eU3]; exact Xi_same (by unfold rg; omega)
  have FA12 : FR lA S U3 := by rw [eU3]; exact FR.wI FA7 (mdf_i (r := (904, 905, 115, 116)) (List.mem_of_getElem? (i := 2) rfl) (inR_i (by omega) (by omega) (by omega) (by omega)))
  refine y_aload_n rfl rfl ?_
  refine y_iconst rfl ?_
  refine y_pfi rfl rfl rfl rfl ?_
  obtain ⟨U4, eU4⟩ : ∃ T : sS, T = uI U3 904 116 (Int32.ofInt (-1)) := ⟨_, rfl⟩
  rw [← eU4]
  have hHU4 : RI U4 := by rw [eU4]; exact RI_w hHU3
  have hFU4 : FR md_mo_asked__3f S U4 := by rw [eU4]; exact FR.wI hFU3 (mdf_i (r := (904, 905, 116, 117)) (List.mem_of_getElem? (i := 10) rfl) (inR_i (by omega) (by omega) (by omega) (by omega)))
  have w18 : Xi U4 904 116 = (-1) := by rw [eU4]; exact Xi_same (by unfold rg; omega)
  have FA17 : FR lA S U4 := by rw [eU4]; exact FR.wI FA12 (mdf_i (r := (904, 905, 116, 117)) (List.mem_of_getElem? (i := 3) rfl) (inR_i (by omega) (by omega) (by omega) (by omega)))
  refine y_aload_n rfl rfl ?_
  refine y_gfi rfl rfl rfl rfl rfl ?_
  have w19 : (Xi U4 904 70) = (Xi S 904 70) := (show Xi U4 904 70 = Xi U3 904 70 from by rw [eU4]; exact Xi_ne (by omega)).trans ( (show Xi U3 904 70 = Xi U2 904 70 from by rw [eU3]; exact Xi_ne (by omega)).trans ( (show Xi U2 904 70 = Xi U1 904 70 from by rw [eU2]; exact Xi_ne (by omega)).trans ((show Xi U1 904 70 = Xi S 904 70 from by rw [eU1]; exact Xi_ne (by omega)))))
  rw [w19]
  refine y_tsw rfl rfl rfl rfl (by unfold rg; omega) (fun w20 => ?_) (fun ii tt hii w20 => ?_)
  · refine y_aload_n rfl rfl ?_
    refine y_iload_n rfl rfl ?_
    have w21 : Xi U4 904 102 = Xi S 904 102 := (show Xi U4 904 102 = Xi U3 904 102 from by rw [eU4]; exact Xi_ne (by omega)).trans ( (show Xi U3 904 102 = Xi U2 904 102 from by rw [eU3]; exact Xi_ne (by omega)).trans ( (show Xi U2 904 102 = Xi U1 904 102 from by rw [eU2]; exact Xi_ne (by omega)).trans ((show Xi U1 904 102 = Xi S 904 102 from by rw [eU1]; exact Xi_ne (by omega)))))
    have w22 : Xi U4 904 103 = Xi S 904 103 := (show Xi U4 904 103 = Xi U3 904 103 from by rw [eU4]; exact Xi_ne (by omega)).trans ( (show Xi U3 904 103 = Xi U2 904 103 from by rw [eU3]; exact Xi_ne (by omega)).trans ( (show Xi U2 904 103 = Xi U1 904 103 from by rw [eU2]; exact Xi_ne (by omega)).trans ((show Xi U1 904 103 = Xi S 904 103 from by rw [eU1]; exact Xi_ne (by omega)))))
    have w23 : Xi U4 904 106 = Xi U1 904 106 := (show Xi U4 904 106 = Xi U3 904 106 from by rw [eU4]; exact Xi_ne (by omega)).trans ( (show Xi U3 904 106 = Xi U2 904 106 from by rw [eU3]; exact Xi_ne (by omega)).trans ((show Xi U2 904 106 = Xi U1 904 106 from by rw [eU2]; exact Xi_ne (by omega))))
    have w24 : Xi U4 904 108 = Xi U2 904 108 := (show Xi U4 904 108 = Xi U3 904 108 from by rw [eU4]; exact Xi_ne (by omega)).trans ((show Xi U3 904 108 = Xi U2 904 108 from by rw [eU3]; exact Xi_ne (by omega)))
    have w25 : Xi U4 904 115 = Xi U3 904 115 := (show Xi U4 904 115 = Xi U3 904 115 from by rw [eU4]; exact Xi_ne (by omega))
    have w26 : Xi U4 904 117 = Xi S 904 117 := (show Xi U4 904 117 = Xi U3 904 117 from by rw [eU4]; exact Xi_ne (by omega)).trans ( (show Xi U3 904 117 = Xi U2 904 117 from by rw [eU3]; exact Xi_ne (by omega)).trans ( (show Xi U2 904 117 = Xi U1 904 117 from by rw [eU2]; exact Xi_ne (by omega)).trans ((show Xi U1 904 117 = Xi S 904 117 from by rw [eU1]; exact Xi_ne (by omega)))))
    have w27 : Xi U4 904 125 = Xi S 904 125 := (show Xi U4 904 125 = Xi U3 904 125 from by rw [eU4]; exact Xi_ne (by omega)).trans ( (show Xi U3 904 125 = Xi U2 904 125 from by rw [eU3]; exact Xi_ne (by omega)).trans ( (show Xi U2 904 125 = Xi U1 904 125 from by rw [eU2]; exact Xi_ne (by omega)).trans ((show Xi U1 904 125 = Xi S 904 125 from by rw [eU1]; exact Xi_ne (by omega)))))
    have w28 : Xi U4 904 130 = Xi S 904 130 := (show Xi U4 904 130 = Xi U3 904 130 from by rw [eU4]; exact Xi_ne (by omega)).trans ( (show Xi U3 904 130 = Xi U2 904 130 from by rw [eU3]; exact Xi_ne (by omega)).trans ( (show Xi U2 904 130 = Xi U1 904 130 from by rw [eU2]; exact Xi_ne (by omega)).trans ((show Xi U1 904 130 = Xi S 904 130 from by rw [eU1]; exact Xi_ne (by omega)))))
    have w29 : Xi U4 904 15 = Xi S 904 15 := (show Xi U4 904 15 = Xi U3 904 15 from by rw [eU4]; exact Xi_ne (by omega)).trans ( (show Xi U3 904 15 = Xi U2 904 15 from by rw [eU3]; exact Xi_ne (by omega)).trans ( (show Xi U2 904 15 = Xi U1 904 15 from by rw [eU2]; exact Xi_ne (by omega)).trans ((show Xi U1 904 15 = Xi S 904 15 from by rw [eU1]; exact Xi_ne (by omega)))))
    have w30 : Xi U4 904 32 = Xi S 904 32 := (show Xi U4 904 32 = Xi U3 904 32 from by rw [eU4]; exact Xi_ne (by omega)).trans ( (show Xi U3 904 32 = Xi U2 904 32 from by rw [eU3]; exact Xi_ne (by omega)).trans ( (show Xi U2 904 32 = Xi U1 904 32 from by rw [eU2]; exact Xi_ne (by omega)).trans ((show Xi U1 904 32 = Xi S 904 32 from by rw [eU1]; exact Xi_ne (by omega)))))
    have w31 : Xi U4 904 70 = Xi S 904 70 := (show Xi U4 904 70 = Xi U3 904 70 from by rw [eU4]; exact Xi_ne (by omega)).trans ( (show Xi U3 904 70 = Xi U2 904 70 from by rw [eU3]; exact Xi_ne (by omega)).trans ( (show Xi U2 904 70 = Xi U1 904 70 from by rw [eU2]; exact Xi_ne (by omega)).trans ((show Xi U1 904 70 = Xi S 904 70 from by rw [eU1]; exact Xi_ne (by omega)))))
    have w32 : Xi U4 904 94 = Xi S 904 94 := (show Xi U4 904 94 = Xi U3 904 94 from by rw [eU4]; exact Xi_ne (by omega)).trans ( (show Xi U3 904 94 = Xi U2 904 94 from by rw [eU3]; exact Xi_ne (by omega)).trans ( (show Xi U2 904 94 = Xi U1 904 94 from by rw [eU2]; exact Xi_ne (by omega)).trans ((show Xi U1 904 94 = Xi S 904 94 from by rw [eU1]; exact Xi_ne (by omega)))))
    have w33 : Xi U4 904 98 = Xi S 904 98 := (show Xi U4 904 98 = Xi U3 904 98 from by rw [eU4]; exact Xi_ne (by omega)).trans ( (show Xi U3 904 98 = Xi U2 904 98 from by rw [eU3]; exact Xi_ne (by omega)).trans ( (show Xi U2 904 98 = Xi U1 904 98 from by rw [eU2]; exact Xi_ne (by omega)).trans ((show Xi U1 904 98 = Xi S 904 98 from by rw [eU1]; exact Xi_ne (by omega)))))
    refine y_callV rfl rfl rfl (t_mo_ruleMeant__p hHU4 first ⟨by omega, by omega⟩ (by first | assumption | exact (LSP_FR hFU4 rfl rfl (by assumption : LSP S))) (by first | assumption | omega) (by first | assumption | exact (RBD_FR hFU4 rfl (by assumption : RBD S))) (by first | assumption | exact (ABV_FR hFU4 rfl (by assumption : ABV S))) (fun j => by rw [FA17.x 918 j rfl]; exact hkx.o j) (LXR_FR FA17 rfl rfl hLX) (by first | assumption | omega) (fun k a b => by rw [FA17.x 914 k rfl] at b; rw [FA17.x 915 k rfl]; exact hkk.o k (by omega) b) (fun j => by rw [FA17.x 942 j rfl]; exact hak.o j) (BYT_R FA17 rfl hb6) (fun j => by rw [FA17.x 914 j rfl, FA17.x 915 j rfl, FA17.x 904 15 rfl]; exact hlx7.o j) (by have t := hgb.o; unfold AGB at t ⊢; rw [FA17.x 904 70 rfl, FA17.x 904 102 rfl, FA17.x 904 103 rfl, (FA17.cx 950 rfl _).1, (FA17.cx 951 rfl _).1, (FA17.cx 950 rfl _).1, (FA17.cx 951 rfl _).1]; exact t) (by first | assumption | omega) (by first | assumption | omega) (by first | assumption | omega) (by first | assumption | omega) (by first | assumption | omega) (fun k hk => TRK_F FA17 (SMR_FR FA17 rfl rfl) rfl rfl (htk.o k (by omega))) (fun k hk => PKB_F FA17 (SMR_FR FA17 rfl rfl) rfl rfl rfl (hpk.o k (by omega))) _) ?_
    rintro _ T5 ⟨hHT5, w35, rfl, o528⟩
    have hFT5 : FR md_mo_asked__3f S T5 := FR.tr hFU4 w35 rfl
    show Pl _ _ _ _ _ _ [] _ _
    have K528 : True := trivial
    have z528 : Xi U4 904 106 = 0 ∧ Xi U4 904 108 = 0 ∧ Xi U4 904 115 = -1 ∧ Xi U4 904 116 = -1 := ⟨by omega, by omega, by omega, by omega⟩
    refine y_return rfl rfl ?_
    exact ⟨hHT5, hFT5, rfl⟩
  · match ii, hii with
    | 0, hii =>
      cases hii
      have w44 : (Xi S 904 70) = 0 := by simpa using w20
      exfalso; omega
    | 1, hii =>
      cases hii
      have w45 : (Xi S 904 70) = 1 := by simpa using w20
      exfalso; omega
    | 2, hii =>
      cases hii
      have w46 : (Xi S 904 70) = 2 := by simpa using w20
      exfalso; omega
    | 3, hii =>
      cases hii
      have w47 : (Xi S 904 70) = 3 := by simpa using w20
      refine y_aload_n rfl rfl ?_
      refine y_iload_n rfl rfl ?_
      have w48 : Xi U4 904 102 = Xi S 904 102 := (show Xi U4 904 102 = Xi U3 904 102 from by rw [eU4]; exact Xi_ne (by omega)).trans ( (show Xi U3 904 102 = Xi U2 904 102 from by rw [eU3]; exact Xi_ne (by omega)).trans ( (show Xi U2 904 102 = Xi U1 904 102 from by rw [eU2]; exact Xi_ne (by omega)).trans ((show Xi U1 904 102 = Xi S 904 102 from by rw [eU1]; exact Xi_ne (by omega)))))
      have w49 : Xi U4 904 103 = Xi S 904 103 := (show Xi U4 904 103 = Xi U3 904 103 from by rw [eU4]; exact Xi_ne (by omega)).trans ( (show Xi U3 904 103 = Xi U2 904 103 from by rw [eU3]; exact Xi_ne (by omega)).trans ( (show Xi U2 904 103 = Xi U1 904 103 from by rw [eU2]; exact Xi_ne (by omega)).trans ((show Xi U1 904 103 = Xi S 904 103 from by rw [eU1]; exact Xi_ne (by omega)))))
      have w50 : Xi U4 904 106 = Xi U1 904 106 := (show Xi U4 904 106 = Xi U3 904 106 from by rw [eU4]; exact Xi_ne (by omega)).trans ( (show Xi U3 904 106 = Xi U2 904 106 from by rw [eU3]; exact Xi_ne (by omega)).trans ((show Xi U2 904 106 = Xi U1 904 106 from by rw [eU2]; exact Xi_ne (by omega))))
      have w51 : Xi U4 904 108 = Xi U2 904 108 := (show Xi U4 904 108 = Xi U3 904 108 from by rw [eU4]; exact Xi_ne (by omega)).trans ((show Xi U3 904 108 = Xi U2 904 108 from by rw [eU3]; exact Xi_ne (by omega)))
      have w52 : Xi U4 904 115 = Xi U3 904 115 := (show Xi U4 904 115 = Xi U3 904 115 from by rw [eU4]; exact Xi_ne (by omega))
      have w53 : Xi U4 904 117 = Xi S 904 117 := (show Xi U4 904 117 = Xi U3 904 117 from by rw [eU4]; exact Xi_ne (by omega)).trans ( (show Xi U3 904 117 = Xi U2 904 117 from by rw [eU3]; exact Xi_ne (by omega)).trans ( (show Xi U2 904 117 = Xi U1 904 117 from by rw [eU2]; exact Xi_ne (by omega)).trans ((show Xi U1 904 117 = Xi S 904 117 from by rw [eU1]; exact Xi_ne (by omega)))))
      have w54 : Xi U4 904 125 = Xi S 904 125 := (show Xi U4 904 125 = Xi U3 904 125 from by rw [eU4]; exact Xi_ne (by omega)).trans ( (show Xi U3 904 125 = Xi U2 904 125 from by rw [eU3]; exact Xi_ne (by omega)).trans ( (show Xi U2 904 125 = Xi U1 904 125 from by rw [eU2]; exact Xi_ne (by omega)).trans ((show Xi U1 904 125 = Xi S 904 125 from by rw [eU1]; exact Xi_ne (by omega)))))
      have w55 : Xi U4 904 130 = Xi S 904 130 := (show Xi U4 904 130 = Xi U3 904 130 from by rw [eU4]; exact Xi_ne (by omega)).trans ( (show Xi U3 904 130 = Xi U2 904 130 from by rw [eU3]; exact Xi_ne (by omega)).trans ( (show Xi U2 904 130 = Xi U1 904 130 from by rw [eU2]; exact Xi_ne (by omega)).trans ((show Xi U1 904 130 = Xi S 904 130 from by rw [eU1]; exact Xi_ne (by omega)))))
      have w56 : Xi U4 904 15 = Xi S 904 15 := (show Xi U4 904 15 = Xi U3 904 15 from by rw [eU4]; exact Xi_ne (by omega)).trans ( (show Xi U3 904 15 = Xi U2 904 15 from by rw [eU3]; exact Xi_ne (by omega)).trans ( (show Xi U2 904 15 = Xi U1 904 15 from by rw [eU2]; exact Xi_ne (by omega)).trans ((show Xi U1 904 15 = Xi S 904 15 from by rw [eU1]; exact Xi_ne (by omega)))))
      have w57 : Xi U4 904 32 = Xi S 904 32 := (show Xi U4 904 32 = Xi U3 904 32 from by rw [eU4]; exact Xi_ne (by omega)).trans ( (show Xi U3 904 32 = Xi U2 904 32 from by rw [eU3]; exact Xi_ne (by omega)).trans ( (show Xi U2 904 32 = Xi U1 904 32 from by rw [eU2]; exact Xi_ne (by omega)).trans ((show Xi U1 904 32 = Xi S 904 32 from by rw [eU1]; exact Xi_ne (by omega)))))
      have w58 : Xi U4 904 70 = Xi S 904 70 := (show Xi U4 904 70 = Xi U3 904 70 from by rw [eU4]; exact Xi_ne (by omega)).trans ( (show Xi U3 904 70 = Xi U2 904 70 from by rw [eU3]; exact Xi_ne (by omega)).trans ( (show Xi U2 904 70 = Xi U1 904 70 from by rw [eU2]; exact Xi_ne (by omega)).trans ((show Xi U1 904 70 = Xi S 904 70 from by rw [eU1]; exact Xi_ne (by omega)))))
      have w59 : Xi U4 904 94 = Xi S 904 94 := (show Xi U4 904 94 = Xi U3 904 94 from by rw [eU4]; exact Xi_ne (by omega)).trans ( (show Xi U3 904 94 = Xi U2 904 94 from by rw [eU3]; exact Xi_ne (by omega)).trans ( (show Xi U2 904 94 = Xi U1 904 94 from by rw [eU2]; exact Xi_ne (by omega)).trans ((show Xi U1 904 94 = Xi S 904 94 from by rw [eU1]; exact Xi_ne (by omega)))))
      have w60 : Xi U4 904 98 = Xi S 904 98 := (show Xi U4 904 98 = Xi U3 904 98 from by rw [eU4]; exact Xi_ne (by omega)).trans ( (show Xi U3 904 98 = Xi U2 904 98 from by rw [eU3]; exact Xi_ne (by omega)).trans ( (show Xi U2 904 98 = Xi U1 904 98 from by rw [eU2]; exact Xi_ne (by omega)).trans ((show Xi U1 904 98 = Xi S 904 98 from by rw [eU1]; exact Xi_ne (by omega)))))
      refine y_callV rfl rfl rfl (t_mo_ruleMeant__p hHU4 first ⟨by omega, by omega⟩ (by first | assumption | exact (LSP_FR hFU4 rfl rfl (by assumption : LSP S))) (by first | assumption | omega) (by first | assumption | exact (RBD_FR hFU4 rfl (by assumption : RBD S))) (by first | assumption | exact (ABV_FR hFU4 rfl (by assumption : ABV S))) (fun j => by rw [FA17.x 918 j rfl]; exact hkx.o j) (LXR_FR FA17 rfl rfl hLX) (by first | assumption | omega) (fun k a b => by rw [FA17.x 914 k rfl] at b; rw [FA17.x 915 k rfl]; exact hkk.o k (by omega) b) (fun j => by rw [FA17.x 942 j rfl]; exact hak.o j) (BYT_R FA17 rfl hb6) (fun j => by rw [FA17.x 914 j rfl, FA17.x 915 j rfl, FA17.x 904 15 rfl]; exact hlx7.o j) (by have t := hgb.o; unfold AGB at t ⊢; rw [FA17.x 904 70 rfl, FA17.x 904 102 rfl, FA17.x 904 103 rfl, (FA17.cx 950 rfl _).1, (FA17.cx 951 rfl _).1, (FA17.cx 950 rfl _).1, (FA17.cx 951 rfl _).1]; exact t) (by first | assumption | omega) (by first | assumption | omega) (by first | assumption | omega) (by first | assumption | omega) (by first | assumption | omega) (fun k hk => TRK_F FA17 (SMR_FR FA17 rfl rfl) rfl rfl (htk.o k (by omega))) (fun k hk => PKB_F FA17 (SMR_FR FA17 rfl rfl) rfl rfl rfl (hpk.o k (by omega))) _) ?_
      rintro _ T6 ⟨hHT6, w62, rfl, o528⟩
      have hFT6 : FR md_mo_asked__3f S T6 := FR.tr hFU4 w62 rfl
      show Pl _ _ _ _ _ _ [] _ _
      have K528 : True := trivial
      have z528 : Xi U4 904 106 = 0 ∧ Xi U4 904 108 = 0 ∧ Xi U4 904 115 = -1 ∧ Xi U4 904 116 = -1 := ⟨by omega, by omega, by omega, by omega⟩
      refine y_return rfl rfl ?_
      exact ⟨hHT6, hFT6, rfl⟩
    | 4, hii =>
      cases hii
      have w71 : (Xi S 904 70) = 4 := by simpa using w20
      refine y_aload_n rfl rfl ?_
      refine y_iload_n rfl rfl ?_
      have w72 : Xi U4 904 102 = Xi S 904 102 := (show Xi U4 904 102 = Xi U3 904 102 from by rw [eU4]; exact Xi_ne (by omega)).trans ( (show Xi U3 904 102 = Xi U2 904 102 from by rw [eU3]; exact Xi_ne (by omega)).trans ( (show Xi U2 904 102 = Xi U1 904 102 from by rw [eU2]; exact Xi_ne (by omega)).trans ((show Xi U1 904 102 = Xi S 904 102 from by rw [eU1]; exact Xi_ne (by omega)))))
      have w73 : Xi U4 904 103 = Xi S 904 103 := (show Xi U4 904 103 = Xi U3 904 103 from by rw [eU4]; exact Xi_ne (by omega)).trans ( (show Xi U3 904 103 = Xi U2 904 103 from by rw [eU3]; exact Xi_ne (by omega)).trans ( (show Xi U2 904 103 = Xi U1 904 103 from by rw [eU2]; exact Xi_ne (by omega)).trans ((show Xi U1 904 103 = Xi S 904 103 from by rw [eU1]; exact Xi_ne (by omega)))))
      have w74 : Xi U4 904 106 = Xi U1 904 106 := (show Xi U4 904 106 = Xi U3 904 106 from by rw [eU4]; exact Xi_ne (by omega)).trans ( (show Xi U3 904 106 = Xi U2 904 106 from by rw [eU3]; exact Xi_ne (by omega)).trans ((show Xi U2 904 106 = Xi U1 904 106 from by rw [eU2]; exact Xi_ne (by omega))))
      have w75 : Xi U4 904 108 = Xi U2 904 108 := (show Xi U4 904 108 = Xi U3 904 108 from by rw [eU4]; exact Xi_ne (by omega)).trans ((show Xi U3 904 108 = Xi U2 904 108 from by rw [eU3]; exact Xi_ne (by omega)))
      have w76 : Xi U4 904 115 = Xi U3 904 115 := (show Xi U4 904 115 = Xi U3 904 115 from by rw [eU4]; exact Xi_ne (by omega))
      have w77 : Xi U4 904 117 = Xi S 904 117 := (show Xi U4 904 117 = Xi U3 904 117 from by rw [eU4]; exact Xi_ne (by omega)).trans ( (show Xi U3 904 117 = Xi U2 904 117 from by rw [eU3]; exact Xi_ne (by omega)).trans ( (show Xi U2 904 117 = Xi U1 904 117 from by rw [eU2]; exact Xi_ne (by omega)).trans ((show Xi U1 904 117 = Xi S 904 117 from by rw [eU1]; exact Xi_ne (by omega)))))
      have w78 : Xi U4 904 125 = Xi S 904 125 := (show Xi U4 904 125 = Xi U3 904 125 from by rw [eU4]; exact Xi_ne (by omega)).trans ( (show Xi U3 904 125 = Xi U2 904 125 from by rw [eU3]; exact Xi_ne (by omega)).trans ( (show Xi U2 904 125 = Xi U1 904 125 from by rw [eU2]; exact Xi_ne (by omega)).trans ((show Xi U1 904 125 = Xi S 904 125 from by rw [eU1]; exact Xi_ne (by omega)))))
      have w79 : Xi U4 904 130 = Xi S 904 130 := (show Xi U4 904 130 = Xi U3 904 130 from by rw [eU4]; exact Xi_ne (by omega)).trans ( (show Xi U3 904 130 = Xi U2 904 130 from by rw [eU3]; exact Xi_ne (by omega)).trans ( (show Xi U2 904 130 = Xi U1 904 130 from by rw [eU2]; exact Xi_ne (by omega)).trans ((show Xi U1 904 130 = Xi S 904 130 from by rw [eU1]; exact Xi_ne (by omega)))))
      have w80 : Xi U4 904 15 = Xi S 904 15 := (show Xi U4 904 15 = Xi U3 904 15 from by rw [eU4]; exact Xi_ne (by omega)).trans ( (show Xi U3 904 15 = Xi U2 904 15 from by rw [eU3]; exact Xi_ne (by omega)).trans ( (show Xi U2 904 15 = Xi U1 904 15 from by rw [eU2]; exact Xi_ne (by omega)).trans ((show Xi U1 904 15 = Xi S 904 15 from by rw [eU1]; exact Xi_ne (by omega)))))
      have w81 : Xi U4 904 32 = Xi S 904 32 := (show Xi U4 904 32 = Xi U3 904 32 from by rw [eU4]; exact Xi_ne (by omega)).trans ( (show Xi U3 904 32 = Xi U2 904 32 from by rw [eU3]; exact Xi_ne (by omega)).trans ( (show Xi U2 904 32 = Xi U1 904 32 from by rw [eU2]; exact Xi_ne (by omega)).trans ((show Xi U1 904 32 = Xi S 904 32 from by rw [eU1]; exact Xi_ne (by omega)))))
      have w82 : Xi U4 904 70 = Xi S 904 70 := (show Xi U4 904 70 = Xi U3 904 70 from by rw [eU4]; exact Xi_ne (by omega)).trans ( (show Xi U3 904 70 = Xi U2 904 70 from by rw [eU3]; exact Xi_ne (by omega)).trans ( (show Xi U2 904 70 = Xi U1 904 70 from by rw [eU2]; exact Xi_ne (by omega)).trans ((show Xi U1 904 70 = Xi S 904 70 from by rw [eU1]; exact Xi_ne (by omega)))))
      have w83 : Xi U4 904 94 = Xi S 904 94 := (show Xi U4 904 94 = Xi U3 904 94 from by rw [eU4]; exact Xi_ne (by omega)).trans ( (show Xi U3 904 94 = Xi U2 904 94 from by rw [eU3]; exact Xi_ne (by omega)).trans ( (show Xi U2 904 94 = Xi U1 904 94 from by rw [eU2]; exact Xi_ne (by omega)).trans ((show Xi U1 904 94 = Xi S 904 94 from by rw [eU1]; exact Xi_ne (by omega)))))
      have w84 : Xi U4 904 98 = Xi S 904 98 := (show Xi U4 904 98 = Xi U3 904 98 from by rw [eU4]; exact Xi_ne (by omega)).trans ( (show Xi U3 904 98 = Xi U2 904 98 from by rw [eU3]; exact Xi_ne (by omega)).trans ( (show Xi U2 904 98 = Xi U1 904 98 from by rw [eU2]; exact Xi_ne (by omega)).trans ((show Xi U1 904 98 = Xi S 904 98 from by rw [eU1]; exact Xi_ne (by omega)))))
      refine y_callV rfl rfl rfl (t_mo_ruleMeant__p hHU4 first ⟨by omega, by omega⟩ (by first | assumption | exact (LSP_FR hFU4 rfl rfl (by assumption : LSP S))) (by first | assumption | omega) (by first | assumption | exact (RBD_FR hFU4 rfl (by assumption : RBD S))) (by first | assumption | exact (ABV_FR hFU4 rfl (by assumption : ABV S))) (fun j => by rw [FA17.x 918 j rfl]; exact hkx.o j) (LXR_FR FA17 rfl rfl hLX) (by first | assumption | omega) (fun k a b => by rw [FA17.x 914 k rfl] at b; rw [FA17.x 915 k rfl]; exact hkk.o k (by omega) b) (fun j => by rw [FA17.x 942 j rfl]; exact hak.o j) (BYT_R FA17 rfl hb6) (fun j => by rw [FA17.x 914 j rfl, FA17.x 915 j rfl, FA17.x 904 15 rfl]; exact hlx7.o j) (by have t := hgb.o; unfold AGB at t ⊢; rw [FA17.x 904 70 rfl, FA17.x 904 102 rfl, FA17.x 904 103 rfl, (FA17.cx 950 rfl _).1, (FA17.cx 951 rfl _).1, (FA17.cx 950 rfl _).1, (FA17.cx 951 rfl _).1]; exact t) (by first | assumption | omega) (by first | assumption | omega) (by first | assumption | omega) (by first | assumption | omega) (by first | assumption | omega) (fun k hk => TRK_F FA17 (SMR_FR FA17 rfl rfl) rfl rfl (htk.o k (by omega))) (fun k hk => PKB_F FA17 (SMR_FR FA17 rfl rfl) rfl rfl rfl (hpk.o k (by omega))) _) ?_
      rintro _ T7 ⟨hHT7, w86, rfl, o528⟩
      have hFT7 : FR md_mo_asked__3f S T7 := FR.tr hFU4 w86 rfl
      show Pl _ _ _ _ _ _ [] _ _
      have K528 : True := trivial
      have z528 : Xi U4 904 106 = 0 ∧ Xi U4 904 108 = 0 ∧ Xi U4 904 115 = -1 ∧ Xi U4 904 116 = -1 := ⟨by omega, by omega, by omega, by omega⟩
      refine y_return rfl rfl ?_
      exact ⟨hHT7, hFT7, rfl⟩
    | 5, hii =>
      cases hii
      have w95 : (Xi S 904 70) = 5 := by simpa using w20
      refine y_aload_n rfl rfl ?_
      refine y_iload_n rfl rfl ?_
      have w96 : Xi U4 904 102 = Xi S 904 102 := (show Xi U4 904 102 = Xi U3 904 102 from by rw [eU4]; exact Xi_ne (by omega)).trans ( (show Xi U3 904 102 = Xi U2 904 102 from by rw [eU3]; exact Xi_ne (by omega)).trans ( (show Xi U2 904 102 = Xi U1 904 102 from by rw [eU2]; exact Xi_ne (by omega)).trans ((show Xi U1 904 102 = Xi S 904 102 from by rw [eU1]; exact Xi_ne (by omega)))))
      have w97 : Xi U4 904 103 = Xi S 904 103 := (show Xi U4 904 103 = Xi U3 904 103 from by rw [eU4]; exact Xi_ne (by omega)).trans ( (show Xi U3 904 103 = Xi U2 904 103 from by rw [eU3]; exact Xi_ne (by omega)).trans ( (show Xi U2 904 103 = Xi U1 904 103 from by rw [eU2]; exact Xi_ne (by omega)).trans ((show Xi U1 904 103 = Xi S 904 103 from by rw [eU1]; exact Xi_ne (by omega)))))
      have w98 : Xi U4 904 106 = Xi U1 904 106 := (show Xi U4 904 106 = Xi U3 904 106 from by rw [eU4]; exact Xi_ne (by omega)).trans ( (show Xi U3 904 106 = Xi U2 904 106 from by rw [eU3]; exact Xi_ne (by omega)).trans ((show Xi U2 904 106 = Xi U1 904 106 from by rw [eU2]; exact Xi_ne (by omega))))
      have w99 : Xi U4 904 108 = Xi U2 904 108 := (show Xi U4 904 108 = Xi U3 904 108 from by rw [eU4]; exact Xi_ne (by omega)).trans ((show Xi U3 904 108 = Xi U2 904 108 from by rw [eU3]; exact Xi_ne (by omega)))
      have w100 : Xi U4 904 115 = Xi U3 904 115 := (show Xi U4 904 115 = Xi U3 904 115 from by rw [eU4]; exact Xi_ne (by omega))
      have w101 : Xi U4 904 117 = Xi S 904 117 := (show Xi U4 904 117 = Xi U3 904 117 from by rw [eU4]; exact Xi_ne (by omega)).trans ( (show Xi U3 904 117 = Xi U2 904 117 from by rw [eU3]; exact Xi_ne (by omega)).trans ( (show Xi U2 904 117 = Xi U1 904 117 from by rw [eU2]; exact Xi_ne (by omega)).trans ((show Xi U1 904 117 = Xi S 904 117 from by rw [eU1]; exact Xi_ne (by omega)))))
      have w102 : Xi U4 904 125 = Xi S 904 125 := (show Xi U4 904 125 = Xi U3 904 125 from by rw [eU4]; exact Xi_ne (by omega)).trans ( (show Xi U3 904 125 = Xi U2 904 125 from by rw [eU3]; exact Xi_ne (by omega)).trans ( (show Xi U2 904 125 = Xi U1 904 125 from by rw [eU2]; exact Xi_ne (by omega)).trans ((show Xi U1 904 125 = Xi S 904 125 from by rw [eU1]; exact Xi_ne (by omega)))))
      have w103 : Xi U4 904 130 = Xi S 904 130 := (show Xi U4 904 130 = Xi U3 904 130 from by rw [eU4]; exact Xi_ne (by omega)).trans ( (show Xi U3 904 130 = Xi U2 904 130 from by rw [eU3]; exact Xi_ne (by omega)).trans ( (show Xi U2 904 130 = Xi U1 904 130 from by rw [eU2]; exact Xi_ne (by omega)).trans ((show Xi U1 904 130 = Xi S 904 130 from by rw [eU1]; exact Xi_ne (by omega)))))
      have w104 : Xi U4 904 15 = Xi S 904 15 := (show Xi U4 904 15 = Xi U3 904 15 from by rw [eU4]; exact Xi_ne (by omega)).trans ( (show Xi U3 904 15 = Xi U2 904 15 from by rw [eU3]; exact Xi_ne (by omega)).trans ( (show Xi U2 904 15 = Xi U1 904 15 from by rw [eU2]; exact Xi_ne (by omega)).trans ((show Xi U1 904 15 = Xi S 904 15 from by rw [eU1]; exact Xi_ne (by omega)))))
      have w105 : Xi U4 904 32 = Xi S 904 32 := (show Xi U4 904 32 = Xi U3 904 32 from by rw [eU4]; exact Xi_ne (by omega)).trans ( (show Xi U3 904 32 = Xi U2 904 32 from by rw [eU3]; exact Xi_ne (by omega)).trans ( (show Xi U2 904 32 = Xi U1 904 32 from by rw [eU2]; exact Xi_ne (by omega)).trans ((show Xi U1 904 32 = Xi S 904 32 from by rw [eU1]; exact Xi_ne (by omega)))))
      have w106 : Xi U4 904 70 = Xi S 904 70 := (show Xi U4 904 70 = Xi U3 904 70 from by rw [eU4]; exact Xi_ne (by omega)).trans ( (show Xi U3 904 70 = Xi U2 904 70 from by rw [eU3]; exact Xi_ne (by omega)).trans ( (show Xi U2 904 70 = Xi U1 904 70 from by rw [eU2]; exact Xi_ne (by omega)).trans ((show Xi U1 904 70 = Xi S 904 70 from by rw [eU1]; exact Xi_ne (by omega)))))
      have w107 : Xi U4 904 94 = Xi S 904 94 := (show Xi U4 904 94 = Xi U3 904 94 from by rw [eU4]; exact Xi_ne (by omega)).trans ( (show Xi U3 904 94 = Xi U2 904 94 from by rw [eU3]; exact Xi_ne (by omega)).trans ( (show Xi U2 904 94 = Xi U1 904 94 from by rw [eU2]; exact Xi_ne (by omega)).trans ((show Xi U1 904 94 = Xi S 904 94 from by rw [eU1]; exact Xi_ne (by omega)))))
      have w108 : Xi U4 904 98 = Xi S 904 98 := (show Xi U4 904 98 = Xi U3 904 98 from by rw [eU4]; exact Xi_ne (by omega)).trans ( (show Xi U3 904 98 = Xi U2 904 98 from by rw [eU3]; exact Xi_ne (by omega)).trans ( (show Xi U2 904 98 = Xi U1 904 98 from by rw [eU2]; exact Xi_ne (by omega)).trans ((show Xi U1 904 98 = Xi S 904 98 from by rw [eU1]; exact Xi_ne (by omega)))))
      refine y_callV rfl rfl rfl (t_mo_ruleMeant__p hHU4 first ⟨by omega, by omega⟩ (by first | assumption | exact (LSP_FR hFU4 rfl rfl (by assumption : LSP S))) (by first | assumption | omega) (by first | assumption | exact (RBD_FR hFU4 rfl (by assumption : RBD S))) (by first | assumption | exact (ABV_FR hFU4 rfl (by assumption : ABV S))) (fun j => by rw [FA17.x 918 j rfl]; exact hkx.o j) (LXR_FR FA17 rfl rfl hLX) (by first | assumption | omega) (fun k a b => by rw [FA17.x 914 k rfl] at b; rw [FA17.x 915 k rfl]; exact hkk.o k (by omega) b) (fun j => by rw [FA17.x 942 j rfl]; exact hak.o j) (BYT_R FA17 rfl hb6) (fun j => by rw [FA17.x 914 j rfl, FA17.x 915 j rfl, FA17.x 904 15 rfl]; exact hlx7.o j) (by have t := hgb.o; unfold AGB at t ⊢; rw [FA17.x 904 70 rfl, FA17.x 904 102 rfl, FA17.x 904 103 rfl, (FA17.cx 950 rfl _).1, (FA17.cx 951 rfl _).1, (FA17.cx 950 rfl _).1, (FA17.cx 951 rfl _).1]; exact t) (by first | assumption | omega) (by first | assumption | omega) (by first | assumption | omega) (by first | assumption | omega) (by first | assumption | omega) (fun k hk => TRK_F FA17 (SMR_FR FA17 rfl rfl) rfl rfl (htk.o k (by omega))) (fun k hk => PKB_F FA17 (SMR_FR FA17 rfl rfl) rfl rfl rfl (hpk.o k (by omega))) _) ?_
      rintro _ T8 ⟨hHT8, w110, rfl, o528⟩
      have hFT8 : FR md_mo_asked__3f S T8 := FR.tr hFU4 w110 rfl
      show Pl _ _ _ _ _ _ [] _ _
      have K528 : True := trivial
      have z528 : Xi U4 904 106 = 0 ∧ Xi U4 904 108 = 0 ∧ Xi U4 904 115 = -1 ∧ Xi U4 904 116 = -1 := ⟨by omega, by omega, by omega, by omega⟩
      refine y_return rfl rfl ?_
      exact ⟨hHT8, hFT8, rfl⟩
    | 6, hii =>
      cases hii
      have w119 : (Xi S 904 70) = 6 := by simpa using w20
      refine y_aload_n rfl rfl ?_
      refine y_iload_n rfl rfl ?_
      have w120 : Xi U4 904 102 = Xi S 904 102 := (show Xi U4 904 102 = Xi U3 904 102 from by rw [eU4]; exact Xi_ne (by omega)).trans ( (show Xi U3 904 102 = Xi U2 904 102 from by rw [eU3]; exact Xi_ne (by omega)).trans ( (show Xi U2 904 102 = Xi U1 904 102 from by rw [eU2]; exact Xi_ne (by omega)).trans ((show Xi U1 904 102 = Xi S 904 102 from by rw [eU1]; exact Xi_ne (by omega)))))
      have w121 : Xi U4 904 103 = Xi S 904 103 := (show Xi U4 904 103 = Xi U3 904 103 from by rw [eU4]; exact Xi_ne (by omega)).trans ( (show Xi U3 904 103 = Xi U2 904 103 from by rw [eU3]; exact Xi_ne (by omega)).trans ( (show Xi U2 904 103 = Xi U1 904 103 from by rw [eU2]; exact Xi_ne (by omega)).trans ((show Xi U1 904 103 = Xi S 904 103 from by rw [eU1]; exact Xi_ne (by omega)))))
      have w122 : Xi U4 904 106 = Xi U1 904 106 := (show Xi U4 904 106 = Xi U3 904 106 from by rw [eU4]; exact Xi_ne (by omega)).trans ( (show Xi U3 904 106 = Xi U2 904 106 from by rw [eU3]; exact Xi_ne (by omega)).trans ((show Xi U2 904 106 = Xi U1 904 106 from by rw [eU2]; exact Xi_ne (by omega))))
      have w123 : Xi U4 904 108 = Xi U2 904 108 := (show Xi U4 904 108 = Xi U3 904 108 from by rw [eU4]; exact Xi_ne (by omega)).trans ((show Xi U3 904 108 = Xi U2 904 108 from by rw [eU3]; exact Xi_ne (by omega)))
      have w124 : Xi U4 904 115 = Xi U3 904 115 := (show Xi U4 904 115 = Xi U3 904 115 from by rw [eU4]; exact Xi_ne (by omega))
      have w125 : Xi U4 904 117 = Xi S 904 117 := (show Xi U4 904 117 = Xi U3 904 117 from by rw [eU4]; exact Xi_ne (by omega)).trans ( (show Xi U3 904 117 = Xi U2 904 117 from by rw [eU3]; exact Xi_ne (by omega)).trans ( (show Xi U2 904 117 = Xi U1 904 117 from by rw [eU2]; exact Xi_ne (by omega)).trans ((show Xi U1 904 117 = Xi S 904 117 from by rw [eU1]; exact Xi_ne (by omega)))))
      have w126 : Xi U4 904 125 = Xi S 904 125 := (show Xi U4 904 125 = Xi U3 904 125 from by rw [eU4]; exact Xi_ne (by omega)).trans ( (show Xi U3 904 125 = Xi U2 904 125 from by rw [eU3]; exact Xi_ne (by omega)).trans ( (show Xi U2 904 125 = Xi U1 904 125 from by rw [eU2]; exact Xi_ne (by omega)).trans ((show Xi U1 904 125 = Xi S 904 125 from by rw [eU1]; exact Xi_ne (by omega)))))
      have w127 : Xi U4 904 130 = Xi S 904 130 := (show Xi U4 904 130 = Xi U3 904 130 from by rw [eU4]; exact Xi_ne (by omega)).trans ( (show Xi U3 904 130 = Xi U2 904 130 from by rw [eU3]; exact Xi_ne (by omega)).trans ( (show Xi U2 904 130 = Xi U1 904 130 from by rw [eU2]; exact Xi_ne (by omega)).trans ((show Xi U1 904 130 = Xi S 904 130 from by rw [eU1]; exact Xi_ne (by omega)))))
      have w128 : Xi U4 904 15 = Xi S 904 15 := (show Xi U4 904 15 = Xi U3 904 15 from by rw [eU4]; exact Xi_ne (by omega)).trans ( (show Xi U3 904 15 = Xi U2 904 15 from by rw [eU3]; exact Xi_ne (by omega)).trans ( (show Xi U2 904 15 = Xi U1 904 15 from by rw [eU2]; exact Xi_ne (by omega)).trans ((show Xi U1 904 15 = Xi S 904 15 from by rw [eU1]; exact Xi_ne (by omega)))))
      have w129 : Xi U4 904 32 = Xi S 904 32 := (show Xi U4 904 32 = Xi U3 904 32 from by rw [eU4]; exact Xi_ne (by omega)).trans ( (show Xi U3 904 32 = Xi U2 904 32 from by rw [eU3]; exact Xi_ne (by omega)).trans ( (show Xi U2 904 32 = Xi U1 904 32 from by rw [eU2]; exact Xi_ne (by omega)).trans ((show Xi U1 904 32 = Xi S 904 32 from by rw [eU1]; exact Xi_ne (by omega)))))
      have w130 : Xi U4 904 70 = Xi S 904 70 := (show Xi U4 904 70 = Xi U3 904 70 from by rw [eU4]; exact Xi_ne (by omega)).trans ( (show Xi U3 904 70 = Xi U2 904 70 from by rw [eU3]; exact Xi_ne (by omega)).trans ( (show Xi U2 904 70 = Xi U1 904 70 from by rw [eU2]; exact Xi_ne (by omega)).trans ((show Xi U1 904 70 = Xi S 904 70 from by rw [eU1]; exact Xi_ne (by omega)))))
      have w131 : Xi U4 904 94 = Xi S 904 94 := (show Xi U4 904 94 = Xi U3 904 94 from by rw [eU4]; exact Xi_ne (by omega)).trans ( (show Xi U3 904 94 = Xi U2 904 94 from by rw [eU3]; exact Xi_ne (by omega)).trans ( (show Xi U2 904 94 = Xi U1 904 94 from by rw [eU2]; exact Xi_ne (by omega)).trans ((show Xi U1 904 94 = Xi S 904 94 from by rw [eU1]; exact Xi_ne (by omega)))))
      have w132 : Xi U4 904 98 = Xi S 904 98 := (show Xi U4 904 98 = Xi U3 904 98 from by rw [eU4]; exact Xi_ne (by omega)).trans ( (show Xi U3 904 98 = Xi U2 904 98 from by rw [eU3]; exact Xi_ne (by omega)).trans ( (show Xi U2 904 98 = Xi U1 904 98 from by rw [eU2]; exact Xi_ne (by omega)).trans ((show Xi U1 904 98 = Xi S 904 98 from by rw [eU1]; exact Xi_ne (by omega)))))
      refine y_callV rfl rfl rfl (t_mo_ruleMeant__p hHU4 first ⟨by omega, by omega⟩ (by first | assumption | exact (LSP_FR hFU4 rfl rfl (by assumption : LSP S))) (by first | assumption | omega) (by first | assumption | exact (RBD_FR hFU4 rfl (by assumption : RBD S))) (by first | assumption | exact (ABV_FR hFU4 rfl (by assumption : ABV S))) (fun j => by rw [FA17.x 918 j rfl]; exact hkx.o j) (LXR_FR FA17 rfl rfl hLX) (by first | assumption | omega) (fun k a b => by rw [FA17.x 914 k rfl] at b; rw [FA17.x 915 k rfl]; exact hkk.o k (by omega) b) (fun j => by rw [FA17.x 942 j rfl]; exact hak.o j) (BYT_R FA17 rfl hb6) (fun j => by rw [FA17.x 914 j rfl, FA17.x 915 j rfl, FA17.x 904 15 rfl]; exact hlx7.o j) (by have t := hgb.o; unfold AGB at t ⊢; rw [FA17.x 904 70 rfl, FA17.x 904 102 rfl, FA17.x 904 103 rfl, (FA17.cx 950 rfl _).1, (FA17.cx 951 rfl _).1, (FA17.cx 950 rfl _).1, (FA17.cx 951 rfl _).1]; exact t) (by first | assumption | omega) (by first | assumption | omega) (by first | assumption | omega) (by first | assumption | omega) (by first | assumption | omega) (fun k hk => TRK_F FA17 (SMR_FR FA17 rfl rfl) rfl rfl (htk.o k (by omega))) (fun k hk => PKB_F FA17 (SMR_FR FA17 rfl rfl) rfl rfl rfl (hpk.o k (by omega))) _) ?_
      rintro _ T9 ⟨hHT9, w134, rfl, o528⟩
      have hFT9 : FR md_mo_asked__3f S T9 := FR.tr hFU4 w134 rfl
      show Pl _ _ _ _ _ _ [] _ _
      have K528 : True := trivial
      have z528 : Xi U4 904 106 = 0 ∧ Xi U4 904 108 = 0 ∧ Xi U4 904 115 = -1 ∧ Xi U4 904 116 = -1 := ⟨by omega, by omega, by omega, by omega⟩
      refine y_return rfl rfl ?_
      exact ⟨hHT9, hFT9, rfl⟩
    | 7, hii =>
      cases hii
      have w143 : (Xi S 904 70) = 7 := by simpa using w20
      exfalso; omega
    | 8, hii =>
      cases hii
      have w144 : (Xi S 904 70) = 8 := by simpa using w20
      exfalso; omega
    | 9, hii =>
      cases hii
      have w145 : (Xi S 904 70) = 9 := by simpa using w20
      exfalso; omega
    | 10, hii =>
      cases hii
      have w146 : (Xi S 904 70) = 10 := by simpa using w20
      exfalso; omega
    | 11, hii =>
      cases hii
      have w147 : (Xi S 904 70) = 11 := by simpa using w20
      exfalso; omega
    | 12, hii =>
      cases hii
      have w148 : (Xi S 904 70) = 12 := by simpa using w20
      exfalso; omega
    | 13, hii =>
      cases hii
      have w149 : (Xi S 904 70) = 13 := by simpa using w20
      exfalso; omega
    | 14, hii =>
      cases hii
      have w150 : (Xi S 904 70) = 14 := by simpa using w20
      exfalso; omega
    | 15, hii =>
      cases hii
      have w151 : (Xi S 904 70) = 15 := by simpa using w20
      exfalso; omega
    | 16, hii =>
      cases hii
      have w152 : (Xi S 904 70) = 16 := by simpa using w20
      exfalso; omega
    | 17, hii =>
      cases hii
      have w153 : (Xi S 904 70) = 17 := by simpa using w20
      exfalso; omega
    | 18, hii =>
      cases hii
      have w154 : (Xi S 904 70) = 18 := by simpa using w20
      exfalso; omega
    | 19, hii =>
      cases hii
      have w155 : (Xi S 904 70) = 19 := by simpa using w20
      exfalso; omega
    | 20, hii =>
      cases hii
      have w156 : (Xi S 904 70) = 20 := by simpa using w20
      exfalso; omega
    | n + 21, hii => exact absurd hii (by simp)
def md_mo_asked__7f : List rec := [(904, 905, 104, 105), (904, 905, 105, 106), (904, 905, 106, 107), (904, 905, 108, 109), (904, 905, 115, 116), (904, 905, 116, 117)]
abbrev Q_mo_asked__7f (S : sS) (first : Int) : pst := fun r S1 => RI S1 ∧ FR md_mo_asked__7f S S1 ∧ (r = none)
set_option maxRecDepth 100000 in
theorem t_mo_asked__7f {S : sS} (hH : RI S) (first : Int) (hfirst : 0 ≤ first ∧ first ≤ 5001) (hLS : LSP S) (h15 : 0 ≤ Xi S 904 15) (hRB : RBD S) (hs : Xi S 904 70 = 7) (hp : pR S 0 < pR S 1) (ha : 0 ≤ Xi S 904 47 ∧ Xi S 904 47 ≤ 8) (d : Nat) : Mp lay0 (d + 13) m_mo_asked [.ref 904, iv first] S (Q_mo_asked__7f S first) := by
  refine Mp_R rfl rfl (fun fu => ?_)
  have hF : FR md_mo_asked__7f S S := FR.rf
  have w1 : -2147483648 ≤ Xi S 904 104 ∧ Xi S 904 104 ≤ 2147483647 := Xi_rgI
  have w2 : -2147483648 ≤ Xi S 904 105 ∧ Xi S 904 105 ≤ 2147483647 := Xi_rgI
  have w3 : -2147483648 ≤ Xi S 904 106 ∧ Xi S 904 106 ≤ 2147483647 := Xi_rgI
  have w4 : -2147483648 ≤ Xi S 904 108 ∧ Xi S 904 108 ≤ 2147483647 := Xi_rgI
  have w5 : -2147483648 ≤ Xi S 904 15 ∧ Xi S 904 15 ≤ 2147483647 := Xi_rgI
  have w6 : -2147483648 ≤ Xi S 904 47 ∧ Xi S 904 47 ≤ 2147483647 := Xi_rgI
  have w7 : -2147483648 ≤ Xi S 904 70 ∧ Xi S 904 70 ≤ 2147483647 := Xi_rgI
  refine y_aload_n rfl rfl ?_
  refine y_iconst rfl ?_
  refine y_pfi rfl rfl rfl rfl ?_
  obtain ⟨U1, eU1⟩ : ∃ T : sS, T = uI S 904 106 (Int32.ofInt 0) := ⟨_, rfl⟩
  rw [← eU1]
  have hHU1 : RI U1 := by rw [eU1]; exact RI_w hH
  have hFU1 : FR md_mo_asked__7f S U1 := by rw [eU1]; exact FR.wI hF (mdf_i (r := (904, 905, 106, 107)) (List.mem_of_getElem? (i := 2) rfl) (inR_i (by omega) (by omega) (by omega) (by omega)))
  have w8 : Xi U1 904 106 = 0 := by rw [eU1]; exact Xi_same (by unfold rg; omega)
  refine y_aload_n rfl rfl ?_
  refine y_iconst rfl ?_
  refine y_pfi rfl rfl rfl rfl ?_
  obtain ⟨U2, eU2⟩ : ∃ T : sS, T = uI U1 904 108 (Int32.ofInt 0) := ⟨_, rfl⟩
  rw [← eU2]
  have hHU2 : RI U2 := by rw [eU2]; exact RI_w hHU1
  have hFU2 : FR md_mo_asked__7f S U2 := by rw [eU2]; exact FR.wI hFU1 (mdf_i (r := (904, 905, 108, 109)) (List.mem_of_getElem? (i := 3) rfl) (inR_i (by omega) (by omega) (by omega) (by omega)))
  have w9 : Xi U2 904 108 = 0 := by rw [eU2]; exact Xi_same (by unfold rg; omega)
  refine y_aload_n rfl rfl ?_
  refine y_iconst rfl ?_
  refine y_pfi rfl rfl rfl rfl ?_
  obtain ⟨U3, eU3⟩ : ∃ T : sS, T = uI U2 904 115 (Int32.ofInt (-1)) := ⟨_, rfl⟩
  rw [← eU3]
  have hHU3 : RI U3 := by rw [eU3]; exact RI_w hHU2
  have hFU3 : FR md_mo_asked__7f S U3 := by rw [eU3]; exact FR.wI hFU2 (mdf_i (r := (904, 905, 115, 116)) (List.mem_of_getElem? (i := 4) rfl) (inR_i (by omega) (by omega) (by omega) (by omega)))
  have w10 : Xi U3 904 115 = (-1) := by rw [eU3]; exact Xi_same (by unfold rg; omega)
  refine y_aload_n rfl rfl ?_
  refine y_iconst rfl ?_
  refine y_pfi rfl rfl rfl rfl ?_
  obtain ⟨U4, eU4⟩ : ∃ T : sS, T = uI U3 904 116 (Int32.ofInt (-1)) := ⟨_, rfl⟩
  rw [← eU4]
  have hHU4 : RI U4 := by rw [eU4]; exact RI_w hHU3
  have hFU4 : FR md_mo_asked__7f S U4 := by rw [eU4]; exact FR.wI hFU3 (mdf_i (r := (904, 905, 116, 117)) (List.mem_of_getElem? (i := 5) rfl) (inR_i (by omega) (by omega) (by omega) (by omega)))
  have w11 : Xi U4 904 116 = (-1) := by rw [eU4]; exact Xi_same (by unfold rg; omega)
  refine y_aload_n rfl rfl ?_
  refine y_gfi rfl rfl rfl rfl rfl ?_
  have w12 : (Xi U4 904 70) = (Xi S 904 70) := (show Xi U4 904 70 = Xi U3 904 70 from by rw [eU4]; exact Xi_ne (by omega)).trans ( (show Xi U3 904 70 = Xi U2 904 70 from by rw [eU3]; exact Xi_ne (by omega)).trans ( (show Xi U2 904 70 = Xi U1 904 70 from by rw [eU2]; exact Xi_ne (by omega)).trans ((show Xi U1 904 70 = Xi S 904 70 from by rw [eU1]; exact Xi_ne (by omega)))))
  rw [w12]
  refine y_tsw rfl rfl rfl rfl (by unfold rg; omega) (fun w13 => ?_) (fun ii tt hii w13 => ?_)
  · exfalso; omega
  · match ii, hii with
    | 0, hii =>
      cases hii
      have w14 : (Xi S 904 70) = 0 := by simpa using w13
      exfalso; omega
    | 1, hii =>
      cases hii
      have w15 : (Xi S 904 70) = 1 := by simpa using w13
      exfalso; omega
    | 2, hii =>
      cases hii
      have w16 : (Xi S 904 70) = 2 := by simpa using w13
      exfalso; omega
    | 3, hii =>
      cases hii
      have w17 : (Xi S 904 70) = 3 := by simpa using w13
      exfalso; omega
    | 4, hii =>
      cases hii
      have w18 : (Xi S 904 70) = 4 := by simpa using w13
      exfalso; omega
    | 5, hii =>
      cases hii
      have w19 : (Xi S 904 70) = 5 := by simpa using w13
      exfalso; omega
    | 6, hii =>
      cases hii
      have w20 : (Xi S 904 70) = 6 := by simpa using w13
      exfalso; omega
    | 7, hii =>
      cases hii
      have w21 : (Xi S 904 70) = 7 := by simpa using w13
      refine y_aload_n rfl rfl ?_
      have w22 : Xi U4 904 104 = Xi S 904 104 := (show Xi U4 904 104 = Xi U3 904 104 from by rw [eU4]; exact Xi_ne (by omega)).trans ( (show Xi U3 904 104 = Xi U2 904 104 from by rw [eU3]; exact Xi_ne (by omega)).trans ( (show Xi U2 904 104 = Xi U1 904 104 from by rw [eU2]; exact Xi_ne (by omega)).trans ((show Xi U1 904 104 = Xi S 904 104 from by rw [eU1]; exact Xi_ne (by omega)))))
      have w23 : Xi U4 904 105 = Xi S 904 105 := (show Xi U4 904 105 = Xi U3 904 105 from by rw [eU4]; exact Xi_ne (by omega)).trans ( (show Xi U3 904 105 = Xi U2 904 105 from by rw [eU3]; exact Xi_ne (by omega)).trans ( (show Xi U2 904 105 = Xi U1 904 105 from by rw [eU2]; exact Xi_ne (by omega)).trans ((show Xi U1 904 105 = Xi S 904 105 from by rw [eU1]; exact Xi_ne (by omega)))))
      have w24 : Xi U4 904 106 = Xi U1 904 106 := (show Xi U4 904 106 = Xi U3 904 106 from by rw [eU4]; exact Xi_ne (by omega)).trans ( (show Xi U3 904 106 = Xi U2 904 106 from by rw [eU3]; exact Xi_ne (by omega)).trans ((show Xi U2 904 106 = Xi U1 904 106 from by rw [eU2]; exact Xi_ne (by omega))))
      have w25 : Xi U4 904 108 = Xi U2 904 108 := (show Xi U4 904 108 = Xi U3 904 108 from by rw [eU4]; exact Xi_ne (by omega)).trans ((show Xi U3 904 108 = Xi U2 904 108 from by rw [eU3]; exact Xi_ne (by omega)))
      have w26 : Xi U4 904 15 = Xi S 904 15 := (show Xi U4 904 15 = Xi U3 904 15 from by rw [eU4]; exact Xi_ne (by omega)).trans ( (show Xi U3 904 15 = Xi U2 904 15 from by rw [eU3]; exact Xi_ne (by omega)).trans ( (show Xi U2 904 15 = Xi U1 904 15 from by rw [eU2]; exact Xi_ne (by omega)).trans ((show Xi U1 904 15 = Xi S 904 15 from by rw [eU1]; exact Xi_ne (by omega)))))
      have w27 : Xi U4 904 47 = Xi S 904 47 := (show Xi U4 904 47 = Xi U3 904 47 from by rw [eU4]; exact Xi_ne (by omega)).trans ( (show Xi U3 904 47 = Xi U2 904 47 from by rw [eU3]; exact Xi_ne (by omega)).trans ( (show Xi U2 904 47 = Xi U1 904 47 from by rw [eU2]; exact Xi_ne (by omega)).trans ((show Xi U1 904 47 = Xi S 904 47 from by rw [eU1]; exact Xi_ne (by omega)))))
      have w28 : Xi U4 904 70 = Xi S 904 70 := (show Xi U4 904 70 = Xi U3 904 70 from by rw [eU4]; exact Xi_ne (by omega)).trans ( (show Xi U3 904 70 = Xi U2 904 70 from by rw [eU3]; exact Xi_ne (by omega)).trans ( (show Xi U2 904 70 = Xi U1 904 70 from by rw [eU2]; exact Xi_ne (by omega)).trans ((show Xi U1 904 70 = Xi S 904 70 from by rw [eU1]; exact Xi_ne (by omega)))))
      refine y_callV rfl rfl rfl (t_mo_askVerb__p hHU4 (by first | assumption | exact (LSP_FR hFU4 rfl rfl (by assumption : LSP S))) (by first | assumption | omega) (by first | assumption | exact (RBD_FR hFU4 rfl (by assumption : RBD S))) (⟨by omega, by omega⟩) (by rw [pR_sm (SMR_FR hFU4 rfl rfl), pR_sm (SMR_FR hFU4 rfl rfl)]; exact hp) (by first | assumption | omega) _) ?_
      rintro _ T5 ⟨hHT5, w30, rfl, o184⟩
      have hFT5 : FR md_mo_asked__7f S T5 := FR.tr hFU4 w30 rfl
      show Pl _ _ _ _ _ _ [] _ _
      have O184 : RVB S (NT3 T5) := RVB_sm (SMR_FR hFU4 rfl rfl) (hFU4.x 904 47 rfl) o184
      refine y_goto rfl rfl ?_
      refine y_return rfl rfl ?_
      exact ⟨hHT5, hFT5, rfl⟩
    | 8, hii =>
      cases hii
      have w35 : (Xi S 904 70) = 8 := by simpa using w13
      exfalso; omega
    | 9, hii =>
      cases hii
      have w36 : (Xi S 904 70) = 9 := by simpa using w13
      exfalso; omega
    | 10, hii =>
      cases hii
      have w37 : (Xi S 904 70) = 10 := by simpa using w13
      exfalso; omega
    | 11, hii =>
      cases hii
      have w38 : (Xi S 904 70) = 11 := by simpa using w13
      exfalso; omega
    | 12, hii =>
      cases hii
      have w39 : (Xi S 904 70) = 12 := by simpa using w13
      exfalso; omega
    | 13, hii =>
      cases hii
      have w40 : (Xi S 904 70) = 13 := by simpa using w13
      exfalso; omega
    | 14, hii =>
      cases hii
      have w41 : (Xi S 904 70) = 14 := by simpa using w13
      exfalso; omega
    | 15, hii =>
      cases hii
      have w42 : (Xi S 904 70) = 15 := by simpa using w13
      exfalso; omega
    | 16, hii =>
      cases hii
      have w43 : (Xi S 904 70) = 16 := by simpa using w13
      exfalso; omega
    | 17, hii =>
      cases hii
      have w44 : (Xi S 904 70) = 17 := by simpa using w13
      exfalso; omega
    | 18, hii =>
      cases hii
      have w45 : (Xi S 904 70) = 18 := by simpa using w13
      exfalso; omega
    | 19, hii =>
      cases hii
      have w46 : (Xi S 904 70) = 19 := by simpa using w13
      exfalso; omega
    | 20, hii =>
      cases hii
      have w47 : (Xi S 904 70) = 20 := by simpa using w13
      exfalso; omega
    | n + 21, hii => exact absurd hii (by simp)
def md_mo_asked__8f : List rec := [(904, 905, 104, 105), (904, 905, 105, 106), (904, 905, 106, 107), (904, 905, 108, 109), (904, 905, 115, 116), (904, 905, 116, 117), (966, 967, 0, 100000)]
abbrev Q_mo_asked__8f (S : sS) (first : Int) : pst := fun r S1 => RI S1 ∧ FR md_mo_asked__8f S S1 ∧ (r = none)
set_option maxRecDepth 100000 in
theorem t_mo_asked__8f {S : sS} (hH : RI S) (first : Int) (hfirst : 0 ≤ first ∧ first ≤ 5001) (hLS : LSP S) (h15 : 0 ≤ Xi S 904 15) (hRB : RBD S) (hs : Xi S 904 70 = 8) (hp : pR S 0 < pR S 1) (d : Nat) : Mp lay0 (d + 13) m_mo_asked [.ref 904, iv first] S (Q_mo_asked__8f S first) := by
  refine Mp_R rfl rfl (fun fu => ?_)
  have hF : FR md_mo_asked__8f S S := FR.rf
  have w1 : -2147483648 ≤ Xi S 904 104 ∧ Xi S 904 104 ≤ 2147483647 := Xi_rgI
  have w2 : -2147483648 ≤ Xi S 904 105 ∧ Xi S 904 105 ≤ 2147483647 := Xi_rgI
  have w3 : -2147483648 ≤ Xi S 904 106 ∧ Xi S 904 106 ≤ 2147483647 := Xi_rgI
  have w4 : -2147483648 ≤ Xi S 904 108 ∧ Xi S 904 108 ≤ 2147483647 := Xi_rgI
  have w5 : -2147483648 ≤ Xi S 904 15 ∧ Xi S 904 15 ≤ 2147483647 := Xi_rgI
  have w6 : -2147483648 ≤ Xi S 904 70 ∧ Xi S 904 70 ≤ 2147483647 := Xi_rgI
  refine y_aload_n rfl rfl ?_
  refine y_iconst rfl ?_
  refine y_pfi rfl rfl rfl rfl ?_
  obtain ⟨U1, eU1⟩ : ∃ T : sS, T = uI S 904 106 (Int32.ofInt 0) := ⟨_, rfl⟩
  rw [← eU1]
  have hHU1 : RI U1 := by rw [eU1]; exact RI_w hH
  have hFU1 : FR md_mo_asked__8f S U1 := by rw [eU1]; exact FR.wI hF (mdf_i (r := (904, 905, 106, 107)) (List.mem_of_getElem? (i := 2) rfl) (inR_i (by omega) (by omega) (by omega) (by omega)))
  have w7 : Xi U1 904 106 = 0 := by rw [eU1]; exact Xi_same (by unfold rg; omega)
  refine y_aload_n rfl rfl ?_
  refine y_iconst rfl ?_
  refine y_pfi rfl rfl rfl rfl ?_
  obtain ⟨U2, eU2⟩ : ∃ T : sS, T = uI U1 904 108 (Int32.ofInt 0) := ⟨_, rfl⟩
  rw [← eU2]
  have hHU2 : RI U2 := by rw [eU2]; exact RI_w hHU1
  have hFU2 : FR md_mo_asked__8f S U2 := by rw [eU2]; exact FR.wI hFU1 (mdf_i (r := (904, 905, 108, 109)) (List.mem_of_getElem? (i := 3) rfl) (inR_i (by omega) (by omega) (by omega) (by omega)))
  have w8 : Xi U2 904 108 = 0 := by rw [eU2]; exact Xi_same (by unfold rg; omega)
  refine y_aload_n rfl rfl ?_
  refine y_iconst rfl ?_
  refine y_pfi rfl rfl rfl rfl ?_
  obtain ⟨U3, eU3⟩ : ∃ T : sS, T = uI U2 904 115 (Int32.ofInt (-1)) := ⟨_, rfl⟩
  rw [← eU3]
  have hHU3 : RI U3 := by rw [eU3]; exact RI_w hHU2
  have hFU3 : FR md_mo_asked__8f S U3 := by rw [eU3]; exact FR.wI hFU2 (mdf_i (r := (904, 905, 115, 116)) (List.mem_of_getElem? (i := 4) rfl) (inR_i (by omega) (by omega) (by omega) (by omega)))
  have w9 : Xi U3 904 115 = (-1) := by rw [eU3]; exact Xi_same (by unfold rg; omega)
  refine y_aload_n rfl rfl ?_
  refine y_iconst rfl ?_
  refine y_pfi rfl rfl rfl rfl ?_
  obtain ⟨U4, eU4⟩ : ∃ T : sS, T = uI U3 904 116 (Int32.ofInt (-1)) := ⟨_, rfl⟩
  rw [← eU4]
  have hHU4 : RI U4 := by rw [eU4]; exact RI_w hHU3
  have hFU4 : FR md_mo_asked__8f S U4 := by rw [eU4]; exact FR.wI hFU3 (mdf_i (r := (904, 905, 116, 117)) (List.mem_of_getElem? (i := 5) rfl) (inR_i (by omega) (by omega) (by omega) (by omega)))
  have w10 : Xi U4 904 116 = (-1) := by rw [eU4]; exact Xi_same (by unfold rg; omega)
  refine y_aload_n rfl rfl ?_
  refine y_gfi rfl rfl rfl rfl rfl ?_
  have w11 : (Xi U4 904 70) = (Xi S 904 70) := (show Xi U4 904 70 = Xi U3 904 70 from by rw [eU4]; exact Xi_ne (by omega)).trans ( (show Xi U3 904 70 = Xi U2 904 70 from by rw [eU3]; exact Xi_ne (by omega)).trans ( (show Xi U2 904 70 = Xi U1 904 70 from by rw [eU2]; exact Xi_ne (by omega)).trans ((show Xi U1 904 70 = Xi S 904 70 from by rw [eU1]; exact Xi_ne (by omega)))))
  rw [w11]
  refine y_tsw rfl rfl rfl rfl (by unfold rg; omega) (fun w12 => ?_) (fun ii tt hii w12 => ?_)
  · exfalso; omega
  · match ii, hii with
    | 0, hii =>
      cases hii
      have w13 : (Xi S 904 70) = 0 := by simpa using w12
      exfalso; omega
    | 1, hii =>
      cases hii
      have w14 : (Xi S 904 70) = 1 := by simpa using w12
      exfalso; omega
    | 2, hii =>
      cases hii
      have w15 : (Xi S 904 70) = 2 := by simpa using w12
      exfalso; omega
    | 3, hii =>
      cases hii
      have w16 : (Xi S 904 70) = 3 := by simpa using w12
      exfalso; omega
    | 4, hii =>
      cases hii
      have w17 : (Xi S 904 70) = 4 := by simpa using w12
      exfalso; omega
    | 5, hii =>
      cases hii
      have w18 : (Xi S 904 70) = 5 := by simpa using w12
      exfalso; omega
    | 6, hii =>
      cases hii
      have w19 : (Xi S 904 70) = 6 := by simpa using w12
      exfalso; omega
    | 7, hii =>
      cases hii
      have w20 : (Xi S 904 70) = 7 := by simpa using w12
      exfalso; omega
    | 8, hii =>
      cases hii
      have w21 : (Xi S 904 70) = 8 := by simpa using w12
      refine y_aload_n rfl rfl ?_
      refine y_aload_n rfl rfl ?_
      refine y_iconst rfl ?_
      have w22 : Xi U4 904 104 = Xi S 904 104 := (show Xi U4 904 104 = Xi U3 904 104 from by rw [eU4]; exact Xi_ne (by omega)).trans ( (show Xi U3 904 104 = Xi U2 904 104 from by rw [eU3]; exact Xi_ne (by omega)).trans ( (show Xi U2 904 104 = Xi U1 904 104 from by rw [eU2]; exact Xi_ne (by omega)).trans ((show Xi U1 904 104 = Xi S 904 104 from by rw [eU1]; exact Xi_ne (by omega)))))
      have w23 : Xi U4 904 105 = Xi S 904 105 := (show Xi U4 904 105 = Xi U3 904 105 from by rw [eU4]; exact Xi_ne (by omega)).trans ( (show Xi U3 904 105 = Xi U2 904 105 from by rw [eU3]; exact Xi_ne (by omega)).trans ( (show Xi U2 904 105 = Xi U1 904 105 from by rw [eU2]; exact Xi_ne (by omega)).trans ((show Xi U1 904 105 = Xi S 904 105 from by rw [eU1]; exact Xi_ne (by omega)))))
      have w24 : Xi U4 904 106 = Xi U1 904 106 := (show Xi U4 904 106 = Xi U3 904 106 from by rw [eU4]; exact Xi_ne (by omega)).trans ( (show Xi U3 904 106 = Xi U2 904 106 from by rw [eU3]; exact Xi_ne (by omega)).trans ((show Xi U2 904 106 = Xi U1 904 106 from by rw [eU2]; exact Xi_ne (by omega))))
      have w25 : Xi U4 904 108 = Xi U2 904 108 := (show Xi U4 904 108 = Xi U3 904 108 from by rw [eU4]; exact Xi_ne (by omega)).trans ((show Xi U3 904 108 = Xi U2 904 108 from by rw [eU3]; exact Xi_ne (by omega)))
      have w26 : Xi U4 904 15 = Xi S 904 15 := (show Xi U4 904 15 = Xi U3 904 15 from by rw [eU4]; exact Xi_ne (by omega)).trans ( (show Xi U3 904 15 = Xi U2 904 15 from by rw [eU3]; exact Xi_ne (by omega)).trans ( (show Xi U2 904 15 = Xi U1 904 15 from by rw [eU2]; exact Xi_ne (by omega)).trans ((show Xi U1 904 15 = Xi S 904 15 from by rw [eU1]; exact Xi_ne (by omega)))))
      have w27 : Xi U4 904 70 = Xi S 904 70 := (show Xi U4 904 70 = Xi U3 904 70 from by rw [eU4]; exact Xi_ne (by omega)).trans ( (show Xi U3 904 70 = Xi U2 904 70 from by rw [eU3]; exact Xi_ne (by omega)).trans ( (show Xi U2 904 70 = Xi U1 904 70 from by rw [eU2]; exact Xi_ne (by omega)).trans ((show Xi U1 904 70 = Xi S 904 70 from by rw [eU1]; exact Xi_ne (by omega)))))
      refine y_callV rfl rfl rfl (t_mo_kindOrPlural__p hHU4 0 ⟨by omega, by omega⟩ (by first | assumption | exact (LSP_FR hFU4 rfl rfl (by assumption : LSP S))) (by first | assumption | omega) (by first | assumption | exact (RBD_FR hFU4 rfl (by assumption : RBD S))) _) ?_
      rintro _ _ ⟨rfl, z28, rfl, w28, f193⟩
      show Pl _ _ _ _ _ _ [iv z28, .ref 904] _ _
      have K193 : z28 = r2R S 0 0 1 := by have t := f193; rw [r2R_FR hFU4 rfl rfl] at t; exact t
      clear f193
      refine y_iconst rfl ?_
      refine y_icmp_ne rfl rfl (by unfold rg; omega) (by unfold rg; omega) (fun w29 => ?_) (fun w30 => ?_)
      · refine y_iconst rfl ?_
        refine y_goto rfl rfl ?_
        refine y_iconst rfl ?_
        refine y_aload_n rfl rfl ?_
        refine y_gfr rfl rfl rfl rfl rfl (hHU4.r 904 67 950 rfl) ?_
        refine y_iconst rfl ?_
        refine y_ialoadP (n := 2600) rfl rfl (by unfold rg; omega) (fun w31 w32 => ?_)
        have w33 : -2147483648 ≤ (Xi U4 950 ((0 : Int).toNat)) ∧ (Xi U4 950 ((0 : Int).toNat)) ≤ 2147483647 := Xi_rgI
        have w34 : (Xi U4 950 ((0 : Int).toNat)) = Xi U4 950 0 := rfl
        refine y_callV rfl rfl rfl (t_mo_need__p hHU4 1 4 (Xi U4 950 ((0 : Int).toNat)) ⟨by omega, by omega⟩ ⟨by omega, by omega⟩ ⟨by omega, by omega⟩ _) ?_
        rintro _ T5 ⟨hHT5, w42, rfl, nt221_⟩
        have hFT5 : FR md_mo_asked__8f S T5 := FR.tr hFU4 w42 rfl
        show Pl _ _ _ _ _ _ [] _ _
        have z221 : (NT3 U4).1 = 0 := by show Xi U4 904 106 = 0; omega
        have t221 := nt221_
        rw [(hFU4.cx 908 rfl _).1, (hFU4.cx 950 rfl _).1] at t221
        have h221 : Hid (r2R S 0 0 1 = -1 → r2R S 0 2 3 = -1 → NT3 T5 = ntF (NT3 U4) 4 (pR S 0)) := fun a b => by first | (rw [if_pos (show (0 : Int) = 0 from rfl)] at t221; exact t221) | (exfalso; omega)
        have g221 : Hid (¬ (r2R S 0 0 1 = -1 ∧ r2R S 0 2 3 = -1) → NT3 T5 = NT3 U4) := fun a => by first | (rw [if_neg (show ¬ (1 : Int) = 0 by decide)] at t221; exact t221) | exact absurd ⟨by omega, by omega⟩ a
        clear nt221_ t221
        refine y_aload_n rfl rfl ?_
        refine y_iconst rfl ?_
        refine y_iconst rfl ?_
        refine y_iconst rfl ?_
        have w43 : Xi T5 904 108 = Xi U2 904 108 := (show Xi T5 904 108 = Xi U4 904 108 from w42.x _ _ rfl).trans ( (show Xi U4 904 108 = Xi U3 904 108 from by rw [eU4]; exact Xi_ne (by omega)).trans ((show Xi U3 904 108 = Xi U2 904 108 from by rw [eU3]; exact Xi_ne (by omega))))
        have w44 : Xi T5 904 15 = Xi S 904 15 := (show Xi T5 904 15 = Xi U4 904 15 from w42.x _ _ rfl).trans ( (show Xi U4 904 15 = Xi U3 904 15 from by rw [eU4]; exact Xi_ne (by omega)).trans ( (show Xi U3 904 15 = Xi U2 904 15 from by rw [eU3]; exact Xi_ne (by omega)).trans ( (show Xi U2 904 15 = Xi U1 904 15 from by rw [eU2]; exact Xi_ne (by omega)).trans ((show Xi U1 904 15 = Xi S 904 15 from by rw [eU1]; exact Xi_ne (by omega))))))
        have w45 : Xi T5 904 70 = Xi S 904 70 := (show Xi T5 904 70 = Xi U4 904 70 from w42.x _ _ rfl).trans ( (show Xi U4 904 70 = Xi U3 904 70 from by rw [eU4]; exact Xi_ne (by omega)).trans ( (show Xi U3 904 70 = Xi U2 904 70 from by rw [eU3]; exact Xi_ne (by omega)).trans ( (show Xi U2 904 70 = Xi U1 904 70 from by rw [eU2]; exact Xi_ne (by omega)).trans ((show Xi U1 904 70 = Xi S 904 70 from by rw [eU1]; exact Xi_ne (by omega))))))
        refine y_callV rfl rfl rfl (t_mo_mustBeNew__p hHT5 1 0 1 ⟨by omega, by omega⟩ ⟨by omega, by omega⟩ ⟨by omega, by omega⟩ (by first | assumption | exact (LSP_FR hFT5 rfl rfl (by assumption : LSP S))) (by first | assumption | omega) (by first | assumption | exact (RBD_FR hFT5 rfl (by assumption : RBD S))) (by first | assumption | omega) _) ?_
        rintro _ T6 ⟨hHT6, w47, rfl, y228_, m228_⟩
        have hFT6 : FR md_mo_asked__8f S T6 := FR.tr hFT5 w47 rfl
        show Pl _ _ _ _ _ _ [] _ _
        have q228 : Hid (nwR T5 1 ↔ nwR0 S 1) := nwR_0 (fun j => (hFT5.cx 951 rfl j).1) (rmR_FR hFT5 rfl rfl) (by omega)
        have y228 : Hid (nwR0 S 1 → NT3 T6 = NT3 T5) := fun q => by have t := (y228_ (q228.o.2 q)).1; rw [if_pos (by decide)] at t; exact t
        have m228 : Hid (¬ nwR0 S 1 → NT3 T6 = ntF (NT3 T5) 3 (pR S 1)) := fun q => by have t := (m228_ (fun w => q (q228.o.1 w))).1; rw [(hFT5.cx 908 rfl _).1, (hFT5.cx 950 rfl _).1] at t; exact t
        clear y228_ m228_
        refine y_goto rfl rfl ?_
        refine y_return rfl rfl ?_
        exact ⟨hHT6, hFT6, rfl⟩
      · refine y_aload_n rfl rfl ?_
        refine y_iconst rfl ?_
        refine y_callV rfl rfl rfl (t_mo_typeOrPlural__p hHU4 0 ⟨by omega, by omega⟩ (by first | assumption | exact (LSP_FR hFU4 rfl rfl (by assumption : LSP S))) (by first | assumption | omega) (by first | assumption | exact (RBD_FR hFU4 rfl (by assumption : RBD S))) _) ?_
        rintro _ _ ⟨rfl, z56, rfl, w56, f202⟩
        show Pl _ _ _ _ _ _ [iv z56, .ref 904] _ _
        have K202 : z56 = r2R S 0 2 3 := by have t := f202; rw [r2R_FR hFU4 rfl rfl] at t; exact t
        clear f202
        refine y_iconst rfl ?_
        refine y_icmp_eq rfl rfl (by unfold rg; omega) (by unfold rg; omega) (fun w57 => ?_) (fun w58 => ?_)
        · refine y_iconst rfl ?_
          refine y_iconst rfl ?_
          refine y_aload_n rfl rfl ?_
          refine y_gfr rfl rfl rfl rfl rfl (hHU4.r 904 67 950 rfl) ?_
          refine y_iconst rfl ?_
          refine y_ialoadP (n := 2600) rfl rfl (by unfold rg; omega) (fun w59 w60 => ?_)
          have w61 : -2147483648 ≤ (Xi U4 950 ((0 : Int).toNat)) ∧ (Xi U4 950 ((0 : Int).toNat)) ≤ 2147483647 := Xi_rgI
          have w62 : (Xi U4 950 ((0 : Int).toNat)) = Xi U4 950 0 := rfl
          refine y_callV rfl rfl rfl (t_mo_need__p hHU4 0 4 (Xi U4 950 ((0 : Int).toNat)) ⟨by omega, by omega⟩ ⟨by omega, by omega⟩ ⟨by omega, by omega⟩ _) ?_
          rintro _ T7 ⟨hHT7, w70, rfl, nt221_⟩
          have hFT7 : FR md_mo_asked__8f S T7 := FR.tr hFU4 w70 rfl
          show Pl _ _ _ _ _ _ [] _ _
          have z221 : (NT3 U4).1 = 0 := by show Xi U4 904 106 = 0; omega
          have t221 := nt221_
          rw [(hFU4.cx 908 rfl _).1, (hFU4.cx 950 rfl _).1] at t221
          have h221 : Hid (r2R S 0 0 1 = -1 → r2R S 0 2 3 = -1 → NT3 T7 = ntF (NT3 U4) 4 (pR S 0)) := fun a b => by first | (rw [if_pos (show (0 : Int) = 0 from rfl)] at t221; exact t221) | (exfalso; omega)
          have g221 : Hid (¬ (r2R S 0 0 1 = -1 ∧ r2R S 0 2 3 = -1) → NT3 T7 = NT3 U4) := fun a => by first | (rw [if_neg (show ¬ (1 : Int) = 0 by decide)] at t221; exact t221) | exact absurd ⟨by omega, by omega⟩ a
          clear nt221_ t221
          refine y_aload_n rfl rfl ?_
          refine y_iconst rfl ?_
          refine y_iconst rfl ?_
          refine y_iconst rfl ?_
          have w71 : Xi T7 904 108 = Xi U2 904 108 := (show Xi T7 904 108 = Xi U4 904 108 from w70.x _ _ rfl).trans ( (show Xi U4 904 108 = Xi U3 904 108 from by rw [eU4]; exact Xi_ne (by omega)).trans ((show Xi U3 904 108 = Xi U2 904 108 from by rw [eU3]; exact Xi_ne (by omega))))
          have w72 : Xi T7 904 15 = Xi S 904 15 := (show Xi T7 904 15 = Xi U4 904 15 from w70.x _ _ rfl).trans ( (show Xi U4 904 15 = Xi U3 904 15 from by rw [eU4]; exact Xi_ne (by omega)).trans ( (show Xi U3 904 15 = Xi U2 904 15 from by rw [eU3]; exact Xi_ne (by omega)).trans ( (show Xi U2 904 15 = Xi U1 904 15 from by rw [eU2]; exact Xi_ne (by omega)).trans ((show Xi U1 904 15 = Xi S 904 15 from by rw [eU1]; exact Xi_ne (by omega))))))
          have w73 : Xi T7 904 70 = Xi S 904 70 := (show Xi T7 904 70 = Xi U4 904 70 from w70.x _ _ rfl).trans ( (show Xi U4 904 70 = Xi U3 904 70 from by rw [eU4]; exact Xi_ne (by omega)).trans ( (show Xi U3 904 70 = Xi U2 904 70 from by rw [eU3]; exact Xi_ne (by omega)).trans ( (show Xi U2 904 70 = Xi U1 904 70 from by rw [eU2]; exact Xi_ne (by omega)).trans ((show Xi U1 904 70 = Xi S 904 70 from by rw [eU1]; exact Xi_ne (by omega))))))
          refine y_callV rfl rfl rfl (t_mo_mustBeNew__p hHT7 1 0 1 ⟨by omega, by omega⟩ ⟨by omega, by omega⟩ ⟨by omega, by omega⟩ (by first | assumption | exact (LSP_FR hFT7 rfl rfl (by assumption : LSP S))) (by first | assumption | omega) (by first | assumption | exact (RBD_FR hFT7 rfl (by assumption : RBD S))) (by first | assumption | omega) _) ?_
          rintro _ T8 ⟨hHT8, w75, rfl, y228_, m228_⟩
          have hFT8 : FR md_mo_asked__8f S T8 := FR.tr hFT7 w75 rfl
          show Pl _ _ _ _ _ _ [] _ _
          have q228 : Hid (nwR T7 1 ↔ nwR0 S 1) := nwR_0 (fun j => (hFT7.cx 951 rfl j).1) (rmR_FR hFT7 rfl rfl) (by omega)
          have y228 : Hid (nwR0 S 1 → NT3 T8 = NT3 T7) := fun q => by have t := (y228_ (q228.o.2 q)).1; rw [if_pos (by decide)] at t; exact t
          have m228 : Hid (¬ nwR0 S 1 → NT3 T8 = ntF (NT3 T7) 3 (pR S 1)) := fun q => by have t := (m228_ (fun w => q (q228.o.1 w))).1; rw [(hFT7.cx 908 rfl _).1, (hFT7.cx 950 rfl _).1] at t; exact t
          clear y228_ m228_
          refine y_goto rfl rfl ?_
          refine y_return rfl rfl ?_
          exact ⟨hHT8, hFT8, rfl⟩
        · refine y_iconst rfl ?_
          refine y_goto rfl rfl ?_
          refine y_iconst rfl ?_
          refine y_aload_n rfl rfl ?_
          refine y_gfr rfl rfl rfl rfl rfl (hHU4.r 904 67 950 rfl) ?_
          refine y_iconst rfl ?_
          refine y_ialoadP (n := 2600) rfl rfl (by unfold rg; omega) (fun w78 w79 => ?_)
          have w80 : -2147483648 ≤ (Xi U4 950 ((0 : Int).toNat)) ∧ (Xi U4 950 ((0 : Int).toNat)) ≤ 2147483647 := Xi_rgI
          have w81 : (Xi U4 950 ((0 : Int).toNat)) = Xi U4 950 0 := rfl
          refine y_callV rfl rfl rfl (t_mo_need__p hHU4 1 4 (Xi U4 950 ((0 : Int).toNat)) ⟨by omega, by omega⟩ ⟨by omega, by omega⟩ ⟨by omega, by omega⟩ _) ?_
          rintro _ T9 ⟨hHT9, w89, rfl, nt221_⟩
          have hFT9 : FR md_mo_asked__8f S T9 := FR.tr hFU4 w89 rfl
          show Pl _ _ _ _ _ _ [] _ _
          have z221 : (NT3 U4).1 = 0 := by show Xi U4 904 106 = 0; omega
          have t221 := nt221_
          rw [(hFU4.cx 908 rfl _).1, (hFU4.cx 950 rfl _).1] at t221
          have h221 : Hid (r2R S 0 0 1 = -1 → r2R S 0 2 3 = -1 → NT3 T9 = ntF (NT3 U4) 4 (pR S 0)) := fun a b => by first | (rw [if_pos (show (0 : Int) = 0 from rfl)] at t221; exact t221) | (exfalso; omega)
          have g221 : Hid (¬ (r2R S 0 0 1 = -1 ∧ r2R S 0 2 3 = -1) → NT3 T9 = NT3 U4) := fun a => by first | (rw [if_neg (show ¬ (1 : Int) = 0 by decide)] at t221; exact t221) | exact absurd ⟨by omega, by omega⟩ a
          clear nt221_ t221
          refine y_aload_n rfl rfl ?_
          refine y_iconst rfl ?_
          refine y_iconst rfl ?_
          refine y_iconst rfl ?_
          have w90 : Xi T9 904 108 = Xi U2 904 108 := (show Xi T9 904 108 = Xi U4 904 108 from w89.x _ _ rfl).trans ( (show Xi U4 904 108 = Xi U3 904 108 from by rw [eU4]; exact Xi_ne (by omega)).trans ((show Xi U3 904 108 = Xi U2 904 108 from by rw [eU3]; exact Xi_ne (by omega))))
          have w91 : Xi T9 904 15 = Xi S 904 15 := (show Xi T9 904 15 = Xi U4 904 15 from w89.x _ _ rfl).trans ( (show Xi U4 904 15 = Xi U3 904 15 from by rw [eU4]; exact Xi_ne (by omega)).trans ( (show Xi U3 904 15 = Xi U2 904 15 from by rw [eU3]; exact Xi_ne (by omega)).trans ( (show Xi U2 904 15 = Xi U1 904 15 from by rw [eU2]; exact Xi_ne (by omega)).trans ((show Xi U1 904 15 = Xi S 904 15 from by rw [eU1]; exact Xi_ne (by omega))))))
          have w92 : Xi T9 904 70 = Xi S 904 70 := (show Xi T9 904 70 = Xi U4 904 70 from w89.x _ _ rfl).trans ( (show Xi U4 904 70 = Xi U3 904 70 from by rw [eU4]; exact Xi_ne (by omega)).trans ( (show Xi U3 904 70 = Xi U2 904 70 from by rw [eU3]; exact Xi_ne (by omega)).trans ( (show Xi U2 904 70 = Xi U1 904 70 from by rw [eU2]; exact Xi_ne (by omega)).trans ((show Xi U1 904 70 = Xi S 904 70 from by rw [eU1]; exact Xi_ne (by omega))))))
          refine y_callV rfl rfl rfl (t_mo_mustBeNew__p hHT9 1 0 1 ⟨by omega, by omega⟩ ⟨by omega, by omega⟩ ⟨by omega, by omega⟩ (by first | assumption | exact (LSP_FR hFT9 rfl rfl (by assumption : LSP S))) (by first | assumption | omega) (by first | assumption | exact (RBD_FR hFT9 rfl (by assumption : RBD S))) (by first | assumption | omega) _) ?_
          rintro _ T10 ⟨hHT10, w94, rfl, y228_, m228_⟩
          have hFT10 : FR md_mo_asked__8f S T10 := FR.tr hFT9 w94 rfl
          show Pl _ _ _ _ _ _ [] _ _
          have q228 : Hid (nwR T9 1 ↔ nwR0 S 1) := nwR_0 (fun j => (hFT9.cx 951 rfl j).1) (rmR_FR hFT9 rfl rfl) (by omega)
          have y228 : Hid (nwR0 S 1 → NT3 T10 = NT3 T9) := fun q => by have t := (y228_ (q228.o.2 q)).1; rw [if_pos (by decide)] at t; exact t
          have m228 : Hid (¬ nwR0 S 1 → NT3 T10 = ntF (NT3 T9) 3 (pR S 1)) := fun q => by have t := (m228_ (fun w => q (q228.o.1 w))).1; rw [(hFT9.cx 908 rfl _).1, (hFT9.cx 950 rfl _).1] at t; exact t
          clear y228_ m228_
          refine y_goto rfl rfl ?_
          refine y_return rfl rfl ?_
          exact ⟨hHT10, hFT10, rfl⟩
    | 9, hii =>
      cases hii
      have w97 : (Xi S 904 70) = 9 := by simpa using w12
      exfalso; omega
    | 10, hii =>
      cases hii
      have w98 : (Xi S 904 70) = 10 := by simpa using w12
      exfalso; omega
    | 11, hii =>
      cases hii
      have w99 : (Xi S 904 70) = 11 := by simpa using w12
      exfalso; omega
    | 12, hii =>
      cases hii
      have w100 : (Xi S 904 70) = 12 := by simpa using w12
      exfalso; omega
    | 13, hii =>
      cases hii
      have w101 : (Xi S 904 70) = 13 := by simpa using w12
      exfalso; omega
    | 14, hii =>
      cases hii
      have w102 : (Xi S 904 70) = 14 := by simpa using w12
      exfalso; omega
    | 15, hii =>
      cases hii
      have w103 : (Xi S 904 70) = 15 := by simpa using w12
      exfalso; omega
    | 16, hii =>
      cases hii
      have w104 : (Xi S 904 70) = 16 := by simpa using w12
      exfalso; omega
    | 17, hii =>
      cases hii
      have w105 : (Xi S 904 70) = 17 := by simpa using w12
      exfalso; omega
    | 18, hii =>
      cases hii
      have w106 : (Xi S 904 70) = 18 := by simpa using w12
      exfalso; omega
    | 19, hii =>
      cases hii
      have w107 : (Xi S 904 70) = 19 := by simpa using w12
      exfalso; omega
    | 20, hii =>
      cases hii
      have w108 : (Xi S 904 70) = 20 := by simpa using w12
      exfalso; omega
    | n + 21, hii => exact absurd hii (by simp)
def md_mo_asked__9f : List rec := [(904, 905, 104, 105), (904, 905, 105, 106), (904, 905, 106, 107), (904, 905, 108, 109), (904, 905, 115, 116), (904, 905, 116, 117), (973, 974, 0, 100000), (974, 975, 0, 100000)]
abbrev Q_mo_asked__9f (S : sS) (first : Int) : pst := fun r S1 => RI S1 ∧ FR md_mo_asked__9f S S1 ∧ (r = none)
set_option maxRecDepth 100000 in
theorem t_mo_asked__9f {S : sS} (hH : RI S) (first : Int) (hfirst : 0 ≤ first ∧ first ≤ 5001) (hLS : LSP S) (h15 : 0 ≤ Xi S 904 15) (hRB : RBD S) (hLX : LXR S) (hB : ABV S) (hko : Hid (∀ j : Nat, -1 ≤ Xi S 918 j ∧ Xi S 918 j ≤ 15)) (h7 : rnR S 0 7 ≤ 11) (hk0 : rnR S 1 0 ≤ 15) (hp : pR S 0 < pR S 1) (hq : pR S 1 < Xi S 908 (Xi S 904 78).toNat) (hnum : Hid (Xi S 907 (Xi S 904 78).toNat = 4 → 0 ≤ Xj S 910 (Xi S 904 78).toNat ∧ Xj S 910 (Xi S 904 78).toNat ≤ 2147483647)) (hplc : Xi S 908 (Xi S 904 78).toNat ≤ 100000) (hs : Xi S 904 70 = 9) (d : Nat) : Mp lay0 (d + 13) m_mo_asked [.ref 904, iv first] S (Q_mo_asked__9f S first) := by
  refine Mp_R rfl rfl (fun fu => ?_)
  have hF : FR md_mo_asked__9f S S := FR.rf
  have w1 : -2147483648 ≤ Xi S 904 104 ∧ Xi S 904 104 ≤ 2147483647 := Xi_rgI
  have w2 : -2147483648 ≤ Xi S 904 105 ∧ Xi S 904 105 ≤ 2147483647 := Xi_rgI
  have w3 : -2147483648 ≤ Xi S 904 106 ∧ Xi S 904 106 ≤ 2147483647 := Xi_rgI
  have w4 : -2147483648 ≤ Xi S 904 108 ∧ Xi S 904 108 ≤ 2147483647 := Xi_rgI
  have w5 : -2147483648 ≤ Xi S 904 117 ∧ Xi S 904 117 ≤ 2147483647 := Xi_rgI
  have w6 : -2147483648 ≤ Xi S 904 15 ∧ Xi S 904 15 ≤ 2147483647 := Xi_rgI
  have w7 : -2147483648 ≤ Xi S 904 70 ∧ Xi S 904 70 ≤ 2147483647 := Xi_rgI
  have w8 : -2147483648 ≤ Xi S 904 78 ∧ Xi S 904 78 ≤ 2147483647 := Xi_rgI
  refine y_aload_n rfl rfl ?_
  refine y_iconst rfl ?_
  refine y_pfi rfl rfl rfl rfl ?_
  obtain ⟨U1, eU1⟩ : ∃ T : sS, T = uI S 904 106 (Int32.ofInt 0) := ⟨_, rfl⟩
  rw [← eU1]
  have hHU1 : RI U1 := by rw [eU1]; exact RI_w hH
  have hFU1 : FR md_mo_asked__9f S U1 := by rw [eU1]; exact FR.wI hF (mdf_i (r := (904, 905, 106, 107)) (List.mem_of_getElem? (i := 2) rfl) (inR_i (by omega) (by omega) (by omega) (by omega)))
  have w9 : Xi U1 904 106 = 0 := by rw [eU1]; exact Xi_same (by unfold rg; omega)
  refine y_aload_n rfl rfl ?_
  refine y_iconst rfl ?_
  refine y_pfi rfl rfl rfl rfl ?_
  obtain ⟨U2, eU2⟩ : ∃ T : sS, T = uI U1 904 108 (Int32.ofInt 0) := ⟨_, rfl⟩
  rw [← eU2]
  have hHU2 : RI U2 := by rw [eU2]; exact RI_w hHU1
  have hFU2 : FR md_mo_asked__9f S U2 := by rw [eU2]; exact FR.wI hFU1 (mdf_i (r := (904, 905, 108, 109)) (List.mem_of_getElem? (i := 3) rfl) (inR_i (by omega) (by omega) (by omega) (by omega)))
  have w10 : Xi U2 904 108 = 0 := by rw [eU2]; exact Xi_same (by unfold rg; omega)
  refine y_aload_n rfl rfl ?_
  refine y_iconst rfl ?_
  refine y_pfi rfl rfl rfl rfl ?_
  obtain ⟨U3, eU3⟩ : ∃ T : sS, T = uI U2 904 115 (Int32.ofInt (-1)) := ⟨_, rfl⟩
  rw [← eU3]
  have hHU3 : RI U3 := by rw [eU3]; exact RI_w hHU2
  have hFU3 : FR md_mo_asked__9f S U3 := by rw [eU3]; exact FR.wI hFU2 (mdf_i (r := (904, 905, 115, 116)) (List.mem_of_getElem? (i := 4) rfl) (inR_i (by omega) (by omega) (by omega) (by omega)))
  have w11 : Xi U3 904 115 = (-1) := by rw [eU3]; exact Xi_same (by unfold rg; omega)
  refine y_aload_n rfl rfl ?_
  refine y_iconst rfl ?_
  refine y_pfi rfl rfl rfl rfl ?_
  obtain ⟨U4, eU4⟩ : ∃ T : sS, T = uI U3 904 116 (Int32.ofInt (-1)) := ⟨_, rfl⟩
  rw [← eU4]
  have hHU4 : RI U4 := by rw [eU4]; exact RI_w hHU3
  have hFU4 : FR md_mo_asked__9f S U4 := by rw [eU4]; exact FR.wI hFU3 (mdf_i (r := (904, 905, 116, 117)) (List.mem_of_getElem? (i := 5) rfl) (inR_i (by omega) (by omega) (by omega) (by omega)))
  have w12 : Xi U4 904 116 = (-1) := by rw [eU4]; exact Xi_same (by unfold rg; omega)
  refine y_aload_n rfl rfl ?_
  refine y_gfi rfl rfl rfl rfl rfl ?_
  have w13 : (Xi U4 904 70) = (Xi S 904 70) := (show Xi U4 904 70 = Xi U3 904 70 from by rw [eU4]; exact Xi_ne (by omega)).trans ( (show Xi U3 904 70 = Xi U2 904 70 from by rw [eU3]; exact Xi_ne (by omega)).trans ( (show Xi U2 904 70 = Xi U1 904 70 from by rw [eU2]; exact Xi_ne (by omega)).trans ((show Xi U1 904 70 = Xi S 904 70 from by rw [eU1]; exact Xi_ne (by omega)))))
  rw [w13]
  refine y_tsw rfl rfl rfl rfl (by unfold rg; omega) (fun w14 => ?_) (fun ii tt hii w14 => ?_)
  · exfalso; omega
  · match ii, hii with
    | 0, hii =>
      cases hii
      have w15 : (Xi S 904 70) = 0 := by simpa using w14
      exfalso; omega
    | 1, hii =>
      cases hii
      have w16 : (Xi S 904 70) = 1 := by simpa using w14
      exfalso; omega
    | 2, hii =>
      cases hii
      have w17 : (Xi S 904 70) = 2 := by simpa using w14
      exfalso; omega
    | 3, hii =>
      cases hii
      have w18 : (Xi S 904 70) = 3 := by simpa using w14
      exfalso; omega
    | 4, hii =>
      cases hii
      have w19 : (Xi S 904 70) = 4 := by simpa using w14
      exfalso; omega
    | 5, hii =>
      cases hii
      have w20 : (Xi S 904 70) = 5 := by simpa using w14
      exfalso; omega
    | 6, hii =>
      cases hii
      have w21 : (Xi S 904 70) = 6 := by simpa using w14
      exfalso; omega
    | 7, hii =>
      cases hii
      have w22 : (Xi S 904 70) = 7 := by simpa using w14
      exfalso; omega
    | 8, hii =>
      cases hii
      have w23 : (Xi S 904 70) = 8 := by simpa using w14
      exfalso; omega
    | 9, hii =>
      cases hii
      have w24 : (Xi S 904 70) = 9 := by simpa using w14
      refine y_aload_n rfl rfl ?_
      have w25 : Xi U4 904 104 = Xi S 904 104 := (show Xi U4 904 104 = Xi U3 904 104 from by rw [eU4]; exact Xi_ne (by omega)).trans ( (show Xi U3 904 104 = Xi U2 904 104 from by rw [eU3]; exact Xi_ne (by omega)).trans ( (show Xi U2 904 104 = Xi U1 904 104 from by rw [eU2]; exact Xi_ne (by omega)).trans ((show Xi U1 904 104 = Xi S 904 104 from by rw [eU1]; exact Xi_ne (by omega)))))
      have w26 : Xi U4 904 105 = Xi S 904 105 := (show Xi U4 904 105 = Xi U3 904 105 from by rw [eU4]; exact Xi_ne (by omega)).trans ( (show Xi U3 904 105 = Xi U2 904 105 from by rw [eU3]; exact Xi_ne (by omega)).trans ( (show Xi U2 904 105 = Xi U1 904 105 from by rw [eU2]; exact Xi_ne (by omega)).trans ((show Xi U1 904 105 = Xi S 904 105 from by rw [eU1]; exact Xi_ne (by omega)))))
      have w27 : Xi U4 904 106 = Xi U1 904 106 := (show Xi U4 904 106 = Xi U3 904 106 from by rw [eU4]; exact Xi_ne (by omega)).trans ( (show Xi U3 904 106 = Xi U2 904 106 from by rw [eU3]; exact Xi_ne (by omega)).trans ((show Xi U2 904 106 = Xi U1 904 106 from by rw [eU2]; exact Xi_ne (by omega))))
      have w28 : Xi U4 904 108 = Xi U2 904 108 := (show Xi U4 904 108 = Xi U3 904 108 from by rw [eU4]; exact Xi_ne (by omega)).trans ((show Xi U3 904 108 = Xi U2 904 108 from by rw [eU3]; exact Xi_ne (by omega)))
      have w29 : Xi U4 904 117 = Xi S 904 117 := (show Xi U4 904 117 = Xi U3 904 117 from by rw [eU4]; exact Xi_ne (by omega)).trans ( (show Xi U3 904 117 = Xi U2 904 117 from by rw [eU3]; exact Xi_ne (by omega)).trans ( (show Xi U2 904 117 = Xi U1 904 117 from by rw [eU2]; exact Xi_ne (by omega)).trans ((show Xi U1 904 117 = Xi S 904 117 from by rw [eU1]; exact Xi_ne (by omega)))))
      have w30 : Xi U4 904 15 = Xi S 904 15 := (show Xi U4 904 15 = Xi U3 904 15 from by rw [eU4]; exact Xi_ne (by omega)).trans ( (show Xi U3 904 15 = Xi U2 904 15 from by rw [eU3]; exact Xi_ne (by omega)).trans ( (show Xi U2 904 15 = Xi U1 904 15 from by rw [eU2]; exact Xi_ne (by omega)).trans ((show Xi U1 904 15 = Xi S 904 15 from by rw [eU1]; exact Xi_ne (by omega)))))
      have w31 : Xi U4 904 70 = Xi S 904 70 := (show Xi U4 904 70 = Xi U3 904 70 from by rw [eU4]; exact Xi_ne (by omega)).trans ( (show Xi U3 904 70 = Xi U2 904 70 from by rw [eU3]; exact Xi_ne (by omega)).trans ( (show Xi U2 904 70 = Xi U1 904 70 from by rw [eU2]; exact Xi_ne (by omega)).trans ((show Xi U1 904 70 = Xi S 904 70 from by rw [eU1]; exact Xi_ne (by omega)))))
      have w32 : Xi U4 904 78 = Xi S 904 78 := (show Xi U4 904 78 = Xi U3 904 78 from by rw [eU4]; exact Xi_ne (by omega)).trans ( (show Xi U3 904 78 = Xi U2 904 78 from by rw [eU3]; exact Xi_ne (by omega)).trans ( (show Xi U2 904 78 = Xi U1 904 78 from by rw [eU2]; exact Xi_ne (by omega)).trans ((show Xi U1 904 78 = Xi S 904 78 from by rw [eU1]; exact Xi_ne (by omega)))))
      refine y_callV rfl rfl rfl (t_mo_askProperty__p hHU4 (by first | assumption | exact (LSP_FR hFU4 rfl rfl (by assumption : LSP S))) (by first | assumption | omega) (by first | assumption | exact (RBD_FR hFU4 rfl (by assumption : RBD S))) (by first | assumption | exact (LXR_FR hFU4 rfl rfl (by assumption : LXR S))) (by first | assumption | exact (ABV_FR hFU4 rfl (by assumption : ABV S))) (fun j => by rw [(hFU4.cx 918 rfl j).1]; exact hko.o j) (by omega) (by rw [rnR_sm (SMR_FR hFU4 rfl rfl)]; exact h7) (by rw [rnR_sm (SMR_FR hFU4 rfl rfl)]; exact hk0) (by rw [pR_sm (SMR_FR hFU4 rfl rfl), pR_sm (SMR_FR hFU4 rfl rfl)]; exact hp) (by rw [pR_sm (SMR_FR hFU4 rfl rfl), hFU4.x 904 78 rfl, (hFU4.cx 908 rfl _).1]; exact hq) (by rw [hFU4.x 904 78 rfl, (hFU4.cx 907 rfl _).1, (hFU4.cx 910 rfl _).2]; exact hnum) (by rw [hFU4.x 904 78 rfl, (hFU4.cx 908 rfl _).1]; exact hplc) _) ?_
      rintro _ T5 ⟨hHT5, w34, rfl, o235⟩
      have hFT5 : FR md_mo_asked__9f S T5 := FR.tr hFU4 w34 rfl
      show Pl _ _ _ _ _ _ [] _ _
      have O235 : RPY S T5 := RPY_fr hFU4 (SMR_FR hFU4 rfl rfl) rfl rfl rfl (hFU4.x 904 78 rfl) (by omega) o235
      refine y_goto rfl rfl ?_
      refine y_return rfl rfl ?_
      exact ⟨hHT5, hFT5, rfl⟩
    | 10, hii =>
      cases hii
      have w40 : (Xi S 904 70) = 10 := by simpa using w14
      exfalso; omega
    | 11, hii =>
      cases hii
      have w41 : (Xi S 904 70) = 11 := by simpa using w14
      exfalso; omega
    | 12, hii =>
      cases hii
      have w42 : (Xi S 904 70) = 12 := by simpa using w14
      exfalso; omega
    | 13, hii =>
      cases hii
      have w43 : (Xi S 904 70) = 13 := by simpa using w14
      exfalso; omega
    | 14, hii =>
      cases hii
      have w44 : (Xi S 904 70) = 14 := by simpa using w14
      exfalso; omega
    | 15, hii =>
      cases hii
      have w45 : (Xi S 904 70) = 15 := by simpa using w14
      exfalso; omega
    | 16, hii =>
      cases hii
      have w46 : (Xi S 904 70) = 16 := by simpa using w14
      exfalso; omega
    | 17, hii =>
      cases hii
      have w47 : (Xi S 904 70) = 17 := by simpa using w14
      exfalso; omega
    | 18, hii =>
      cases hii
      have w48 : (Xi S 904 70) = 18 := by simpa using w14
      exfalso; omega
    | 19, hii =>
      cases hii
      have w49 : (Xi S 904 70) = 19 := by simpa using w14
      exfalso; omega
    | 20, hii =>
      cases hii
      have w50 : (Xi S 904 70) = 20 := by simpa using w14
      exfalso; omega
    | n + 21, hii => exact absurd hii (by simp)
def md_mo_asked__10f : List rec := [(904, 905, 104, 105), (904, 905, 105, 106), (904, 905, 106, 107), (904, 905, 108, 109), (904, 905, 115, 116), (904, 905, 116, 117), (966, 967, 0, 100000)]
abbrev Q_mo_asked__10f (S : sS) (first : Int) : pst := fun r S1 => RI S1 ∧ FR md_mo_asked__10f S S1 ∧ (r = none)
set_option maxRecDepth 100000 in
theorem t_mo_asked__10f {S : sS} (hH : RI S) (first : Int) (hfirst : 0 ≤ first ∧ first ≤ 5001) (hLS : LSP S) (h15 : 0 ≤ Xi S 904 15) (hRB : RBD S) (hs : Xi S 904 70 = 10) (hf : 0 ≤ Xi S 904 71 ∧ Xi S 904 71 ≤ 2600 ∧ 0 ≤ Xi S 904 72 ∧ Xi S 904 72 ≤ 2600) (hp : PLO S (Xi S 904 71) (Xi S 904 72).toNat (wK S)) (hcb : 0 ≤ Xi S 904 49 ∧ Xi S 904 49 ≤ 100 ∧ 0 ≤ Xi S 904 18 ∧ Xi S 904 18 ≤ 100 ∧ 0 ≤ Xi S 904 16 ∧ Xi S 904 16 ≤ 100) (d : Nat) : Mp lay0 (d + 13) m_mo_asked [.ref 904, iv first] S (Q_mo_asked__10f S first) := by
  refine Mp_R rfl rfl (fun fu => ?_)
  have hF : FR md_mo_asked__10f S S := FR.rf
  have w1 : -2147483648 ≤ Xi S 904 104 ∧ Xi S 904 104 ≤ 2147483647 := Xi_rgI
  have w2 : -2147483648 ≤ Xi S 904 105 ∧ Xi S 904 105 ≤ 2147483647 := Xi_rgI
  have w3 : -2147483648 ≤ Xi S 904 106 ∧ Xi S 904 106 ≤ 2147483647 := Xi_rgI
  have w4 : -2147483648 ≤ Xi S 904 108 ∧ Xi S 904 108 ≤ 2147483647 := Xi_rgI
  have w5 : -2147483648 ≤ Xi S 904 15 ∧ Xi S 904 15 ≤ 2147483647 := Xi_rgI
  have w6 : -2147483648 ≤ Xi S 904 16 ∧ Xi S 904 16 ≤ 2147483647 := Xi_rgI
  have w7 : -2147483648 ≤ Xi S 904 18 ∧ Xi S 904 18 ≤ 2147483647 := Xi_rgI
  have w8 : -2147483648 ≤ Xi S 904 49 ∧ Xi S 904 49 ≤ 2147483647 := Xi_rgI
  have w9 : -2147483648 ≤ Xi S 904 70 ∧ Xi S 904 70 ≤ 2147483647 := Xi_rgI
  have w10 : -2147483648 ≤ Xi S 904 71 ∧ Xi S 904 71 ≤ 2147483647 := Xi_rgI
  have w11 : -2147483648 ≤ Xi S 904 72 ∧ Xi S 904 72 ≤ 2147483647 := Xi_rgI
  have w12 : -2147483648 ≤ Xi S 904 78 ∧ Xi S 904 78 ≤ 2147483647 := Xi_rgI
  refine y_aload_n rfl rfl ?_
  refine y_iconst rfl ?_
  refine y_pfi rfl rfl rfl rfl ?_
  obtain ⟨U1, eU1⟩ : ∃ T : sS, T = uI S 904 106 (Int32.ofInt 0) := ⟨_, rfl⟩
  rw [← eU1]
  have hHU1 : RI U1 := by rw [eU1]; exact RI_w hH
  have hFU1 : FR md_mo_asked__10f S U1 := by rw [eU1]; exact FR.wI hF (mdf_i (r := (904, 905, 106, 107)) (List.mem_of_getElem? (i := 2) rfl) (inR_i (by omega) (by omega) (by omega) (by omega)))
  have w13 : Xi U1 904 106 = 0 := by rw [eU1]; exact Xi_same (by unfold rg; omega)
  refine y_aload_n rfl rfl ?_
  refine y_iconst rfl ?_
  refine y_pfi rfl rfl rfl rfl ?_
  obtain ⟨U2, eU2⟩ : ∃ T : sS, T = uI U1 904 108 (Int32.ofInt 0) := ⟨_, rfl⟩
  rw [← eU2]
  have hHU2 : RI U2 := by rw [eU2]; exact RI_w hHU1
  have hFU2 : FR md_mo_asked__10f S U2 := by rw [eU2]; exact FR.wI hFU1 (mdf_i (r := (904, 905, 108, 109)) (List.mem_of_getElem? (i := 3) rfl) (inR_i (by omega) (by omega) (by omega) (by omega)))
  have w14 : Xi U2 904 108 = 0 := by rw [eU2]; exact Xi_same (by unfold rg; omega)
  refine y_aload_n rfl rfl ?_
  refine y_iconst rfl ?_
  refine y_pfi rfl rfl rfl rfl ?_
  obtain ⟨U3, eU3⟩ : ∃ T : sS, T = uI U2 904 115 (Int32.ofInt (-1)) := ⟨_, rfl⟩
  rw [← eU3]
  have hHU3 : RI U3 := by rw [eU3]; exact RI_w hHU2
  have hFU3 : FR md_mo_asked__10f S U3 := by rw [eU3]; exact FR.wI hFU2 (mdf_i (r := (904, 905, 115, 116)) (List.mem_of_getElem? (i := 4) rfl) (inR_i (by omega) (by omega) (by omega) (by omega)))
  have w15 : Xi U3 904 115 = (-1) := by rw [eU3]; exact Xi_same (by unfold rg; omega)
  refine y_aload_n rfl rfl ?_
  refine y_iconst rfl ?_
  refine y_pfi rfl rfl rfl rfl ?_
  obtain ⟨U4, eU4⟩ : ∃ T : sS, T = uI U3 904 116 (Int32.ofInt (-1)) := ⟨_, rfl⟩
  rw [← eU4]
  have hHU4 : RI U4 := by rw [eU4]; exact RI_w hHU3
  have hFU4 : FR md_mo_asked__10f S U4 := by rw [eU4]; exact FR.wI hFU3 (mdf_i (r := (904, 905, 116, 117)) (List.mem_of_getElem? (i := 5) rfl) (inR_i (by omega) (by omega) (by omega) (by omega)))
  have w16 : Xi U4 904 116 = (-1) := by rw [eU4]; exact Xi_same (by unfold rg; omega)
  refine y_aload_n rfl rfl ?_
  refine y_gfi rfl rfl rfl rfl rfl ?_
  have w17 : (Xi U4 904 70) = (Xi S 904 70) := (show Xi U4 904 70 = Xi U3 904 70 from by rw [eU4]; exact Xi_ne (by omega)).trans ( (show Xi U3 904 70 = Xi U2 904 70 from by rw [eU3]; exact Xi_ne (by omega)).trans ( (show Xi U2 904 70 = Xi U1 904 70 from by rw [eU2]; exact Xi_ne (by omega)).trans ((show Xi U1 904 70 = Xi S 904 70 from by rw [eU1]; exact Xi_ne (by omega)))))
  rw [w17]
  refine y_tsw rfl rfl rfl rfl (by unfold rg; omega) (fun w18 => ?_) (fun ii tt hii w18 => ?_)
  · exfalso; omega
  · match ii, hii with
    | 0, hii =>
      cases hii
      have w19 : (Xi S 904 70) = 0 := by simpa using w18
      exfalso; omega
    | 1, hii =>
      cases hii
      have w20 : (Xi S 904 70) = 1 := by simpa using w18
      exfalso; omega
    | 2, hii =>
      cases hii
      have w21 : (Xi S 904 70) = 2 := by simpa using w18
      exfalso; omega
    | 3, hii =>
      cases hii
      have w22 : (Xi S 904 70) = 3 := by simpa using w18
      exfalso; omega
    | 4, hii =>
      cases hii
      have w23 : (Xi S 904 70) = 4 := by simpa using w18
      exfalso; omega
    | 5, hii =>
      cases hii
      have w24 : (Xi S 904 70) = 5 := by simpa using w18
      exfalso; omega
    | 6, hii =>
      cases hii
      have w25 : (Xi S 904 70) = 6 := by simpa using w18
      exfalso; omega
    | 7, hii =>
      cases hii
      have w26 : (Xi S 904 70) = 7 := by simpa using w18
      exfalso; omega
    | 8, hii =>
      cases hii
      have w27 : (Xi S 904 70) = 8 := by simpa using w18
      exfalso; omega
    | 9, hii =>
      cases hii
      have w28 : (Xi S 904 70) = 9 := by simpa using w18
      exfalso; omega
    | 10, hii =>
      cases hii
      have w29 : (Xi S 904 70) = 10 := by simpa using w18
      refine y_aload_n rfl rfl ?_
      have w30 : Xi U4 904 104 = Xi S 904 104 := (show Xi U4 904 104 = Xi U3 904 104 from by rw [eU4]; exact Xi_ne (by omega)).trans ( (show Xi U3 904 104 = Xi U2 904 104 from by rw [eU3]; exact Xi_ne (by omega)).trans ( (show Xi U2 904 104 = Xi U1 904 104 from by rw [eU2]; exact Xi_ne (by omega)).trans ((show Xi U1 904 104 = Xi S 904 104 from by rw [eU1]; exact Xi_ne (by omega)))))
      have w31 : Xi U4 904 105 = Xi S 904 105 := (show Xi U4 904 105 = Xi U3 904 105 from by rw [eU4]; exact Xi_ne (by omega)).trans ( (show Xi U3 904 105 = Xi U2 904 105 from by rw [eU3]; exact Xi_ne (by omega)).trans ( (show Xi U2 904 105 = Xi U1 904 105 from by rw [eU2]; exact Xi_ne (by omega)).trans ((show Xi U1 904 105 = Xi S 904 105 from by rw [eU1]; exact Xi_ne (by omega)))))
      have w32 : Xi U4 904 106 = Xi U1 904 106 := (show Xi U4 904 106 = Xi U3 904 106 from by rw [eU4]; exact Xi_ne (by omega)).trans ( (show Xi U3 904 106 = Xi U2 904 106 from by rw [eU3]; exact Xi_ne (by omega)).trans ((show Xi U2 904 106 = Xi U1 904 106 from by rw [eU2]; exact Xi_ne (by omega))))
      have w33 : Xi U4 904 108 = Xi U2 904 108 := (show Xi U4 904 108 = Xi U3 904 108 from by rw [eU4]; exact Xi_ne (by omega)).trans ((show Xi U3 904 108 = Xi U2 904 108 from by rw [eU3]; exact Xi_ne (by omega)))
      have w34 : Xi U4 904 15 = Xi S 904 15 := (show Xi U4 904 15 = Xi U3 904 15 from by rw [eU4]; exact Xi_ne (by omega)).trans ( (show Xi U3 904 15 = Xi U2 904 15 from by rw [eU3]; exact Xi_ne (by omega)).trans ( (show Xi U2 904 15 = Xi U1 904 15 from by rw [eU2]; exact Xi_ne (by omega)).trans ((show Xi U1 904 15 = Xi S 904 15 from by rw [eU1]; exact Xi_ne (by omega)))))
      have w35 : Xi U4 904 16 = Xi S 904 16 := (show Xi U4 904 16 = Xi U3 904 16 from by rw [eU4]; exact Xi_ne (by omega)).trans ( (show Xi U3 904 16 = Xi U2 904 16 from by rw [eU3]; exact Xi_ne (by omega)).trans ( (show Xi U2 904 16 = Xi U1 904 16 from by rw [eU2]; exact Xi_ne (by omega)).trans ((show Xi U1 904 16 = Xi S 904 16 from by rw [eU1]; exact Xi_ne (by omega)))))
      have w36 : Xi U4 904 18 = Xi S 904 18 := (show Xi U4 904 18 = Xi U3 904 18 from by rw [eU4]; exact Xi_ne (by omega)).trans ( (show Xi U3 904 18 = Xi U2 904 18 from by rw [eU3]; exact Xi_ne (by omega)).trans ( (show Xi U2 904 18 = Xi U1 904 18 from by rw [eU2]; exact Xi_ne (by omega)).trans ((show Xi U1 904 18 = Xi S 904 18 from by rw [eU1]; exact Xi_ne (by omega)))))
      have w37 : Xi U4 904 49 = Xi S 904 49 := (show Xi U4 904 49 = Xi U3 904 49 from by rw [eU4]; exact Xi_ne (by omega)).trans ( (show Xi U3 904 49 = Xi U2 904 49 from by rw [eU3]; exact Xi_ne (by omega)).trans ( (show Xi U2 904 49 = Xi U1 904 49 from by rw [eU2]; exact Xi_ne (by omega)).trans ((show Xi U1 904 49 = Xi S 904 49 from by rw [eU1]; exact Xi_ne (by omega)))))
      have w38 : Xi U4 904 70 = Xi S 904 70 := (show Xi U4 904 70 = Xi U3 904 70 from by rw [eU4]; exact Xi_ne (by omega)).trans ( (show Xi U3 904 70 = Xi U2 904 70 from by rw [eU3]; exact Xi_ne (by omega)).trans ( (show Xi U2 904 70 = Xi U1 904 70 from by rw [eU2]; exact Xi_ne (by omega)).trans ((show Xi U1 904 70 = Xi S 904 70 from by rw [eU1]; exact Xi_ne (by omega)))))
      have w39 : Xi U4 904 71 = Xi S 904 71 := (show Xi U4 904 71 = Xi U3 904 71 from by rw [eU4]; exact Xi_ne (by omega)).trans ( (show Xi U3 904 71 = Xi U2 904 71 from by rw [eU3]; exact Xi_ne (by omega)).trans ( (show Xi U2 904 71 = Xi U1 904 71 from by rw [eU2]; exact Xi_ne (by omega)).trans ((show Xi U1 904 71 = Xi S 904 71 from by rw [eU1]; exact Xi_ne (by omega)))))
      have w40 : Xi U4 904 72 = Xi S 904 72 := (show Xi U4 904 72 = Xi U3 904 72 from by rw [eU4]; exact Xi_ne (by omega)).trans ( (show Xi U3 904 72 = Xi U2 904 72 from by rw [eU3]; exact Xi_ne (by omega)).trans ( (show Xi U2 904 72 = Xi U1 904 72 from by rw [eU2]; exact Xi_ne (by omega)).trans ((show Xi U1 904 72 = Xi S 904 72 from by rw [eU1]; exact Xi_ne (by omega)))))
      have w41 : Xi U4 904 78 = Xi S 904 78 := (show Xi U4 904 78 = Xi U3 904 78 from by rw [eU4]; exact Xi_ne (by omega)).trans ( (show Xi U3 904 78 = Xi U2 904 78 from by rw [eU3]; exact Xi_ne (by omega)).trans ( (show Xi U2 904 78 = Xi U1 904 78 from by rw [eU2]; exact Xi_ne (by omega)).trans ((show Xi U1 904 78 = Xi S 904 78 from by rw [eU1]; exact Xi_ne (by omega)))))
      refine y_callV rfl rfl rfl (t_mo_askKinds__p hHU4 (by first | assumption | exact (LSP_FR hFU4 rfl rfl (by assumption : LSP S))) (by first | assumption | omega) (by first | assumption | exact (RBD_FR hFU4 rfl (by assumption : RBD S))) (⟨by omega, by omega⟩) (by first | assumption | omega) (by have w : wK U4 = wK S := (by unfold wK; rw [hFU4.x 904 70 rfl, hFU4.x 904 78 rfl]); rw [w, hFU4.x 904 71 rfl, hFU4.x 904 72 rfl]; exact PLO_sm (SMR_FR hFU4 rfl rfl) hp) (by first | assumption | omega) _) ?_
      rintro _ T5 ⟨hHT5, w43, rfl, o242⟩
      have hFT5 : FR md_mo_asked__10f S T5 := FR.tr hFU4 w43 rfl
      show Pl _ _ _ _ _ _ [] _ _
      have W242 : wK U4 = wK S ∧ cK U4 = cK S ∧ mK U4 = mK S := by unfold wK cK mK; rw [hFU4.x 904 70 rfl, hFU4.x 904 78 rfl, hFU4.x 904 49 rfl, hFU4.x 904 18 rfl, hFU4.x 904 16 rfl]; exact ⟨rfl, rfl, rfl⟩
      have O242 : RKD S (Xi S 904 71) (cK S) (mK S) (Xi S 904 72).toNat (wK S) (NT3 T5) := RKD_sm (SMR_FR hFU4 rfl rfl) (by have t := o242; rw [W242.1, W242.2.1, W242.2.2, hFU4.x 904 71 rfl, hFU4.x 904 72 rfl] at t; exact t)
      refine y_goto rfl rfl ?_
      refine y_return rfl rfl ?_
      exact ⟨hHT5, hFT5, rfl⟩
    | 11, hii =>
      cases hii
      have w52 : (Xi S 904 70) = 11 := by simpa using w18
      refine y_aload_n rfl rfl ?_
      have w53 : Xi U4 904 104 = Xi S 904 104 := (show Xi U4 904 104 = Xi U3 904 104 from by rw [eU4]; exact Xi_ne (by omega)).trans ( (show Xi U3 904 104 = Xi U2 904 104 from by rw [eU3]; exact Xi_ne (by omega)).trans ( (show Xi U2 904 104 = Xi U1 904 104 from by rw [eU2]; exact Xi_ne (by omega)).trans ((show Xi U1 904 104 = Xi S 904 104 from by rw [eU1]; exact Xi_ne (by omega)))))
      have w54 : Xi U4 904 105 = Xi S 904 105 := (show Xi U4 904 105 = Xi U3 904 105 from by rw [eU4]; exact Xi_ne (by omega)).trans ( (show Xi U3 904 105 = Xi U2 904 105 from by rw [eU3]; exact Xi_ne (by omega)).trans ( (show Xi U2 904 105 = Xi U1 904 105 from by rw [eU2]; exact Xi_ne (by omega)).trans ((show Xi U1 904 105 = Xi S 904 105 from by rw [eU1]; exact Xi_ne (by omega)))))
      have w55 : Xi U4 904 106 = Xi U1 904 106 := (show Xi U4 904 106 = Xi U3 904 106 from by rw [eU4]; exact Xi_ne (by omega)).trans ( (show Xi U3 904 106 = Xi U2 904 106 from by rw [eU3]; exact Xi_ne (by omega)).trans ((show Xi U2 904 106 = Xi U1 904 106 from by rw [eU2]; exact Xi_ne (by omega))))
      have w56 : Xi U4 904 108 = Xi U2 904 108 := (show Xi U4 904 108 = Xi U3 904 108 from by rw [eU4]; exact Xi_ne (by omega)).trans ((show Xi U3 904 108 = Xi U2 904 108 from by rw [eU3]; exact Xi_ne (by omega)))
      have w57 : Xi U4 904 15 = Xi S 904 15 := (show Xi U4 904 15 = Xi U3 904 15 from by rw [eU4]; exact Xi_ne (by omega)).trans ( (show Xi U3 904 15 = Xi U2 904 15 from by rw [eU3]; exact Xi_ne (by omega)).trans ( (show Xi U2 904 15 = Xi U1 904 15 from by rw [eU2]; exact Xi_ne (by omega)).trans ((show Xi U1 904 15 = Xi S 904 15 from by rw [eU1]; exact Xi_ne (by omega)))))
      have w58 : Xi U4 904 16 = Xi S 904 16 := (show Xi U4 904 16 = Xi U3 904 16 from by rw [eU4]; exact Xi_ne (by omega)).trans ( (show Xi U3 904 16 = Xi U2 904 16 from by rw [eU3]; exact Xi_ne (by omega)).trans ( (show Xi U2 904 16 = Xi U1 904 16 from by rw [eU2]; exact Xi_ne (by omega)).trans ((show Xi U1 904 16 = Xi S 904 16 from by rw [eU1]; exact Xi_ne (by omega)))))
      have w59 : Xi U4 904 18 = Xi S 904 18 := (show Xi U4 904 18 = Xi U3 904 18 from by rw [eU4]; exact Xi_ne (by omega)).trans ( (show Xi U3 904 18 = Xi U2 904 18 from by rw [eU3]; exact Xi_ne (by omega)).trans ( (show Xi U2 904 18 = Xi U1 904 18 from by rw [eU2]; exact Xi_ne (by omega)).trans ((show Xi U1 904 18 = Xi S 904 18 from by rw [eU1]; exact Xi_ne (by omega)))))
      have w60 : Xi U4 904 49 = Xi S 904 49 := (show Xi U4 904 49 = Xi U3 904 49 from by rw [eU4]; exact Xi_ne (by omega)).trans ( (show Xi U3 904 49 = Xi U2 904 49 from by rw [eU3]; exact Xi_ne (by omega)).trans ( (show Xi U2 904 49 = Xi U1 904 49 from by rw [eU2]; exact Xi_ne (by omega)).trans ((show Xi U1 904 49 = Xi S 904 49 from by rw [eU1]; exact Xi_ne (by omega)))))
      have w61 : Xi U4 904 70 = Xi S 904 70 := (show Xi U4 904 70 = Xi U3 904 70 from by rw [eU4]; exact Xi_ne (by omega)).trans ( (show Xi U3 904 70 = Xi U2 904 70 from by rw [eU3]; exact Xi_ne (by omega)).trans ( (show Xi U2 904 70 = Xi U1 904 70 from by rw [eU2]; exact Xi_ne (by omega)).trans ((show Xi U1 904 70 = Xi S 904 70 from by rw [eU1]; exact Xi_ne (by omega)))))
      have w62 : Xi U4 904 71 = Xi S 904 71 := (show Xi U4 904 71 = Xi U3 904 71 from by rw [eU4]; exact Xi_ne (by omega)).trans ( (show Xi U3 904 71 = Xi U2 904 71 from by rw [eU3]; exact Xi_ne (by omega)).trans ( (show Xi U2 904 71 = Xi U1 904 71 from by rw [eU2]; exact Xi_ne (by omega)).trans ((show Xi U1 904 71 = Xi S 904 71 from by rw [eU1]; exact Xi_ne (by omega)))))
      have w63 : Xi U4 904 72 = Xi S 904 72 := (show Xi U4 904 72 = Xi U3 904 72 from by rw [eU4]; exact Xi_ne (by omega)).trans ( (show Xi U3 904 72 = Xi U2 904 72 from by rw [eU3]; exact Xi_ne (by omega)).trans ( (show Xi U2 904 72 = Xi U1 904 72 from by rw [eU2]; exact Xi_ne (by omega)).trans ((show Xi U1 904 72 = Xi S 904 72 from by rw [eU1]; exact Xi_ne (by omega)))))
      have w64 : Xi U4 904 78 = Xi S 904 78 := (show Xi U4 904 78 = Xi U3 904 78 from by rw [eU4]; exact Xi_ne (by omega)).trans ( (show Xi U3 904 78 = Xi U2 904 78 from by rw [eU3]; exact Xi_ne (by omega)).trans ( (show Xi U2 904 78 = Xi U1 904 78 from by rw [eU2]; exact Xi_ne (by omega)).trans ((show Xi U1 904 78 = Xi S 904 78 from by rw [eU1]; exact Xi_ne (by omega)))))
      refine y_callV rfl rfl rfl (t_mo_askKinds__p hHU4 (by first | assumption | exact (LSP_FR hFU4 rfl rfl (by assumption : LSP S))) (by first | assumption | omega) (by first | assumption | exact (RBD_FR hFU4 rfl (by assumption : RBD S))) (⟨by omega, by omega⟩) (by first | assumption | omega) (by have w : wK U4 = wK S := (by unfold wK; rw [hFU4.x 904 70 rfl, hFU4.x 904 78 rfl]); rw [w, hFU4.x 904 71 rfl, hFU4.x 904 72 rfl]; exact PLO_sm (SMR_FR hFU4 rfl rfl) hp) (by first | assumption | omega) _) ?_
      rintro _ T6 ⟨hHT6, w66, rfl, o242⟩
      have hFT6 : FR md_mo_asked__10f S T6 := FR.tr hFU4 w66 rfl
      show Pl _ _ _ _ _ _ [] _ _
      have W242 : wK U4 = wK S ∧ cK U4 = cK S ∧ mK U4 = mK S := by unfold wK cK mK; rw [hFU4.x 904 70 rfl, hFU4.x 904 78 rfl, hFU4.x 904 49 rfl, hFU4.x 904 18 rfl, hFU4.x 904 16 rfl]; exact ⟨rfl, rfl, rfl⟩
      have O242 : RKD S (Xi S 904 71) (cK S) (mK S) (Xi S 904 72).toNat (wK S) (NT3 T6) := RKD_sm (SMR_FR hFU4 rfl rfl) (by have t := o242; rw [W242.1, W242.2.1, W242.2.2, hFU4.x 904 71 rfl, hFU4.x 904 72 rfl] at t; exact t)
      refine y_goto rfl rfl ?_
      refine y_return rfl rfl ?_
      exact ⟨hHT6, hFT6, rfl⟩
    | 12, hii =>
      cases hii
      have w75 : (Xi S 904 70) = 12 := by simpa using w18
      exfalso; omega
    | 13, hii =>
      cases hii
      have w76 : (Xi S 904 70) = 13 := by simpa using w18
      exfalso; omega
    | 14, hii =>
      cases hii
      have w77 : (Xi S 904 70) = 14 := by simpa using w18
      exfalso; omega
    | 15, hii =>
      cases hii
      have w78 : (Xi S 904 70) = 15 := by simpa using w18
      exfalso; omega
    | 16, hii =>
      cases hii
      have w79 : (Xi S 904 70) = 16 := by simpa using w18
      exfalso; omega
    | 17, hii =>
      cases hii
      have w80 : (Xi S 904 70) = 17 := by simpa using w18
      exfalso; omega
    | 18, hii =>
      cases hii
      have w81 : (Xi S 904 70) = 18 := by simpa using w18
      exfalso; omega
    | 19, hii =>
      cases hii
      have w82 : (Xi S 904 70) = 19 := by simpa using w18
      exfalso; omega
    | 20, hii =>
      cases hii
      have w83 : (Xi S 904 70) = 20 := by simpa using w18
      exfalso; omega
    | n + 21, hii => exact absurd hii (by simp)
def md_mo_asked__11f : List rec := [(904, 905, 104, 105), (904, 905, 105, 106), (904, 905, 106, 107), (904, 905, 108, 109), (904, 905, 115, 116), (904, 905, 116, 117), (966, 967, 0, 100000)]
abbrev Q_mo_asked__11f (S : sS) (first : Int) : pst := fun r S1 => RI S1 ∧ FR md_mo_asked__11f S S1 ∧ (r = none)
set_option maxRecDepth 100000 in
theorem t_mo_asked__11f {S : sS} (hH : RI S) (first : Int) (hfirst : 0 ≤ first ∧ first ≤ 5001) (hLS : LSP S) (h15 : 0 ≤ Xi S 904 15) (hRB : RBD S) (hs : Xi S 904 70 = 11) (hf : 0 ≤ Xi S 904 71 ∧ Xi S 904 71 ≤ 2600 ∧ 0 ≤ Xi S 904 72 ∧ Xi S 904 72 ≤ 2600) (hp : PLO S (Xi S 904 71) (Xi S 904 72).toNat (wK S)) (hcb : 0 ≤ Xi S 904 49 ∧ Xi S 904 49 ≤ 100 ∧ 0 ≤ Xi S 904 18 ∧ Xi S 904 18 ≤ 100 ∧ 0 ≤ Xi S 904 16 ∧ Xi S 904 16 ≤ 100) (d : Nat) : Mp lay0 (d + 13) m_mo_asked [.ref 904, iv first] S (Q_mo_asked__11f S first) := by
  refine Mp_R rfl rfl (fun fu => ?_)
  have hF : FR md_mo_asked__11f S S := FR.rf
  have w1 : -2147483648 ≤ Xi S 904 104 ∧ Xi S 904 104 ≤ 2147483647 := Xi_rgI
  have w2 : -2147483648 ≤ Xi S 904 105 ∧ Xi S 904 105 ≤ 2147483647 := Xi_rgI
  have w3 : -2147483648 ≤ Xi S 904 106 ∧ Xi S 904 106 ≤ 2147483647 := Xi_rgI
  have w4 : -2147483648 ≤ Xi S 904 108 ∧ Xi S 904 108 ≤ 2147483647 := Xi_rgI
  have w5 : -2147483648 ≤ Xi S 904 15 ∧ Xi S 904 15 ≤ 2147483647 := Xi_rgI
  have w6 : -2147483648 ≤ Xi S 904 16 ∧ Xi S 904 16 ≤ 2147483647 := Xi_rgI
  have w7 : -2147483648 ≤ Xi S 904 18 ∧ Xi S 904 18 ≤ 2147483647 := Xi_rgI
  have w8 : -2147483648 ≤ Xi S 904 49 ∧ Xi S 904 49 ≤ 2147483647 := Xi_rgI
  have w9 : -2147483648 ≤ Xi S 904 70 ∧ Xi S 904 70 ≤ 2147483647 := Xi_rgI
  have w10 : -2147483648 ≤ Xi S 904 71 ∧ Xi S 904 71 ≤ 2147483647 := Xi_rgI
  have w11 : -2147483648 ≤ Xi S 904 72 ∧ Xi S 904 72 ≤ 2147483647 := Xi_rgI
  have w12 : -2147483648 ≤ Xi S 904 78 ∧ Xi S 904 78 ≤ 2147483647 := Xi_rgI
  refine y_aload_n rfl rfl ?_
  refine y_iconst rfl ?_
  refine y_pfi rfl rfl rfl rfl ?_
  obtain ⟨U1, eU1⟩ : ∃ T : sS, T = uI S 904 106 (Int32.ofInt 0) := ⟨_, rfl⟩
  rw [← eU1]
  have hHU1 : RI U1 := by rw [eU1]; exact RI_w hH
  have hFU1 : FR md_mo_asked__11f S U1 := by rw [eU1]; exact FR.wI hF (mdf_i (r := (904, 905, 106, 107)) (List.mem_of_getElem? (i := 2) rfl) (inR_i (by omega) (by omega) (by omega) (by omega)))
  have w13 : Xi U1 904 106 = 0 := by rw [eU1]; exact Xi_same (by unfold rg; omega)
  refine y_aload_n rfl rfl ?_
  refine y_iconst rfl ?_
  refine y_pfi rfl rfl rfl rfl ?_
  obtain ⟨U2, eU2⟩ : ∃ T : sS, T = uI U1 904 108 (Int32.ofInt 0) := ⟨_, rfl⟩
  rw [← eU2]
  have hHU2 : RI U2 := by rw [eU2]; exact RI_w hHU1
  have hFU2 : FR md_mo_asked__11f S U2 := by rw [eU2]; exact FR.wI hFU1 (mdf_i (r := (904, 905, 108, 109)) (List.mem_of_getElem? (i := 3) rfl) (inR_i (by omega) (by omega) (by omega) (by omega)))
  have w14 : Xi U2 904 108 = 0 := by rw [eU2]; exact Xi_same (by unfold rg; omega)
  refine y_aload_n rfl rfl ?_
  refine y_iconst rfl ?_
  refine y_pfi rfl rfl rfl rfl ?_
  obtain ⟨U3, eU3⟩ : ∃ T : sS, T = uI U2 904 115 (Int32.ofInt (-1)) := ⟨_, rfl⟩
  rw [← eU3]
  have hHU3 : RI U3 := by rw [eU3]; exact RI_w hHU2
  have hFU3 : FR md_mo_asked__11f S U3 := by rw [eU3]; exact FR.wI hFU2 (mdf_i (r := (904, 905, 115, 116)) (List.mem_of_getElem? (i := 4) rfl) (inR_i (by omega) (by omega) (by omega) (by omega)))
  have w15 : Xi U3 904 115 = (-1) := by rw [eU3]; exact Xi_same (by unfold rg; omega)
  refine y_aload_n rfl rfl ?_
  refine y_iconst rfl ?_
  refine y_pfi rfl rfl rfl rfl ?_
  obtain ⟨U4, eU4⟩ : ∃ T : sS, T = uI U3 904 116 (Int32.ofInt (-1)) := ⟨_, rfl⟩
  rw [← eU4]
  have hHU4 : RI U4 := by rw [eU4]; exact RI_w hHU3
  have hFU4 : FR md_mo_asked__11f S U4 := by rw [eU4]; exact FR.wI hFU3 (mdf_i (r := (904, 905, 116, 117)) (List.mem_of_getElem? (i := 5) rfl) (inR_i (by omega) (by omega) (by omega) (by omega)))
  have w16 : Xi U4 904 116 = (-1) := by rw [eU4]; exact Xi_same (by unfold rg; omega)
  refine y_aload_n rfl rfl ?_
  refine y_gfi rfl rfl rfl rfl rfl ?_
  have w17 : (Xi U4 904 70) = (Xi S 904 70) := (show Xi U4 904 70 = Xi U3 904 70 from by rw [eU4]; exact Xi_ne (by omega)).trans ( (show Xi U3 904 70 = Xi U2 904 70 from by rw [eU3]; exact Xi_ne (by omega)).trans ( (show Xi U2 904 70 = Xi U1 904 70 from by rw [eU2]; exact Xi_ne (by omega)).trans ((show Xi U1 904 70 = Xi S 904 70 from by rw [eU1]; exact Xi_ne (by omega)))))
  rw [w17]
  refine y_tsw rfl rfl rfl rfl (by unfold rg; omega) (fun w18 => ?_) (fun ii tt hii w18 => ?_)
  · exfalso; omega
  · match ii, hii with
    | 0, hii =>
      cases hii
      have w19 : (Xi S 904 70) = 0 := by simpa using w18
      exfalso; omega
    | 1, hii =>
      cases hii
      have w20 : (Xi S 904 70) = 1 := by simpa using w18
      exfalso; omega
    | 2, hii =>
      cases hii
      have w21 : (Xi S 904 70) = 2 := by simpa using w18
      exfalso; omega
    | 3, hii =>
      cases hii
      have w22 : (Xi S 904 70) = 3 := by simpa using w18
      exfalso; omega
    | 4, hii =>
      cases hii
      have w23 : (Xi S 904 70) = 4 := by simpa using w18
      exfalso; omega
    | 5, hii =>
      cases hii
      have w24 : (Xi S 904 70) = 5 := by simpa using w18
      exfalso; omega
    | 6, hii =>
      cases hii
      have w25 : (Xi S 904 70) = 6 := by simpa using w18
      exfalso; omega
    | 7, hii =>
      cases hii
      have w26 : (Xi S 904 70) = 7 := by simpa using w18
      exfalso; omega
    | 8, hii =>
      cases hii
      have w27 : (Xi S 904 70) = 8 := by simpa using w18
      exfalso; omega
    | 9, hii =>
      cases hii
      have w28 : (Xi S 904 70) = 9 := by simpa using w18
      exfalso; omega
    | 10, hii =>
      cases hii
      have w29 : (Xi S 904 70) = 10 := by simpa using w18
      refine y_aload_n rfl rfl ?_
      have w30 : Xi U4 904 104 = Xi S 904 104 := (show Xi U4 904 104 = Xi U3 904 104 from by rw [eU4]; exact Xi_ne (by omega)).trans ( (show Xi U3 904 104 = Xi U2 904 104 from by rw [eU3]; exact Xi_ne (by omega)).trans ( (show Xi U2 904 104 = Xi U1 904 104 from by rw [eU2]; exact Xi_ne (by omega)).trans ((show Xi U1 904 104 = Xi S 904 104 from by rw [eU1]; exact Xi_ne (by omega)))))
      have w31 : Xi U4 904 105 = Xi S 904 105 := (show Xi U4 904 105 = Xi U3 904 105 from by rw [eU4]; exact Xi_ne (by omega)).trans ( (show Xi U3 904 105 = Xi U2 904 105 from by rw [eU3]; exact Xi_ne (by omega)).trans ( (show Xi U2 904 105 = Xi U1 904 105 from by rw [eU2]; exact Xi_ne (by omega)).trans ((show Xi U1 904 105 = Xi S 904 105 from by rw [eU1]; exact Xi_ne (by omega)))))
      have w32 : Xi U4 904 106 = Xi U1 904 106 := (show Xi U4 904 106 = Xi U3 904 106 from by rw [eU4]; exact Xi_ne (by omega)).trans ( (show Xi U3 904 106 = Xi U2 904 106 from by rw [eU3]; exact Xi_ne (by omega)).trans ((show Xi U2 904 106 = Xi U1 904 106 from by rw [eU2]; exact Xi_ne (by omega))))
      have w33 : Xi U4 904 108 = Xi U2 904 108 := (show Xi U4 904 108 = Xi U3 904 108 from by rw [eU4]; exact Xi_ne (by omega)).trans ((show Xi U3 904 108 = Xi U2 904 108 from by rw [eU3]; exact Xi_ne (by omega)))
      have w34 : Xi U4 904 15 = Xi S 904 15 := (show Xi U4 904 15 = Xi U3 904 15 from by rw [eU4]; exact Xi_ne (by omega)).trans ( (show Xi U3 904 15 = Xi U2 904 15 from by rw [eU3]; exact Xi_ne (by omega)).trans ( (show Xi U2 904 15 = Xi U1 904 15 from by rw [eU2]; exact Xi_ne (by omega)).trans ((show Xi U1 904 15 = Xi S 904 15 from by rw [eU1]; exact Xi_ne (by omega)))))
      have w35 : Xi U4 904 16 = Xi S 904 16 := (show Xi U4 904 16 = Xi U3 904 16 from by rw [eU4]; exact Xi_ne (by omega)).trans ( (show Xi U3 904 16 = Xi U2 904 16 from by rw [eU3]; exact Xi_ne (by omega)).trans ( (show Xi U2 904 16 = Xi U1 904 16 from by rw [eU2]; exact Xi_ne (by omega)).trans ((show Xi U1 904 16 = Xi S 904 16 from by rw [eU1]; exact Xi_ne (by omega)))))
      have w36 : Xi U4 904 18 = Xi S 904 18 := (show Xi U4 904 18 = Xi U3 904 18 from by rw [eU4]; exact Xi_ne (by omega)).trans ( (show Xi U3 904 18 = Xi U2 904 18 from by rw [eU3]; exact Xi_ne (by omega)).trans ( (show Xi U2 904 18 = Xi U1 904 18 from by rw [eU2]; exact Xi_ne (by omega)).trans ((show Xi U1 904 18 = Xi S 904 18 from by rw [eU1]; exact Xi_ne (by omega)))))
      have w37 : Xi U4 904 49 = Xi S 904 49 := (show Xi U4 904 49 = Xi U3 904 49 from by rw [eU4]; exact Xi_ne (by omega)).trans ( (show Xi U3 904 49 = Xi U2 904 49 from by rw [eU3]; exact Xi_ne (by omega)).trans ( (show Xi U2 904 49 = Xi U1 904 49 from by rw [eU2]; exact Xi_ne (by omega)).trans ((show Xi U1 904 49 = Xi S 904 49 from by rw [eU1]; exact Xi_ne (by omega)))))
      have w38 : Xi U4 904 70 = Xi S 904 70 := (show Xi U4 904 70 = Xi U3 904 70 from by rw [eU4]; exact Xi_ne (by omega)).trans ( (show Xi U3 904 70 = Xi U2 904 70 from by rw [eU3]; exact Xi_ne (by omega)).trans ( (show Xi U2 904 70 = Xi U1 904 70 from by rw [eU2]; exact Xi_ne (by omega)).trans ((show Xi U1 904 70 = Xi S 904 70 from by rw [eU1]; exact Xi_ne (by omega)))))
      have w39 : Xi U4 904 71 = Xi S 904 71 := (show Xi U4 904 71 = Xi U3 904 71 from by rw [eU4]; exact Xi_ne (by omega)).trans ( (show Xi U3 904 71 = Xi U2 904 71 from by rw [eU3]; exact Xi_ne (by omega)).trans ( (show Xi U2 904 71 = Xi U1 904 71 from by rw [eU2]; exact Xi_ne (by omega)).trans ((show Xi U1 904 71 = Xi S 904 71 from by rw [eU1]; exact Xi_ne (by omega)))))
      have w40 : Xi U4 904 72 = Xi S 904 72 := (show Xi U4 904 72 = Xi U3 904 72 from by rw [eU4]; exact Xi_ne (by omega)).trans ( (show Xi U3 904 72 = Xi U2 904 72 from by rw [eU3]; exact Xi_ne (by omega)).trans ( (show Xi U2 904 72 = Xi U1 904 72 from by rw [eU2]; exact Xi_ne (by omega)).trans ((show Xi U1 904 72 = Xi S 904 72 from by rw [eU1]; exact Xi_ne (by omega)))))
      have w41 : Xi U4 904 78 = Xi S 904 78 := (show Xi U4 904 78 = Xi U3 904 78 from by rw [eU4]; exact Xi_ne (by omega)).trans ( (show Xi U3 904 78 = Xi U2 904 78 from by rw [eU3]; exact Xi_ne (by omega)).trans ( (show Xi U2 904 78 = Xi U1 904 78 from by rw [eU2]; exact Xi_ne (by omega)).trans ((show Xi U1 904 78 = Xi S 904 78 from by rw [eU1]; exact Xi_ne (by omega)))))
      refine y_callV rfl rfl rfl (t_mo_askKinds__p hHU4 (by first | assumption | exact (LSP_FR hFU4 rfl rfl (by assumption : LSP S))) (by first | assumption | omega) (by first | assumption | exact (RBD_FR hFU4 rfl (by assumption : RBD S))) (⟨by omega, by omega⟩) (by first | assumption | omega) (by have w : wK U4 = wK S := (by unfold wK; rw [hFU4.x 904 70 rfl, hFU4.x 904 78 rfl]); rw [w, hFU4.x 904 71 rfl, hFU4.x 904 72 rfl]; exact PLO_sm (SMR_FR hFU4 rfl rfl) hp) (by first | assumption | omega) _) ?_
      rintro _ T5 ⟨hHT5, w43, rfl, o242⟩
      have hFT5 : FR md_mo_asked__11f S T5 := FR.tr hFU4 w43 rfl
      show Pl _ _ _ _ _ _ [] _ _
      have W242 : wK U4 = wK S ∧ cK U4 = cK S ∧ mK U4 = mK S := by unfold wK cK mK; rw [hFU4.x 904 70 rfl, hFU4.x 904 78 rfl, hFU4.x 904 49 rfl, hFU4.x 904 18 rfl, hFU4.x 904 16 rfl]; exact ⟨rfl, rfl, rfl⟩
      have O242 : RKD S (Xi S 904 71) (cK S) (mK S) (Xi S 904 72).toNat (wK S) (NT3 T5) := RKD_sm (SMR_FR hFU4 rfl rfl) (by have t := o242; rw [W242.1, W242.2.1, W242.2.2, hFU4.x 904 71 rfl, hFU4.x 904 72 rfl] at t; exact t)
      refine y_goto rfl rfl ?_
      refine y_return rfl rfl ?_
      exact ⟨hHT5, hFT5, rfl⟩
    | 11, hii =>
      cases hii
      have w52 : (Xi S 904 70) = 11 := by simpa using w18
      refine y_aload_n rfl rfl ?_
      have w53 : Xi U4 904 104 = Xi S 904 104 := (show Xi U4 904 104 = Xi U3 904 104 from by rw [eU4]; exact Xi_ne (by omega)).trans ( (show Xi U3 904 104 = Xi U2 904 104 from by rw [eU3]; exact Xi_ne (by omega)).trans ( (show Xi U2 904 104 = Xi U1 904 104 from by rw [eU2]; exact Xi_ne (by omega)).trans ((show Xi U1 904 104 = Xi S 904 104 from by rw [eU1]; exact Xi_ne (by omega)))))
      have w54 : Xi U4 904 105 = Xi S 904 105 := (show Xi U4 904 105 = Xi U3 904 105 from by rw [eU4]; exact Xi_ne (by omega)).trans ( (show Xi U3 904 105 = Xi U2 904 105 from by rw [eU3]; exact Xi_ne (by omega)).trans ( (show Xi U2 904 105 = Xi U1 904 105 from by rw [eU2]; exact Xi_ne (by omega)).trans ((show Xi U1 904 105 = Xi S 904 105 from by rw [eU1]; exact Xi_ne (by omega)))))
      have w55 : Xi U4 904 106 = Xi U1 904 106 := (show Xi U4 904 106 = Xi U3 904 106 from by rw [eU4]; exact Xi_ne (by omega)).trans ( (show Xi U3 904 106 = Xi U2 904 106 from by rw [eU3]; exact Xi_ne (by omega)).trans ((show Xi U2 904 106 = Xi U1 904 106 from by rw [eU2]; exact Xi_ne (by omega))))
      have w56 : Xi U4 904 108 = Xi U2 904 108 := (show Xi U4 904 108 = Xi U3 904 108 from by rw [eU4]; exact Xi_ne (by omega)).trans ((show Xi U3 904 108 = Xi U2 904 108 from by rw [eU3]; exact Xi_ne (by omega)))
      have w57 : Xi U4 904 15 = Xi S 904 15 := (show Xi U4 904 15 = Xi U3 904 15 from by rw [eU4]; exact Xi_ne (by omega)).trans ( (show Xi U3 904 15 = Xi U2 904 15 from by rw [eU3]; exact Xi_ne (by omega)).trans ( (show Xi U2 904 15 = Xi U1 904 15 from by rw [eU2]; exact Xi_ne (by omega)).trans ((show Xi U1 904 15 = Xi S 904 15 from by rw [eU1]; exact Xi_ne (by omega)))))
      have w58 : Xi U4 904 16 = Xi S 904 16 := (show Xi U4 904 16 = Xi U3 904 16 from by rw [eU4]; exact Xi_ne (by omega)).trans ( (show Xi U3 904 16 = Xi U2 904 16 from by rw [eU3]; exact Xi_ne (by omega)).trans ( (show Xi U2 904 16 = Xi U1 904 16 from by rw [eU2]; exact Xi_ne (by omega)).trans ((show Xi U1 904 16 = Xi S 904 16 from by rw [eU1]; exact Xi_ne (by omega)))))
      have w59 : Xi U4 904 18 = Xi S 904 18 := (show Xi U4 904 18 = Xi U3 904 18 from by rw [eU4]; exact Xi_ne (by omega)).trans ( (show Xi U3 904 18 = Xi U2 904 18 from by rw [eU3]; exact Xi_ne (by omega)).trans ( (show Xi U2 904 18 = Xi U1 904 18 from by rw [eU2]; exact Xi_ne (by omega)).trans ((show Xi U1 904 18 = Xi S 904 18 from by rw [eU1]; exact Xi_ne (by omega)))))
      have w60 : Xi U4 904 49 = Xi S 904 49 := (show Xi U4 904 49 = Xi U3 904 49 from by rw [eU4]; exact Xi_ne (by omega)).trans ( (show Xi U3 904 49 = Xi U2 904 49 from by rw [eU3]; exact Xi_ne (by omega)).trans ( (show Xi U2 904 49 = Xi U1 904 49 from by rw [eU2]; exact Xi_ne (by omega)).trans ((show Xi U1 904 49 = Xi S 904 49 from by rw [eU1]; exact Xi_ne (by omega)))))
      have w61 : Xi U4 904 70 = Xi S 904 70 := (show Xi U4 904 70 = Xi U3 904 70 from by rw [eU4]; exact Xi_ne (by omega)).trans ( (show Xi U3 904 70 = Xi U2 904 70 from by rw [eU3]; exact Xi_ne (by omega)).trans ( (show Xi U2 904 70 = Xi U1 904 70 from by rw [eU2]; exact Xi_ne (by omega)).trans ((show Xi U1 904 70 = Xi S 904 70 from by rw [eU1]; exact Xi_ne (by omega)))))
      have w62 : Xi U4 904 71 = Xi S 904 71 := (show Xi U4 904 71 = Xi U3 904 71 from by rw [eU4]; exact Xi_ne (by omega)).trans ( (show Xi U3 904 71 = Xi U2 904 71 from by rw [eU3]; exact Xi_ne (by omega)).trans ( (show Xi U2 904 71 = Xi U1 904 71 from by rw [eU2]; exact Xi_ne (by omega)).trans ((show Xi U1 904 71 = Xi S 904 71 from by rw [eU1]; exact Xi_ne (by omega)))))
      have w63 : Xi U4 904 72 = Xi S 904 72 := (show Xi U4 904 72 = Xi U3 904 72 from by rw [eU4]; exact Xi_ne (by omega)).trans ( (show Xi U3 904 72 = Xi U2 904 72 from by rw [eU3]; exact Xi_ne (by omega)).trans ( (show Xi U2 904 72 = Xi U1 904 72 from by rw [eU2]; exact Xi_ne (by omega)).trans ((show Xi U1 904 72 = Xi S 904 72 from by rw [eU1]; exact Xi_ne (by omega)))))
      have w64 : Xi U4 904 78 = Xi S 904 78 := (show Xi U4 904 78 = Xi U3 904 78 from by rw [eU4]; exact Xi_ne (by omega)).trans ( (show Xi U3 904 78 = Xi U2 904 78 from by rw [eU3]; exact Xi_ne (by omega)).trans ( (show Xi U2 904 78 = Xi U1 904 78 from by rw [eU2]; exact Xi_ne (by omega)).trans ((show Xi U1 904 78 = Xi S 904 78 from by rw [eU1]; exact Xi_ne (by omega)))))
      refine y_callV rfl rfl rfl (t_mo_askKinds__p hHU4 (by first | assumption | exact (LSP_FR hFU4 rfl rfl (by assumption : LSP S))) (by first | assumption | omega) (by first | assumption | exact (RBD_FR hFU4 rfl (by assumption : RBD S))) (⟨by omega, by omega⟩) (by first | assumption | omega) (by have w : wK U4 = wK S := (by unfold wK; rw [hFU4.x 904 70 rfl, hFU4.x 904 78 rfl]); rw [w, hFU4.x 904 71 rfl, hFU4.x 904 72 rfl]; exact PLO_sm (SMR_FR hFU4 rfl rfl) hp) (by first | assumption | omega) _) ?_
      rintro _ T6 ⟨hHT6, w66, rfl, o242⟩
      have hFT6 : FR md_mo_asked__11f S T6 := FR.tr hFU4 w66 rfl
      show Pl _ _ _ _ _ _ [] _ _
      have W242 : wK U4 = wK S ∧ cK U4 = cK S ∧ mK U4 = mK S := by unfold wK cK mK; rw [hFU4.x 904 70 rfl, hFU4.x 904 78 rfl, hFU4.x 904 49 rfl, hFU4.x 904 18 rfl, hFU4.x 904 16 rfl]; exact ⟨rfl, rfl, rfl⟩
      have O242 : RKD S (Xi S 904 71) (cK S) (mK S) (Xi S 904 72).toNat (wK S) (NT3 T6) := RKD_sm (SMR_FR hFU4 rfl rfl) (by have t := o242; rw [W242.1, W242.2.1, W242.2.2, hFU4.x 904 71 rfl, hFU4.x 904 72 rfl] at t; exact t)
      refine y_goto rfl rfl ?_
      refine y_return rfl rfl ?_
      exact ⟨hHT6, hFT6, rfl⟩
    | 12, hii =>
      cases hii
      have w75 : (Xi S 904 70) = 12 := by simpa using w18
      exfalso; omega
    | 13, hii =>
      cases hii
      have w76 : (Xi S 904 70) = 13 := by simpa using w18
      exfalso; omega
    | 14, hii =>
      cases hii
      have w77 : (Xi S 904 70) = 14 := by simpa using w18
      exfalso; omega
    | 15, hii =>
      cases hii
      have w78 : (Xi S 904 70) = 15 := by simpa using w18
      exfalso; omega
    | 16, hii =>
      cases hii
      have w79 : (Xi S 904 70) = 16 := by simpa using w18
      exfalso; omega
    | 17, hii =>
      cases hii
      have w80 : (Xi S 904 70) = 17 := by simpa using w18
      exfalso; omega
    | 18, hii =>
      cases hii
      have w81 : (Xi S 904 70) = 18 := by simpa using w18
      exfalso; omega
    | 19, hii =>
      cases hii
      have w82 : (Xi S 904 70) = 19 := by simpa using w18
      exfalso; omega
    | 20, hii =>
      cases hii
      have w83 : (Xi S 904 70) = 20 := by simpa using w18
      exfalso; omega
    | n + 21, hii => exact absurd hii (by simp)
def md_mo_asked__12f : List rec := [(904, 905, 64, 65), (904, 905, 104, 105), (904, 905, 105, 106), (904, 905, 106, 107), (904, 905, 108, 109), (904, 905, 109, 110), (904, 905, 110, 111), (904, 905, 112, 113), (904, 905, 113, 114), (904, 905, 115, 116), (904, 905, 116, 117), (966, 967, 0, 100000), (967, 968, 0, 100000), (968, 969, 0, 100000)]
abbrev Q_mo_asked__12f (S : sS) (first : Int) : pst := fun r S1 => RI S1 ∧ FR md_mo_asked__12f S S1 ∧ (r = none)
set_option maxRecDepth 100000 in
theorem t_mo_asked__12f {S : sS} (hH : RI S) (first : Int) (hfirst : 0 ≤ first ∧ first ≤ 5001) (hLS : LSP S) (h15 : 0 ≤ Xi S 904 15) (hRB : RBD S) (hLX : LXR S) (hB : ABV S) (hob : 0 ≤ Xi S 904 19 ∧ Xi S 904 19 ≤ 24) (hko : Hid (∀ j : Nat, -1 ≤ Xi S 918 j ∧ Xi S 918 j ≤ 15)) (hl : 0 ≤ Xi S 904 71 ∧ Xi S 904 71 ≤ 2600 ∧ 0 ≤ Xi S 904 72 ∧ Xi S 904 72 ≤ 2600) (hkk : Hid (∀ k : Nat, (k : Int) < Xi S 904 15 → Xi S 914 k ≤ 1 → Xi S 915 k ≤ 15)) (hp32 : 0 ≤ Xi S 904 32 ∧ Xi S 904 32 ≤ 12) (hr74 : -1 ≤ Xi S 904 74 ∧ Xi S 904 74 ≤ 2600) (hpl : PLL S (Xi S 904 71) (Xi S 904 72).toNat) (hs : Xi S 904 70 = 12) (hpp : Hid ((∀ k : Nat, k < (Xi S 904 72).toNat → pR S (Xi S 904 71 + k) < pR S (Xi S 904 78)) ∧ (Xi S 904 73 ≠ 0 → pR S (Xi S 904 78) < pR S (Xi S 904 74)))) (hfw : 0 ≤ fW S ∧ fW S ≤ 5100 ∧ 0 ≤ nW S ∧ nW S ≤ 5100) (h78 : 0 ≤ Xi S 904 78 ∧ Xi S 904 78 ≤ 2600) (d : Nat) : Mp lay0 (d + 13) m_mo_asked [.ref 904, iv first] S (Q_mo_asked__12f S first) := by
  refine Mp_R rfl rfl (fun fu => ?_)
  have hF : FR md_mo_asked__12f S S := FR.rf
  have w1 : -2147483648 ≤ Xi S 904 104 ∧ Xi S 904 104 ≤ 2147483647 := Xi_rgI
  have w2 : -2147483648 ≤ Xi S 904 105 ∧ Xi S 904 105 ≤ 2147483647 := Xi_rgI
  have w3 : -2147483648 ≤ Xi S 904 106 ∧ Xi S 904 106 ≤ 2147483647 := Xi_rgI
  have w4 : -2147483648 ≤ Xi S 904 108 ∧ Xi S 904 108 ≤ 2147483647 := Xi_rgI
  have w5 : -2147483648 ≤ Xi S 904 109 ∧ Xi S 904 109 ≤ 2147483647 := Xi_rgI
  have w6 : -2147483648 ≤ Xi S 904 15 ∧ Xi S 904 15 ≤ 2147483647 := Xi_rgI
  have w7 : -2147483648 ≤ Xi S 904 19 ∧ Xi S 904 19 ≤ 2147483647 := Xi_rgI
  have w8 : -2147483648 ≤ Xi S 904 32 ∧ Xi S 904 32 ≤ 2147483647 := Xi_rgI
  have w9 : -2147483648 ≤ Xi S 904 70 ∧ Xi S 904 70 ≤ 2147483647 := Xi_rgI
  have w10 : -2147483648 ≤ Xi S 904 71 ∧ Xi S 904 71 ≤ 2147483647 := Xi_rgI
  have w11 : -2147483648 ≤ Xi S 904 72 ∧ Xi S 904 72 ≤ 2147483647 := Xi_rgI
  have w12 : -2147483648 ≤ Xi S 904 73 ∧ Xi S 904 73 ≤ 2147483647 := Xi_rgI
  have w13 : -2147483648 ≤ Xi S 904 74 ∧ Xi S 904 74 ≤ 2147483647 := Xi_rgI
  have w14 : -2147483648 ≤ Xi S 904 78 ∧ Xi S 904 78 ≤ 2147483647 := Xi_rgI
  refine y_aload_n rfl rfl ?_
  refine y_iconst rfl ?_
  refine y_pfi rfl rfl rfl rfl ?_
  obtain ⟨U1, eU1⟩ : ∃ T : sS, T = uI S 904 106 (Int32.ofInt 0) := ⟨_, rfl⟩
  rw [← eU1]
  have hHU1 : RI U1 := by rw [eU1]; exact RI_w hH
  have hFU1 : FR md_mo_asked__12f S U1 := by rw [eU1]; exact FR.wI hF (mdf_i (r := (904, 905, 106, 107)) (List.mem_of_getElem? (i := 3) rfl) (inR_i (by omega) (by omega) (by omega) (by omega)))
  have w15 : Xi U1 904 106 = 0 := by rw [eU1]; exact Xi_same (by unfold rg; omega)
  refine y_aload_n rfl rfl ?_
  refine y_iconst rfl ?_
  refine y_pfi rfl rfl rfl rfl ?_
  obtain ⟨U2, eU2⟩ : ∃ T : sS, T = uI U1 904 108 (Int32.ofInt 0) := ⟨_, rfl⟩
  rw [← eU2]
  have hHU2 : RI U2 := by rw [eU2]; exact RI_w hHU1
  have hFU2 : FR md_mo_asked__12f S U2 := by rw [eU2]; exact FR.wI hFU1 (mdf_i (r := (904, 905, 108, 109)) (List.mem_of_getElem? (i := 4) rfl) (inR_i (by omega) (by omega) (by omega) (by omega)))
  have w16 : Xi U2 904 108 = 0 := by rw [eU2]; exact Xi_same (by unfold rg; omega)
  refine y_aload_n rfl rfl ?_
  refine y_iconst rfl ?_
  refine y_pfi rfl rfl rfl rfl ?_
  obtain ⟨U3, eU3⟩ : ∃ T : sS, T = uI U2 904 115 (Int32.ofInt (-1)) := ⟨_, rfl⟩
  rw [← eU3]
  have hHU3 : RI U3 := by rw [eU3]; exact RI_w hHU2
  have hFU3 : FR md_mo_asked__12f S U3 := by rw [eU3]; exact FR.wI hFU2 (mdf_i (r := (904, 905, 115, 116)) (List.mem_of_getElem? (i := 9) rfl) (inR_i (by omega) (by omega) (by omega) (by omega)))
  have w17 : Xi U3 904 115 = (-1) := by rw [eU3]; exact Xi_same (by unfold rg; omega)
  refine y_aload_n rfl rfl ?_
  refine y_iconst rfl ?_
  refine y_pfi rfl rfl rfl rfl ?_
  obtain ⟨U4, eU4⟩ : ∃ T : sS, T = uI U3 904 116 (Int32.ofInt (-1)) := ⟨_, rfl⟩
  rw [← eU4]
  have hHU4 : RI U4 := by rw [eU4]; exact RI_w hHU3
  have hFU4 : FR md_mo_asked__12f S U4 := by rw [eU4]; exact FR.wI hFU3 (mdf_i (r := (904, 905, 116, 117)) (List.mem_of_getElem? (i := 10) rfl) (inR_i (by omega) (by omega) (by omega) (by omega)))
  have w18 : Xi U4 904 116 = (-1) := by rw [eU4]; exact Xi_same (by unfold rg; omega)
  refine y_aload_n rfl rfl ?_
  refine y_gfi rfl rfl rfl rfl rfl ?_
  have w19 : (Xi U4 904 70) = (Xi S 904 70) := (show Xi U4 904 70 = Xi U3 904 70 from by rw [eU4]; exact Xi_ne (by omega)).trans ( (show Xi U3 904 70 = Xi U2 904 70 from by rw [eU3]; exact Xi_ne (by omega)).trans ( (show Xi U2 904 70 = Xi U1 904 70 from by rw [eU2]; exact Xi_ne (by omega)).trans ((show Xi U1 904 70 = Xi S 904 70 from by rw [eU1]; exact Xi_ne (by omega)))))
  rw [w19]
  refine y_tsw rfl rfl rfl rfl (by unfold rg; omega) (fun w20 => ?_) (fun ii tt hii w20 => ?_)
  · exfalso; omega
  · match ii, hii with
    | 0, hii =>
      cases hii
      have w21 : (Xi S 904 70) = 0 := by simpa using w20
      exfalso; omega
    | 1, hii =>
      cases hii
      have w22 : (Xi S 904 70) = 1 := by simpa using w20
      exfalso; omega
    | 2, hii =>
      cases hii
      have w23 : (Xi S 904 70) = 2 := by simpa using w20
      exfalso; omega
    | 3, hii =>
      cases hii
      have w24 : (Xi S 904 70) = 3 := by simpa using w20
      exfalso; omega
    | 4, hii =>
      cases hii
      have w25 : (Xi S 904 70) = 4 := by simpa using w20
      exfalso; omega
    | 5, hii =>
      cases hii
      have w26 : (Xi S 904 70) = 5 := by simpa using w20
      exfalso; omega
    | 6, hii =>
      cases hii
      have w27 : (Xi S 904 70) = 6 := by simpa using w20
      exfalso; omega
    | 7, hii =>
      cases hii
      have w28 : (Xi S 904 70) = 7 := by simpa using w20
      exfalso; omega
    | 8, hii =>
      cases hii
      have w29 : (Xi S 904 70) = 8 := by simpa using w20
      exfalso; omega
    | 9, hii =>
      cases hii
      have w30 : (Xi S 904 70) = 9 := by simpa using w20
      exfalso; omega
    | 10, hii =>
      cases hii
      have w31 : (Xi S 904 70) = 10 := by simpa using w20
      exfalso; omega
    | 11, hii =>
      cases hii
      have w32 : (Xi S 904 70) = 11 := by simpa using w20
      exfalso; omega
    | 12, hii =>
      cases hii
      have w33 : (Xi S 904 70) = 12 := by simpa using w20
      refine y_aload_n rfl rfl ?_
      have w34 : Xi U4 904 104 = Xi S 904 104 := (show Xi U4 904 104 = Xi U3 904 104 from by rw [eU4]; exact Xi_ne (by omega)).trans ( (show Xi U3 904 104 = Xi U2 904 104 from by rw [eU3]; exact Xi_ne (by omega)).trans ( (show Xi U2 904 104 = Xi U1 904 104 from by rw [eU2]; exact Xi_ne (by omega)).trans ((show Xi U1 904 104 = Xi S 904 104 from by rw [eU1]; exact Xi_ne (by omega)))))
      have w35 : Xi U4 904 105 = Xi S 904 105 := (show Xi U4 904 105 = Xi U3 904 105 from by rw [eU4]; exact Xi_ne (by omega)).trans ( (show Xi U3 904 105 = Xi U2 904 105 from by rw [eU3]; exact Xi_ne (by omega)).trans ( (show Xi U2 904 105 = Xi U1 904 105 from by rw [eU2]; exact Xi_ne (by omega)).trans ((show Xi U1 904 105 = Xi S 904 105 from by rw [eU1]; exact Xi_ne (by omega)))))
      have w36 : Xi U4 904 106 = Xi U1 904 106 := (show Xi U4 904 106 = Xi U3 904 106 from by rw [eU4]; exact Xi_ne (by omega)).trans ( (show Xi U3 904 106 = Xi U2 904 106 from by rw [eU3]; exact Xi_ne (by omega)).trans ((show Xi U2 904 106 = Xi U1 904 106 from by rw [eU2]; exact Xi_ne (by omega))))
      have w37 : Xi U4 904 108 = Xi U2 904 108 := (show Xi U4 904 108 = Xi U3 904 108 from by rw [eU4]; exact Xi_ne (by omega)).trans ((show Xi U3 904 108 = Xi U2 904 108 from by rw [eU3]; exact Xi_ne (by omega)))
      have w38 : Xi U4 904 109 = Xi S 904 109 := (show Xi U4 904 109 = Xi U3 904 109 from by rw [eU4]; exact Xi_ne (by omega)).trans ( (show Xi U3 904 109 = Xi U2 904 109 from by rw [eU3]; exact Xi_ne (by omega)).trans ( (show Xi U2 904 109 = Xi U1 904 109 from by rw [eU2]; exact Xi_ne (by omega)).trans ((show Xi U1 904 109 = Xi S 904 109 from by rw [eU1]; exact Xi_ne (by omega)))))
      have w39 : Xi U4 904 15 = Xi S 904 15 := (show Xi U4 904 15 = Xi U3 904 15 from by rw [eU4]; exact Xi_ne (by omega)).trans ( (show Xi U3 904 15 = Xi U2 904 15 from by rw [eU3]; exact Xi_ne (by omega)).trans ( (show Xi U2 904 15 = Xi U1 904 15 from by rw [eU2]; exact Xi_ne (by omega)).trans ((show Xi U1 904 15 = Xi S 904 15 from by rw [eU1]; exact Xi_ne (by omega)))))
      have w40 : Xi U4 904 19 = Xi S 904 19 := (show Xi U4 904 19 = Xi U3 904 19 from by rw [eU4]; exact Xi_ne (by omega)).trans ( (show Xi U3 904 19 = Xi U2 904 19 from by rw [eU3]; exact Xi_ne (by omega)).trans ( (show Xi U2 904 19 = Xi U1 904 19 from by rw [eU2]; exact Xi_ne (by omega)).trans ((show Xi U1 904 19 = Xi S 904 19 from by rw [eU1]; exact Xi_ne (by omega)))))
      have w41 : Xi U4 904 32 = Xi S 904 32 := (show Xi U4 904 32 = Xi U3 904 32 from by rw [eU4]; exact Xi_ne (by omega)).trans ( (show Xi U3 904 32 = Xi U2 904 32 from by rw [eU3]; exact Xi_ne (by omega)).trans ( (show Xi U2 904 32 = Xi U1 904 32 from by rw [eU2]; exact Xi_ne (by omega)).trans ((show Xi U1 904 32 = Xi S 904 32 from by rw [eU1]; exact Xi_ne (by omega)))))
      have w42 : Xi U4 904 70 = Xi S 904 70 := (show Xi U4 904 70 = Xi U3 904 70 from by rw [eU4]; exact Xi_ne (by omega)).trans ( (show Xi U3 904 70 = Xi U2 904 70 from by rw [eU3]; exact Xi_ne (by omega)).trans ( (show Xi U2 904 70 = Xi U1 904 70 from by rw [eU2]; exact Xi_ne (by omega)).trans ((show Xi U1 904 70 = Xi S 904 70 from by rw [eU1]; exact Xi_ne (by omega)))))
      have w43 : Xi U4 904 71 = Xi S 904 71 := (show Xi U4 904 71 = Xi U3 904 71 from by rw [eU4]; exact Xi_ne (by omega)).trans ( (show Xi U3 904 71 = Xi U2 904 71 from by rw [eU3]; exact Xi_ne (by omega)).trans ( (show Xi U2 904 71 = Xi U1 904 71 from by rw [eU2]; exact Xi_ne (by omega)).trans ((show Xi U1 904 71 = Xi S 904 71 from by rw [eU1]; exact Xi_ne (by omega)))))
      have w44 : Xi U4 904 72 = Xi S 904 72 := (show Xi U4 904 72 = Xi U3 904 72 from by rw [eU4]; exact Xi_ne (by omega)).trans ( (show Xi U3 904 72 = Xi U2 904 72 from by rw [eU3]; exact Xi_ne (by omega)).trans ( (show Xi U2 904 72 = Xi U1 904 72 from by rw [eU2]; exact Xi_ne (by omega)).trans ((show Xi U1 904 72 = Xi S 904 72 from by rw [eU1]; exact Xi_ne (by omega)))))
      have w45 : Xi U4 904 73 = Xi S 904 73 := (show Xi U4 904 73 = Xi U3 904 73 from by rw [eU4]; exact Xi_ne (by omega)).trans ( (show Xi U3 904 73 = Xi U2 904 73 from by rw [eU3]; exact Xi_ne (by omega)).trans ( (show Xi U2 904 73 = Xi U1 904 73 from by rw [eU2]; exact Xi_ne (by omega)).trans ((show Xi U1 904 73 = Xi S 904 73 from by rw [eU1]; exact Xi_ne (by omega)))))
      have w46 : Xi U4 904 74 = Xi S 904 74 := (show Xi U4 904 74 = Xi U3 904 74 from by rw [eU4]; exact Xi_ne (by omega)).trans ( (show Xi U3 904 74 = Xi U2 904 74 from by rw [eU3]; exact Xi_ne (by omega)).trans ( (show Xi U2 904 74 = Xi U1 904 74 from by rw [eU2]; exact Xi_ne (by omega)).trans ((show Xi U1 904 74 = Xi S 904 74 from by rw [eU1]; exact Xi_ne (by omega)))))
      have w47 : Xi U4 904 78 = Xi S 904 78 := (show Xi U4 904 78 = Xi U3 904 78 from by rw [eU4]; exact Xi_ne (by omega)).trans ( (show Xi U3 904 78 = Xi U2 904 78 from by rw [eU3]; exact Xi_ne (by omega)).trans ( (show Xi U2 904 78 = Xi U1 904 78 from by rw [eU2]; exact Xi_ne (by omega)).trans ((show Xi U1 904 78 = Xi S 904 78 from by rw [eU1]; exact Xi_ne (by omega)))))
      refine y_callV rfl rfl rfl (t_mo_objectsOrNew__p hHU4 (by first | assumption | exact (LSP_FR hFU4 rfl rfl (by assumption : LSP S))) (by first | assumption | omega) (by first | assumption | exact (RBD_FR hFU4 rfl (by assumption : RBD S))) (⟨by omega, by omega⟩) (by first | assumption | omega) (by first | assumption | omega) (fun k i a b => by rw [hFU4.x 904 71 rfl] at *; rw [hFU4.x 904 72 rfl] at b; rw [pR_sm (SMR_FR hFU4 rfl rfl), pR_sm (SMR_FR hFU4 rfl rfl)]; exact hpl k i a b) _) ?_
      rintro _ T5 ⟨hHT5, w49, rfl, o249⟩
      have hFT5 : FR md_mo_asked__12f S T5 := FR.tr hFU4 w49 rfl
      show Pl _ _ _ _ _ _ [] _ _
      have z249 : (NT3 U4).1 = 0 := by show Xi U4 904 106 = 0; omega
      have F249 := (by assumption : FR md_mo_objectsOrNew__p U4 T5)
      have G249 := hFU4
      have M249 : Hid (AMR U4 T5) := AMR_FR F249 rfl rfl
      refine y_aload_n rfl rfl ?_
      refine y_iconst rfl ?_
      refine y_pfi rfl rfl rfl rfl ?_
      obtain ⟨U6, eU6⟩ : ∃ T : sS, T = uI T5 904 109 (Int32.ofInt 0) := ⟨_, rfl⟩
      rw [← eU6]
      have hHU6 : RI U6 := by rw [eU6]; exact RI_w hHT5
      have hFU6 : FR md_mo_asked__12f S U6 := by rw [eU6]; exact FR.wI hFT5 (mdf_i (r := (904, 905, 109, 110)) (List.mem_of_getElem? (i := 5) rfl) (inR_i (by omega) (by omega) (by omega) (by omega)))
      have w50 : Xi U6 904 109 = 0 := by rw [eU6]; exact Xi_same (by unfold rg; omega)
      have ee254 := eU6
      have M254 : Hid (AMR T5 U6) := AMR_w AMR.rf eU6 (by omega)
      have z254 : Xi U6 904 109 = 0 := by rw [eU6]; exact Xi_same (by unfold rg; omega)
      have k254 : NT3 U6 = NT3 T5 := by unfold NT3; rw [eU6, Xi_ne (by omega), Xi_ne (by omega), Xi_ne (by omega)]
      refine y_aload_n rfl rfl ?_
      refine y_aload_n rfl rfl ?_
      refine y_gfr rfl rfl rfl rfl rfl (hHU6.r 904 67 950 rfl) ?_
      refine y_aload_n rfl rfl ?_
      refine y_gfi rfl rfl rfl rfl rfl ?_
      have w51 : (Xi U6 904 78) = (Xi S 904 78) := (show Xi U6 904 78 = Xi T5 904 78 from by rw [eU6]; exact Xi_ne (by omega)).trans ( (show Xi T5 904 78 = Xi U4 904 78 from w49.x _ _ rfl).trans ( (show Xi U4 904 78 = Xi U3 904 78 from by rw [eU4]; exact Xi_ne (by omega)).trans ( (show Xi U3 904 78 = Xi U2 904 78 from by rw [eU3]; exact Xi_ne (by omega)).trans ( (show Xi U2 904 78 = Xi U1 904 78 from by rw [eU2]; exact Xi_ne (by omega)).trans ((show Xi U1 904 78 = Xi S 904 78 from by rw [eU1]; exact Xi_ne (by omega)))))))
      rw [w51]
      refine y_ialoadP (n := 2600) rfl rfl (by unfold rg; omega) (fun w52 w53 => ?_)
      have w54 : -2147483648 ≤ (Xi U6 950 (((Xi S 904 78)).toNat)) ∧ (Xi U6 950 (((Xi S 904 78)).toNat)) ≤ 2147483647 := Xi_rgI
      have q266 : (Xi U6 950 (((Xi S 904 78)).toNat)) = fW S := by unfold fW; rw [(hFU6.cx 950 rfl _).1]
      refine y_aload_n rfl rfl ?_
      refine y_gfr rfl rfl rfl rfl rfl (hHU6.r 904 68 951 rfl) ?_
      refine y_aload_n rfl rfl ?_
      refine y_gfi rfl rfl rfl rfl rfl ?_
      have w55 : (Xi U6 904 78) = (Xi S 904 78) := (show Xi U6 904 78 = Xi T5 904 78 from by rw [eU6]; exact Xi_ne (by omega)).trans ( (show Xi T5 904 78 = Xi U4 904 78 from w49.x _ _ rfl).trans ( (show Xi U4 904 78 = Xi U3 904 78 from by rw [eU4]; exact Xi_ne (by omega)).trans ( (show Xi U3 904 78 = Xi U2 904 78 from by rw [eU3]; exact Xi_ne (by omega)).trans ( (show Xi U2 904 78 = Xi U1 904 78 from by rw [eU2]; exact Xi_ne (by omega)).trans ((show Xi U1 904 78 = Xi S 904 78 from by rw [eU1]; exact Xi_ne (by omega)))))))
      rw [w55]
      refine y_ialoadP (n := 2600) rfl rfl (by unfold rg; omega) (fun w56 w57 => ?_)
      have w58 : -2147483648 ≤ (Xi U6 951 (((Xi S 904 78)).toNat)) ∧ (Xi U6 951 (((Xi S 904 78)).toNat)) ≤ 2147483647 := Xi_rgI
      have q275 : (Xi U6 951 (((Xi S 904 78)).toNat)) = nW S := by unfold nW; rw [(hFU6.cx 951 rfl _).1]
      refine y_iconst rfl ?_
      refine y_iconst rfl ?_
      refine y_iconst rfl ?_
      have w59 : Xi U6 904 104 = Xi T5 904 104 := (show Xi U6 904 104 = Xi T5 904 104 from by rw [eU6]; exact Xi_ne (by omega))
      have w60 : Xi U6 904 105 = Xi T5 904 105 := (show Xi U6 904 105 = Xi T5 904 105 from by rw [eU6]; exact Xi_ne (by omega))
      have w61 : Xi U6 904 106 = Xi T5 904 106 := (show Xi U6 904 106 = Xi T5 904 106 from by rw [eU6]; exact Xi_ne (by omega))
      have w62 : Xi U6 904 108 = Xi T5 904 108 := (show Xi U6 904 108 = Xi T5 904 108 from by rw [eU6]; exact Xi_ne (by omega))
      have w63 : Xi U6 904 15 = Xi S 904 15 := (show Xi U6 904 15 = Xi T5 904 15 from by rw [eU6]; exact Xi_ne (by omega)).trans ( (show Xi T5 904 15 = Xi U4 904 15 from w49.x _ _ rfl).trans ( (show Xi U4 904 15 = Xi U3 904 15 from by rw [eU4]; exact Xi_ne (by omega)).trans ( (show Xi U3 904 15 = Xi U2 904 15 from by rw [eU3]; exact Xi_ne (by omega)).trans ( (show Xi U2 904 15 = Xi U1 904 15 from by rw [eU2]; exact Xi_ne (by omega)).trans ((show Xi U1 904 15 = Xi S 904 15 from by rw [eU1]; exact Xi_ne (by omega)))))))
      have w64 : Xi U6 904 19 = Xi S 904 19 := (show Xi U6 904 19 = Xi T5 904 19 from by rw [eU6]; exact Xi_ne (by omega)).trans ( (show Xi T5 904 19 = Xi U4 904 19 from w49.x _ _ rfl).trans ( (show Xi U4 904 19 = Xi U3 904 19 from by rw [eU4]; exact Xi_ne (by omega)).trans ( (show Xi U3 904 19 = Xi U2 904 19 from by rw [eU3]; exact Xi_ne (by omega)).trans ( (show Xi U2 904 19 = Xi U1 904 19 from by rw [eU2]; exact Xi_ne (by omega)).trans ((show Xi U1 904 19 = Xi S 904 19 from by rw [eU1]; exact Xi_ne (by omega)))))))
      have w65 : Xi U6 904 32 = Xi S 904 32 := (show Xi U6 904 32 = Xi T5 904 32 from by rw [eU6]; exact Xi_ne (by omega)).trans ( (show Xi T5 904 32 = Xi U4 904 32 from w49.x _ _ rfl).trans ( (show Xi U4 904 32 = Xi U3 904 32 from by rw [eU4]; exact Xi_ne (by omega)).trans ( (show Xi U3 904 32 = Xi U2 904 32 from by rw [eU3]; exact Xi_ne (by omega)).trans ( (show Xi U2 904 32 = Xi U1 904 32 from by rw [eU2]; exact Xi_ne (by omega)).trans ((show Xi U1 904 32 = Xi S 904 32 from by rw [eU1]; exact Xi_ne (by omega)))))))
      have w66 : Xi U6 904 70 = Xi S 904 70 := (show Xi U6 904 70 = Xi T5 904 70 from by rw [eU6]; exact Xi_ne (by omega)).trans ( (show Xi T5 904 70 = Xi U4 904 70 from w49.x _ _ rfl).trans ( (show Xi U4 904 70 = Xi U3 904 70 from by rw [eU4]; exact Xi_ne (by omega)).trans ( (show Xi U3 904 70 = Xi U2 904 70 from by rw [eU3]; exact Xi_ne (by omega)).trans ( (show Xi U2 904 70 = Xi U1 904 70 from by rw [eU2]; exact Xi_ne (by omega)).trans ((show Xi U1 904 70 = Xi S 904 70 from by rw [eU1]; exact Xi_ne (by omega)))))))
      have w67 : Xi U6 904 71 = Xi S 904 71 := (show Xi U6 904 71 = Xi T5 904 71 from by rw [eU6]; exact Xi_ne (by omega)).trans ( (show Xi T5 904 71 = Xi U4 904 71 from w49.x _ _ rfl).trans ( (show Xi U4 904 71 = Xi U3 904 71 from by rw [eU4]; exact Xi_ne (by omega)).trans ( (show Xi U3 904 71 = Xi U2 904 71 from by rw [eU3]; exact Xi_ne (by omega)).trans ( (show Xi U2 904 71 = Xi U1 904 71 from by rw [eU2]; exact Xi_ne (by omega)).trans ((show Xi U1 904 71 = Xi S 904 71 from by rw [eU1]; exact Xi_ne (by omega)))))))
      have w68 : Xi U6 904 72 = Xi S 904 72 := (show Xi U6 904 72 = Xi T5 904 72 from by rw [eU6]; exact Xi_ne (by omega)).trans ( (show Xi T5 904 72 = Xi U4 904 72 from w49.x _ _ rfl).trans ( (show Xi U4 904 72 = Xi U3 904 72 from by rw [eU4]; exact Xi_ne (by omega)).trans ( (show Xi U3 904 72 = Xi U2 904 72 from by rw [eU3]; exact Xi_ne (by omega)).trans ( (show Xi U2 904 72 = Xi U1 904 72 from by rw [eU2]; exact Xi_ne (by omega)).trans ((show Xi U1 904 72 = Xi S 904 72 from by rw [eU1]; exact Xi_ne (by omega)))))))
      have w69 : Xi U6 904 73 = Xi S 904 73 := (show Xi U6 904 73 = Xi T5 904 73 from by rw [eU6]; exact Xi_ne (by omega)).trans ( (show Xi T5 904 73 = Xi U4 904 73 from w49.x _ _ rfl).trans ( (show Xi U4 904 73 = Xi U3 904 73 from by rw [eU4]; exact Xi_ne (by omega)).trans ( (show Xi U3 904 73 = Xi U2 904 73 from by rw [eU3]; exact Xi_ne (by omega)).trans ( (show Xi U2 904 73 = Xi U1 904 73 from by rw [eU2]; exact Xi_ne (by omega)).trans ((show Xi U1 904 73 = Xi S 904 73 from by rw [eU1]; exact Xi_ne (by omega)))))))
      have w70 : Xi U6 904 74 = Xi S 904 74 := (show Xi U6 904 74 = Xi T5 904 74 from by rw [eU6]; exact Xi_ne (by omega)).trans ( (show Xi T5 904 74 = Xi U4 904 74 from w49.x _ _ rfl).trans ( (show Xi U4 904 74 = Xi U3 904 74 from by rw [eU4]; exact Xi_ne (by omega)).trans ( (show Xi U3 904 74 = Xi U2 904 74 from by rw [eU3]; exact Xi_ne (by omega)).trans ( (show Xi U2 904 74 = Xi U1 904 74 from by rw [eU2]; exact Xi_ne (by omega)).trans ((show Xi U1 904 74 = Xi S 904 74 from by rw [eU1]; exact Xi_ne (by omega)))))))
      have w71 : Xi U6 904 78 = Xi S 904 78 := (show Xi U6 904 78 = Xi T5 904 78 from by rw [eU6]; exact Xi_ne (by omega)).trans ( (show Xi T5 904 78 = Xi U4 904 78 from w49.x _ _ rfl).trans ( (show Xi U4 904 78 = Xi U3 904 78 from by rw [eU4]; exact Xi_ne (by omega)).trans ( (show Xi U3 904 78 = Xi U2 904 78 from by rw [eU3]; exact Xi_ne (by omega)).trans ( (show Xi U2 904 78 = Xi U1 904 78 from by rw [eU2]; exact Xi_ne (by omega)).trans ((show Xi U1 904 78 = Xi S 904 78 from by rw [eU1]; exact Xi_ne (by omega)))))))
      refine y_callV rfl rfl rfl (t_mo_describe__p hHU6 (Xi U6 950 (((Xi S 904 78)).toNat)) (Xi U6 951 (((Xi S 904 78)).toNat)) 0 0 (-1) ⟨by omega, by omega⟩ ⟨by omega, by omega⟩ ⟨by omega, by omega⟩ ⟨by omega, by omega⟩ ⟨by omega, by omega⟩ (by first | assumption | exact (LSP_FR hFU6 rfl rfl (by assumption : LSP S))) (by first | assumption | omega) (by first | assumption | exact (LXR_FR hFU6 rfl rfl (by assumption : LXR S))) (by first | assumption | exact (ABV_FR hFU6 rfl (by assumption : ABV S))) (by first | assumption | omega) (fun k hk h1 => by rw [hFU6.x 904 15 rfl] at hk; rw [(hFU6.cx 914 rfl k).1] at h1; rw [(hFU6.cx 915 rfl k).1]; exact hkk.o k hk h1) (by first | assumption | omega) _) ?_
      rintro _ T7 ⟨hHT7, w73, rfl, o279⟩
      have hFT7 : FR md_mo_asked__12f S T7 := FR.tr hFU6 w73 rfl
      show Pl _ _ _ _ _ _ [] _ _
      have F279 := (by assumption : FR md_mo_describe__p U6 T7)
      have O279 : Hid ((nW S ≤ 6 → KDS U6 T7 (fW S) (nW S) 0 0 (-1) 4) ∧ (6 < nW S → T7 = U6)) := by have t := o279; rw [q266, q275] at t; exact t
      clear o279
      have M279 : Hid (AMR S U6) := AMR_FR hFU6 rfl rfl
      have T279 : Hid ((6 < nW S → Xi T7 904 109 = 0) ∧ (nW S ≤ 6 → Xi T7 904 109 = dcT S (fW S) (nW S) 0 0 (-1) 4)) := ⟨fun q => by rw [O279.o.2 q]; exact z254, fun q => by have t := (O279.o.1 q).1; rw [z254, dcT_am M279.o] at t; omega⟩
      have n279 : NT3 T7 = NT3 U6 := by unfold NT3; rw [F279.x 904 106 rfl, F279.x 904 105 rfl, F279.x 904 104 rfl]
      have y279 : 0 ≤ Xi T7 904 109 := by by_cases q : nW S ≤ 6; (have a := T279.o.2 q; have b := dcT_nn (S := S) (f := fW S) (n := nW S) (pl := 0) (d := 0) (al := -1) (v := 4) hp32; omega); (have a := T279.o.1 (by omega); omega)
      have K279 : Hid (DR1 S → ∃ m : Int, (1 ≤ m ∧ m ≤ 3 ∧ m ≤ nW S) ∧ dcR S (fW S) (nW S) 0 0 (-1) m = 1 ∧ KRD S T7 (fW S) (nW S) 0 0 m) := fun d => by obtain ⟨m, m1, m2, m3, m4⟩ := (O279.o.1 d.1).2.2 z254 (by rw [dcT_am M279.o, d.2]; omega); rw [dcR_am M279.o] at m3; exact ⟨m, ⟨m1.1, by omega, m1.2.2⟩, dcT_1 d.2 (by omega) m1.2.2 m3 hp32, KRD_am M279.o m4⟩
      refine y_aload_n rfl rfl ?_
      refine y_aload_n rfl rfl ?_
      refine y_gfr rfl rfl rfl rfl rfl (hHT7.r 904 67 950 rfl) ?_
      refine y_aload_n rfl rfl ?_
      refine y_gfi rfl rfl rfl rfl rfl ?_
      have w74 : (Xi T7 904 78) = (Xi S 904 78) := (show Xi T7 904 78 = Xi U6 904 78 from w73.x _ _ rfl).trans ( (show Xi U6 904 78 = Xi T5 904 78 from by rw [eU6]; exact Xi_ne (by omega)).trans ( (show Xi T5 904 78 = Xi U4 904 78 from w49.x _ _ rfl).trans ( (show Xi U4 904 78 = Xi U3 904 78 from by rw [eU4]; exact Xi_ne (by omega)).trans ( (show Xi U3 904 78 = Xi U2 904 78 from by rw [eU3]; exact Xi_ne (by omega)).trans ( (show Xi U2 904 78 = Xi U1 904 78 from by rw [eU2]; exact Xi_ne (by omega)).trans ((show Xi U1 904 78 = Xi S 904 78 from by rw [eU1]; exact Xi_ne (by omega))))))))
      rw [w74]
      refine y_ialoadP (n := 2600) rfl rfl (by unfold rg; omega) (fun w75 w76 => ?_)
      have w77 : (Xi T7 950 (((Xi S 904 78)).toNat)) = (Xi U6 950 (((Xi S 904 78)).toNat)) := (show Xi T7 950 (((Xi S 904 78)).toNat) = Xi U6 950 (((Xi S 904 78)).toNat) from w73.x _ _ rfl)
      rw [w77]
      have w78 : Xi T7 904 104 = Xi T5 904 104 := (show Xi T7 904 104 = Xi U6 904 104 from w73.x _ _ rfl).trans ((show Xi U6 904 104 = Xi T5 904 104 from by rw [eU6]; exact Xi_ne (by omega)))
      have w79 : Xi T7 904 105 = Xi T5 904 105 := (show Xi T7 904 105 = Xi U6 904 105 from w73.x _ _ rfl).trans ((show Xi U6 904 105 = Xi T5 904 105 from by rw [eU6]; exact Xi_ne (by omega)))
      have w80 : Xi T7 904 106 = Xi T5 904 106 := (show Xi T7 904 106 = Xi U6 904 106 from w73.x _ _ rfl).trans ((show Xi U6 904 106 = Xi T5 904 106 from by rw [eU6]; exact Xi_ne (by omega)))
      have w81 : Xi T7 904 108 = Xi T5 904 108 := (show Xi T7 904 108 = Xi U6 904 108 from w73.x _ _ rfl).trans ((show Xi U6 904 108 = Xi T5 904 108 from by rw [eU6]; exact Xi_ne (by omega)))
      have w82 : Xi T7 904 15 = Xi S 904 15 := (show Xi T7 904 15 = Xi U6 904 15 from w73.x _ _ rfl).trans ( (show Xi U6 904 15 = Xi T5 904 15 from by rw [eU6]; exact Xi_ne (by omega)).trans ( (show Xi T5 904 15 = Xi U4 904 15 from w49.x _ _ rfl).trans ( (show Xi U4 904 15 = Xi U3 904 15 from by rw [eU4]; exact Xi_ne (by omega)).trans ( (show Xi U3 904 15 = Xi U2 904 15 from by rw [eU3]; exact Xi_ne (by omega)).trans ( (show Xi U2 904 15 = Xi U1 904 15 from by rw [eU2]; exact Xi_ne (by omega)).trans ((show Xi U1 904 15 = Xi S 904 15 from by rw [eU1]; exact Xi_ne (by omega))))))))
      have w83 : Xi T7 904 19 = Xi S 904 19 := (show Xi T7 904 19 = Xi U6 904 19 from w73.x _ _ rfl).trans ( (show Xi U6 904 19 = Xi T5 904 19 from by rw [eU6]; exact Xi_ne (by omega)).trans ( (show Xi T5 904 19 = Xi U4 904 19 from w49.x _ _ rfl).trans ( (show Xi U4 904 19 = Xi U3 904 19 from by rw [eU4]; exact Xi_ne (by omega)).trans ( (show Xi U3 904 19 = Xi U2 904 19 from by rw [eU3]; exact Xi_ne (by omega)).trans ( (show Xi U2 904 19 = Xi U1 904 19 from by rw [eU2]; exact Xi_ne (by omega)).trans ((show Xi U1 904 19 = Xi S 904 19 from by rw [eU1]; exact Xi_ne (by omega))))))))
      have w84 : Xi T7 904 32 = Xi S 904 32 := (show Xi T7 904 32 = Xi U6 904 32 from w73.x _ _ rfl).trans ( (show Xi U6 904 32 = Xi T5 904 32 from by rw [eU6]; exact Xi_ne (by omega)).trans ( (show Xi T5 904 32 = Xi U4 904 32 from w49.x _ _ rfl).trans ( (show Xi U4 904 32 = Xi U3 904 32 from by rw [eU4]; exact Xi_ne (by omega)).trans ( (show Xi U3 904 32 = Xi U2 904 32 from by rw [eU3]; exact Xi_ne (by omega)).trans ( (show Xi U2 904 32 = Xi U1 904 32 from by rw [eU2]; exact Xi_ne (by omega)).trans ((show Xi U1 904 32 = Xi S 904 32 from by rw [eU1]; exact Xi_ne (by omega))))))))
      have w85 : Xi T7 904 70 = Xi S 904 70 := (show Xi T7 904 70 = Xi U6 904 70 from w73.x _ _ rfl).trans ( (show Xi U6 904 70 = Xi T5 904 70 from by rw [eU6]; exact Xi_ne (by omega)).trans ( (show Xi T5 904 70 = Xi U4 904 70 from w49.x _ _ rfl).trans ( (show Xi U4 904 70 = Xi U3 904 70 from by rw [eU4]; exact Xi_ne (by omega)).trans ( (show Xi U3 904 70 = Xi U2 904 70 from by rw [eU3]; exact Xi_ne (by omega)).trans ( (show Xi U2 904 70 = Xi U1 904 70 from by rw [eU2]; exact Xi_ne (by omega)).trans ((show Xi U1 904 70 = Xi S 904 70 from by rw [eU1]; exact Xi_ne (by omega))))))))
      have w86 : Xi T7 904 71 = Xi S 904 71 := (show Xi T7 904 71 = Xi U6 904 71 from w73.x _ _ rfl).trans ( (show Xi U6 904 71 = Xi T5 904 71 from by rw [eU6]; exact Xi_ne (by omega)).trans ( (show Xi T5 904 71 = Xi U4 904 71 from w49.x _ _ rfl).trans ( (show Xi U4 904 71 = Xi U3 904 71 from by rw [eU4]; exact Xi_ne (by omega)).trans ( (show Xi U3 904 71 = Xi U2 904 71 from by rw [eU3]; exact Xi_ne (by omega)).trans ( (show Xi U2 904 71 = Xi U1 904 71 from by rw [eU2]; exact Xi_ne (by omega)).trans ((show Xi U1 904 71 = Xi S 904 71 from by rw [eU1]; exact Xi_ne (by omega))))))))
      have w87 : Xi T7 904 72 = Xi S 904 72 := (show Xi T7 904 72 = Xi U6 904 72 from w73.x _ _ rfl).trans ( (show Xi U6 904 72 = Xi T5 904 72 from by rw [eU6]; exact Xi_ne (by omega)).trans ( (show Xi T5 904 72 = Xi U4 904 72 from w49.x _ _ rfl).trans ( (show Xi U4 904 72 = Xi U3 904 72 from by rw [eU4]; exact Xi_ne (by omega)).trans ( (show Xi U3 904 72 = Xi U2 904 72 from by rw [eU3]; exact Xi_ne (by omega)).trans ( (show Xi U2 904 72 = Xi U1 904 72 from by rw [eU2]; exact Xi_ne (by omega)).trans ((show Xi U1 904 72 = Xi S 904 72 from by rw [eU1]; exact Xi_ne (by omega))))))))
      have w88 : Xi T7 904 73 = Xi S 904 73 := (show Xi T7 904 73 = Xi U6 904 73 from w73.x _ _ rfl).trans ( (show Xi U6 904 73 = Xi T5 904 73 from by rw [eU6]; exact Xi_ne (by omega)).trans ( (show Xi T5 904 73 = Xi U4 904 73 from w49.x _ _ rfl).trans ( (show Xi U4 904 73 = Xi U3 904 73 from by rw [eU4]; exact Xi_ne (by omega)).trans ( (show Xi U3 904 73 = Xi U2 904 73 from by rw [eU3]; exact Xi_ne (by omega)).trans ( (show Xi U2 904 73 = Xi U1 904 73 from by rw [eU2]; exact Xi_ne (by omega)).trans ((show Xi U1 904 73 = Xi S 904 73 from by rw [eU1]; exact Xi_ne (by omega))))))))
      have w89 : Xi T7 904 74 = Xi S 904 74 := (show Xi T7 904 74 = Xi U6 904 74 from w73.x _ _ rfl).trans ( (show Xi U6 904 74 = Xi T5 904 74 from by rw [eU6]; exact Xi_ne (by omega)).trans ( (show Xi T5 904 74 = Xi U4 904 74 from w49.x _ _ rfl).trans ( (show Xi U4 904 74 = Xi U3 904 74 from by rw [eU4]; exact Xi_ne (by omega)).trans ( (show Xi U3 904 74 = Xi U2 904 74 from by rw [eU3]; exact Xi_ne (by omega)).trans ( (show Xi U2 904 74 = Xi U1 904 74 from by rw [eU2]; exact Xi_ne (by omega)).trans ((show Xi U1 904 74 = Xi S 904 74 from by rw [eU1]; exact Xi_ne (by omega))))))))
      have w90 : Xi T7 904 78 = Xi S 904 78 := (show Xi T7 904 78 = Xi U6 904 78 from w73.x _ _ rfl).trans ( (show Xi U6 904 78 = Xi T5 904 78 from by rw [eU6]; exact Xi_ne (by omega)).trans ( (show Xi T5 904 78 = Xi U4 904 78 from w49.x _ _ rfl).trans ( (show Xi U4 904 78 = Xi U3 904 78 from by rw [eU4]; exact Xi_ne (by omega)).trans ( (show Xi U3 904 78 = Xi U2 904 78 from by rw [eU3]; exact Xi_ne (by omega)).trans ( (show Xi U2 904 78 = Xi U1 904 78 from by rw [eU2]; exact Xi_ne (by omega)).trans ((show Xi U1 904 78 = Xi S 904 78 from by rw [eU1]; exact Xi_ne (by omega))))))))
      refine y_callV rfl rfl rfl (t_mo_oneReading__p hHT7 (Xi U6 950 (((Xi S 904 78)).toNat)) ⟨by omega, by omega⟩ _) ?_
      rintro _ T8 ⟨hHT8, w92, rfl, nt292⟩
      have hFT8 : FR md_mo_asked__12f S T8 := FR.tr hFT7 w92 rfl
      show Pl _ _ _ _ _ _ [] _ _
      have F292 := (by assumption : FR md_mo_oneReading__p T7 T8)
      have n292 : Hid (NT3 T8 = if Xi T7 904 109 ≤ 0 then ntF (NT3 T5) 4 (pR S (Xi S 904 78)) else if 2 ≤ Xi T7 904 109 then ntF (NT3 T5) 7 (pR S (Xi S 904 78)) else NT3 T5) := by have t := nt292; rw [n279, k254, (hFT7.cx 908 rfl _).1] at t; first | (rw [q266] at t; exact t) | (rw [(hFT7.cx 950 rfl _).1] at t; exact t)
      refine y_aload_n rfl rfl ?_
      have w93 : Xi T8 904 108 = Xi T5 904 108 := (show Xi T8 904 108 = Xi T7 904 108 from w92.x _ _ rfl).trans ( (show Xi T7 904 108 = Xi U6 904 108 from w73.x _ _ rfl).trans ((show Xi U6 904 108 = Xi T5 904 108 from by rw [eU6]; exact Xi_ne (by omega))))
      have w94 : Xi T8 904 109 = Xi T7 904 109 := (show Xi T8 904 109 = Xi T7 904 109 from w92.x _ _ rfl)
      have w95 : Xi T8 904 15 = Xi S 904 15 := (show Xi T8 904 15 = Xi T7 904 15 from w92.x _ _ rfl).trans ( (show Xi T7 904 15 = Xi U6 904 15 from w73.x _ _ rfl).trans ( (show Xi U6 904 15 = Xi T5 904 15 from by rw [eU6]; exact Xi_ne (by omega)).trans ( (show Xi T5 904 15 = Xi U4 904 15 from w49.x _ _ rfl).trans ( (show Xi U4 904 15 = Xi U3 904 15 from by rw [eU4]; exact Xi_ne (by omega)).trans ( (show Xi U3 904 15 = Xi U2 904 15 from by rw [eU3]; exact Xi_ne (by omega)).trans ( (show Xi U2 904 15 = Xi U1 904 15 from by rw [eU2]; exact Xi_ne (by omega)).trans ((show Xi U1 904 15 = Xi S 904 15 from by rw [eU1]; exact Xi_ne (by omega)))))))))
      have w96 : Xi T8 904 19 = Xi S 904 19 := (show Xi T8 904 19 = Xi T7 904 19 from w92.x _ _ rfl).trans ( (show Xi T7 904 19 = Xi U6 904 19 from w73.x _ _ rfl).trans ( (show Xi U6 904 19 = Xi T5 904 19 from by rw [eU6]; exact Xi_ne (by omega)).trans ( (show Xi T5 904 19 = Xi U4 904 19 from w49.x _ _ rfl).trans ( (show Xi U4 904 19 = Xi U3 904 19 from by rw [eU4]; exact Xi_ne (by omega)).trans ( (show Xi U3 904 19 = Xi U2 904 19 from by rw [eU3]; exact Xi_ne (by omega)).trans ( (show Xi U2 904 19 = Xi U1 904 19 from by rw [eU2]; exact Xi_ne (by omega)).trans ((show Xi U1 904 19 = Xi S 904 19 from by rw [eU1]; exact Xi_ne (by omega)))))))))
      have w97 : Xi T8 904 32 = Xi S 904 32 := (show Xi T8 904 32 = Xi T7 904 32 from w92.x _ _ rfl).trans ( (show Xi T7 904 32 = Xi U6 904 32 from w73.x _ _ rfl).trans ( (show Xi U6 904 32 = Xi T5 904 32 from by rw [eU6]; exact Xi_ne (by omega)).trans ( (show Xi T5 904 32 = Xi U4 904 32 from w49.x _ _ rfl).trans ( (show Xi U4 904 32 = Xi U3 904 32 from by rw [eU4]; exact Xi_ne (by omega)).trans ( (show Xi U3 904 32 = Xi U2 904 32 from by rw [eU3]; exact Xi_ne (by omega)).trans ( (show Xi U2 904 32 = Xi U1 904 32 from by rw [eU2]; exact Xi_ne (by omega)).trans ((show Xi U1 904 32 = Xi S 904 32 from by rw [eU1]; exact Xi_ne (by omega)))))))))
      have w98 : Xi T8 904 70 = Xi S 904 70 := (show Xi T8 904 70 = Xi T7 904 70 from w92.x _ _ rfl).trans ( (show Xi T7 904 70 = Xi U6 904 70 from w73.x _ _ rfl).trans ( (show Xi U6 904 70 = Xi T5 904 70 from by rw [eU6]; exact Xi_ne (by omega)).trans ( (show Xi T5 904 70 = Xi U4 904 70 from w49.x _ _ rfl).trans ( (show Xi U4 904 70 = Xi U3 904 70 from by rw [eU4]; exact Xi_ne (by omega)).trans ( (show Xi U3 904 70 = Xi U2 904 70 from by rw [eU3]; exact Xi_ne (by omega)).trans ( (show Xi U2 904 70 = Xi U1 904 70 from by rw [eU2]; exact Xi_ne (by omega)).trans ((show Xi U1 904 70 = Xi S 904 70 from by rw [eU1]; exact Xi_ne (by omega)))))))))
      have w99 : Xi T8 904 71 = Xi S 904 71 := (show Xi T8 904 71 = Xi T7 904 71 from w92.x _ _ rfl).trans ( (show Xi T7 904 71 = Xi U6 904 71 from w73.x _ _ rfl).trans ( (show Xi U6 904 71 = Xi T5 904 71 from by rw [eU6]; exact Xi_ne (by omega)).trans ( (show Xi T5 904 71 = Xi U4 904 71 from w49.x _ _ rfl).trans ( (show Xi U4 904 71 = Xi U3 904 71 from by rw [eU4]; exact Xi_ne (by omega)).trans ( (show Xi U3 904 71 = Xi U2 904 71 from by rw [eU3]; exact Xi_ne (by omega)).trans ( (show Xi U2 904 71 = Xi U1 904 71 from by rw [eU2]; exact Xi_ne (by omega)).trans ((show Xi U1 904 71 = Xi S 904 71 from by rw [eU1]; exact Xi_ne (by omega)))))))))
      have w100 : Xi T8 904 72 = Xi S 904 72 := (show Xi T8 904 72 = Xi T7 904 72 from w92.x _ _ rfl).trans ( (show Xi T7 904 72 = Xi U6 904 72 from w73.x _ _ rfl).trans ( (show Xi U6 904 72 = Xi T5 904 72 from by rw [eU6]; exact Xi_ne (by omega)).trans ( (show Xi T5 904 72 = Xi U4 904 72 from w49.x _ _ rfl).trans ( (show Xi U4 904 72 = Xi U3 904 72 from by rw [eU4]; exact Xi_ne (by omega)).trans ( (show Xi U3 904 72 = Xi U2 904 72 from by rw [eU3]; exact Xi_ne (by omega)).trans ( (show Xi U2 904 72 = Xi U1 904 72 from by rw [eU2]; exact Xi_ne (by omega)).trans ((show Xi U1 904 72 = Xi S 904 72 from by rw [eU1]; exact Xi_ne (by omega)))))))))
      have w101 : Xi T8 904 73 = Xi S 904 73 := (show Xi T8 904 73 = Xi T7 904 73 from w92.x _ _ rfl).trans ( (show Xi T7 904 73 = Xi U6 904 73 from w73.x _ _ rfl).trans ( (show Xi U6 904 73 = Xi T5 904 73 from by rw [eU6]; exact Xi_ne (by omega)).trans ( (show Xi T5 904 73 = Xi U4 904 73 from w49.x _ _ rfl).trans ( (show Xi U4 904 73 = Xi U3 904 73 from by rw [eU4]; exact Xi_ne (by omega)).trans ( (show Xi U3 904 73 = Xi U2 904 73 from by rw [eU3]; exact Xi_ne (by omega)).trans ( (show Xi U2 904 73 = Xi U1 904 73 from by rw [eU2]; exact Xi_ne (by omega)).trans ((show Xi U1 904 73 = Xi S 904 73 from by rw [eU1]; exact Xi_ne (by omega)))))))))
      have w102 : Xi T8 904 74 = Xi S 904 74 := (show Xi T8 904 74 = Xi T7 904 74 from w92.x _ _ rfl).trans ( (show Xi T7 904 74 = Xi U6 904 74 from w73.x _ _ rfl).trans ( (show Xi U6 904 74 = Xi T5 904 74 from by rw [eU6]; exact Xi_ne (by omega)).trans ( (show Xi T5 904 74 = Xi U4 904 74 from w49.x _ _ rfl).trans ( (show Xi U4 904 74 = Xi U3 904 74 from by rw [eU4]; exact Xi_ne (by omega)).trans ( (show Xi U3 904 74 = Xi U2 904 74 from by rw [eU3]; exact Xi_ne (by omega)).trans ( (show Xi U2 904 74 = Xi U1 904 74 from by rw [eU2]; exact Xi_ne (by omega)).trans ((show Xi U1 904 74 = Xi S 904 74 from by rw [eU1]; exact Xi_ne (by omega)))))))))
      have w103 : Xi T8 904 78 = Xi S 904 78 := (show Xi T8 904 78 = Xi T7 904 78 from w92.x _ _ rfl).trans ( (show Xi T7 904 78 = Xi U6 904 78 from w73.x _ _ rfl).trans ( (show Xi U6 904 78 = Xi T5 904 78 from by rw [eU6]; exact Xi_ne (by omega)).trans ( (show Xi T5 904 78 = Xi U4 904 78 from w49.x _ _ rfl).trans ( (show Xi U4 904 78 = Xi U3 904 78 from by rw [eU4]; exact Xi_ne (by omega)).trans ( (show Xi U3 904 78 = Xi U2 904 78 from by rw [eU3]; exact Xi_ne (by omega)).trans ( (show Xi U2 904 78 = Xi U1 904 78 from by rw [eU2]; exact Xi_ne (by omega)).trans ((show Xi U1 904 78 = Xi S 904 78 from by rw [eU1]; exact Xi_ne (by omega)))))))))
      refine y_callV rfl rfl rfl (t_mo_askPlace__p hHT8 (by first | assumption | exact (LSP_FR hFT8 rfl rfl (by assumption : LSP S))) (by first | assumption | omega) (by first | assumption | exact (RBD_FR hFT8 rfl (by assumption : RBD S))) (by first | assumption | exact (ABV_FR hFT8 rfl (by assumption : ABV S))) (fun j => by rw [(hFT8.cx 918 rfl j).1]; exact hko.o j) (by first | assumption | omega) _) ?_
      rintro _ T9 ⟨hHT9, w105, rfl, o296⟩
      have hFT9 : FR md_mo_asked__12f S T9 := FR.tr hFT8 w105 rfl
      show Pl _ _ _ _ _ _ [] _ _
      have F296 := (by assumption : FR md_mo_askPlace__p T8 T9)
      have R296 : RO12 S T9 1 := by obtain ⟨nn, h⟩ := o249; exact ro12 (C := T8) (roi_sm (SMR_FR G249 rfl rfl) (G249.x 904 71 rfl) (G249.x 904 72 rfl) (G249.x 904 19 rfl) h z249) n292.o T279.o.1 T279.o.2 y279 (RPA_am (SMR_FR hFT8 rfl rfl) hFT8 rfl rfl rfl o296) z249 hpp.o.1 hpp.o.2 (fun d => by obtain ⟨m, a, b, c⟩ := K279.o d; exact ⟨m, a, b, krd_k c (by rw [F296.x 904 110 rfl, F292.x 904 110 rfl]) (by rw [F296.x 904 112 rfl, F292.x 904 112 rfl]) (fun j => by rw [(F296.cx 967 rfl j).1, (F292.cx 967 rfl j).1])⟩)
      refine y_goto rfl rfl ?_
      refine y_return rfl rfl ?_
      exact ⟨hHT9, hFT9, rfl⟩
    | 13, hii =>
      cases hii
      have w117 : (Xi S 904 70) = 13 := by simpa using w20
      exfalso; omega
    | 14, hii =>
      cases hii
      have w118 : (Xi S 904 70) = 14 := by simpa using w20
      exfalso; omega
    | 15, hii =>
      cases hii
      have w119 : (Xi S 904 70) = 15 := by simpa using w20
      exfalso; omega
    | 16, hii =>
      cases hii
      have w120 : (Xi S 904 70) = 16 := by simpa using w20
      exfalso; omega
    | 17, hii =>
      cases hii
      have w121 : (Xi S 904 70) = 17 := by simpa using w20
      exfalso; omega
    | 18, hii =>
      cases hii
      have w122 : (Xi S 904 70) = 18 := by simpa using w20
      exfalso; omega
    | 19, hii =>
      cases hii
      have w123 : (Xi S 904 70) = 19 := by simpa using w20
      exfalso; omega
    | 20, hii =>
      cases hii
      have w124 : (Xi S 904 70) = 20 := by simpa using w20
      exfalso; omega
    | n + 21, hii => exact absurd hii (by simp)
def md_mo_asked__13f : List rec := [(904, 905, 104, 105), (904, 905, 105, 106), (904, 905, 106, 107), (904, 905, 108, 109), (904, 905, 115, 116), (904, 905, 116, 117), (966, 967, 0, 100000)]
abbrev Q_mo_asked__13f (S : sS) (first : Int) : pst := fun r S1 => RI S1 ∧ FR md_mo_asked__13f S S1 ∧ (r = none)
set_option maxRecDepth 100000 in
theorem t_mo_asked__13f {S : sS} (hH : RI S) (first : Int) (hfirst : 0 ≤ first ∧ first ≤ 5001) (hLS : LSP S) (h15 : 0 ≤ Xi S 904 15) (hRB : RBD S) (hLX : LXR S) (hB : ABV S) (hob : 0 ≤ Xi S 904 19 ∧ Xi S 904 19 ≤ 24) (hko : Hid (∀ j : Nat, -1 ≤ Xi S 918 j ∧ Xi S 918 j ≤ 15)) (hl : 0 ≤ Xi S 904 71 ∧ Xi S 904 71 ≤ 2600 ∧ 0 ≤ Xi S 904 72 ∧ Xi S 904 72 ≤ 2600) (hkk : Hid (∀ k : Nat, (k : Int) < Xi S 904 15 → Xi S 914 k ≤ 1 → Xi S 915 k ≤ 15)) (hp32 : 0 ≤ Xi S 904 32 ∧ Xi S 904 32 ≤ 12) (hr74 : -1 ≤ Xi S 904 74 ∧ Xi S 904 74 ≤ 2600) (hpl : PLL S (Xi S 904 71) (Xi S 904 72).toNat) (hs : Xi S 904 70 = 13) (hpp : Hid (Xi S 904 73 ≠ 0 → ∀ k : Nat, k < (Xi S 904 72).toNat → pR S (Xi S 904 71 + k) < pR S (Xi S 904 74))) (d : Nat) : Mp lay0 (d + 13) m_mo_asked [.ref 904, iv first] S (Q_mo_asked__13f S first) := by
  refine Mp_R rfl rfl (fun fu => ?_)
  have hF : FR md_mo_asked__13f S S := FR.rf
  have w1 : -2147483648 ≤ Xi S 904 104 ∧ Xi S 904 104 ≤ 2147483647 := Xi_rgI
  have w2 : -2147483648 ≤ Xi S 904 105 ∧ Xi S 904 105 ≤ 2147483647 := Xi_rgI
  have w3 : -2147483648 ≤ Xi S 904 106 ∧ Xi S 904 106 ≤ 2147483647 := Xi_rgI
  have w4 : -2147483648 ≤ Xi S 904 108 ∧ Xi S 904 108 ≤ 2147483647 := Xi_rgI
  have w5 : -2147483648 ≤ Xi S 904 15 ∧ Xi S 904 15 ≤ 2147483647 := Xi_rgI
  have w6 : -2147483648 ≤ Xi S 904 19 ∧ Xi S 904 19 ≤ 2147483647 := Xi_rgI
  have w7 : -2147483648 ≤ Xi S 904 32 ∧ Xi S 904 32 ≤ 2147483647 := Xi_rgI
  have w8 : -2147483648 ≤ Xi S 904 70 ∧ Xi S 904 70 ≤ 2147483647 := Xi_rgI
  have w9 : -2147483648 ≤ Xi S 904 71 ∧ Xi S 904 71 ≤ 2147483647 := Xi_rgI
  have w10 : -2147483648 ≤ Xi S 904 72 ∧ Xi S 904 72 ≤ 2147483647 := Xi_rgI
  have w11 : -2147483648 ≤ Xi S 904 73 ∧ Xi S 904 73 ≤ 2147483647 := Xi_rgI
  have w12 : -2147483648 ≤ Xi S 904 74 ∧ Xi S 904 74 ≤ 2147483647 := Xi_rgI
  have w13 : -2147483648 ≤ Xi S 904 78 ∧ Xi S 904 78 ≤ 2147483647 := Xi_rgI
  refine y_aload_n rfl rfl ?_
  refine y_iconst rfl ?_
  refine y_pfi rfl rfl rfl rfl ?_
  obtain ⟨U1, eU1⟩ : ∃ T : sS, T = uI S 904 106 (Int32.ofInt 0) := ⟨_, rfl⟩
  rw [← eU1]
  have hHU1 : RI U1 := by rw [eU1]; exact RI_w hH
  have hFU1 : FR md_mo_asked__13f S U1 := by rw [eU1]; exact FR.wI hF (mdf_i (r := (904, 905, 106, 107)) (List.mem_of_getElem? (i := 2) rfl) (inR_i (by omega) (by omega) (by omega) (by omega)))
  have w14 : Xi U1 904 106 = 0 := by rw [eU1]; exact Xi_same (by unfold rg; omega)
  refine y_aload_n rfl rfl ?_
  refine y_iconst rfl ?_
  refine y_pfi rfl rfl rfl rfl ?_
  obtain ⟨U2, eU2⟩ : ∃ T : sS, T = uI U1 904 108 (Int32.ofInt 0) := ⟨_, rfl⟩
  rw [← eU2]
  have hHU2 : RI U2 := by rw [eU2]; exact RI_w hHU1
  have hFU2 : FR md_mo_asked__13f S U2 := by rw [eU2]; exact FR.wI hFU1 (mdf_i (r := (904, 905, 108, 109)) (List.mem_of_getElem? (i := 3) rfl) (inR_i (by omega) (by omega) (by omega) (by omega)))
  have w15 : Xi U2 904 108 = 0 := by rw [eU2]; exact Xi_same (by unfold rg; omega)
  refine y_aload_n rfl rfl ?_
  refine y_iconst rfl ?_
  refine y_pfi rfl rfl rfl rfl ?_
  obtain ⟨U3, eU3⟩ : ∃ T : sS, T = uI U2 904 115 (Int32.ofInt (-1)) := ⟨_, rfl⟩
  rw [← eU3]
  have hHU3 : RI U3 := by rw [eU3]; exact RI_w hHU2
  have hFU3 : FR md_mo_asked__13f S U3 := by rw [eU3]; exact FR.wI hFU2 (mdf_i (r := (904, 905, 115, 116)) (List.mem_of_getElem? (i := 4) rfl) (inR_i (by omega) (by omega) (by omega) (by omega)))
  have w16 : Xi U3 904 115 = (-1) := by rw [eU3]; exact Xi_same (by unfold rg; omega)
  refine y_aload_n rfl rfl ?_
  refine y_iconst rfl ?_
  refine y_pfi rfl rfl rfl rfl ?_
  obtain ⟨U4, eU4⟩ : ∃ T : sS, T = uI U3 904 116 (Int32.ofInt (-1)) := ⟨_, rfl⟩
  rw [← eU4]
  have hHU4 : RI U4 := by rw [eU4]; exact RI_w hHU3
  have hFU4 : FR md_mo_asked__13f S U4 := by rw [eU4]; exact FR.wI hFU3 (mdf_i (r := (904, 905, 116, 117)) (List.mem_of_getElem? (i := 5) rfl) (inR_i (by omega) (by omega) (by omega) (by omega)))
  have w17 : Xi U4 904 116 = (-1) := by rw [eU4]; exact Xi_same (by unfold rg; omega)
  refine y_aload_n rfl rfl ?_
  refine y_gfi rfl rfl rfl rfl rfl ?_
  have w18 : (Xi U4 904 70) = (Xi S 904 70) := (show Xi U4 904 70 = Xi U3 904 70 from by rw [eU4]; exact Xi_ne (by omega)).trans ( (show Xi U3 904 70 = Xi U2 904 70 from by rw [eU3]; exact Xi_ne (by omega)).trans ( (show Xi U2 904 70 = Xi U1 904 70 from by rw [eU2]; exact Xi_ne (by omega)).trans ((show Xi U1 904 70 = Xi S 904 70 from by rw [eU1]; exact Xi_ne (by omega)))))
  rw [w18]
  refine y_tsw rfl rfl rfl rfl (by unfold rg; omega) (fun w19 => ?_) (fun ii tt hii w19 => ?_)
  · exfalso; omega
  · match ii, hii with
    | 0, hii =>
      cases hii
      have w20 : (Xi S 904 70) = 0 := by simpa using w19
      exfalso; omega
    | 1, hii =>
      cases hii
      have w21 : (Xi S 904 70) = 1 := by simpa using w19
      exfalso; omega
    | 2, hii =>
      cases hii
      have w22 : (Xi S 904 70) = 2 := by simpa using w19
      exfalso; omega
    | 3, hii =>
      cases hii
      have w23 : (Xi S 904 70) = 3 := by simpa using w19
      exfalso; omega
    | 4, hii =>
      cases hii
      have w24 : (Xi S 904 70) = 4 := by simpa using w19
      exfalso; omega
    | 5, hii =>
      cases hii
      have w25 : (Xi S 904 70) = 5 := by simpa using w19
      exfalso; omega
    | 6, hii =>
      cases hii
      have w26 : (Xi S 904 70) = 6 := by simpa using w19
      exfalso; omega
    | 7, hii =>
      cases hii
      have w27 : (Xi S 904 70) = 7 := by simpa using w19
      exfalso; omega
    | 8, hii =>
      cases hii
      have w28 : (Xi S 904 70) = 8 := by simpa using w19
      exfalso; omega
    | 9, hii =>
      cases hii
      have w29 : (Xi S 904 70) = 9 := by simpa using w19
      exfalso; omega
    | 10, hii =>
      cases hii
      have w30 : (Xi S 904 70) = 10 := by simpa using w19
      exfalso; omega
    | 11, hii =>
      cases hii
      have w31 : (Xi S 904 70) = 11 := by simpa using w19
      exfalso; omega
    | 12, hii =>
      cases hii
      have w32 : (Xi S 904 70) = 12 := by simpa using w19
      exfalso; omega
    | 13, hii =>
      cases hii
      have w33 : (Xi S 904 70) = 13 := by simpa using w19
      refine y_aload_n rfl rfl ?_
      have w36 : Xi U4 904 106 = Xi U1 904 106 := (show Xi U4 904 106 = Xi U3 904 106 from by rw [eU4]; exact Xi_ne (by omega)).trans ( (show Xi U3 904 106 = Xi U2 904 106 from by rw [eU3]; exact Xi_ne (by omega)).trans ((show Xi U2 904 106 = Xi U1 904 106 from by rw [eU2]; exact Xi_ne (by omega))))
      have w37 : Xi U4 904 108 = Xi U2 904 108 := (show Xi U4 904 108 = Xi U3 904 108 from by rw [eU4]; exact Xi_ne (by omega)).trans ((show Xi U3 904 108 = Xi U2 904 108 from by rw [eU3]; exact Xi_ne (by omega)))
      have w38 : Xi U4 904 15 = Xi S 904 15 := (show Xi U4 904 15 = Xi U3 904 15 from by rw [eU4]; exact Xi_ne (by omega)).trans ( (show Xi U3 904 15 = Xi U2 904 15 from by rw [eU3]; exact Xi_ne (by omega)).trans ( (show Xi U2 904 15 = Xi U1 904 15 from by rw [eU2]; exact Xi_ne (by omega)).trans ((show Xi U1 904 15 = Xi S 904 15 from by rw [eU1]; exact Xi_ne (by omega)))))
      have w39 : Xi U4 904 19 = Xi S 904 19 := (show Xi U4 904 19 = Xi U3 904 19 from by rw [eU4]; exact Xi_ne (by omega)).trans ( (show Xi U3 904 19 = Xi U2 904 19 from by rw [eU3]; exact Xi_ne (by omega)).trans ( (show Xi U2 904 19 = Xi U1 904 19 from by rw [eU2]; exact Xi_ne (by omega)).trans ((show Xi U1 904 19 = Xi S 904 19 from by rw [eU1]; exact Xi_ne (by omega)))))
      have w42 : Xi U4 904 71 = Xi S 904 71 := (show Xi U4 904 71 = Xi U3 904 71 from by rw [eU4]; exact Xi_ne (by omega)).trans ( (show Xi U3 904 71 = Xi U2 904 71 from by rw [eU3]; exact Xi_ne (by omega)).trans ( (show Xi U2 904 71 = Xi U1 904 71 from by rw [eU2]; exact Xi_ne (by omega)).trans ((show Xi U1 904 71 = Xi S 904 71 from by rw [eU1]; exact Xi_ne (by omega)))))
      have w43 : Xi U4 904 72 = Xi S 904 72 := (show Xi U4 904 72 = Xi U3 904 72 from by rw [eU4]; exact Xi_ne (by omega)).trans ( (show Xi U3 904 72 = Xi U2 904 72 from by rw [eU3]; exact Xi_ne (by omega)).trans ( (show Xi U2 904 72 = Xi U1 904 72 from by rw [eU2]; exact Xi_ne (by omega)).trans ((show Xi U1 904 72 = Xi S 904 72 from by rw [eU1]; exact Xi_ne (by omega)))))
      refine y_callV rfl rfl rfl (t_mo_objectsOrNew__p hHU4 (by first | assumption | exact (LSP_FR hFU4 rfl rfl (by assumption : LSP S))) (by first | assumption | omega) (by first | assumption | exact (RBD_FR hFU4 rfl (by assumption : RBD S))) (⟨by omega, by omega⟩) (by first | assumption | omega) (by first | assumption | omega) (fun k i a b => by rw [hFU4.x 904 71 rfl] at *; rw [hFU4.x 904 72 rfl] at b; rw [pR_sm (SMR_FR hFU4 rfl rfl), pR_sm (SMR_FR hFU4 rfl rfl)]; exact hpl k i a b) _) ?_
      rintro _ T5 ⟨hHT5, w48, rfl, o303⟩
      have hFT5 : FR md_mo_asked__13f S T5 := FR.tr hFU4 w48 rfl
      show Pl _ _ _ _ _ _ [] _ _
      have z303 : (NT3 U4).1 = 0 := by show Xi U4 904 106 = 0; omega
      have F303 := (by assumption : FR md_mo_objectsOrNew__p U4 T5)
      have G303 := hFU4
      refine y_aload_n rfl rfl ?_
      have w49 : Xi T5 904 15 = Xi S 904 15 := (show Xi T5 904 15 = Xi U4 904 15 from w48.x _ _ rfl).trans ( (show Xi U4 904 15 = Xi U3 904 15 from by rw [eU4]; exact Xi_ne (by omega)).trans ( (show Xi U3 904 15 = Xi U2 904 15 from by rw [eU3]; exact Xi_ne (by omega)).trans ( (show Xi U2 904 15 = Xi U1 904 15 from by rw [eU2]; exact Xi_ne (by omega)).trans ((show Xi U1 904 15 = Xi S 904 15 from by rw [eU1]; exact Xi_ne (by omega))))))
      have w56 : Xi T5 904 74 = Xi S 904 74 := (show Xi T5 904 74 = Xi U4 904 74 from w48.x _ _ rfl).trans ( (show Xi U4 904 74 = Xi U3 904 74 from by rw [eU4]; exact Xi_ne (by omega)).trans ( (show Xi U3 904 74 = Xi U2 904 74 from by rw [eU3]; exact Xi_ne (by omega)).trans ( (show Xi U2 904 74 = Xi U1 904 74 from by rw [eU2]; exact Xi_ne (by omega)).trans ((show Xi U1 904 74 = Xi S 904 74 from by rw [eU1]; exact Xi_ne (by omega))))))
      refine y_callV rfl rfl rfl (t_mo_askPlace__p hHT5 (by first | assumption | exact (LSP_FR hFT5 rfl rfl (by assumption : LSP S))) (by first | assumption | omega) (by first | assumption | exact (RBD_FR hFT5 rfl (by assumption : RBD S))) (by first | assumption | exact (ABV_FR hFT5 rfl (by assumption : ABV S))) (fun j => by rw [(hFT5.cx 918 rfl j).1]; exact hko.o j) (by first | assumption | omega) _) ?_
      rintro _ T6 ⟨hHT6, w59, rfl, o307⟩
      have hFT6 : FR md_mo_asked__13f S T6 := FR.tr hFT5 w59 rfl
      show Pl _ _ _ _ _ _ [] _ _
      have R307 : RO12 S T6 0 := by obtain ⟨nn, h⟩ := o303; exact RO12_am (AMR_FR G303 rfl rfl) G303 rfl rfl rfl rfl (ro13 h (RPA_am (SMR_FR F303 rfl rfl) F303 rfl rfl rfl o307) z303 (fun q k hk => by rw [G303.x 904 73 rfl] at q; rw [G303.x 904 72 rfl] at hk; rw [pR_sm (SMR_FR G303 rfl rfl), pR_sm (SMR_FR G303 rfl rfl), G303.x 904 71 rfl, G303.x 904 74 rfl]; exact hpp.o q k hk))
      refine y_goto rfl rfl ?_
      refine y_return rfl rfl ?_
      exact ⟨hHT6, hFT6, rfl⟩
    | 14, hii =>
      cases hii
      have w70 : (Xi S 904 70) = 14 := by simpa using w19
      exfalso; omega
    | 15, hii =>
      cases hii
      have w71 : (Xi S 904 70) = 15 := by simpa using w19
      exfalso; omega
    | 16, hii =>
      cases hii
      have w72 : (Xi S 904 70) = 16 := by simpa using w19
      exfalso; omega
    | 17, hii =>
      cases hii
      have w73 : (Xi S 904 70) = 17 := by simpa using w19
      exfalso; omega
    | 18, hii =>
      cases hii
      have w74 : (Xi S 904 70) = 18 := by simpa using w19
      exfalso; omega
    | 19, hii =>
      cases hii
      have w75 : (Xi S 904 70) = 19 := by simpa using w19
      exfalso; omega
    | 20, hii =>
      cases hii
      have w76 : (Xi S 904 70) = 20 := by simpa using w19
      exfalso; omega
    | n + 21, hii => exact absurd hii (by simp)
def md_mo_asked__14f : List rec := [(904, 905, 104, 105), (904, 905, 105, 106), (904, 905, 106, 107), (904, 905, 108, 109), (904, 905, 115, 116), (904, 905, 116, 117), (966, 967, 0, 100000)]
abbrev Q_mo_asked__14f (S : sS) (first : Int) : pst := fun r S1 => RI S1 ∧ FR md_mo_asked__14f S S1 ∧ (r = none)
set_option maxRecDepth 100000 in
theorem t_mo_asked__14f {S : sS} (hH : RI S) (first : Int) (hfirst : 0 ≤ first ∧ first ≤ 5001) (hLS : LSP S) (h15 : 0 ≤ Xi S 904 15) (hRB : RBD S) (hs : Xi S 904 70 = 14) (hB : ABV S) (hob : 0 ≤ Xi S 904 19 ∧ Xi S 904 19 ≤ 24) (hko : Hid (∀ j : Nat, -1 ≤ Xi S 918 j ∧ Xi S 918 j ≤ 15)) (hrr : 0 ≤ Xi S 904 71 ∧ Xi S 904 71 ≤ 2600 ∧ -2 ≤ Xi S 904 78 ∧ Xi S 904 78 ≤ 2600 ∧ -1 ≤ Xi S 904 74 ∧ Xi S 904 74 ≤ 2600 ∧ 0 ≤ Xi S 904 72 ∧ Xi S 904 72 ≤ 2600) (hp : Hid ((1 < Xi S 904 72 → pR S (Xi S 904 71) < pR S (Xi S 904 71 + 1) ∧ pR S (Xi S 904 71 + 1) < pR S (Xi S 904 78)) ∧ pR S (Xi S 904 71) < pR S (Xi S 904 78) ∧ pR S (Xi S 904 78) < pR S (Xi S 904 74))) (d : Nat) : Mp lay0 (d + 13) m_mo_asked [.ref 904, iv first] S (Q_mo_asked__14f S first) := by
  refine Mp_R rfl rfl (fun fu => ?_)
  have hF : FR md_mo_asked__14f S S := FR.rf
  have w1 : -2147483648 ≤ Xi S 904 104 ∧ Xi S 904 104 ≤ 2147483647 := Xi_rgI
  have w2 : -2147483648 ≤ Xi S 904 105 ∧ Xi S 904 105 ≤ 2147483647 := Xi_rgI
  have w3 : -2147483648 ≤ Xi S 904 106 ∧ Xi S 904 106 ≤ 2147483647 := Xi_rgI
  have w4 : -2147483648 ≤ Xi S 904 108 ∧ Xi S 904 108 ≤ 2147483647 := Xi_rgI
  have w5 : -2147483648 ≤ Xi S 904 15 ∧ Xi S 904 15 ≤ 2147483647 := Xi_rgI
  have w6 : -2147483648 ≤ Xi S 904 19 ∧ Xi S 904 19 ≤ 2147483647 := Xi_rgI
  have w7 : -2147483648 ≤ Xi S 904 70 ∧ Xi S 904 70 ≤ 2147483647 := Xi_rgI
  have w8 : -2147483648 ≤ Xi S 904 71 ∧ Xi S 904 71 ≤ 2147483647 := Xi_rgI
  have w9 : -2147483648 ≤ Xi S 904 72 ∧ Xi S 904 72 ≤ 2147483647 := Xi_rgI
  have w10 : -2147483648 ≤ Xi S 904 74 ∧ Xi S 904 74 ≤ 2147483647 := Xi_rgI
  have w11 : -2147483648 ≤ Xi S 904 78 ∧ Xi S 904 78 ≤ 2147483647 := Xi_rgI
  refine y_aload_n rfl rfl ?_
  refine y_iconst rfl ?_
  refine y_pfi rfl rfl rfl rfl ?_
  obtain ⟨U1, eU1⟩ : ∃ T : sS, T = uI S 904 106 (Int32.ofInt 0) := ⟨_, rfl⟩
  rw [← eU1]
  have hHU1 : RI U1 := by rw [eU1]; exact RI_w hH
  have hFU1 : FR md_mo_asked__14f S U1 := by rw [eU1]; exact FR.wI hF (mdf_i (r := (904, 905, 106, 107)) (List.mem_of_getElem? (i := 2) rfl) (inR_i (by omega) (by omega) (by omega) (by omega)))
  have w12 : Xi U1 904 106 = 0 := by rw [eU1]; exact Xi_same (by unfold rg; omega)
  refine y_aload_n rfl rfl ?_
  refine y_iconst rfl ?_
  refine y_pfi rfl rfl rfl rfl ?_
  obtain ⟨U2, eU2⟩ : ∃ T : sS, T = uI U1 904 108 (Int32.ofInt 0) := ⟨_, rfl⟩
  rw [← eU2]
  have hHU2 : RI U2 := by rw [eU2]; exact RI_w hHU1
  have hFU2 : FR md_mo_asked__14f S U2 := by rw [eU2]; exact FR.wI hFU1 (mdf_i (r := (904, 905, 108, 109)) (List.mem_of_getElem? (i := 3) rfl) (inR_i (by omega) (by omega) (by omega) (by omega)))
  have w13 : Xi U2 904 108 = 0 := by rw [eU2]; exact Xi_same (by unfold rg; omega)
  refine y_aload_n rfl rfl ?_
  refine y_iconst rfl ?_
  refine y_pfi rfl rfl rfl rfl ?_
  obtain ⟨U3, eU3⟩ : ∃ T : sS, T = uI U2 904 115 (Int32.ofInt (-1)) := ⟨_, rfl⟩
  rw [← eU3]
  have hHU3 : RI U3 := by rw [eU3]; exact RI_w hHU2
  have hFU3 : FR md_mo_asked__14f S U3 := by rw [eU3]; exact FR.wI hFU2 (mdf_i (r := (904, 905, 115, 116)) (List.mem_of_getElem? (i := 4) rfl) (inR_i (by omega) (by omega) (by omega) (by omega)))
  have w14 : Xi U3 904 115 = (-1) := by rw [eU3]; exact Xi_same (by unfold rg; omega)
  refine y_aload_n rfl rfl ?_
  refine y_iconst rfl ?_
  refine y_pfi rfl rfl rfl rfl ?_
  obtain ⟨U4, eU4⟩ : ∃ T : sS, T = uI U3 904 116 (Int32.ofInt (-1)) := ⟨_, rfl⟩
  rw [← eU4]
  have hHU4 : RI U4 := by rw [eU4]; exact RI_w hHU3
  have hFU4 : FR md_mo_asked__14f S U4 := by rw [eU4]; exact FR.wI hFU3 (mdf_i (r := (904, 905, 116, 117)) (List.mem_of_getElem? (i := 5) rfl) (inR_i (by omega) (by omega) (by omega) (by omega)))
  have w15 : Xi U4 904 116 = (-1) := by rw [eU4]; exact Xi_same (by unfold rg; omega)
  refine y_aload_n rfl rfl ?_
  refine y_gfi rfl rfl rfl rfl rfl ?_
  have w16 : (Xi U4 904 70) = (Xi S 904 70) := (show Xi U4 904 70 = Xi U3 904 70 from by rw [eU4]; exact Xi_ne (by omega)).trans ( (show Xi U3 904 70 = Xi U2 904 70 from by rw [eU3]; exact Xi_ne (by omega)).trans ( (show Xi U2 904 70 = Xi U1 904 70 from by rw [eU2]; exact Xi_ne (by omega)).trans ((show Xi U1 904 70 = Xi S 904 70 from by rw [eU1]; exact Xi_ne (by omega)))))
  rw [w16]
  refine y_tsw rfl rfl rfl rfl (by unfold rg; omega) (fun w17 => ?_) (fun ii tt hii w17 => ?_)
  · exfalso; omega
  · match ii, hii with
    | 0, hii =>
      cases hii
      have w18 : (Xi S 904 70) = 0 := by simpa using w17
      exfalso; omega
    | 1, hii =>
      cases hii
      have w19 : (Xi S 904 70) = 1 := by simpa using w17
      exfalso; omega
    | 2, hii =>
      cases hii
      have w20 : (Xi S 904 70) = 2 := by simpa using w17
      exfalso; omega
    | 3, hii =>
      cases hii
      have w21 : (Xi S 904 70) = 3 := by simpa using w17
      exfalso; omega
    | 4, hii =>
      cases hii
      have w22 : (Xi S 904 70) = 4 := by simpa using w17
      exfalso; omega
    | 5, hii =>
      cases hii
      have w23 : (Xi S 904 70) = 5 := by simpa using w17
      exfalso; omega
    | 6, hii =>
      cases hii
      have w24 : (Xi S 904 70) = 6 := by simpa using w17
      exfalso; omega
    | 7, hii =>
      cases hii
      have w25 : (Xi S 904 70) = 7 := by simpa using w17
      exfalso; omega
    | 8, hii =>
      cases hii
      have w26 : (Xi S 904 70) = 8 := by simpa using w17
      exfalso; omega
    | 9, hii =>
      cases hii
      have w27 : (Xi S 904 70) = 9 := by simpa using w17
      exfalso; omega
    | 10, hii =>
      cases hii
      have w28 : (Xi S 904 70) = 10 := by simpa using w17
      exfalso; omega
    | 11, hii =>
      cases hii
      have w29 : (Xi S 904 70) = 11 := by simpa using w17
      exfalso; omega
    | 12, hii =>
      cases hii
      have w30 : (Xi S 904 70) = 12 := by simpa using w17
      exfalso; omega
    | 13, hii =>
      cases hii
      have w31 : (Xi S 904 70) = 13 := by simpa using w17
      exfalso; omega
    | 14, hii =>
      cases hii
      have w32 : (Xi S 904 70) = 14 := by simpa using w17
      refine y_aload_n rfl rfl ?_
      have w35 : Xi U4 904 106 = Xi U1 904 106 := (show Xi U4 904 106 = Xi U3 904 106 from by rw [eU4]; exact Xi_ne (by omega)).trans ( (show Xi U3 904 106 = Xi U2 904 106 from by rw [eU3]; exact Xi_ne (by omega)).trans ((show Xi U2 904 106 = Xi U1 904 106 from by rw [eU2]; exact Xi_ne (by omega))))
      have w36 : Xi U4 904 108 = Xi U2 904 108 := (show Xi U4 904 108 = Xi U3 904 108 from by rw [eU4]; exact Xi_ne (by omega)).trans ((show Xi U3 904 108 = Xi U2 904 108 from by rw [eU3]; exact Xi_ne (by omega)))
      have w37 : Xi U4 904 15 = Xi S 904 15 := (show Xi U4 904 15 = Xi U3 904 15 from by rw [eU4]; exact Xi_ne (by omega)).trans ( (show Xi U3 904 15 = Xi U2 904 15 from by rw [eU3]; exact Xi_ne (by omega)).trans ( (show Xi U2 904 15 = Xi U1 904 15 from by rw [eU2]; exact Xi_ne (by omega)).trans ((show Xi U1 904 15 = Xi S 904 15 from by rw [eU1]; exact Xi_ne (by omega)))))
      have w38 : Xi U4 904 19 = Xi S 904 19 := (show Xi U4 904 19 = Xi U3 904 19 from by rw [eU4]; exact Xi_ne (by omega)).trans ( (show Xi U3 904 19 = Xi U2 904 19 from by rw [eU3]; exact Xi_ne (by omega)).trans ( (show Xi U2 904 19 = Xi U1 904 19 from by rw [eU2]; exact Xi_ne (by omega)).trans ((show Xi U1 904 19 = Xi S 904 19 from by rw [eU1]; exact Xi_ne (by omega)))))
      have w40 : Xi U4 904 71 = Xi S 904 71 := (show Xi U4 904 71 = Xi U3 904 71 from by rw [eU4]; exact Xi_ne (by omega)).trans ( (show Xi U3 904 71 = Xi U2 904 71 from by rw [eU3]; exact Xi_ne (by omega)).trans ( (show Xi U2 904 71 = Xi U1 904 71 from by rw [eU2]; exact Xi_ne (by omega)).trans ((show Xi U1 904 71 = Xi S 904 71 from by rw [eU1]; exact Xi_ne (by omega)))))
      have w41 : Xi U4 904 72 = Xi S 904 72 := (show Xi U4 904 72 = Xi U3 904 72 from by rw [eU4]; exact Xi_ne (by omega)).trans ( (show Xi U3 904 72 = Xi U2 904 72 from by rw [eU3]; exact Xi_ne (by omega)).trans ( (show Xi U2 904 72 = Xi U1 904 72 from by rw [eU2]; exact Xi_ne (by omega)).trans ((show Xi U1 904 72 = Xi S 904 72 from by rw [eU1]; exact Xi_ne (by omega)))))
      have w42 : Xi U4 904 74 = Xi S 904 74 := (show Xi U4 904 74 = Xi U3 904 74 from by rw [eU4]; exact Xi_ne (by omega)).trans ( (show Xi U3 904 74 = Xi U2 904 74 from by rw [eU3]; exact Xi_ne (by omega)).trans ( (show Xi U2 904 74 = Xi U1 904 74 from by rw [eU2]; exact Xi_ne (by omega)).trans ((show Xi U1 904 74 = Xi S 904 74 from by rw [eU1]; exact Xi_ne (by omega)))))
      have w43 : Xi U4 904 78 = Xi S 904 78 := (show Xi U4 904 78 = Xi U3 904 78 from by rw [eU4]; exact Xi_ne (by omega)).trans ( (show Xi U3 904 78 = Xi U2 904 78 from by rw [eU3]; exact Xi_ne (by omega)).trans ( (show Xi U2 904 78 = Xi U1 904 78 from by rw [eU2]; exact Xi_ne (by omega)).trans ((show Xi U1 904 78 = Xi S 904 78 from by rw [eU1]; exact Xi_ne (by omega)))))
      refine y_callV rfl rfl rfl (t_mo_askWay__p hHU4 (by first | assumption | exact (LSP_FR hFU4 rfl rfl (by assumption : LSP S))) (by first | assumption | omega) (by first | assumption | exact (RBD_FR hFU4 rfl (by assumption : RBD S))) (⟨by omega, by omega⟩) (by first | assumption | exact (ABV_FR hFU4 rfl (by assumption : ABV S))) (by first | assumption | omega) (fun j => by rw [(hFU4.cx 918 rfl j).1]; exact hko.o j) (by first | assumption | omega) (by rw [hFU4.x 904 71 rfl, hFU4.x 904 72 rfl, hFU4.x 904 74 rfl, hFU4.x 904 78 rfl]; simp only [pR_sm (SMR_FR hFU4 rfl rfl)]; exact hp) _) ?_
      rintro _ T5 ⟨hHT5, w45, rfl, o314⟩
      have hFT5 : FR md_mo_asked__14f S T5 := FR.tr hFU4 w45 rfl
      show Pl _ _ _ _ _ _ [] _ _
      have O314 : RW14 S (NT3 T5) := RW14_sm (SMR_FR hFU4 rfl rfl) hFU4 rfl rfl rfl o314
      refine y_goto rfl rfl ?_
      refine y_return rfl rfl ?_
      exact ⟨hHT5, hFT5, rfl⟩
    | 15, hii =>
      cases hii
      have w53 : (Xi S 904 70) = 15 := by simpa using w17
      exfalso; omega
    | 16, hii =>
      cases hii
      have w54 : (Xi S 904 70) = 16 := by simpa using w17
      exfalso; omega
    | 17, hii =>
      cases hii
      have w55 : (Xi S 904 70) = 17 := by simpa using w17
      exfalso; omega
    | 18, hii =>
      cases hii
      have w56 : (Xi S 904 70) = 18 := by simpa using w17
      exfalso; omega
    | 19, hii =>
      cases hii
      have w57 : (Xi S 904 70) = 19 := by simpa using w17
      exfalso; omega
    | 20, hii =>
      cases hii
      have w58 : (Xi S 904 70) = 20 := by simpa using w17
      exfalso; omega
    | n + 21, hii => exact absurd hii (by simp)
def md_mo_asked__15af : List rec := [(904, 905, 64, 65), (904, 905, 104, 105), (904, 905, 105, 106), (904, 905, 106, 107), (904, 905, 108, 109), (904, 905, 109, 110), (904, 905, 110, 111), (904, 905, 112, 113), (904, 905, 113, 114), (904, 905, 115, 116), (904, 905, 116, 117), (904, 905, 142, 143), (966, 967, 0, 100000), (967, 968, 0, 100000), (968, 969, 0, 100000)]
abbrev Q_mo_asked__15af (S : sS) (first : Int) : pst := fun r S1 => RI S1 ∧ FR md_mo_asked__15af S S1 ∧ (r = none)
set_option maxRecDepth 100000 in
theorem t_mo_asked__15af {S : sS} (hH : RI S) (first : Int) (hfirst : 0 ≤ first ∧ first ≤ 5001) (hLS : LSP S) (h15 : 0 ≤ Xi S 904 15) (hRB : RBD S) (hLX : LXR S) (hB : ABV S) (hu : Xi S 904 76 ≠ 0) (hp32 : 0 ≤ Xi S 904 32 ∧ Xi S 904 32 ≤ 12) (hk15 : rnR S (Xi S 904 71) 0 ≤ 15) (hfw : 0 ≤ Xi S 950 (Xi S 904 78).toNat ∧ Xi S 950 (Xi S 904 78).toNat ≤ 5100) (hl : 0 ≤ Xi S 904 71 ∧ Xi S 904 71 ≤ 2600) (hq1 : Hid (1 < Xi S 904 72 → pR S (Xi S 904 71) < pR S (Xi S 904 71 + 1))) (hq2 : Hid (1 < Xi S 904 72 → pR S (Xi S 904 71 + 1) < Xi S 908 (fW S).toNat)) (hs : Xi S 904 70 = 15) (d : Nat) : Mp lay0 (d + 13) m_mo_asked [.ref 904, iv first] S (Q_mo_asked__15af S first) := by
  refine Mp_R rfl rfl (fun fu => ?_)
  have hF : FR md_mo_asked__15af S S := FR.rf
  have w1 : -2147483648 ≤ Xi S 904 104 ∧ Xi S 904 104 ≤ 2147483647 := Xi_rgI
  have w2 : -2147483648 ≤ Xi S 904 105 ∧ Xi S 904 105 ≤ 2147483647 := Xi_rgI
  have w3 : -2147483648 ≤ Xi S 904 106 ∧ Xi S 904 106 ≤ 2147483647 := Xi_rgI
  have w4 : -2147483648 ≤ Xi S 904 108 ∧ Xi S 904 108 ≤ 2147483647 := Xi_rgI
  have w5 : -2147483648 ≤ Xi S 904 15 ∧ Xi S 904 15 ≤ 2147483647 := Xi_rgI
  have w6 : -2147483648 ≤ Xi S 904 19 ∧ Xi S 904 19 ≤ 2147483647 := Xi_rgI
  have w7 : -2147483648 ≤ Xi S 904 30 ∧ Xi S 904 30 ≤ 2147483647 := Xi_rgI
  have w8 : -2147483648 ≤ Xi S 904 32 ∧ Xi S 904 32 ≤ 2147483647 := Xi_rgI
  have w9 : -2147483648 ≤ Xi S 904 69 ∧ Xi S 904 69 ≤ 2147483647 := Xi_rgI
  have w10 : -2147483648 ≤ Xi S 904 70 ∧ Xi S 904 70 ≤ 2147483647 := Xi_rgI
  have w11 : -2147483648 ≤ Xi S 904 71 ∧ Xi S 904 71 ≤ 2147483647 := Xi_rgI
  have w12 : -2147483648 ≤ Xi S 904 72 ∧ Xi S 904 72 ≤ 2147483647 := Xi_rgI
  have w13 : -2147483648 ≤ Xi S 904 75 ∧ Xi S 904 75 ≤ 2147483647 := Xi_rgI
  have w14 : -2147483648 ≤ Xi S 904 76 ∧ Xi S 904 76 ≤ 2147483647 := Xi_rgI
  have w15 : -2147483648 ≤ Xi S 904 77 ∧ Xi S 904 77 ≤ 2147483647 := Xi_rgI
  have w16 : -2147483648 ≤ Xi S 904 78 ∧ Xi S 904 78 ≤ 2147483647 := Xi_rgI
  refine y_aload_n rfl rfl ?_
  refine y_iconst rfl ?_
  refine y_pfi rfl rfl rfl rfl ?_
  obtain ⟨U1, eU1⟩ : ∃ T : sS, T = uI S 904 106 (Int32.ofInt 0) := ⟨_, rfl⟩
  rw [← eU1]
  have hHU1 : RI U1 := by rw [eU1]; exact RI_w hH
  have hFU1 : FR md_mo_asked__15af S U1 := by rw [eU1]; exact FR.wI hF (mdf_i (r := (904, 905, 106, 107)) (List.mem_of_getElem? (i := 3) rfl) (inR_i (by omega) (by omega) (by omega) (by omega)))
  have w17 : Xi U1 904 106 = 0 := by rw [eU1]; exact Xi_same (by unfold rg; omega)
  have FA2 : FR lA S U1 := by rw [eU1]; exact FR.wI FR.rf (mdf_i (r := (904, 905, 106, 107)) (List.mem_of_getElem? (i := 0) rfl) (inR_i (by omega) (by omega) (by omega) (by omega)))
  refine y_aload_n rfl rfl ?_
  refine y_iconst rfl ?_
  refine y_pfi rfl rfl rfl rfl ?_
  obtain ⟨U2, eU2⟩ : ∃ T : sS, T = uI U1 904 108 (Int32.ofInt 0) := ⟨_, rfl⟩
  rw [← eU2]
  have hHU2 : RI U2 := by rw [eU2]; exact RI_w hHU1
  have hFU2 : FR md_mo_asked__15af S U2 := by rw [eU2]; exact FR.wI hFU1 (mdf_i (r := (904, 905, 108, 109)) (List.mem_of_getElem? (i := 4) rfl) (inR_i (by omega) (by omega) (by omega) (by omega)))
  have w18 : Xi U2 904 108 = 0 := by rw [eU2]; exact Xi_same (by unfold rg; omega)
  have FA7 : FR lA S U2 := by rw [eU2]; exact FR.wI FA2 (mdf_i (r := (904, 905, 108, 109)) (List.mem_of_getElem? (i := 1) rfl) (inR_i (by omega) (by omega) (by omega) (by omega)))
  refine y_aload_n rfl rfl ?_
  refine y_iconst rfl ?_
  refine y_pfi rfl rfl rfl rfl ?_
  obtain ⟨U3, eU3⟩ : ∃ T : sS, T = uI U2 904 115 (Int32.ofInt (-1)) := ⟨_, rfl⟩
  rw [← eU3]
  have hHU3 : RI U3 := by rw [eU3]; exact RI_w hHU2
  have hFU3 : FR md_mo_asked__15af S U3 := by rw [eU3]; exact FR.wI hFU2 (mdf_i (r := (904, 905, 115, 116)) (List.mem_of_getElem? (i := 9) rfl) (inR_i (by omega) (by omega) (by omega) (by omega)))
  have w19 : Xi U3 904 115 = (-1) := by rw [eU3]; exact Xi_same (by unfold rg; omega)
  have FA12 : FR lA S U3 := by rw [eU3]; exact FR.wI FA7 (mdf_i (r := (904, 905, 115, 116)) (List.mem_of_getElem? (i := 2) rfl) (inR_i (by omega) (by omega) (by omega) (by omega)))
  refine y_aload_n rfl rfl ?_
  refine y_iconst rfl ?_
  refine y_pfi rfl rfl rfl rfl ?_
  obtain ⟨U4, eU4⟩ : ∃ T : sS, T = uI U3 904 116 (Int32.ofInt (-1)) := ⟨_, rfl⟩
  rw [← eU4]
  have hHU4 : RI U4 := by rw [eU4]; exact RI_w hHU3
  have hFU4 : FR md_mo_asked__15af S U4 := by rw [eU4]; exact FR.wI hFU3 (mdf_i (r := (904, 905, 116, 117)) (List.mem_of_getElem? (i := 10) rfl) (inR_i (by omega) (by omega) (by omega) (by omega)))
  have w20 : Xi U4 904 116 = (-1) := by rw [eU4]; exact Xi_same (by unfold rg; omega)
  have FA17 : FR lA S U4 := by rw [eU4]; exact FR.wI FA12 (mdf_i (r := (904, 905, 116, 117)) (List.mem_of_getElem? (i := 3) rfl) (inR_i (by omega) (by omega) (by omega) (by omega)))
  have m17 : SMR S U4 := SMR_FR FA17 rfl rfl
  refine y_aload_n rfl rfl ?_
  refine y_gfi rfl rfl rfl rfl rfl ?_
  have w21 : (Xi U4 904 70) = (Xi S 904 70) := (show Xi U4 904 70 = Xi U3 904 70 from by rw [eU4]; exact Xi_ne (by omega)).trans ( (show Xi U3 904 70 = Xi U2 904 70 from by rw [eU3]; exact Xi_ne (by omega)).trans ( (show Xi U2 904 70 = Xi U1 904 70 from by rw [eU2]; exact Xi_ne (by omega)).trans ((show Xi U1 904 70 = Xi S 904 70 from by rw [eU1]; exact Xi_ne (by omega)))))
  rw [w21]
  refine y_tsw rfl rfl rfl rfl (by unfold rg; omega) (fun w22 => ?_) (fun ii tt hii w22 => ?_)
  · exfalso; omega
  · match ii, hii with
    | 0, hii =>
      cases hii
      have w23 : (Xi S 904 70) = 0 := by simpa using w22
      exfalso; omega
    | 1, hii =>
      cases hii
      have w24 : (Xi S 904 70) = 1 := by simpa using w22
      exfalso; omega
    | 2, hii =>
      cases hii
      have w25 : (Xi S 904 70) = 2 := by simpa using w22
      exfalso; omega
    | 3, hii =>
      cases hii
      have w26 : (Xi S 904 70) = 3 := by simpa using w22
      exfalso; omega
    | 4, hii =>
      cases hii
      have w27 : (Xi S 904 70) = 4 := by simpa using w22
      exfalso; omega
    | 5, hii =>
      cases hii
      have w28 : (Xi S 904 70) = 5 := by simpa using w22
      exfalso; omega
    | 6, hii =>
      cases hii
      have w29 : (Xi S 904 70) = 6 := by simpa using w22
      exfalso; omega
    | 7, hii =>
      cases hii
      have w30 : (Xi S 904 70) = 7 := by simpa using w22
      exfalso; omega
    | 8, hii =>
      cases hii
      have w31 : (Xi S 904 70) = 8 := by simpa using w22
      exfalso; omega
    | 9, hii =>
      cases hii
      have w32 : (Xi S 904 70) = 9 := by simpa using w22
      exfalso; omega
    | 10, hii =>
      cases hii
      have w33 : (Xi S 904 70) = 10 := by simpa using w22
      exfalso; omega
    | 11, hii =>
      cases hii
      have w34 : (Xi S 904 70) = 11 := by simpa using w22
      exfalso; omega
    | 12, hii =>
      cases hii
      have w35 : (Xi S 904 70) = 12 := by simpa using w22
      exfalso; omega
    | 13, hii =>
      cases hii
      have w36 : (Xi S 904 70) = 13 := by simpa using w22
      exfalso; omega
    | 14, hii =>
      cases hii
      have w37 : (Xi S 904 70) = 14 := by simpa using w22
      exfalso; omega
    | 15, hii =>
      cases hii
      have w38 : (Xi S 904 70) = 15 := by simpa using w22
      refine y_aload_n rfl rfl ?_
      have w39 : Xi U4 904 104 = Xi S 904 104 := (show Xi U4 904 104 = Xi U3 904 104 from by rw [eU4]; exact Xi_ne (by omega)).trans ( (show Xi U3 904 104 = Xi U2 904 104 from by rw [eU3]; exact Xi_ne (by omega)).trans ( (show Xi U2 904 104 = Xi U1 904 104 from by rw [eU2]; exact Xi_ne (by omega)).trans ((show Xi U1 904 104 = Xi S 904 104 from by rw [eU1]; exact Xi_ne (by omega)))))
      have w40 : Xi U4 904 105 = Xi S 904 105 := (show Xi U4 904 105 = Xi U3 904 105 from by rw [eU4]; exact Xi_ne (by omega)).trans ( (show Xi U3 904 105 = Xi U2 904 105 from by rw [eU3]; exact Xi_ne (by omega)).trans ( (show Xi U2 904 105 = Xi U1 904 105 from by rw [eU2]; exact Xi_ne (by omega)).trans ((show Xi U1 904 105 = Xi S 904 105 from by rw [eU1]; exact Xi_ne (by omega)))))
      have w41 : Xi U4 904 106 = Xi U1 904 106 := (show Xi U4 904 106 = Xi U3 904 106 from by rw [eU4]; exact Xi_ne (by omega)).trans ( (show Xi U3 904 106 = Xi U2 904 106 from by rw [eU3]; exact Xi_ne (by omega)).trans ((show Xi U2 904 106 = Xi U1 904 106 from by rw [eU2]; exact Xi_ne (by omega))))
      have w42 : Xi U4 904 108 = Xi U2 904 108 := (show Xi U4 904 108 = Xi U3 904 108 from by rw [eU4]; exact Xi_ne (by omega)).trans ((show Xi U3 904 108 = Xi U2 904 108 from by rw [eU3]; exact Xi_ne (by omega)))
      have w43 : Xi U4 904 15 = Xi S 904 15 := (show Xi U4 904 15 = Xi U3 904 15 from by rw [eU4]; exact Xi_ne (by omega)).trans ( (show Xi U3 904 15 = Xi U2 904 15 from by rw [eU3]; exact Xi_ne (by omega)).trans ( (show Xi U2 904 15 = Xi U1 904 15 from by rw [eU2]; exact Xi_ne (by omega)).trans ((show Xi U1 904 15 = Xi S 904 15 from by rw [eU1]; exact Xi_ne (by omega)))))
      have w44 : Xi U4 904 19 = Xi S 904 19 := (show Xi U4 904 19 = Xi U3 904 19 from by rw [eU4]; exact Xi_ne (by omega)).trans ( (show Xi U3 904 19 = Xi U2 904 19 from by rw [eU3]; exact Xi_ne (by omega)).trans ( (show Xi U2 904 19 = Xi U1 904 19 from by rw [eU2]; exact Xi_ne (by omega)).trans ((show Xi U1 904 19 = Xi S 904 19 from by rw [eU1]; exact Xi_ne (by omega)))))
      have w45 : Xi U4 904 30 = Xi S 904 30 := (show Xi U4 904 30 = Xi U3 904 30 from by rw [eU4]; exact Xi_ne (by omega)).trans ( (show Xi U3 904 30 = Xi U2 904 30 from by rw [eU3]; exact Xi_ne (by omega)).trans ( (show Xi U2 904 30 = Xi U1 904 30 from by rw [eU2]; exact Xi_ne (by omega)).trans ((show Xi U1 904 30 = Xi S 904 30 from by rw [eU1]; exact Xi_ne (by omega)))))
      have w46 : Xi U4 904 32 = Xi S 904 32 := (show Xi U4 904 32 = Xi U3 904 32 from by rw [eU4]; exact Xi_ne (by omega)).trans ( (show Xi U3 904 32 = Xi U2 904 32 from by rw [eU3]; exact Xi_ne (by omega)).trans ( (show Xi U2 904 32 = Xi U1 904 32 from by rw [eU2]; exact Xi_ne (by omega)).trans ((show Xi U1 904 32 = Xi S 904 32 from by rw [eU1]; exact Xi_ne (by omega)))))
      have w47 : Xi U4 904 69 = Xi S 904 69 := (show Xi U4 904 69 = Xi U3 904 69 from by rw [eU4]; exact Xi_ne (by omega)).trans ( (show Xi U3 904 69 = Xi U2 904 69 from by rw [eU3]; exact Xi_ne (by omega)).trans ( (show Xi U2 904 69 = Xi U1 904 69 from by rw [eU2]; exact Xi_ne (by omega)).trans ((show Xi U1 904 69 = Xi S 904 69 from by rw [eU1]; exact Xi_ne (by omega)))))
      have w48 : Xi U4 904 70 = Xi S 904 70 := (show Xi U4 904 70 = Xi U3 904 70 from by rw [eU4]; exact Xi_ne (by omega)).trans ( (show Xi U3 904 70 = Xi U2 904 70 from by rw [eU3]; exact Xi_ne (by omega)).trans ( (show Xi U2 904 70 = Xi U1 904 70 from by rw [eU2]; exact Xi_ne (by omega)).trans ((show Xi U1 904 70 = Xi S 904 70 from by rw [eU1]; exact Xi_ne (by omega)))))
      have w49 : Xi U4 904 71 = Xi S 904 71 := (show Xi U4 904 71 = Xi U3 904 71 from by rw [eU4]; exact Xi_ne (by omega)).trans ( (show Xi U3 904 71 = Xi U2 904 71 from by rw [eU3]; exact Xi_ne (by omega)).trans ( (show Xi U2 904 71 = Xi U1 904 71 from by rw [eU2]; exact Xi_ne (by omega)).trans ((show Xi U1 904 71 = Xi S 904 71 from by rw [eU1]; exact Xi_ne (by omega)))))
      have w50 : Xi U4 904 72 = Xi S 904 72 := (show Xi U4 904 72 = Xi U3 904 72 from by rw [eU4]; exact Xi_ne (by omega)).trans ( (show Xi U3 904 72 = Xi U2 904 72 from by rw [eU3]; exact Xi_ne (by omega)).trans ( (show Xi U2 904 72 = Xi U1 904 72 from by rw [eU2]; exact Xi_ne (by omega)).trans ((show Xi U1 904 72 = Xi S 904 72 from by rw [eU1]; exact Xi_ne (by omega)))))
      have w51 : Xi U4 904 75 = Xi S 904 75 := (show Xi U4 904 75 = Xi U3 904 75 from by rw [eU4]; exact Xi_ne (by omega)).trans ( (show Xi U3 904 75 = Xi U2 904 75 from by rw [eU3]; exact Xi_ne (by omega)).trans ( (show Xi U2 904 75 = Xi U1 904 75 from by rw [eU2]; exact Xi_ne (by omega)).trans ((show Xi U1 904 75 = Xi S 904 75 from by rw [eU1]; exact Xi_ne (by omega)))))
      have w52 : Xi U4 904 76 = Xi S 904 76 := (show Xi U4 904 76 = Xi U3 904 76 from by rw [eU4]; exact Xi_ne (by omega)).trans ( (show Xi U3 904 76 = Xi U2 904 76 from by rw [eU3]; exact Xi_ne (by omega)).trans ( (show Xi U2 904 76 = Xi U1 904 76 from by rw [eU2]; exact Xi_ne (by omega)).trans ((show Xi U1 904 76 = Xi S 904 76 from by rw [eU1]; exact Xi_ne (by omega)))))
      have w53 : Xi U4 904 77 = Xi S 904 77 := (show Xi U4 904 77 = Xi U3 904 77 from by rw [eU4]; exact Xi_ne (by omega)).trans ( (show Xi U3 904 77 = Xi U2 904 77 from by rw [eU3]; exact Xi_ne (by omega)).trans ( (show Xi U2 904 77 = Xi U1 904 77 from by rw [eU2]; exact Xi_ne (by omega)).trans ((show Xi U1 904 77 = Xi S 904 77 from by rw [eU1]; exact Xi_ne (by omega)))))
      have w54 : Xi U4 904 78 = Xi S 904 78 := (show Xi U4 904 78 = Xi U3 904 78 from by rw [eU4]; exact Xi_ne (by omega)).trans ( (show Xi U3 904 78 = Xi U2 904 78 from by rw [eU3]; exact Xi_ne (by omega)).trans ( (show Xi U2 904 78 = Xi U1 904 78 from by rw [eU2]; exact Xi_ne (by omega)).trans ((show Xi U1 904 78 = Xi S 904 78 from by rw [eU1]; exact Xi_ne (by omega)))))
      refine y_callV rfl rfl rfl (t_mo_askFifteen__1 hHU4 (by first | assumption | exact (LSP_FR hFU4 rfl rfl (by assumption : LSP S))) (by first | assumption | omega) (by first | assumption | exact (RBD_FR hFU4 rfl (by assumption : RBD S))) (by first | assumption | exact (LXR_FR hFU4 rfl rfl (by assumption : LXR S))) (by first | assumption | exact (ABV_FR hFU4 rfl (by assumption : ABV S))) (by first | assumption | omega) (by first | assumption | omega) (by first | assumption | omega) (by rw [rnR_sm m17, FA17.x 904 71 rfl]; exact hk15) (by rw [m17.2.1 950 _ (by omega), FA17.x 904 78 rfl]; exact hfw) (by first | assumption | omega) (by rw [FA17.x 904 72 rfl, FA17.x 904 71 rfl, pR_sm m17, pR_sm m17]; exact hq1) (by unfold fW; rw [FA17.x 904 72 rfl, FA17.x 904 71 rfl, pR_sm m17, m17.2.1 950 _ (by omega), m17.2.1 908 _ (by omega), FA17.x 904 78 rfl]; exact hq2) _) ?_
      rintro _ T5 ⟨hHT5, w56, rfl, o321⟩
      have hFT5 : FR md_mo_asked__15af S T5 := FR.tr hFU4 w56 rfl
      show Pl _ _ _ _ _ _ [] _ _
      have K321 : True := trivial
      have z321 : Xi U4 904 106 = 0 ∧ Xi U4 904 108 = 0 := ⟨by omega, by omega⟩
      refine y_goto rfl rfl ?_
      refine y_return rfl rfl ?_
      exact ⟨hHT5, hFT5, rfl⟩
    | 16, hii =>
      cases hii
      have w69 : (Xi S 904 70) = 16 := by simpa using w22
      refine y_aload_n rfl rfl ?_
      have w70 : Xi U4 904 104 = Xi S 904 104 := (show Xi U4 904 104 = Xi U3 904 104 from by rw [eU4]; exact Xi_ne (by omega)).trans ( (show Xi U3 904 104 = Xi U2 904 104 from by rw [eU3]; exact Xi_ne (by omega)).trans ( (show Xi U2 904 104 = Xi U1 904 104 from by rw [eU2]; exact Xi_ne (by omega)).trans ((show Xi U1 904 104 = Xi S 904 104 from by rw [eU1]; exact Xi_ne (by omega)))))
      have w71 : Xi U4 904 105 = Xi S 904 105 := (show Xi U4 904 105 = Xi U3 904 105 from by rw [eU4]; exact Xi_ne (by omega)).trans ( (show Xi U3 904 105 = Xi U2 904 105 from by rw [eU3]; exact Xi_ne (by omega)).trans ( (show Xi U2 904 105 = Xi U1 904 105 from by rw [eU2]; exact Xi_ne (by omega)).trans ((show Xi U1 904 105 = Xi S 904 105 from by rw [eU1]; exact Xi_ne (by omega)))))
      have w72 : Xi U4 904 106 = Xi U1 904 106 := (show Xi U4 904 106 = Xi U3 904 106 from by rw [eU4]; exact Xi_ne (by omega)).trans ( (show Xi U3 904 106 = Xi U2 904 106 from by rw [eU3]; exact Xi_ne (by omega)).trans ((show Xi U2 904 106 = Xi U1 904 106 from by rw [eU2]; exact Xi_ne (by omega))))
      have w73 : Xi U4 904 108 = Xi U2 904 108 := (show Xi U4 904 108 = Xi U3 904 108 from by rw [eU4]; exact Xi_ne (by omega)).trans ((show Xi U3 904 108 = Xi U2 904 108 from by rw [eU3]; exact Xi_ne (by omega)))
      have w74 : Xi U4 904 15 = Xi S 904 15 := (show Xi U4 904 15 = Xi U3 904 15 from by rw [eU4]; exact Xi_ne (by omega)).trans ( (show Xi U3 904 15 = Xi U2 904 15 from by rw [eU3]; exact Xi_ne (by omega)).trans ( (show Xi U2 904 15 = Xi U1 904 15 from by rw [eU2]; exact Xi_ne (by omega)).trans ((show Xi U1 904 15 = Xi S 904 15 from by rw [eU1]; exact Xi_ne (by omega)))))
      have w75 : Xi U4 904 19 = Xi S 904 19 := (show Xi U4 904 19 = Xi U3 904 19 from by rw [eU4]; exact Xi_ne (by omega)).trans ( (show Xi U3 904 19 = Xi U2 904 19 from by rw [eU3]; exact Xi_ne (by omega)).trans ( (show Xi U2 904 19 = Xi U1 904 19 from by rw [eU2]; exact Xi_ne (by omega)).trans ((show Xi U1 904 19 = Xi S 904 19 from by rw [eU1]; exact Xi_ne (by omega)))))
      have w76 : Xi U4 904 30 = Xi S 904 30 := (show Xi U4 904 30 = Xi U3 904 30 from by rw [eU4]; exact Xi_ne (by omega)).trans ( (show Xi U3 904 30 = Xi U2 904 30 from by rw [eU3]; exact Xi_ne (by omega)).trans ( (show Xi U2 904 30 = Xi U1 904 30 from by rw [eU2]; exact Xi_ne (by omega)).trans ((show Xi U1 904 30 = Xi S 904 30 from by rw [eU1]; exact Xi_ne (by omega)))))
      have w77 : Xi U4 904 32 = Xi S 904 32 := (show Xi U4 904 32 = Xi U3 904 32 from by rw [eU4]; exact Xi_ne (by omega)).trans ( (show Xi U3 904 32 = Xi U2 904 32 from by rw [eU3]; exact Xi_ne (by omega)).trans ( (show Xi U2 904 32 = Xi U1 904 32 from by rw [eU2]; exact Xi_ne (by omega)).trans ((show Xi U1 904 32 = Xi S 904 32 from by rw [eU1]; exact Xi_ne (by omega)))))
      have w78 : Xi U4 904 69 = Xi S 904 69 := (show Xi U4 904 69 = Xi U3 904 69 from by rw [eU4]; exact Xi_ne (by omega)).trans ( (show Xi U3 904 69 = Xi U2 904 69 from by rw [eU3]; exact Xi_ne (by omega)).trans ( (show Xi U2 904 69 = Xi U1 904 69 from by rw [eU2]; exact Xi_ne (by omega)).trans ((show Xi U1 904 69 = Xi S 904 69 from by rw [eU1]; exact Xi_ne (by omega)))))
      have w79 : Xi U4 904 70 = Xi S 904 70 := (show Xi U4 904 70 = Xi U3 904 70 from by rw [eU4]; exact Xi_ne (by omega)).trans ( (show Xi U3 904 70 = Xi U2 904 70 from by rw [eU3]; exact Xi_ne (by omega)).trans ( (show Xi U2 904 70 = Xi U1 904 70 from by rw [eU2]; exact Xi_ne (by omega)).trans ((show Xi U1 904 70 = Xi S 904 70 from by rw [eU1]; exact Xi_ne (by omega)))))
      have w80 : Xi U4 904 71 = Xi S 904 71 := (show Xi U4 904 71 = Xi U3 904 71 from by rw [eU4]; exact Xi_ne (by omega)).trans ( (show Xi U3 904 71 = Xi U2 904 71 from by rw [eU3]; exact Xi_ne (by omega)).trans ( (show Xi U2 904 71 = Xi U1 904 71 from by rw [eU2]; exact Xi_ne (by omega)).trans ((show Xi U1 904 71 = Xi S 904 71 from by rw [eU1]; exact Xi_ne (by omega)))))
      have w81 : Xi U4 904 72 = Xi S 904 72 := (show Xi U4 904 72 = Xi U3 904 72 from by rw [eU4]; exact Xi_ne (by omega)).trans ( (show Xi U3 904 72 = Xi U2 904 72 from by rw [eU3]; exact Xi_ne (by omega)).trans ( (show Xi U2 904 72 = Xi U1 904 72 from by rw [eU2]; exact Xi_ne (by omega)).trans ((show Xi U1 904 72 = Xi S 904 72 from by rw [eU1]; exact Xi_ne (by omega)))))
      have w82 : Xi U4 904 75 = Xi S 904 75 := (show Xi U4 904 75 = Xi U3 904 75 from by rw [eU4]; exact Xi_ne (by omega)).trans ( (show Xi U3 904 75 = Xi U2 904 75 from by rw [eU3]; exact Xi_ne (by omega)).trans ( (show Xi U2 904 75 = Xi U1 904 75 from by rw [eU2]; exact Xi_ne (by omega)).trans ((show Xi U1 904 75 = Xi S 904 75 from by rw [eU1]; exact Xi_ne (by omega)))))
      have w83 : Xi U4 904 76 = Xi S 904 76 := (show Xi U4 904 76 = Xi U3 904 76 from by rw [eU4]; exact Xi_ne (by omega)).trans ( (show Xi U3 904 76 = Xi U2 904 76 from by rw [eU3]; exact Xi_ne (by omega)).trans ( (show Xi U2 904 76 = Xi U1 904 76 from by rw [eU2]; exact Xi_ne (by omega)).trans ((show Xi U1 904 76 = Xi S 904 76 from by rw [eU1]; exact Xi_ne (by omega)))))
      have w84 : Xi U4 904 77 = Xi S 904 77 := (show Xi U4 904 77 = Xi U3 904 77 from by rw [eU4]; exact Xi_ne (by omega)).trans ( (show Xi U3 904 77 = Xi U2 904 77 from by rw [eU3]; exact Xi_ne (by omega)).trans ( (show Xi U2 904 77 = Xi U1 904 77 from by rw [eU2]; exact Xi_ne (by omega)).trans ((show Xi U1 904 77 = Xi S 904 77 from by rw [eU1]; exact Xi_ne (by omega)))))
      have w85 : Xi U4 904 78 = Xi S 904 78 := (show Xi U4 904 78 = Xi U3 904 78 from by rw [eU4]; exact Xi_ne (by omega)).trans ( (show Xi U3 904 78 = Xi U2 904 78 from by rw [eU3]; exact Xi_ne (by omega)).trans ( (show Xi U2 904 78 = Xi U1 904 78 from by rw [eU2]; exact Xi_ne (by omega)).trans ((show Xi U1 904 78 = Xi S 904 78 from by rw [eU1]; exact Xi_ne (by omega)))))
      refine y_callV rfl rfl rfl (t_mo_askFifteen__1 hHU4 (by first | assumption | exact (LSP_FR hFU4 rfl rfl (by assumption : LSP S))) (by first | assumption | omega) (by first | assumption | exact (RBD_FR hFU4 rfl (by assumption : RBD S))) (by first | assumption | exact (LXR_FR hFU4 rfl rfl (by assumption : LXR S))) (by first | assumption | exact (ABV_FR hFU4 rfl (by assumption : ABV S))) (by first | assumption | omega) (by first | assumption | omega) (by first | assumption | omega) (by rw [rnR_sm m17, FA17.x 904 71 rfl]; exact hk15) (by rw [m17.2.1 950 _ (by omega), FA17.x 904 78 rfl]; exact hfw) (by first | assumption | omega) (by rw [FA17.x 904 72 rfl, FA17.x 904 71 rfl, pR_sm m17, pR_sm m17]; exact hq1) (by unfold fW; rw [FA17.x 904 72 rfl, FA17.x 904 71 rfl, pR_sm m17, m17.2.1 950 _ (by omega), m17.2.1 908 _ (by omega), FA17.x 904 78 rfl]; exact hq2) _) ?_
      rintro _ T6 ⟨hHT6, w87, rfl, o321⟩
      have hFT6 : FR md_mo_asked__15af S T6 := FR.tr hFU4 w87 rfl
      show Pl _ _ _ _ _ _ [] _ _
      have K321 : True := trivial
      have z321 : Xi U4 904 106 = 0 ∧ Xi U4 904 108 = 0 := ⟨by omega, by omega⟩
      refine y_goto rfl rfl ?_
      refine y_return rfl rfl ?_
      exact ⟨hHT6, hFT6, rfl⟩
    | 17, hii =>
      cases hii
      have w100 : (Xi S 904 70) = 17 := by simpa using w22
      exfalso; omega
    | 18, hii =>
      cases hii
      have w101 : (Xi S 904 70) = 18 := by simpa using w22
      exfalso; omega
    | 19, hii =>
      cases hii
      have w102 : (Xi S 904 70) = 19 := by simpa using w22
      exfalso; omega
    | 20, hii =>
      cases hii
      have w103 : (Xi S 904 70) = 20 := by simpa using w22
      exfalso; omega
    | n + 21, hii => exact absurd hii (by simp)
def md_mo_asked__15bf : List rec := [(904, 905, 64, 65), (904, 905, 104, 105), (904, 905, 105, 106), (904, 905, 106, 107), (904, 905, 108, 109), (904, 905, 109, 110), (904, 905, 110, 111), (904, 905, 112, 113), (904, 905, 113, 114), (904, 905, 115, 116), (904, 905, 116, 117), (904, 905, 142, 143), (966, 967, 0, 100000), (967, 968, 0, 100000), (968, 969, 0, 100000)]
abbrev Q_mo_asked__15bf (S : sS) (first : Int) : pst := fun r S1 => RI S1 ∧ FR md_mo_asked__15bf S S1 ∧ (r = none)
set_option maxRecDepth 100000 in
theorem t_mo_asked__15bf {S : sS} (hH : RI S) (first : Int) (hfirst : 0 ≤ first ∧ first ≤ 5001) (hLS : LSP S) (h15 : 0 ≤ Xi S 904 15) (hRB : RBD S) (hu : Xi S 904 76 = 0) (hw : 0 ≤ Xi S 904 78 ∧ Xi S 904 78 ≤ Xi S 904 69 ∧ Xi S 904 69 ≤ 2600) (hv : 0 ≤ Xi S 904 30 ∧ Xi S 904 30 ≤ 64) (hl : 0 ≤ Xi S 904 71 ∧ Xi S 904 71 ≤ 2600) (hs : Xi S 904 70 = 15 ∧ Xi S 904 72 = 1 ∧ 1 < r2R S (Xi S 904 71) 2 3 ∧ Xi S 904 75 = 0) (d : Nat) : Mp lay0 (d + 13) m_mo_asked [.ref 904, iv first] S (Q_mo_asked__15bf S first) := by
  refine Mp_R rfl rfl (fun fu => ?_)
  have hF : FR md_mo_asked__15bf S S := FR.rf
  have w1 : -2147483648 ≤ Xi S 904 104 ∧ Xi S 904 104 ≤ 2147483647 := Xi_rgI
  have w2 : -2147483648 ≤ Xi S 904 105 ∧ Xi S 904 105 ≤ 2147483647 := Xi_rgI
  have w3 : -2147483648 ≤ Xi S 904 106 ∧ Xi S 904 106 ≤ 2147483647 := Xi_rgI
  have w4 : -2147483648 ≤ Xi S 904 108 ∧ Xi S 904 108 ≤ 2147483647 := Xi_rgI
  have w5 : -2147483648 ≤ Xi S 904 15 ∧ Xi S 904 15 ≤ 2147483647 := Xi_rgI
  have w6 : -2147483648 ≤ Xi S 904 19 ∧ Xi S 904 19 ≤ 2147483647 := Xi_rgI
  have w7 : -2147483648 ≤ Xi S 904 30 ∧ Xi S 904 30 ≤ 2147483647 := Xi_rgI
  have w8 : -2147483648 ≤ Xi S 904 32 ∧ Xi S 904 32 ≤ 2147483647 := Xi_rgI
  have w9 : -2147483648 ≤ Xi S 904 69 ∧ Xi S 904 69 ≤ 2147483647 := Xi_rgI
  have w10 : -2147483648 ≤ Xi S 904 70 ∧ Xi S 904 70 ≤ 2147483647 := Xi_rgI
  have w11 : -2147483648 ≤ Xi S 904 71 ∧ Xi S 904 71 ≤ 2147483647 := Xi_rgI
  have w12 : -2147483648 ≤ Xi S 904 72 ∧ Xi S 904 72 ≤ 2147483647 := Xi_rgI
  have w13 : -2147483648 ≤ Xi S 904 75 ∧ Xi S 904 75 ≤ 2147483647 := Xi_rgI
  have w14 : -2147483648 ≤ Xi S 904 76 ∧ Xi S 904 76 ≤ 2147483647 := Xi_rgI
  have w15 : -2147483648 ≤ Xi S 904 77 ∧ Xi S 904 77 ≤ 2147483647 := Xi_rgI
  have w16 : -2147483648 ≤ Xi S 904 78 ∧ Xi S 904 78 ≤ 2147483647 := Xi_rgI
  refine y_aload_n rfl rfl ?_
  refine y_iconst rfl ?_
  refine y_pfi rfl rfl rfl rfl ?_
  obtain ⟨U1, eU1⟩ : ∃ T : sS, T = uI S 904 106 (Int32.ofInt 0) := ⟨_, rfl⟩
  rw [← eU1]
  have hHU1 : RI U1 := by rw [eU1]; exact RI_w hH
  have hFU1 : FR md_mo_asked__15bf S U1 := by rw [eU1]; exact FR.wI hF (mdf_i (r := (904, 905, 106, 107)) (List.mem_of_getElem? (i := 3) rfl) (inR_i (by omega) (by omega) (by omega) (by omega)))
  have w17 : Xi U1 904 106 = 0 := by rw [eU1]; exact Xi_same (by unfold rg; omega)
  have FA2 : FR lA S U1 := by rw [eU1]; exact FR.wI FR.rf (mdf_i (r := (904, 905, 106, 107)) (List.mem_of_getElem? (i := 0) rfl) (inR_i (by omega) (by omega) (by omega) (by omega)))
  refine y_aload_n rfl rfl ?_
  refine y_iconst rfl ?_
  refine y_pfi rfl rfl rfl rfl ?_
  obtain ⟨U2, eU2⟩ : ∃ T : sS, T = uI U1 904 108 (Int32.ofInt 0) := ⟨_, rfl⟩
  rw [← eU2]
  have hHU2 : RI U2 := by rw [eU2]; exact RI_w hHU1
  have hFU2 : FR md_mo_asked__15bf S U2 := by rw [eU2]; exact FR.wI hFU1 (mdf_i (r := (904, 905, 108, 109)) (List.mem_of_getElem? (i := 4) rfl) (inR_i (by omega) (by omega) (by omega) (by omega)))
  have w18 : Xi U2 904 108 = 0 := by rw [eU2]; exact Xi_same (by unfold rg; omega)
  have FA7 : FR lA S U2 := by rw [eU2]; exact FR.wI FA2 (mdf_i (r := (904, 905, 108, 109)) (List.mem_of_getElem? (i := 1) rfl) (inR_i (by omega) (by omega) (by omega) (by omega)))
  refine y_aload_n rfl rfl ?_
  refine y_iconst rfl ?_
  refine y_pfi rfl rfl rfl rfl ?_
  obtain ⟨U3, eU3⟩ : ∃ T : sS, T = uI U2 904 115 (Int32.ofInt (-1)) := ⟨_, rfl⟩
  rw [← eU3]
  have hHU3 : RI U3 := by rw [eU3]; exact RI_w hHU2
  have hFU3 : FR md_mo_asked__15bf S U3 := by rw [eU3]; exact FR.wI hFU2 (mdf_i (r := (904, 905, 115, 116)) (List.mem_of_getElem? (i := 9) rfl) (inR_i (by omega) (by omega) (by omega) (by omega)))
  have w19 : Xi U3 904 115 = (-1) := by rw [eU3]; exact Xi_same (by unfold rg; omega)
  have FA12 : FR lA S U3 := by rw [eU3]; exact FR.wI FA7 (mdf_i (r := (904, 905, 115, 116)) (List.mem_of_getElem? (i := 2) rfl) (inR_i (by omega) (by omega) (by omega) (by omega)))
  refine y_aload_n rfl rfl ?_
  refine y_iconst rfl ?_
  refine y_pfi rfl rfl rfl rfl ?_
  obtain ⟨U4, eU4⟩ : ∃ T : sS, T = uI U3 904 116 (Int32.ofInt (-1)) := ⟨_, rfl⟩
  rw [← eU4]
  have hHU4 : RI U4 := by rw [eU4]; exact RI_w hHU3
  have hFU4 : FR md_mo_asked__15bf S U4 := by rw [eU4]; exact FR.wI hFU3 (mdf_i (r := (904, 905, 116, 117)) (List.mem_of_getElem? (i := 10) rfl) (inR_i (by omega) (by omega) (by omega) (by omega)))
  have w20 : Xi U4 904 116 = (-1) := by rw [eU4]; exact Xi_same (by unfold rg; omega)
  have FA17 : FR lA S U4 := by rw [eU4]; exact FR.wI FA12 (mdf_i (r := (904, 905, 116, 117)) (List.mem_of_getElem? (i := 3) rfl) (inR_i (by omega) (by omega) (by omega) (by omega)))
  have m17 : SMR S U4 := SMR_FR FA17 rfl rfl
  refine y_aload_n rfl rfl ?_
  refine y_gfi rfl rfl rfl rfl rfl ?_
  have w21 : (Xi U4 904 70) = (Xi S 904 70) := (show Xi U4 904 70 = Xi U3 904 70 from by rw [eU4]; exact Xi_ne (by omega)).trans ( (show Xi U3 904 70 = Xi U2 904 70 from by rw [eU3]; exact Xi_ne (by omega)).trans ( (show Xi U2 904 70 = Xi U1 904 70 from by rw [eU2]; exact Xi_ne (by omega)).trans ((show Xi U1 904 70 = Xi S 904 70 from by rw [eU1]; exact Xi_ne (by omega)))))
  rw [w21]
  refine y_tsw rfl rfl rfl rfl (by unfold rg; omega) (fun w22 => ?_) (fun ii tt hii w22 => ?_)
  · exfalso; omega
  · match ii, hii with
    | 0, hii =>
      cases hii
      have w23 : (Xi S 904 70) = 0 := by simpa using w22
      exfalso; omega
    | 1, hii =>
      cases hii
      have w24 : (Xi S 904 70) = 1 := by simpa using w22
      exfalso; omega
    | 2, hii =>
      cases hii
      have w25 : (Xi S 904 70) = 2 := by simpa using w22
      exfalso; omega
    | 3, hii =>
      cases hii
      have w26 : (Xi S 904 70) = 3 := by simpa using w22
      exfalso; omega
    | 4, hii =>
      cases hii
      have w27 : (Xi S 904 70) = 4 := by simpa using w22
      exfalso; omega
    | 5, hii =>
      cases hii
      have w28 : (Xi S 904 70) = 5 := by simpa using w22
      exfalso; omega
    | 6, hii =>
      cases hii
      have w29 : (Xi S 904 70) = 6 := by simpa using w22
      exfalso; omega
    | 7, hii =>
      cases hii
      have w30 : (Xi S 904 70) = 7 := by simpa using w22
      exfalso; omega
    | 8, hii =>
      cases hii
      have w31 : (Xi S 904 70) = 8 := by simpa using w22
      exfalso; omega
    | 9, hii =>
      cases hii
      have w32 : (Xi S 904 70) = 9 := by simpa using w22
      exfalso; omega
    | 10, hii =>
      cases hii
      have w33 : (Xi S 904 70) = 10 := by simpa using w22
      exfalso; omega
    | 11, hii =>
      cases hii
      have w34 : (Xi S 904 70) = 11 := by simpa using w22
      exfalso; omega
    | 12, hii =>
      cases hii
      have w35 : (Xi S 904 70) = 12 := by simpa using w22
      exfalso; omega
    | 13, hii =>
      cases hii
      have w36 : (Xi S 904 70) = 13 := by simpa using w22
      exfalso; omega
    | 14, hii =>
      cases hii
      have w37 : (Xi S 904 70) = 14 := by simpa using w22
      exfalso; omega
    | 15, hii =>
      cases hii
      have w38 : (Xi S 904 70) = 15 := by simpa using w22
      refine y_aload_n rfl rfl ?_
      have w41 : Xi U4 904 106 = Xi U1 904 106 := (show Xi U4 904 106 = Xi U3 904 106 from by rw [eU4]; exact Xi_ne (by omega)).trans ( (show Xi U3 904 106 = Xi U2 904 106 from by rw [eU3]; exact Xi_ne (by omega)).trans ((show Xi U2 904 106 = Xi U1 904 106 from by rw [eU2]; exact Xi_ne (by omega))))
      have w42 : Xi U4 904 108 = Xi U2 904 108 := (show Xi U4 904 108 = Xi U3 904 108 from by rw [eU4]; exact Xi_ne (by omega)).trans ((show Xi U3 904 108 = Xi U2 904 108 from by rw [eU3]; exact Xi_ne (by omega)))
      have w43 : Xi U4 904 15 = Xi S 904 15 := (show Xi U4 904 15 = Xi U3 904 15 from by rw [eU4]; exact Xi_ne (by omega)).trans ( (show Xi U3 904 15 = Xi U2 904 15 from by rw [eU3]; exact Xi_ne (by omega)).trans ( (show Xi U2 904 15 = Xi U1 904 15 from by rw [eU2]; exact Xi_ne (by omega)).trans ((show Xi U1 904 15 = Xi S 904 15 from by rw [eU1]; exact Xi_ne (by omega)))))
      have w45 : Xi U4 904 30 = Xi S 904 30 := (show Xi U4 904 30 = Xi U3 904 30 from by rw [eU4]; exact Xi_ne (by omega)).trans ( (show Xi U3 904 30 = Xi U2 904 30 from by rw [eU3]; exact Xi_ne (by omega)).trans ( (show Xi U2 904 30 = Xi U1 904 30 from by rw [eU2]; exact Xi_ne (by omega)).trans ((show Xi U1 904 30 = Xi S 904 30 from by rw [eU1]; exact Xi_ne (by omega)))))
      have w47 : Xi U4 904 69 = Xi S 904 69 := (show Xi U4 904 69 = Xi U3 904 69 from by rw [eU4]; exact Xi_ne (by omega)).trans ( (show Xi U3 904 69 = Xi U2 904 69 from by rw [eU3]; exact Xi_ne (by omega)).trans ( (show Xi U2 904 69 = Xi U1 904 69 from by rw [eU2]; exact Xi_ne (by omega)).trans ((show Xi U1 904 69 = Xi S 904 69 from by rw [eU1]; exact Xi_ne (by omega)))))
      have w48 : Xi U4 904 70 = Xi S 904 70 := (show Xi U4 904 70 = Xi U3 904 70 from by rw [eU4]; exact Xi_ne (by omega)).trans ( (show Xi U3 904 70 = Xi U2 904 70 from by rw [eU3]; exact Xi_ne (by omega)).trans ( (show Xi U2 904 70 = Xi U1 904 70 from by rw [eU2]; exact Xi_ne (by omega)).trans ((show Xi U1 904 70 = Xi S 904 70 from by rw [eU1]; exact Xi_ne (by omega)))))
      have w49 : Xi U4 904 71 = Xi S 904 71 := (show Xi U4 904 71 = Xi U3 904 71 from by rw [eU4]; exact Xi_ne (by omega)).trans ( (show Xi U3 904 71 = Xi U2 904 71 from by rw [eU3]; exact Xi_ne (by omega)).trans ( (show Xi U2 904 71 = Xi U1 904 71 from by rw [eU2]; exact Xi_ne (by omega)).trans ((show Xi U1 904 71 = Xi S 904 71 from by rw [eU1]; exact Xi_ne (by omega)))))
      have w50 : Xi U4 904 72 = Xi S 904 72 := (show Xi U4 904 72 = Xi U3 904 72 from by rw [eU4]; exact Xi_ne (by omega)).trans ( (show Xi U3 904 72 = Xi U2 904 72 from by rw [eU3]; exact Xi_ne (by omega)).trans ( (show Xi U2 904 72 = Xi U1 904 72 from by rw [eU2]; exact Xi_ne (by omega)).trans ((show Xi U1 904 72 = Xi S 904 72 from by rw [eU1]; exact Xi_ne (by omega)))))
      have w51 : Xi U4 904 75 = Xi S 904 75 := (show Xi U4 904 75 = Xi U3 904 75 from by rw [eU4]; exact Xi_ne (by omega)).trans ( (show Xi U3 904 75 = Xi U2 904 75 from by rw [eU3]; exact Xi_ne (by omega)).trans ( (show Xi U2 904 75 = Xi U1 904 75 from by rw [eU2]; exact Xi_ne (by omega)).trans ((show Xi U1 904 75 = Xi S 904 75 from by rw [eU1]; exact Xi_ne (by omega)))))
      have w52 : Xi U4 904 76 = Xi S 904 76 := (show Xi U4 904 76 = Xi U3 904 76 from by rw [eU4]; exact Xi_ne (by omega)).trans ( (show Xi U3 904 76 = Xi U2 904 76 from by rw [eU3]; exact Xi_ne (by omega)).trans ( (show Xi U2 904 76 = Xi U1 904 76 from by rw [eU2]; exact Xi_ne (by omega)).trans ((show Xi U1 904 76 = Xi S 904 76 from by rw [eU1]; exact Xi_ne (by omega)))))
      have w54 : Xi U4 904 78 = Xi S 904 78 := (show Xi U4 904 78 = Xi U3 904 78 from by rw [eU4]; exact Xi_ne (by omega)).trans ( (show Xi U3 904 78 = Xi U2 904 78 from by rw [eU3]; exact Xi_ne (by omega)).trans ( (show Xi U2 904 78 = Xi U1 904 78 from by rw [eU2]; exact Xi_ne (by omega)).trans ((show Xi U1 904 78 = Xi S 904 78 from by rw [eU1]; exact Xi_ne (by omega)))))
      refine y_callV rfl rfl rfl (t_mo_askFifteen__3 hHU4 (by first | assumption | exact (LSP_FR hFU4 rfl rfl (by assumption : LSP S))) (by first | assumption | omega) (by first | assumption | exact (RBD_FR hFU4 rfl (by assumption : RBD S))) (by first | assumption | omega) (by first | assumption | omega) (by first | assumption | omega) (by first | assumption | omega) (by first | assumption | omega) (by rw [r2R_sm m17, FA17.x 904 70 rfl, FA17.x 904 71 rfl, FA17.x 904 72 rfl, FA17.x 904 75 rfl]; exact hs) _) ?_
      rintro _ T5 ⟨hHT5, w56, rfl, o321⟩
      have hFT5 : FR md_mo_asked__15bf S T5 := FR.tr hFU4 w56 rfl
      show Pl _ _ _ _ _ _ [] _ _
      have K321 : True := trivial
      have z321 : Xi U4 904 106 = 0 ∧ Xi U4 904 108 = 0 := ⟨by omega, by omega⟩
      refine y_goto rfl rfl ?_
      refine y_return rfl rfl ?_
      exact ⟨hHT5, hFT5, rfl⟩
    | 16, hii =>
      cases hii
      have w69 : (Xi S 904 70) = 16 := by simpa using w22
      refine y_aload_n rfl rfl ?_
      have w72 : Xi U4 904 106 = Xi U1 904 106 := (show Xi U4 904 106 = Xi U3 904 106 from by rw [eU4]; exact Xi_ne (by omega)).trans ( (show Xi U3 904 106 = Xi U2 904 106 from by rw [eU3]; exact Xi_ne (by omega)).trans ((show Xi U2 904 106 = Xi U1 904 106 from by rw [eU2]; exact Xi_ne (by omega))))
      have w73 : Xi U4 904 108 = Xi U2 904 108 := (show Xi U4 904 108 = Xi U3 904 108 from by rw [eU4]; exact Xi_ne (by omega)).trans ((show Xi U3 904 108 = Xi U2 904 108 from by rw [eU3]; exact Xi_ne (by omega)))
      have w74 : Xi U4 904 15 = Xi S 904 15 := (show Xi U4 904 15 = Xi U3 904 15 from by rw [eU4]; exact Xi_ne (by omega)).trans ( (show Xi U3 904 15 = Xi U2 904 15 from by rw [eU3]; exact Xi_ne (by omega)).trans ( (show Xi U2 904 15 = Xi U1 904 15 from by rw [eU2]; exact Xi_ne (by omega)).trans ((show Xi U1 904 15 = Xi S 904 15 from by rw [eU1]; exact Xi_ne (by omega)))))
      have w76 : Xi U4 904 30 = Xi S 904 30 := (show Xi U4 904 30 = Xi U3 904 30 from by rw [eU4]; exact Xi_ne (by omega)).trans ( (show Xi U3 904 30 = Xi U2 904 30 from by rw [eU3]; exact Xi_ne (by omega)).trans ( (show Xi U2 904 30 = Xi U1 904 30 from by rw [eU2]; exact Xi_ne (by omega)).trans ((show Xi U1 904 30 = Xi S 904 30 from by rw [eU1]; exact Xi_ne (by omega)))))
      have w78 : Xi U4 904 69 = Xi S 904 69 := (show Xi U4 904 69 = Xi U3 904 69 from by rw [eU4]; exact Xi_ne (by omega)).trans ( (show Xi U3 904 69 = Xi U2 904 69 from by rw [eU3]; exact Xi_ne (by omega)).trans ( (show Xi U2 904 69 = Xi U1 904 69 from by rw [eU2]; exact Xi_ne (by omega)).trans ((show Xi U1 904 69 = Xi S 904 69 from by rw [eU1]; exact Xi_ne (by omega)))))
      have w79 : Xi U4 904 70 = Xi S 904 70 := (show Xi U4 904 70 = Xi U3 904 70 from by rw [eU4]; exact Xi_ne (by omega)).trans ( (show Xi U3 904 70 = Xi U2 904 70 from by rw [eU3]; exact Xi_ne (by omega)).trans ( (show Xi U2 904 70 = Xi U1 904 70 from by rw [eU2]; exact Xi_ne (by omega)).trans ((show Xi U1 904 70 = Xi S 904 70 from by rw [eU1]; exact Xi_ne (by omega)))))
      have w80 : Xi U4 904 71 = Xi S 904 71 := (show Xi U4 904 71 = Xi U3 904 71 from by rw [eU4]; exact Xi_ne (by omega)).trans ( (show Xi U3 904 71 = Xi U2 904 71 from by rw [eU3]; exact Xi_ne (by omega)).trans ( (show Xi U2 904 71 = Xi U1 904 71 from by rw [eU2]; exact Xi_ne (by omega)).trans ((show Xi U1 904 71 = Xi S 904 71 from by rw [eU1]; exact Xi_ne (by omega)))))
      have w81 : Xi U4 904 72 = Xi S 904 72 := (show Xi U4 904 72 = Xi U3 904 72 from by rw [eU4]; exact Xi_ne (by omega)).trans ( (show Xi U3 904 72 = Xi U2 904 72 from by rw [eU3]; exact Xi_ne (by omega)).trans ( (show Xi U2 904 72 = Xi U1 904 72 from by rw [eU2]; exact Xi_ne (by omega)).trans ((show Xi U1 904 72 = Xi S 904 72 from by rw [eU1]; exact Xi_ne (by omega)))))
      have w82 : Xi U4 904 75 = Xi S 904 75 := (show Xi U4 904 75 = Xi U3 904 75 from by rw [eU4]; exact Xi_ne (by omega)).trans ( (show Xi U3 904 75 = Xi U2 904 75 from by rw [eU3]; exact Xi_ne (by omega)).trans ( (show Xi U2 904 75 = Xi U1 904 75 from by rw [eU2]; exact Xi_ne (by omega)).trans ((show Xi U1 904 75 = Xi S 904 75 from by rw [eU1]; exact Xi_ne (by omega)))))
      have w83 : Xi U4 904 76 = Xi S 904 76 := (show Xi U4 904 76 = Xi U3 904 76 from by rw [eU4]; exact Xi_ne (by omega)).trans ( (show Xi U3 904 76 = Xi U2 904 76 from by rw [eU3]; exact Xi_ne (by omega)).trans ( (show Xi U2 904 76 = Xi U1 904 76 from by rw [eU2]; exact Xi_ne (by omega)).trans ((show Xi U1 904 76 = Xi S 904 76 from by rw [eU1]; exact Xi_ne (by omega)))))
      have w85 : Xi U4 904 78 = Xi S 904 78 := (show Xi U4 904 78 = Xi U3 904 78 from by rw [eU4]; exact Xi_ne (by omega)).trans ( (show Xi U3 904 78 = Xi U2 904 78 from by rw [eU3]; exact Xi_ne (by omega)).trans ( (show Xi U2 904 78 = Xi U1 904 78 from by rw [eU2]; exact Xi_ne (by omega)).trans ((show Xi U1 904 78 = Xi S 904 78 from by rw [eU1]; exact Xi_ne (by omega)))))
      refine y_callV rfl rfl rfl (t_mo_askFifteen__3 hHU4 (by first | assumption | exact (LSP_FR hFU4 rfl rfl (by assumption : LSP S))) (by first | assumption | omega) (by first | assumption | exact (RBD_FR hFU4 rfl (by assumption : RBD S))) (by first | assumption | omega) (by first | assumption | omega) (by first | assumption | omega) (by first | assumption | omega) (by first | assumption | omega) (by rw [r2R_sm m17, FA17.x 904 70 rfl, FA17.x 904 71 rfl, FA17.x 904 72 rfl, FA17.x 904 75 rfl]; exact hs) _) ?_
      rintro _ T6 ⟨hHT6, w87, rfl, o321⟩
      have hFT6 : FR md_mo_asked__15bf S T6 := FR.tr hFU4 w87 rfl
      show Pl _ _ _ _ _ _ [] _ _
      have K321 : True := trivial
      have z321 : Xi U4 904 106 = 0 ∧ Xi U4 904 108 = 0 := ⟨by omega, by omega⟩
      refine y_goto rfl rfl ?_
      refine y_return rfl rfl ?_
      exact ⟨hHT6, hFT6, rfl⟩
    | 17, hii =>
      cases hii
      have w100 : (Xi S 904 70) = 17 := by simpa using w22
      exfalso; omega
    | 18, hii =>
      cases hii
      have w101 : (Xi S 904 70) = 18 := by simpa using w22
      exfalso; omega
    | 19, hii =>
      cases hii
      have w102 : (Xi S 904 70) = 19 := by simpa using w22
      exfalso; omega
    | 20, hii =>
      cases hii
      have w103 : (Xi S 904 70) = 20 := by simpa using w22
      exfalso; omega
    | n + 21, hii => exact absurd hii (by simp)
def md_mo_asked__15cf : List rec := [(904, 905, 64, 65), (904, 905, 104, 105), (904, 905, 105, 106), (904, 905, 106, 107), (904, 905, 108, 109), (904, 905, 109, 110), (904, 905, 110, 111), (904, 905, 112, 113), (904, 905, 113, 114), (904, 905, 115, 116), (904, 905, 116, 117), (904, 905, 142, 143), (966, 967, 0, 100000), (967, 968, 0, 100000), (968, 969, 0, 100000)]
abbrev Q_mo_asked__15cf (S : sS) (first : Int) : pst := fun r S1 => RI S1 ∧ FR md_mo_asked__15cf S S1 ∧ (r = none)
set_option maxRecDepth 100000 in
theorem t_mo_asked__15cf {S : sS} (hH : RI S) (first : Int) (hfirst : 0 ≤ first ∧ first ≤ 5001) (hLS : LSP S) (h15 : 0 ≤ Xi S 904 15) (hRB : RBD S) (hLX : LXR S) (hB : ABV S) (hko : Hid (∀ j : Nat, -1 ≤ Xi S 918 j ∧ Xi S 918 j ≤ 15)) (hl : 0 ≤ Xi S 904 71 ∧ Xi S 904 71 ≤ 2600 ∧ 0 ≤ Xi S 904 72 ∧ Xi S 904 72 ≤ 2600) (hob : 0 ≤ Xi S 904 19 ∧ Xi S 904 19 ≤ 24) (hkk : Hid (∀ k : Nat, (k : Int) < Xi S 904 15 → Xi S 914 k ≤ 1 → Xi S 915 k ≤ 15)) (hp32 : 0 ≤ Xi S 904 32 ∧ Xi S 904 32 ≤ 12) (hu : Xi S 904 76 = 0) (hs : Xi S 904 70 = 15) (hnv : Hid (1 < tU5 S → Xi S 904 75 ≠ 0)) (hfw : 0 ≤ fW S ∧ fW S ≤ 5100 ∧ 0 ≤ nW S ∧ nW S ≤ 5100) (hpl : PLL S (Xi S 904 71) (Xi S 904 72).toNat) (d : Nat) : Mp lay0 (d + 13) m_mo_asked [.ref 904, iv first] S (Q_mo_asked__15cf S first) := by
  refine Mp_R rfl rfl (fun fu => ?_)
  have hF : FR md_mo_asked__15cf S S := FR.rf
  have w1 : -2147483648 ≤ Xi S 904 104 ∧ Xi S 904 104 ≤ 2147483647 := Xi_rgI
  have w2 : -2147483648 ≤ Xi S 904 105 ∧ Xi S 904 105 ≤ 2147483647 := Xi_rgI
  have w3 : -2147483648 ≤ Xi S 904 106 ∧ Xi S 904 106 ≤ 2147483647 := Xi_rgI
  have w4 : -2147483648 ≤ Xi S 904 108 ∧ Xi S 904 108 ≤ 2147483647 := Xi_rgI
  have w5 : -2147483648 ≤ Xi S 904 15 ∧ Xi S 904 15 ≤ 2147483647 := Xi_rgI
  have w6 : -2147483648 ≤ Xi S 904 19 ∧ Xi S 904 19 ≤ 2147483647 := Xi_rgI
  have w7 : -2147483648 ≤ Xi S 904 30 ∧ Xi S 904 30 ≤ 2147483647 := Xi_rgI
  have w8 : -2147483648 ≤ Xi S 904 32 ∧ Xi S 904 32 ≤ 2147483647 := Xi_rgI
  have w9 : -2147483648 ≤ Xi S 904 69 ∧ Xi S 904 69 ≤ 2147483647 := Xi_rgI
  have w10 : -2147483648 ≤ Xi S 904 70 ∧ Xi S 904 70 ≤ 2147483647 := Xi_rgI
  have w11 : -2147483648 ≤ Xi S 904 71 ∧ Xi S 904 71 ≤ 2147483647 := Xi_rgI
  have w12 : -2147483648 ≤ Xi S 904 72 ∧ Xi S 904 72 ≤ 2147483647 := Xi_rgI
  have w13 : -2147483648 ≤ Xi S 904 75 ∧ Xi S 904 75 ≤ 2147483647 := Xi_rgI
  have w14 : -2147483648 ≤ Xi S 904 76 ∧ Xi S 904 76 ≤ 2147483647 := Xi_rgI
  have w15 : -2147483648 ≤ Xi S 904 77 ∧ Xi S 904 77 ≤ 2147483647 := Xi_rgI
  have w16 : -2147483648 ≤ Xi S 904 78 ∧ Xi S 904 78 ≤ 2147483647 := Xi_rgI
  refine y_aload_n rfl rfl ?_
  refine y_iconst rfl ?_
  refine y_pfi rfl rfl rfl rfl ?_
  obtain ⟨U1, eU1⟩ : ∃ T : sS, T = uI S 904 106 (Int32.ofInt 0) := ⟨_, rfl⟩
  rw [← eU1]
  have hHU1 : RI U1 := by rw [eU1]; exact RI_w hH
  have hFU1 : FR md_mo_asked__15cf S U1 := by rw [eU1]; exact FR.wI hF (mdf_i (r := (904, 905, 106, 107)) (List.mem_of_getElem? (i := 3) rfl) (inR_i (by omega) (by omega) (by omega) (by omega)))
  have w17 : Xi U1 904 106 = 0 := by rw [eU1]; exact Xi_same (by unfold rg; omega)
  have FA2 : FR lA S U1 := by rw [eU1]; exact FR.wI FR.rf (mdf_i (r := (904, 905, 106, 107)) (List.mem_of_getElem? (i := 0) rfl) (inR_i (by omega) (by omega) (by omega) (by omega)))
  refine y_aload_n rfl rfl ?_
  refine y_iconst rfl ?_
  refine y_pfi rfl rfl rfl rfl ?_
  obtain ⟨U2, eU2⟩ : ∃ T : sS, T = uI U1 904 108 (Int32.ofInt 0) := ⟨_, rfl⟩
  rw [← eU2]
  have hHU2 : RI U2 := by rw [eU2]; exact RI_w hHU1
  have hFU2 : FR md_mo_asked__15cf S U2 := by rw [eU2]; exact FR.wI hFU1 (mdf_i (r := (904, 905, 108, 109)) (List.mem_of_getElem? (i := 4) rfl) (inR_i (by omega) (by omega) (by omega) (by omega)))
  have w18 : Xi U2 904 108 = 0 := by rw [eU2]; exact Xi_same (by unfold rg; omega)
  have FA7 : FR lA S U2 := by rw [eU2]; exact FR.wI FA2 (mdf_i (r := (904, 905, 108, 109)) (List.mem_of_getElem? (i := 1) rfl) (inR_i (by omega) (by omega) (by omega) (by omega)))
  refine y_aload_n rfl rfl ?_
  refine y_iconst rfl ?_
  refine y_pfi rfl rfl rfl rfl ?_
  obtain ⟨U3, eU3⟩ : ∃ T : sS, T = uI U2 904 115 (Int32.ofInt (-1)) := ⟨_, rfl⟩
  rw [← eU3]
  have hHU3 : RI U3 := by rw [eU3]; exact RI_w hHU2
  have hFU3 : FR md_mo_asked__15cf S U3 := by rw [eU3]; exact FR.wI hFU2 (mdf_i (r := (904, 905, 115, 116)) (List.mem_of_getElem? (i := 9) rfl) (inR_i (by omega) (by omega) (by omega) (by omega)))
  have w19 : Xi U3 904 115 = (-1) := by rw [eU3]; exact Xi_same (by unfold rg; omega)
  have FA12 : FR lA S U3 := by rw [eU3]; exact FR.wI FA7 (mdf_i (r := (904, 905, 115, 116)) (List.mem_of_getElem? (i := 2) rfl) (inR_i (by omega) (by omega) (by omega) (by omega)))
  refine y_aload_n rfl rfl ?_
  refine y_iconst rfl ?_
  refine y_pfi rfl rfl rfl rfl ?_
  obtain ⟨U4, eU4⟩ : ∃ T : sS, T = uI U3 904 116 (Int32.ofInt (-1)) := ⟨_, rfl⟩
  rw [← eU4]
  have hHU4 : RI U4 := by rw [eU4]; exact RI_w hHU3
  have hFU4 : FR md_mo_asked__15cf S U4 := by rw [eU4]; exact FR.wI hFU3 (mdf_i (r := (904, 905, 116, 117)) (List.mem_of_getElem? (i := 10) rfl) (inR_i (by omega) (by omega) (by omega) (by omega)))
  have w20 : Xi U4 904 116 = (-1) := by rw [eU4]; exact Xi_same (by unfold rg; omega)
  have FA17 : FR lA S U4 := by rw [eU4]; exact FR.wI FA12 (mdf_i (r := (904, 905, 116, 117)) (List.mem_of_getElem? (i := 3) rfl) (inR_i (by omega) (by omega) (by omega) (by omega)))
  have m17 : SMR S U4 := SMR_FR FA17 rfl rfl
  refine y_aload_n rfl rfl ?_
  refine y_gfi rfl rfl rfl rfl rfl ?_
  have w21 : (Xi U4 904 70) = (Xi S 904 70) := (show Xi U4 904 70 = Xi U3 904 70 from by rw [eU4]; exact Xi_ne (by omega)).trans ( (show Xi U3 904 70 = Xi U2 904 70 from by rw [eU3]; exact Xi_ne (by omega)).trans ( (show Xi U2 904 70 = Xi U1 904 70 from by rw [eU2]; exact Xi_ne (by omega)).trans ((show Xi U1 904 70 = Xi S 904 70 from by rw [eU1]; exact Xi_ne (by omega)))))
  rw [w21]
  refine y_tsw rfl rfl rfl rfl (by unfold rg; omega) (fun w22 => ?_) (fun ii tt hii w22 => ?_)
  · exfalso; omega
  · match ii, hii with
    | 0, hii =>
      cases hii
      have w23 : (Xi S 904 70) = 0 := by simpa using w22
      exfalso; omega
    | 1, hii =>
      cases hii
      have w24 : (Xi S 904 70) = 1 := by simpa using w22
      exfalso; omega
    | 2, hii =>
      cases hii
      have w25 : (Xi S 904 70) = 2 := by simpa using w22
      exfalso; omega
    | 3, hii =>
      cases hii
      have w26 : (Xi S 904 70) = 3 := by simpa using w22
      exfalso; omega
    | 4, hii =>
      cases hii
      have w27 : (Xi S 904 70) = 4 := by simpa using w22
      exfalso; omega
    | 5, hii =>
      cases hii
      have w28 : (Xi S 904 70) = 5 := by simpa using w22
      exfalso; omega
    | 6, hii =>
      cases hii
      have w29 : (Xi S 904 70) = 6 := by simpa using w22
      exfalso; omega
    | 7, hii =>
      cases hii
      have w30 : (Xi S 904 70) = 7 := by simpa using w22
      exfalso; omega
    | 8, hii =>
      cases hii
      have w31 : (Xi S 904 70) = 8 := by simpa using w22
      exfalso; omega
    | 9, hii =>
      cases hii
      have w32 : (Xi S 904 70) = 9 := by simpa using w22
      exfalso; omega
    | 10, hii =>
      cases hii
      have w33 : (Xi S 904 70) = 10 := by simpa using w22
      exfalso; omega
    | 11, hii =>
      cases hii
      have w34 : (Xi S 904 70) = 11 := by simpa using w22
      exfalso; omega
    | 12, hii =>
      cases hii
      have w35 : (Xi S 904 70) = 12 := by simpa using w22
      exfalso; omega
    | 13, hii =>
      cases hii
      have w36 : (Xi S 904 70) = 13 := by simpa using w22
      exfalso; omega
    | 14, hii =>
      cases hii
      have w37 : (Xi S 904 70) = 14 := by simpa using w22
      exfalso; omega
    | 15, hii =>
      cases hii
      have w38 : (Xi S 904 70) = 15 := by simpa using w22
      refine y_aload_n rfl rfl ?_
      have w39 : Xi U4 904 104 = Xi S 904 104 := (show Xi U4 904 104 = Xi U3 904 104 from by rw [eU4]; exact Xi_ne (by omega)).trans ( (show Xi U3 904 104 = Xi U2 904 104 from by rw [eU3]; exact Xi_ne (by omega)).trans ( (show Xi U2 904 104 = Xi U1 904 104 from by rw [eU2]; exact Xi_ne (by omega)).trans ((show Xi U1 904 104 = Xi S 904 104 from by rw [eU1]; exact Xi_ne (by omega)))))
      have w40 : Xi U4 904 105 = Xi S 904 105 := (show Xi U4 904 105 = Xi U3 904 105 from by rw [eU4]; exact Xi_ne (by omega)).trans ( (show Xi U3 904 105 = Xi U2 904 105 from by rw [eU3]; exact Xi_ne (by omega)).trans ( (show Xi U2 904 105 = Xi U1 904 105 from by rw [eU2]; exact Xi_ne (by omega)).trans ((show Xi U1 904 105 = Xi S 904 105 from by rw [eU1]; exact Xi_ne (by omega)))))
      have w41 : Xi U4 904 106 = Xi U1 904 106 := (show Xi U4 904 106 = Xi U3 904 106 from by rw [eU4]; exact Xi_ne (by omega)).trans ( (show Xi U3 904 106 = Xi U2 904 106 from by rw [eU3]; exact Xi_ne (by omega)).trans ((show Xi U2 904 106 = Xi U1 904 106 from by rw [eU2]; exact Xi_ne (by omega))))
      have w42 : Xi U4 904 108 = Xi U2 904 108 := (show Xi U4 904 108 = Xi U3 904 108 from by rw [eU4]; exact Xi_ne (by omega)).trans ((show Xi U3 904 108 = Xi U2 904 108 from by rw [eU3]; exact Xi_ne (by omega)))
      have w43 : Xi U4 904 15 = Xi S 904 15 := (show Xi U4 904 15 = Xi U3 904 15 from by rw [eU4]; exact Xi_ne (by omega)).trans ( (show Xi U3 904 15 = Xi U2 904 15 from by rw [eU3]; exact Xi_ne (by omega)).trans ( (show Xi U2 904 15 = Xi U1 904 15 from by rw [eU2]; exact Xi_ne (by omega)).trans ((show Xi U1 904 15 = Xi S 904 15 from by rw [eU1]; exact Xi_ne (by omega)))))
      have w44 : Xi U4 904 19 = Xi S 904 19 := (show Xi U4 904 19 = Xi U3 904 19 from by rw [eU4]; exact Xi_ne (by omega)).trans ( (show Xi U3 904 19 = Xi U2 904 19 from by rw [eU3]; exact Xi_ne (by omega)).trans ( (show Xi U2 904 19 = Xi U1 904 19 from by rw [eU2]; exact Xi_ne (by omega)).trans ((show Xi U1 904 19 = Xi S 904 19 from by rw [eU1]; exact Xi_ne (by omega)))))
      have w45 : Xi U4 904 30 = Xi S 904 30 := (show Xi U4 904 30 = Xi U3 904 30 from by rw [eU4]; exact Xi_ne (by omega)).trans ( (show Xi U3 904 30 = Xi U2 904 30 from by rw [eU3]; exact Xi_ne (by omega)).trans ( (show Xi U2 904 30 = Xi U1 904 30 from by rw [eU2]; exact Xi_ne (by omega)).trans ((show Xi U1 904 30 = Xi S 904 30 from by rw [eU1]; exact Xi_ne (by omega)))))
      have w46 : Xi U4 904 32 = Xi S 904 32 := (show Xi U4 904 32 = Xi U3 904 32 from by rw [eU4]; exact Xi_ne (by omega)).trans ( (show Xi U3 904 32 = Xi U2 904 32 from by rw [eU3]; exact Xi_ne (by omega)).trans ( (show Xi U2 904 32 = Xi U1 904 32 from by rw [eU2]; exact Xi_ne (by omega)).trans ((show Xi U1 904 32 = Xi S 904 32 from by rw [eU1]; exact Xi_ne (by omega)))))
      have w47 : Xi U4 904 69 = Xi S 904 69 := (show Xi U4 904 69 = Xi U3 904 69 from by rw [eU4]; exact Xi_ne (by omega)).trans ( (show Xi U3 904 69 = Xi U2 904 69 from by rw [eU3]; exact Xi_ne (by omega)).trans ( (show Xi U2 904 69 = Xi U1 904 69 from by rw [eU2]; exact Xi_ne (by omega)).trans ((show Xi U1 904 69 = Xi S 904 69 from by rw [eU1]; exact Xi_ne (by omega)))))
      have w48 : Xi U4 904 70 = Xi S 904 70 := (show Xi U4 904 70 = Xi U3 904 70 from by rw [eU4]; exact Xi_ne (by omega)).trans ( (show Xi U3 904 70 = Xi U2 904 70 from by rw [eU3]; exact Xi_ne (by omega)).trans ( (show Xi U2 904 70 = Xi U1 904 70 from by rw [eU2]; exact Xi_ne (by omega)).trans ((show Xi U1 904 70 = Xi S 904 70 from by rw [eU1]; exact Xi_ne (by omega)))))
      have w49 : Xi U4 904 71 = Xi S 904 71 := (show Xi U4 904 71 = Xi U3 904 71 from by rw [eU4]; exact Xi_ne (by omega)).trans ( (show Xi U3 904 71 = Xi U2 904 71 from by rw [eU3]; exact Xi_ne (by omega)).trans ( (show Xi U2 904 71 = Xi U1 904 71 from by rw [eU2]; exact Xi_ne (by omega)).trans ((show Xi U1 904 71 = Xi S 904 71 from by rw [eU1]; exact Xi_ne (by omega)))))
      have w50 : Xi U4 904 72 = Xi S 904 72 := (show Xi U4 904 72 = Xi U3 904 72 from by rw [eU4]; exact Xi_ne (by omega)).trans ( (show Xi U3 904 72 = Xi U2 904 72 from by rw [eU3]; exact Xi_ne (by omega)).trans ( (show Xi U2 904 72 = Xi U1 904 72 from by rw [eU2]; exact Xi_ne (by omega)).trans ((show Xi U1 904 72 = Xi S 904 72 from by rw [eU1]; exact Xi_ne (by omega)))))
      have w51 : Xi U4 904 75 = Xi S 904 75 := (show Xi U4 904 75 = Xi U3 904 75 from by rw [eU4]; exact Xi_ne (by omega)).trans ( (show Xi U3 904 75 = Xi U2 904 75 from by rw [eU3]; exact Xi_ne (by omega)).trans ( (show Xi U2 904 75 = Xi U1 904 75 from by rw [eU2]; exact Xi_ne (by omega)).trans ((show Xi U1 904 75 = Xi S 904 75 from by rw [eU1]; exact Xi_ne (by omega)))))
      have w52 : Xi U4 904 76 = Xi S 904 76 := (show Xi U4 904 76 = Xi U3 904 76 from by rw [eU4]; exact Xi_ne (by omega)).trans ( (show Xi U3 904 76 = Xi U2 904 76 from by rw [eU3]; exact Xi_ne (by omega)).trans ( (show Xi U2 904 76 = Xi U1 904 76 from by rw [eU2]; exact Xi_ne (by omega)).trans ((show Xi U1 904 76 = Xi S 904 76 from by rw [eU1]; exact Xi_ne (by omega)))))
      have w53 : Xi U4 904 77 = Xi S 904 77 := (show Xi U4 904 77 = Xi U3 904 77 from by rw [eU4]; exact Xi_ne (by omega)).trans ( (show Xi U3 904 77 = Xi U2 904 77 from by rw [eU3]; exact Xi_ne (by omega)).trans ( (show Xi U2 904 77 = Xi U1 904 77 from by rw [eU2]; exact Xi_ne (by omega)).trans ((show Xi U1 904 77 = Xi S 904 77 from by rw [eU1]; exact Xi_ne (by omega)))))
      have w54 : Xi U4 904 78 = Xi S 904 78 := (show Xi U4 904 78 = Xi U3 904 78 from by rw [eU4]; exact Xi_ne (by omega)).trans ( (show Xi U3 904 78 = Xi U2 904 78 from by rw [eU3]; exact Xi_ne (by omega)).trans ( (show Xi U2 904 78 = Xi U1 904 78 from by rw [eU2]; exact Xi_ne (by omega)).trans ((show Xi U1 904 78 = Xi S 904 78 from by rw [eU1]; exact Xi_ne (by omega)))))
      refine y_callV rfl rfl rfl (t_mo_askFifteen__4 hHU4 (by first | assumption | exact (LSP_FR hFU4 rfl rfl (by assumption : LSP S))) (by first | assumption | omega) (by first | assumption | exact (RBD_FR hFU4 rfl (by assumption : RBD S))) (by first | assumption | exact (LXR_FR hFU4 rfl rfl (by assumption : LXR S))) (by first | assumption | exact (ABV_FR hFU4 rfl (by assumption : ABV S))) (fun j => by rw [FA17.x 918 j rfl]; exact hko.o j) (by first | assumption | omega) (by first | assumption | omega) (fun k hk h1 => by rw [m17.1] at hk; rw [m17.2.1 914 k (by omega)] at h1; rw [m17.2.1 915 k (by omega)]; exact hkk.o k hk h1) (by first | assumption | omega) (by first | assumption | omega) (by first | assumption | omega) (⟨by omega, by omega⟩) (by unfold tU5; rw [FA17.x 904 72 rfl, FA17.x 904 71 rfl, FA17.x 904 75 rfl, r2R_sm m17]; exact hnv) (by unfold fW nW; rw [m17.2.1 950 _ (by omega), m17.2.1 951 _ (by omega), FA17.x 904 78 rfl]; exact hfw) (fun k i a b => by rw [FA17.x 904 71 rfl]; rw [FA17.x 904 72 rfl] at b; rw [pR_sm m17, pR_sm m17]; exact hpl k i a b) _) ?_
      rintro _ T5 ⟨hHT5, w56, rfl, o321⟩
      have hFT5 : FR md_mo_asked__15cf S T5 := FR.tr hFU4 w56 rfl
      show Pl _ _ _ _ _ _ [] _ _
      have K321 : True := trivial
      have z321 : Xi U4 904 106 = 0 ∧ Xi U4 904 108 = 0 := ⟨by omega, by omega⟩
      refine y_goto rfl rfl ?_
      refine y_return rfl rfl ?_
      exact ⟨hHT5, hFT5, rfl⟩
    | 16, hii =>
      cases hii
      have w69 : (Xi S 904 70) = 16 := by simpa using w22
      refine y_aload_n rfl rfl ?_
      have w70 : Xi U4 904 104 = Xi S 904 104 := (show Xi U4 904 104 = Xi U3 904 104 from by rw [eU4]; exact Xi_ne (by omega)).trans ( (show Xi U3 904 104 = Xi U2 904 104 from by rw [eU3]; exact Xi_ne (by omega)).trans ( (show Xi U2 904 104 = Xi U1 904 104 from by rw [eU2]; exact Xi_ne (by omega)).trans ((show Xi U1 904 104 = Xi S 904 104 from by rw [eU1]; exact Xi_ne (by omega)))))
      have w71 : Xi U4 904 105 = Xi S 904 105 := (show Xi U4 904 105 = Xi U3 904 105 from by rw [eU4]; exact Xi_ne (by omega)).trans ( (show Xi U3 904 105 = Xi U2 904 105 from by rw [eU3]; exact Xi_ne (by omega)).trans ( (show Xi U2 904 105 = Xi U1 904 105 from by rw [eU2]; exact Xi_ne (by omega)).trans ((show Xi U1 904 105 = Xi S 904 105 from by rw [eU1]; exact Xi_ne (by omega)))))
      have w72 : Xi U4 904 106 = Xi U1 904 106 := (show Xi U4 904 106 = Xi U3 904 106 from by rw [eU4]; exact Xi_ne (by omega)).trans ( (show Xi U3 904 106 = Xi U2 904 106 from by rw [eU3]; exact Xi_ne (by omega)).trans ((show Xi U2 904 106 = Xi U1 904 106 from by rw [eU2]; exact Xi_ne (by omega))))
      have w73 : Xi U4 904 108 = Xi U2 904 108 := (show Xi U4 904 108 = Xi U3 904 108 from by rw [eU4]; exact Xi_ne (by omega)).trans ((show Xi U3 904 108 = Xi U2 904 108 from by rw [eU3]; exact Xi_ne (by omega)))
      have w74 : Xi U4 904 15 = Xi S 904 15 := (show Xi U4 904 15 = Xi U3 904 15 from by rw [eU4]; exact Xi_ne (by omega)).trans ( (show Xi U3 904 15 = Xi U2 904 15 from by rw [eU3]; exact Xi_ne (by omega)).trans ( (show Xi U2 904 15 = Xi U1 904 15 from by rw [eU2]; exact Xi_ne (by omega)).trans ((show Xi U1 904 15 = Xi S 904 15 from by rw [eU1]; exact Xi_ne (by omega)))))
      have w75 : Xi U4 904 19 = Xi S 904 19 := (show Xi U4 904 19 = Xi U3 904 19 from by rw [eU4]; exact Xi_ne (by omega)).trans ( (show Xi U3 904 19 = Xi U2 904 19 from by rw [eU3]; exact Xi_ne (by omega)).trans ( (show Xi U2 904 19 = Xi U1 904 19 from by rw [eU2]; exact Xi_ne (by omega)).trans ((show Xi U1 904 19 = Xi S 904 19 from by rw [eU1]; exact Xi_ne (by omega)))))
      have w76 : Xi U4 904 30 = Xi S 904 30 := (show Xi U4 904 30 = Xi U3 904 30 from by rw [eU4]; exact Xi_ne (by omega)).trans ( (show Xi U3 904 30 = Xi U2 904 30 from by rw [eU3]; exact Xi_ne (by omega)).trans ( (show Xi U2 904 30 = Xi U1 904 30 from by rw [eU2]; exact Xi_ne (by omega)).trans ((show Xi U1 904 30 = Xi S 904 30 from by rw [eU1]; exact Xi_ne (by omega)))))
      have w77 : Xi U4 904 32 = Xi S 904 32 := (show Xi U4 904 32 = Xi U3 904 32 from by rw [eU4]; exact Xi_ne (by omega)).trans ( (show Xi U3 904 32 = Xi U2 904 32 from by rw [eU3]; exact Xi_ne (by omega)).trans ( (show Xi U2 904 32 = Xi U1 904 32 from by rw [eU2]; exact Xi_ne (by omega)).trans ((show Xi U1 904 32 = Xi S 904 32 from by rw [eU1]; exact Xi_ne (by omega)))))
      have w78 : Xi U4 904 69 = Xi S 904 69 := (show Xi U4 904 69 = Xi U3 904 69 from by rw [eU4]; exact Xi_ne (by omega)).trans ( (show Xi U3 904 69 = Xi U2 904 69 from by rw [eU3]; exact Xi_ne (by omega)).trans ( (show Xi U2 904 69 = Xi U1 904 69 from by rw [eU2]; exact Xi_ne (by omega)).trans ((show Xi U1 904 69 = Xi S 904 69 from by rw [eU1]; exact Xi_ne (by omega)))))
      have w79 : Xi U4 904 70 = Xi S 904 70 := (show Xi U4 904 70 = Xi U3 904 70 from by rw [eU4]; exact Xi_ne (by omega)).trans ( (show Xi U3 904 70 = Xi U2 904 70 from by rw [eU3]; exact Xi_ne (by omega)).trans ( (show Xi U2 904 70 = Xi U1 904 70 from by rw [eU2]; exact Xi_ne (by omega)).trans ((show Xi U1 904 70 = Xi S 904 70 from by rw [eU1]; exact Xi_ne (by omega)))))
      have w80 : Xi U4 904 71 = Xi S 904 71 := (show Xi U4 904 71 = Xi U3 904 71 from by rw [eU4]; exact Xi_ne (by omega)).trans ( (show Xi U3 904 71 = Xi U2 904 71 from by rw [eU3]; exact Xi_ne (by omega)).trans ( (show Xi U2 904 71 = Xi U1 904 71 from by rw [eU2]; exact Xi_ne (by omega)).trans ((show Xi U1 904 71 = Xi S 904 71 from by rw [eU1]; exact Xi_ne (by omega)))))
      have w81 : Xi U4 904 72 = Xi S 904 72 := (show Xi U4 904 72 = Xi U3 904 72 from by rw [eU4]; exact Xi_ne (by omega)).trans ( (show Xi U3 904 72 = Xi U2 904 72 from by rw [eU3]; exact Xi_ne (by omega)).trans ( (show Xi U2 904 72 = Xi U1 904 72 from by rw [eU2]; exact Xi_ne (by omega)).trans ((show Xi U1 904 72 = Xi S 904 72 from by rw [eU1]; exact Xi_ne (by omega)))))
      have w82 : Xi U4 904 75 = Xi S 904 75 := (show Xi U4 904 75 = Xi U3 904 75 from by rw [eU4]; exact Xi_ne (by omega)).trans ( (show Xi U3 904 75 = Xi U2 904 75 from by rw [eU3]; exact Xi_ne (by omega)).trans ( (show Xi U2 904 75 = Xi U1 904 75 from by rw [eU2]; exact Xi_ne (by omega)).trans ((show Xi U1 904 75 = Xi S 904 75 from by rw [eU1]; exact Xi_ne (by omega)))))
      have w83 : Xi U4 904 76 = Xi S 904 76 := (show Xi U4 904 76 = Xi U3 904 76 from by rw [eU4]; exact Xi_ne (by omega)).trans ( (show Xi U3 904 76 = Xi U2 904 76 from by rw [eU3]; exact Xi_ne (by omega)).trans ( (show Xi U2 904 76 = Xi U1 904 76 from by rw [eU2]; exact Xi_ne (by omega)).trans ((show Xi U1 904 76 = Xi S 904 76 from by rw [eU1]; exact Xi_ne (by omega)))))
      have w84 : Xi U4 904 77 = Xi S 904 77 := (show Xi U4 904 77 = Xi U3 904 77 from by rw [eU4]; exact Xi_ne (by omega)).trans ( (show Xi U3 904 77 = Xi U2 904 77 from by rw [eU3]; exact Xi_ne (by omega)).trans ( (show Xi U2 904 77 = Xi U1 904 77 from by rw [eU2]; exact Xi_ne (by omega)).trans ((show Xi U1 904 77 = Xi S 904 77 from by rw [eU1]; exact Xi_ne (by omega)))))
      have w85 : Xi U4 904 78 = Xi S 904 78 := (show Xi U4 904 78 = Xi U3 904 78 from by rw [eU4]; exact Xi_ne (by omega)).trans ( (show Xi U3 904 78 = Xi U2 904 78 from by rw [eU3]; exact Xi_ne (by omega)).trans ( (show Xi U2 904 78 = Xi U1 904 78 from by rw [eU2]; exact Xi_ne (by omega)).trans ((show Xi U1 904 78 = Xi S 904 78 from by rw [eU1]; exact Xi_ne (by omega)))))
      refine y_callV rfl rfl rfl (t_mo_askFifteen__4 hHU4 (by first | assumption | exact (LSP_FR hFU4 rfl rfl (by assumption : LSP S))) (by first | assumption | omega) (by first | assumption | exact (RBD_FR hFU4 rfl (by assumption : RBD S))) (by first | assumption | exact (LXR_FR hFU4 rfl rfl (by assumption : LXR S))) (by first | assumption | exact (ABV_FR hFU4 rfl (by assumption : ABV S))) (fun j => by rw [FA17.x 918 j rfl]; exact hko.o j) (by first | assumption | omega) (by first | assumption | omega) (fun k hk h1 => by rw [m17.1] at hk; rw [m17.2.1 914 k (by omega)] at h1; rw [m17.2.1 915 k (by omega)]; exact hkk.o k hk h1) (by first | assumption | omega) (by first | assumption | omega) (by first | assumption | omega) (⟨by omega, by omega⟩) (by unfold tU5; rw [FA17.x 904 72 rfl, FA17.x 904 71 rfl, FA17.x 904 75 rfl, r2R_sm m17]; exact hnv) (by unfold fW nW; rw [m17.2.1 950 _ (by omega), m17.2.1 951 _ (by omega), FA17.x 904 78 rfl]; exact hfw) (fun k i a b => by rw [FA17.x 904 71 rfl]; rw [FA17.x 904 72 rfl] at b; rw [pR_sm m17, pR_sm m17]; exact hpl k i a b) _) ?_
      rintro _ T6 ⟨hHT6, w87, rfl, o321⟩
      have hFT6 : FR md_mo_asked__15cf S T6 := FR.tr hFU4 w87 rfl
      show Pl _ _ _ _ _ _ [] _ _
      have K321 : True := trivial
      have z321 : Xi U4 904 106 = 0 ∧ Xi U4 904 108 = 0 := ⟨by omega, by omega⟩
      refine y_goto rfl rfl ?_
      refine y_return rfl rfl ?_
      exact ⟨hHT6, hFT6, rfl⟩
    | 17, hii =>
      cases hii
      have w100 : (Xi S 904 70) = 17 := by simpa using w22
      exfalso; omega
    | 18, hii =>
      cases hii
      have w101 : (Xi S 904 70) = 18 := by simpa using w22
      exfalso; omega
    | 19, hii =>
      cases hii
      have w102 : (Xi S 904 70) = 19 := by simpa using w22
      exfalso; omega
    | 20, hii =>
      cases hii
      have w103 : (Xi S 904 70) = 20 := by simpa using w22
      exfalso; omega
    | n + 21, hii => exact absurd hii (by simp)
def md_mo_asked__16f : List rec := [(904, 905, 64, 65), (904, 905, 104, 105), (904, 905, 105, 106), (904, 905, 106, 107), (904, 905, 108, 109), (904, 905, 109, 110), (904, 905, 110, 111), (904, 905, 112, 113), (904, 905, 113, 114), (904, 905, 115, 116), (904, 905, 116, 117), (904, 905, 142, 143), (966, 967, 0, 100000), (967, 968, 0, 100000), (968, 969, 0, 100000)]
abbrev Q_mo_asked__16f (S : sS) (first : Int) : pst := fun r S1 => RI S1 ∧ FR md_mo_asked__16f S S1 ∧ (r = none)
set_option maxRecDepth 100000 in
theorem t_mo_asked__16f {S : sS} (hH : RI S) (first : Int) (hfirst : 0 ≤ first ∧ first ≤ 5001) (hLS : LSP S) (h15 : 0 ≤ Xi S 904 15) (hRB : RBD S) (hu : Xi S 904 76 = 0) (hw : 0 ≤ Xi S 904 78 ∧ Xi S 904 78 ≤ Xi S 904 69 ∧ Xi S 904 69 ≤ 2600) (hv : 0 ≤ Xi S 904 30 ∧ Xi S 904 30 ≤ 64) (hl : 0 ≤ Xi S 904 71 ∧ Xi S 904 71 ≤ 2600) (hs : Xi S 904 70 = 16) (d : Nat) : Mp lay0 (d + 13) m_mo_asked [.ref 904, iv first] S (Q_mo_asked__16f S first) := by
  refine Mp_R rfl rfl (fun fu => ?_)
  have hF : FR md_mo_asked__16f S S := FR.rf
  have w1 : -2147483648 ≤ Xi S 904 104 ∧ Xi S 904 104 ≤ 2147483647 := Xi_rgI
  have w2 : -2147483648 ≤ Xi S 904 105 ∧ Xi S 904 105 ≤ 2147483647 := Xi_rgI
  have w3 : -2147483648 ≤ Xi S 904 106 ∧ Xi S 904 106 ≤ 2147483647 := Xi_rgI
  have w4 : -2147483648 ≤ Xi S 904 108 ∧ Xi S 904 108 ≤ 2147483647 := Xi_rgI
  have w5 : -2147483648 ≤ Xi S 904 15 ∧ Xi S 904 15 ≤ 2147483647 := Xi_rgI
  have w6 : -2147483648 ≤ Xi S 904 19 ∧ Xi S 904 19 ≤ 2147483647 := Xi_rgI
  have w7 : -2147483648 ≤ Xi S 904 30 ∧ Xi S 904 30 ≤ 2147483647 := Xi_rgI
  have w8 : -2147483648 ≤ Xi S 904 32 ∧ Xi S 904 32 ≤ 2147483647 := Xi_rgI
  have w9 : -2147483648 ≤ Xi S 904 69 ∧ Xi S 904 69 ≤ 2147483647 := Xi_rgI
  have w10 : -2147483648 ≤ Xi S 904 70 ∧ Xi S 904 70 ≤ 2147483647 := Xi_rgI
  have w11 : -2147483648 ≤ Xi S 904 71 ∧ Xi S 904 71 ≤ 2147483647 := Xi_rgI
  have w12 : -2147483648 ≤ Xi S 904 72 ∧ Xi S 904 72 ≤ 2147483647 := Xi_rgI
  have w13 : -2147483648 ≤ Xi S 904 75 ∧ Xi S 904 75 ≤ 2147483647 := Xi_rgI
  have w14 : -2147483648 ≤ Xi S 904 76 ∧ Xi S 904 76 ≤ 2147483647 := Xi_rgI
  have w15 : -2147483648 ≤ Xi S 904 77 ∧ Xi S 904 77 ≤ 2147483647 := Xi_rgI
  have w16 : -2147483648 ≤ Xi S 904 78 ∧ Xi S 904 78 ≤ 2147483647 := Xi_rgI
  refine y_aload_n rfl rfl ?_
  refine y_iconst rfl ?_
  refine y_pfi rfl rfl rfl rfl ?_
  obtain ⟨U1, eU1⟩ : ∃ T : sS, T = uI S 904 106 (Int32.ofInt 0) := ⟨_, rfl⟩
  rw [← eU1]
  have hHU1 : RI U1 := by rw [eU1]; exact RI_w hH
  have hFU1 : FR md_mo_asked__16f S U1 := by rw [eU1]; exact FR.wI hF (mdf_i (r := (904, 905, 106, 107)) (List.mem_of_getElem? (i := 3) rfl) (inR_i (by omega) (by omega) (by omega) (by omega)))
  have w17 : Xi U1 904 106 = 0 := by rw [eU1]; exact Xi_same (by unfold rg; omega)
  have FA2 : FR lA S U1 := by rw [eU1]; exact FR.wI FR.rf (mdf_i (r := (904, 905, 106, 107)) (List.mem_of_getElem? (i := 0) rfl) (inR_i (by omega) (by omega) (by omega) (by omega)))
  refine y_aload_n rfl rfl ?_
  refine y_iconst rfl ?_
  refine y_pfi rfl rfl rfl rfl ?_
  obtain ⟨U2, eU2⟩ : ∃ T : sS, T = uI U1 904 108 (Int32.ofInt 0) := ⟨_, rfl⟩
  rw [← eU2]
  have hHU2 : RI U2 := by rw [eU2]; exact RI_w hHU1
  have hFU2 : FR md_mo_asked__16f S U2 := by rw [eU2]; exact FR.wI hFU1 (mdf_i (r := (904, 905, 108, 109)) (List.mem_of_getElem? (i := 4) rfl) (inR_i (by omega) (by omega) (by omega) (by omega)))
  have w18 : Xi U2 904 108 = 0 := by rw [eU2]; exact Xi_same (by unfold rg; omega)
  have FA7 : FR lA S U2 := by rw [eU2]; exact FR.wI FA2 (mdf_i (r := (904, 905, 108, 109)) (List.mem_of_getElem? (i := 1) rfl) (inR_i (by omega) (by omega) (by omega) (by omega)))
  refine y_aload_n rfl rfl ?_
  refine y_iconst rfl ?_
  refine y_pfi rfl rfl rfl rfl ?_
  obtain ⟨U3, eU3⟩ : ∃ T : sS, T = uI U2 904 115 (Int32.ofInt (-1)) := ⟨_, rfl⟩
  rw [← eU3]
  have hHU3 : RI U3 := by rw [eU3]; exact RI_w hHU2
  have hFU3 : FR md_mo_asked__16f S U3 := by rw [eU3]; exact FR.wI hFU2 (mdf_i (r := (904, 905, 115, 116)) (List.mem_of_getElem? (i := 9) rfl) (inR_i (by omega) (by omega) (by omega) (by omega)))
  have w19 : Xi U3 904 115 = (-1) := by rw [eU3]; exact Xi_same (by unfold rg; omega)
  have FA12 : FR lA S U3 := by rw [eU3]; exact FR.wI FA7 (mdf_i (r := (904, 905, 115, 116)) (List.mem_of_getElem? (i := 2) rfl) (inR_i (by omega) (by omega) (by omega) (by omega)))
  refine y_aload_n rfl rfl ?_
  refine y_iconst rfl ?_
  refine y_pfi rfl rfl rfl rfl ?_
  obtain ⟨U4, eU4⟩ : ∃ T : sS, T = uI U3 904 116 (Int32.ofInt (-1)) := ⟨_, rfl⟩
  rw [← eU4]
  have hHU4 : RI U4 := by rw [eU4]; exact RI_w hHU3
  have hFU4 : FR md_mo_asked__16f S U4 := by rw [eU4]; exact FR.wI hFU3 (mdf_i (r := (904, 905, 116, 117)) (List.mem_of_getElem? (i := 10) rfl) (inR_i (by omega) (by omega) (by omega) (by omega)))
  have w20 : Xi U4 904 116 = (-1) := by rw [eU4]; exact Xi_same (by unfold rg; omega)
  have FA17 : FR lA S U4 := by rw [eU4]; exact FR.wI FA12 (mdf_i (r := (904, 905, 116, 117)) (List.mem_of_getElem? (i := 3) rfl) (inR_i (by omega) (by omega) (by omega) (by omega)))
  have m17 : SMR S U4 := SMR_FR FA17 rfl rfl
  refine y_aload_n rfl rfl ?_
  refine y_gfi rfl rfl rfl rfl rfl ?_
  have w21 : (Xi U4 904 70) = (Xi S 904 70) := (show Xi U4 904 70 = Xi U3 904 70 from by rw [eU4]; exact Xi_ne (by omega)).trans ( (show Xi U3 904 70 = Xi U2 904 70 from by rw [eU3]; exact Xi_ne (by omega)).trans ( (show Xi U2 904 70 = Xi U1 904 70 from by rw [eU2]; exact Xi_ne (by omega)).trans ((show Xi U1 904 70 = Xi S 904 70 from by rw [eU1]; exact Xi_ne (by omega)))))
  rw [w21]
  refine y_tsw rfl rfl rfl rfl (by unfold rg; omega) (fun w22 => ?_) (fun ii tt hii w22 => ?_)
  · exfalso; omega
  · match ii, hii with
    | 0, hii =>
      cases hii
      have w23 : (Xi S 904 70) = 0 := by simpa using w22
      exfalso; omega
    | 1, hii =>
      cases hii
      have w24 : (Xi S 904 70) = 1 := by simpa using w22
      exfalso; omega
    | 2, hii =>
      cases hii
      have w25 : (Xi S 904 70) = 2 := by simpa using w22
      exfalso; omega
    | 3, hii =>
      cases hii
      have w26 : (Xi S 904 70) = 3 := by simpa using w22
      exfalso; omega
    | 4, hii =>
      cases hii
      have w27 : (Xi S 904 70) = 4 := by simpa using w22
      exfalso; omega
    | 5, hii =>
      cases hii
      have w28 : (Xi S 904 70) = 5 := by simpa using w22
      exfalso; omega
    | 6, hii =>
      cases hii
      have w29 : (Xi S 904 70) = 6 := by simpa using w22
      exfalso; omega
    | 7, hii =>
      cases hii
      have w30 : (Xi S 904 70) = 7 := by simpa using w22
      exfalso; omega
    | 8, hii =>
      cases hii
      have w31 : (Xi S 904 70) = 8 := by simpa using w22
      exfalso; omega
    | 9, hii =>
      cases hii
      have w32 : (Xi S 904 70) = 9 := by simpa using w22
      exfalso; omega
    | 10, hii =>
      cases hii
      have w33 : (Xi S 904 70) = 10 := by simpa using w22
      exfalso; omega
    | 11, hii =>
      cases hii
      have w34 : (Xi S 904 70) = 11 := by simpa using w22
      exfalso; omega
    | 12, hii =>
      cases hii
      have w35 : (Xi S 904 70) = 12 := by simpa using w22
      exfalso; omega
    | 13, hii =>
      cases hii
      have w36 : (Xi S 904 70) = 13 := by simpa using w22
      exfalso; omega
    | 14, hii =>
      cases hii
      have w37 : (Xi S 904 70) = 14 := by simpa using w22
      exfalso; omega
    | 15, hii =>
      cases hii
      have w38 : (Xi S 904 70) = 15 := by simpa using w22
      refine y_aload_n rfl rfl ?_
      have w41 : Xi U4 904 106 = Xi U1 904 106 := (show Xi U4 904 106 = Xi U3 904 106 from by rw [eU4]; exact Xi_ne (by omega)).trans ( (show Xi U3 904 106 = Xi U2 904 106 from by rw [eU3]; exact Xi_ne (by omega)).trans ((show Xi U2 904 106 = Xi U1 904 106 from by rw [eU2]; exact Xi_ne (by omega))))
      have w42 : Xi U4 904 108 = Xi U2 904 108 := (show Xi U4 904 108 = Xi U3 904 108 from by rw [eU4]; exact Xi_ne (by omega)).trans ((show Xi U3 904 108 = Xi U2 904 108 from by rw [eU3]; exact Xi_ne (by omega)))
      have w43 : Xi U4 904 15 = Xi S 904 15 := (show Xi U4 904 15 = Xi U3 904 15 from by rw [eU4]; exact Xi_ne (by omega)).trans ( (show Xi U3 904 15 = Xi U2 904 15 from by rw [eU3]; exact Xi_ne (by omega)).trans ( (show Xi U2 904 15 = Xi U1 904 15 from by rw [eU2]; exact Xi_ne (by omega)).trans ((show Xi U1 904 15 = Xi S 904 15 from by rw [eU1]; exact Xi_ne (by omega)))))
      have w45 : Xi U4 904 30 = Xi S 904 30 := (show Xi U4 904 30 = Xi U3 904 30 from by rw [eU4]; exact Xi_ne (by omega)).trans ( (show Xi U3 904 30 = Xi U2 904 30 from by rw [eU3]; exact Xi_ne (by omega)).trans ( (show Xi U2 904 30 = Xi U1 904 30 from by rw [eU2]; exact Xi_ne (by omega)).trans ((show Xi U1 904 30 = Xi S 904 30 from by rw [eU1]; exact Xi_ne (by omega)))))
      have w47 : Xi U4 904 69 = Xi S 904 69 := (show Xi U4 904 69 = Xi U3 904 69 from by rw [eU4]; exact Xi_ne (by omega)).trans ( (show Xi U3 904 69 = Xi U2 904 69 from by rw [eU3]; exact Xi_ne (by omega)).trans ( (show Xi U2 904 69 = Xi U1 904 69 from by rw [eU2]; exact Xi_ne (by omega)).trans ((show Xi U1 904 69 = Xi S 904 69 from by rw [eU1]; exact Xi_ne (by omega)))))
      have w48 : Xi U4 904 70 = Xi S 904 70 := (show Xi U4 904 70 = Xi U3 904 70 from by rw [eU4]; exact Xi_ne (by omega)).trans ( (show Xi U3 904 70 = Xi U2 904 70 from by rw [eU3]; exact Xi_ne (by omega)).trans ( (show Xi U2 904 70 = Xi U1 904 70 from by rw [eU2]; exact Xi_ne (by omega)).trans ((show Xi U1 904 70 = Xi S 904 70 from by rw [eU1]; exact Xi_ne (by omega)))))
      have w49 : Xi U4 904 71 = Xi S 904 71 := (show Xi U4 904 71 = Xi U3 904 71 from by rw [eU4]; exact Xi_ne (by omega)).trans ( (show Xi U3 904 71 = Xi U2 904 71 from by rw [eU3]; exact Xi_ne (by omega)).trans ( (show Xi U2 904 71 = Xi U1 904 71 from by rw [eU2]; exact Xi_ne (by omega)).trans ((show Xi U1 904 71 = Xi S 904 71 from by rw [eU1]; exact Xi_ne (by omega)))))
      have w52 : Xi U4 904 76 = Xi S 904 76 := (show Xi U4 904 76 = Xi U3 904 76 from by rw [eU4]; exact Xi_ne (by omega)).trans ( (show Xi U3 904 76 = Xi U2 904 76 from by rw [eU3]; exact Xi_ne (by omega)).trans ( (show Xi U2 904 76 = Xi U1 904 76 from by rw [eU2]; exact Xi_ne (by omega)).trans ((show Xi U1 904 76 = Xi S 904 76 from by rw [eU1]; exact Xi_ne (by omega)))))
      have w54 : Xi U4 904 78 = Xi S 904 78 := (show Xi U4 904 78 = Xi U3 904 78 from by rw [eU4]; exact Xi_ne (by omega)).trans ( (show Xi U3 904 78 = Xi U2 904 78 from by rw [eU3]; exact Xi_ne (by omega)).trans ( (show Xi U2 904 78 = Xi U1 904 78 from by rw [eU2]; exact Xi_ne (by omega)).trans ((show Xi U1 904 78 = Xi S 904 78 from by rw [eU1]; exact Xi_ne (by omega)))))
      refine y_callV rfl rfl rfl (t_mo_askFifteen__2 hHU4 (by first | assumption | exact (LSP_FR hFU4 rfl rfl (by assumption : LSP S))) (by first | assumption | omega) (by first | assumption | exact (RBD_FR hFU4 rfl (by assumption : RBD S))) (by first | assumption | omega) (by first | assumption | omega) (by first | assumption | omega) (by first | assumption | omega) (by first | assumption | omega) (by first | assumption | omega) _) ?_
      rintro _ T5 ⟨hHT5, w56, rfl, o321⟩
      have hFT5 : FR md_mo_asked__16f S T5 := FR.tr hFU4 w56 rfl
      show Pl _ _ _ _ _ _ [] _ _
      have K321 : True := trivial
      have z321 : Xi U4 904 106 = 0 ∧ Xi U4 904 108 = 0 := ⟨by omega, by omega⟩
      refine y_goto rfl rfl ?_
      refine y_return rfl rfl ?_
      exact ⟨hHT5, hFT5, rfl⟩
    | 16, hii =>
      cases hii
      have w69 : (Xi S 904 70) = 16 := by simpa using w22
      refine y_aload_n rfl rfl ?_
      have w72 : Xi U4 904 106 = Xi U1 904 106 := (show Xi U4 904 106 = Xi U3 904 106 from by rw [eU4]; exact Xi_ne (by omega)).trans ( (show Xi U3 904 106 = Xi U2 904 106 from by rw [eU3]; exact Xi_ne (by omega)).trans ((show Xi U2 904 106 = Xi U1 904 106 from by rw [eU2]; exact Xi_ne (by omega))))
      have w73 : Xi U4 904 108 = Xi U2 904 108 := (show Xi U4 904 108 = Xi U3 904 108 from by rw [eU4]; exact Xi_ne (by omega)).trans ((show Xi U3 904 108 = Xi U2 904 108 from by rw [eU3]; exact Xi_ne (by omega)))
      have w74 : Xi U4 904 15 = Xi S 904 15 := (show Xi U4 904 15 = Xi U3 904 15 from by rw [eU4]; exact Xi_ne (by omega)).trans ( (show Xi U3 904 15 = Xi U2 904 15 from by rw [eU3]; exact Xi_ne (by omega)).trans ( (show Xi U2 904 15 = Xi U1 904 15 from by rw [eU2]; exact Xi_ne (by omega)).trans ((show Xi U1 904 15 = Xi S 904 15 from by rw [eU1]; exact Xi_ne (by omega)))))
      have w76 : Xi U4 904 30 = Xi S 904 30 := (show Xi U4 904 30 = Xi U3 904 30 from by rw [eU4]; exact Xi_ne (by omega)).trans ( (show Xi U3 904 30 = Xi U2 904 30 from by rw [eU3]; exact Xi_ne (by omega)).trans ( (show Xi U2 904 30 = Xi U1 904 30 from by rw [eU2]; exact Xi_ne (by omega)).trans ((show Xi U1 904 30 = Xi S 904 30 from by rw [eU1]; exact Xi_ne (by omega)))))
      have w78 : Xi U4 904 69 = Xi S 904 69 := (show Xi U4 904 69 = Xi U3 904 69 from by rw [eU4]; exact Xi_ne (by omega)).trans ( (show Xi U3 904 69 = Xi U2 904 69 from by rw [eU3]; exact Xi_ne (by omega)).trans ( (show Xi U2 904 69 = Xi U1 904 69 from by rw [eU2]; exact Xi_ne (by omega)).trans ((show Xi U1 904 69 = Xi S 904 69 from by rw [eU1]; exact Xi_ne (by omega)))))
      have w79 : Xi U4 904 70 = Xi S 904 70 := (show Xi U4 904 70 = Xi U3 904 70 from by rw [eU4]; exact Xi_ne (by omega)).trans ( (show Xi U3 904 70 = Xi U2 904 70 from by rw [eU3]; exact Xi_ne (by omega)).trans ( (show Xi U2 904 70 = Xi U1 904 70 from by rw [eU2]; exact Xi_ne (by omega)).trans ((show Xi U1 904 70 = Xi S 904 70 from by rw [eU1]; exact Xi_ne (by omega)))))
      have w80 : Xi U4 904 71 = Xi S 904 71 := (show Xi U4 904 71 = Xi U3 904 71 from by rw [eU4]; exact Xi_ne (by omega)).trans ( (show Xi U3 904 71 = Xi U2 904 71 from by rw [eU3]; exact Xi_ne (by omega)).trans ( (show Xi U2 904 71 = Xi U1 904 71 from by rw [eU2]; exact Xi_ne (by omega)).trans ((show Xi U1 904 71 = Xi S 904 71 from by rw [eU1]; exact Xi_ne (by omega)))))
      have w83 : Xi U4 904 76 = Xi S 904 76 := (show Xi U4 904 76 = Xi U3 904 76 from by rw [eU4]; exact Xi_ne (by omega)).trans ( (show Xi U3 904 76 = Xi U2 904 76 from by rw [eU3]; exact Xi_ne (by omega)).trans ( (show Xi U2 904 76 = Xi U1 904 76 from by rw [eU2]; exact Xi_ne (by omega)).trans ((show Xi U1 904 76 = Xi S 904 76 from by rw [eU1]; exact Xi_ne (by omega)))))
      have w85 : Xi U4 904 78 = Xi S 904 78 := (show Xi U4 904 78 = Xi U3 904 78 from by rw [eU4]; exact Xi_ne (by omega)).trans ( (show Xi U3 904 78 = Xi U2 904 78 from by rw [eU3]; exact Xi_ne (by omega)).trans ( (show Xi U2 904 78 = Xi U1 904 78 from by rw [eU2]; exact Xi_ne (by omega)).trans ((show Xi U1 904 78 = Xi S 904 78 from by rw [eU1]; exact Xi_ne (by omega)))))
      refine y_callV rfl rfl rfl (t_mo_askFifteen__2 hHU4 (by first | assumption | exact (LSP_FR hFU4 rfl rfl (by assumption : LSP S))) (by first | assumption | omega) (by first | assumption | exact (RBD_FR hFU4 rfl (by assumption : RBD S))) (by first | assumption | omega) (by first | assumption | omega) (by first | assumption | omega) (by first | assumption | omega) (by first | assumption | omega) (by first | assumption | omega) _) ?_
      rintro _ T6 ⟨hHT6, w87, rfl, o321⟩
      have hFT6 : FR md_mo_asked__16f S T6 := FR.tr hFU4 w87 rfl
      show Pl _ _ _ _ _ _ [] _ _
      have K321 : True := trivial
      have z321 : Xi U4 904 106 = 0 ∧ Xi U4 904 108 = 0 := ⟨by omega, by omega⟩
      refine y_goto rfl rfl ?_
      refine y_return rfl rfl ?_
      exact ⟨hHT6, hFT6, rfl⟩
    | 17, hii =>
      cases hii
      have w100 : (Xi S 904 70) = 17 := by simpa using w22
      exfalso; omega
    | 18, hii =>
      cases hii
      have w101 : (Xi S 904 70) = 18 := by simpa using w22
      exfalso; omega
    | 19, hii =>
      cases hii
      have w102 : (Xi S 904 70) = 19 := by simpa using w22
      exfalso; omega
    | 20, hii =>
      cases hii
      have w103 : (Xi S 904 70) = 20 := by simpa using w22
      exfalso; omega
    | n + 21, hii => exact absurd hii (by simp)
def md_mo_asked__17f : List rec := [(904, 905, 104, 105), (904, 905, 105, 106), (904, 905, 106, 107), (904, 905, 108, 109), (904, 905, 115, 116), (904, 905, 116, 117), (966, 967, 0, 100000)]
abbrev Q_mo_asked__17f (S : sS) (first : Int) : pst := fun r S1 => RI S1 ∧ FR md_mo_asked__17f S S1 ∧ (r = none)
set_option maxRecDepth 100000 in
theorem t_mo_asked__17f {S : sS} (hH : RI S) (first : Int) (hfirst : 0 ≤ first ∧ first ≤ 5001) (hLS : LSP S) (h15 : 0 ≤ Xi S 904 15) (hRB : RBD S) (hs : Xi S 904 70 = 17) (hp : pR S 0 < pR S 1 ∧ pR S 1 < pR S 2) (ha : 0 ≤ Xi S 904 32 ∧ Xi S 904 32 ≤ 12) (d : Nat) : Mp lay0 (d + 13) m_mo_asked [.ref 904, iv first] S (Q_mo_asked__17f S first) := by
  refine Mp_R rfl rfl (fun fu => ?_)
  have hF : FR md_mo_asked__17f S S := FR.rf
  have w1 : -2147483648 ≤ Xi S 904 104 ∧ Xi S 904 104 ≤ 2147483647 := Xi_rgI
  have w2 : -2147483648 ≤ Xi S 904 105 ∧ Xi S 904 105 ≤ 2147483647 := Xi_rgI
  have w3 : -2147483648 ≤ Xi S 904 106 ∧ Xi S 904 106 ≤ 2147483647 := Xi_rgI
  have w4 : -2147483648 ≤ Xi S 904 108 ∧ Xi S 904 108 ≤ 2147483647 := Xi_rgI
  have w5 : -2147483648 ≤ Xi S 904 15 ∧ Xi S 904 15 ≤ 2147483647 := Xi_rgI
  have w6 : -2147483648 ≤ Xi S 904 32 ∧ Xi S 904 32 ≤ 2147483647 := Xi_rgI
  have w7 : -2147483648 ≤ Xi S 904 70 ∧ Xi S 904 70 ≤ 2147483647 := Xi_rgI
  refine y_aload_n rfl rfl ?_
  refine y_iconst rfl ?_
  refine y_pfi rfl rfl rfl rfl ?_
  obtain ⟨U1, eU1⟩ : ∃ T : sS, T = uI S 904 106 (Int32.ofInt 0) := ⟨_, rfl⟩
  rw [← eU1]
  have hHU1 : RI U1 := by rw [eU1]; exact RI_w hH
  have hFU1 : FR md_mo_asked__17f S U1 := by rw [eU1]; exact FR.wI hF (mdf_i (r := (904, 905, 106, 107)) (List.mem_of_getElem? (i := 2) rfl) (inR_i (by omega) (by omega) (by omega) (by omega)))
  have w8 : Xi U1 904 106 = 0 := by rw [eU1]; exact Xi_same (by unfold rg; omega)
  refine y_aload_n rfl rfl ?_
  refine y_iconst rfl ?_
  refine y_pfi rfl rfl rfl rfl ?_
  obtain ⟨U2, eU2⟩ : ∃ T : sS, T = uI U1 904 108 (Int32.ofInt 0) := ⟨_, rfl⟩
  rw [← eU2]
  have hHU2 : RI U2 := by rw [eU2]; exact RI_w hHU1
  have hFU2 : FR md_mo_asked__17f S U2 := by rw [eU2]; exact FR.wI hFU1 (mdf_i (r := (904, 905, 108, 109)) (List.mem_of_getElem? (i := 3) rfl) (inR_i (by omega) (by omega) (by omega) (by omega)))
  have w9 : Xi U2 904 108 = 0 := by rw [eU2]; exact Xi_same (by unfold rg; omega)
  refine y_aload_n rfl rfl ?_
  refine y_iconst rfl ?_
  refine y_pfi rfl rfl rfl rfl ?_
  obtain ⟨U3, eU3⟩ : ∃ T : sS, T = uI U2 904 115 (Int32.ofInt (-1)) := ⟨_, rfl⟩
  rw [← eU3]
  have hHU3 : RI U3 := by rw [eU3]; exact RI_w hHU2
  have hFU3 : FR md_mo_asked__17f S U3 := by rw [eU3]; exact FR.wI hFU2 (mdf_i (r := (904, 905, 115, 116)) (List.mem_of_getElem? (i := 4) rfl) (inR_i (by omega) (by omega) (by omega) (by omega)))
  have w10 : Xi U3 904 115 = (-1) := by rw [eU3]; exact Xi_same (by unfold rg; omega)
  refine y_aload_n rfl rfl ?_
  refine y_iconst rfl ?_
  refine y_pfi rfl rfl rfl rfl ?_
  obtain ⟨U4, eU4⟩ : ∃ T : sS, T = uI U3 904 116 (Int32.ofInt (-1)) := ⟨_, rfl⟩
  rw [← eU4]
  have hHU4 : RI U4 := by rw [eU4]; exact RI_w hHU3
  have hFU4 : FR md_mo_asked__17f S U4 := by rw [eU4]; exact FR.wI hFU3 (mdf_i (r := (904, 905, 116, 117)) (List.mem_of_getElem? (i := 5) rfl) (inR_i (by omega) (by omega) (by omega) (by omega)))
  have w11 : Xi U4 904 116 = (-1) := by rw [eU4]; exact Xi_same (by unfold rg; omega)
  refine y_aload_n rfl rfl ?_
  refine y_gfi rfl rfl rfl rfl rfl ?_
  have w12 : (Xi U4 904 70) = (Xi S 904 70) := (show Xi U4 904 70 = Xi U3 904 70 from by rw [eU4]; exact Xi_ne (by omega)).trans ( (show Xi U3 904 70 = Xi U2 904 70 from by rw [eU3]; exact Xi_ne (by omega)).trans ( (show Xi U2 904 70 = Xi U1 904 70 from by rw [eU2]; exact Xi_ne (by omega)).trans ((show Xi U1 904 70 = Xi S 904 70 from by rw [eU1]; exact Xi_ne (by omega)))))
  rw [w12]
  refine y_tsw rfl rfl rfl rfl (by unfold rg; omega) (fun w13 => ?_) (fun ii tt hii w13 => ?_)
  · exfalso; omega
  · match ii, hii with
    | 0, hii =>
      cases hii
      have w14 : (Xi S 904 70) = 0 := by simpa using w13
      exfalso; omega
    | 1, hii =>
      cases hii
      have w15 : (Xi S 904 70) = 1 := by simpa using w13
      exfalso; omega
    | 2, hii =>
      cases hii
      have w16 : (Xi S 904 70) = 2 := by simpa using w13
      exfalso; omega
    | 3, hii =>
      cases hii
      have w17 : (Xi S 904 70) = 3 := by simpa using w13
      exfalso; omega
    | 4, hii =>
      cases hii
      have w18 : (Xi S 904 70) = 4 := by simpa using w13
      exfalso; omega
    | 5, hii =>
      cases hii
      have w19 : (Xi S 904 70) = 5 := by simpa using w13
      exfalso; omega
    | 6, hii =>
      cases hii
      have w20 : (Xi S 904 70) = 6 := by simpa using w13
      exfalso; omega
    | 7, hii =>
      cases hii
      have w21 : (Xi S 904 70) = 7 := by simpa using w13
      exfalso; omega
    | 8, hii =>
      cases hii
      have w22 : (Xi S 904 70) = 8 := by simpa using w13
      exfalso; omega
    | 9, hii =>
      cases hii
      have w23 : (Xi S 904 70) = 9 := by simpa using w13
      exfalso; omega
    | 10, hii =>
      cases hii
      have w24 : (Xi S 904 70) = 10 := by simpa using w13
      exfalso; omega
    | 11, hii =>
      cases hii
      have w25 : (Xi S 904 70) = 11 := by simpa using w13
      exfalso; omega
    | 12, hii =>
      cases hii
      have w26 : (Xi S 904 70) = 12 := by simpa using w13
      exfalso; omega
    | 13, hii =>
      cases hii
      have w27 : (Xi S 904 70) = 13 := by simpa using w13
      exfalso; omega
    | 14, hii =>
      cases hii
      have w28 : (Xi S 904 70) = 14 := by simpa using w13
      exfalso; omega
    | 15, hii =>
      cases hii
      have w29 : (Xi S 904 70) = 15 := by simpa using w13
      exfalso; omega
    | 16, hii =>
      cases hii
      have w30 : (Xi S 904 70) = 16 := by simpa using w13
      exfalso; omega
    | 17, hii =>
      cases hii
      have w31 : (Xi S 904 70) = 17 := by simpa using w13
      refine y_aload_n rfl rfl ?_
      refine y_iconst rfl ?_
      have w32 : Xi U4 904 104 = Xi S 904 104 := (show Xi U4 904 104 = Xi U3 904 104 from by rw [eU4]; exact Xi_ne (by omega)).trans ( (show Xi U3 904 104 = Xi U2 904 104 from by rw [eU3]; exact Xi_ne (by omega)).trans ( (show Xi U2 904 104 = Xi U1 904 104 from by rw [eU2]; exact Xi_ne (by omega)).trans ((show Xi U1 904 104 = Xi S 904 104 from by rw [eU1]; exact Xi_ne (by omega)))))
      have w33 : Xi U4 904 105 = Xi S 904 105 := (show Xi U4 904 105 = Xi U3 904 105 from by rw [eU4]; exact Xi_ne (by omega)).trans ( (show Xi U3 904 105 = Xi U2 904 105 from by rw [eU3]; exact Xi_ne (by omega)).trans ( (show Xi U2 904 105 = Xi U1 904 105 from by rw [eU2]; exact Xi_ne (by omega)).trans ((show Xi U1 904 105 = Xi S 904 105 from by rw [eU1]; exact Xi_ne (by omega)))))
      have w34 : Xi U4 904 106 = Xi U1 904 106 := (show Xi U4 904 106 = Xi U3 904 106 from by rw [eU4]; exact Xi_ne (by omega)).trans ( (show Xi U3 904 106 = Xi U2 904 106 from by rw [eU3]; exact Xi_ne (by omega)).trans ((show Xi U2 904 106 = Xi U1 904 106 from by rw [eU2]; exact Xi_ne (by omega))))
      have w35 : Xi U4 904 108 = Xi U2 904 108 := (show Xi U4 904 108 = Xi U3 904 108 from by rw [eU4]; exact Xi_ne (by omega)).trans ((show Xi U3 904 108 = Xi U2 904 108 from by rw [eU3]; exact Xi_ne (by omega)))
      have w36 : Xi U4 904 15 = Xi S 904 15 := (show Xi U4 904 15 = Xi U3 904 15 from by rw [eU4]; exact Xi_ne (by omega)).trans ( (show Xi U3 904 15 = Xi U2 904 15 from by rw [eU3]; exact Xi_ne (by omega)).trans ( (show Xi U2 904 15 = Xi U1 904 15 from by rw [eU2]; exact Xi_ne (by omega)).trans ((show Xi U1 904 15 = Xi S 904 15 from by rw [eU1]; exact Xi_ne (by omega)))))
      have w37 : Xi U4 904 32 = Xi S 904 32 := (show Xi U4 904 32 = Xi U3 904 32 from by rw [eU4]; exact Xi_ne (by omega)).trans ( (show Xi U3 904 32 = Xi U2 904 32 from by rw [eU3]; exact Xi_ne (by omega)).trans ( (show Xi U2 904 32 = Xi U1 904 32 from by rw [eU2]; exact Xi_ne (by omega)).trans ((show Xi U1 904 32 = Xi S 904 32 from by rw [eU1]; exact Xi_ne (by omega)))))
      have w38 : Xi U4 904 70 = Xi S 904 70 := (show Xi U4 904 70 = Xi U3 904 70 from by rw [eU4]; exact Xi_ne (by omega)).trans ( (show Xi U3 904 70 = Xi U2 904 70 from by rw [eU3]; exact Xi_ne (by omega)).trans ( (show Xi U2 904 70 = Xi U1 904 70 from by rw [eU2]; exact Xi_ne (by omega)).trans ((show Xi U1 904 70 = Xi S 904 70 from by rw [eU1]; exact Xi_ne (by omega)))))
      refine y_callV rfl rfl rfl (t_mo_kindOfRun__p hHU4 0 ⟨by omega, by omega⟩ (by first | assumption | exact (LSP_FR hFU4 rfl rfl (by assumption : LSP S))) (by first | assumption | omega) (by first | assumption | exact (RBD_FR hFU4 rfl (by assumption : RBD S))) _) ?_
      rintro _ T5 ⟨hHT5, w41, z40, rfl, w40, w39, nt329_⟩
      have hFT5 : FR md_mo_asked__17f S T5 := FR.tr hFU4 w41 rfl
      show Pl _ _ _ _ _ _ [iv z40] _ _
      have z329 : (NT3 U4).1 = 0 := by show Xi U4 904 106 = 0; omega
      have n329 : Hid (NT3 T5 = if rnR S 0 0 = -1 then ntF (NT3 U4) 4 (pR S 0) else NT3 U4) := by have t := nt329_; rw [rnR_FR hFU4 rfl rfl, (hFU4.cx 908 rfl _).1, (hFU4.cx 950 rfl _).1] at t; exact t
      clear nt329_
      refine y_pop rfl rfl ?_
      refine y_aload_n rfl rfl ?_
      refine y_aload_n rfl rfl ?_
      refine y_iconst rfl ?_
      have w42 : Xi T5 904 108 = Xi U2 904 108 := (show Xi T5 904 108 = Xi U4 904 108 from w41.x _ _ rfl).trans ( (show Xi U4 904 108 = Xi U3 904 108 from by rw [eU4]; exact Xi_ne (by omega)).trans ((show Xi U3 904 108 = Xi U2 904 108 from by rw [eU3]; exact Xi_ne (by omega))))
      have w43 : Xi T5 904 15 = Xi S 904 15 := (show Xi T5 904 15 = Xi U4 904 15 from w41.x _ _ rfl).trans ( (show Xi U4 904 15 = Xi U3 904 15 from by rw [eU4]; exact Xi_ne (by omega)).trans ( (show Xi U3 904 15 = Xi U2 904 15 from by rw [eU3]; exact Xi_ne (by omega)).trans ( (show Xi U2 904 15 = Xi U1 904 15 from by rw [eU2]; exact Xi_ne (by omega)).trans ((show Xi U1 904 15 = Xi S 904 15 from by rw [eU1]; exact Xi_ne (by omega))))))
      have w44 : Xi T5 904 32 = Xi S 904 32 := (show Xi T5 904 32 = Xi U4 904 32 from w41.x _ _ rfl).trans ( (show Xi U4 904 32 = Xi U3 904 32 from by rw [eU4]; exact Xi_ne (by omega)).trans ( (show Xi U3 904 32 = Xi U2 904 32 from by rw [eU3]; exact Xi_ne (by omega)).trans ( (show Xi U2 904 32 = Xi U1 904 32 from by rw [eU2]; exact Xi_ne (by omega)).trans ((show Xi U1 904 32 = Xi S 904 32 from by rw [eU1]; exact Xi_ne (by omega))))))
      have w45 : Xi T5 904 70 = Xi S 904 70 := (show Xi T5 904 70 = Xi U4 904 70 from w41.x _ _ rfl).trans ( (show Xi U4 904 70 = Xi U3 904 70 from by rw [eU4]; exact Xi_ne (by omega)).trans ( (show Xi U3 904 70 = Xi U2 904 70 from by rw [eU3]; exact Xi_ne (by omega)).trans ( (show Xi U2 904 70 = Xi U1 904 70 from by rw [eU2]; exact Xi_ne (by omega)).trans ((show Xi U1 904 70 = Xi S 904 70 from by rw [eU1]; exact Xi_ne (by omega))))))
      refine y_callV rfl rfl rfl (t_mo_typeOrPlural__p hHT5 1 ⟨by omega, by omega⟩ (by first | assumption | exact (LSP_FR hFT5 rfl rfl (by assumption : LSP S))) (by first | assumption | omega) (by first | assumption | exact (RBD_FR hFT5 rfl (by assumption : RBD S))) _) ?_
      rintro _ _ ⟨rfl, z46, rfl, w46, f336⟩
      show Pl _ _ _ _ _ _ [iv z46, .ref 904] _ _
      have K336 : z46 = r2R S 1 2 3 := by have t := f336; rw [r2R_FR hFT5 rfl rfl] at t; exact t
      clear f336
      refine y_iconst rfl ?_
      refine y_icmp_eq rfl rfl (by unfold rg; omega) (by unfold rg; omega) (fun w47 => ?_) (fun w48 => ?_)
      · refine y_iconst rfl ?_
        refine y_iconst rfl ?_
        refine y_aload_n rfl rfl ?_
        refine y_gfr rfl rfl rfl rfl rfl (hHT5.r 904 67 950 rfl) ?_
        refine y_iconst rfl ?_
        refine y_ialoadP (n := 2600) rfl rfl (by unfold rg; omega) (fun w49 w50 => ?_)
        have w51 : -2147483648 ≤ (Xi T5 950 ((1 : Int).toNat)) ∧ (Xi T5 950 ((1 : Int).toNat)) ≤ 2147483647 := Xi_rgI
        have w52 : (Xi T5 950 ((1 : Int).toNat)) = Xi T5 950 1 := rfl
        refine y_callV rfl rfl rfl (t_mo_need__p hHT5 0 4 (Xi T5 950 ((1 : Int).toNat)) ⟨by omega, by omega⟩ ⟨by omega, by omega⟩ ⟨by omega, by omega⟩ _) ?_
        rintro _ T6 ⟨hHT6, w58, rfl, nt355_⟩
        have hFT6 : FR md_mo_asked__17f S T6 := FR.tr hFT5 w58 rfl
        show Pl _ _ _ _ _ _ [] _ _
        have n355 : Hid (NT3 T6 = if r2R S 1 2 3 = -1 then ntF (NT3 T5) 4 (pR S 1) else NT3 T5) := by have t := nt355_; rw [(hFT5.cx 908 rfl _).1, (hFT5.cx 950 rfl _).1] at t; first | (rw [if_pos (show (0 : Int) = 0 from rfl)] at t; rw [if_pos (by omega)]; exact t) | (rw [if_neg (show ¬ (1 : Int) = 0 by decide)] at t; rw [if_neg (by omega)]; exact t)
        clear nt355_
        refine y_aload_n rfl rfl ?_
        refine y_iconst rfl ?_
        have w59 : Xi T6 904 108 = Xi U2 904 108 := (show Xi T6 904 108 = Xi T5 904 108 from w58.x _ _ rfl).trans ( (show Xi T5 904 108 = Xi U4 904 108 from w41.x _ _ rfl).trans ( (show Xi U4 904 108 = Xi U3 904 108 from by rw [eU4]; exact Xi_ne (by omega)).trans ((show Xi U3 904 108 = Xi U2 904 108 from by rw [eU3]; exact Xi_ne (by omega)))))
        have w60 : Xi T6 904 15 = Xi S 904 15 := (show Xi T6 904 15 = Xi T5 904 15 from w58.x _ _ rfl).trans ( (show Xi T5 904 15 = Xi U4 904 15 from w41.x _ _ rfl).trans ( (show Xi U4 904 15 = Xi U3 904 15 from by rw [eU4]; exact Xi_ne (by omega)).trans ( (show Xi U3 904 15 = Xi U2 904 15 from by rw [eU3]; exact Xi_ne (by omega)).trans ( (show Xi U2 904 15 = Xi U1 904 15 from by rw [eU2]; exact Xi_ne (by omega)).trans ((show Xi U1 904 15 = Xi S 904 15 from by rw [eU1]; exact Xi_ne (by omega)))))))
        have w61 : Xi T6 904 32 = Xi S 904 32 := (show Xi T6 904 32 = Xi T5 904 32 from w58.x _ _ rfl).trans ( (show Xi T5 904 32 = Xi U4 904 32 from w41.x _ _ rfl).trans ( (show Xi U4 904 32 = Xi U3 904 32 from by rw [eU4]; exact Xi_ne (by omega)).trans ( (show Xi U3 904 32 = Xi U2 904 32 from by rw [eU3]; exact Xi_ne (by omega)).trans ( (show Xi U2 904 32 = Xi U1 904 32 from by rw [eU2]; exact Xi_ne (by omega)).trans ((show Xi U1 904 32 = Xi S 904 32 from by rw [eU1]; exact Xi_ne (by omega)))))))
        have w62 : Xi T6 904 70 = Xi S 904 70 := (show Xi T6 904 70 = Xi T5 904 70 from w58.x _ _ rfl).trans ( (show Xi T5 904 70 = Xi U4 904 70 from w41.x _ _ rfl).trans ( (show Xi U4 904 70 = Xi U3 904 70 from by rw [eU4]; exact Xi_ne (by omega)).trans ( (show Xi U3 904 70 = Xi U2 904 70 from by rw [eU3]; exact Xi_ne (by omega)).trans ( (show Xi U2 904 70 = Xi U1 904 70 from by rw [eU2]; exact Xi_ne (by omega)).trans ((show Xi U1 904 70 = Xi S 904 70 from by rw [eU1]; exact Xi_ne (by omega)))))))
        refine y_callV rfl rfl rfl (t_mo_meansNothing__p hHT6 2 ⟨by omega, by omega⟩ (by first | assumption | exact (LSP_FR hFT6 rfl rfl (by assumption : LSP S))) (by first | assumption | omega) (by first | assumption | exact (RBD_FR hFT6 rfl (by assumption : RBD S))) _) ?_
        rintro _ _ ⟨rfl, z63, rfl, w63, f360⟩
        show Pl _ _ _ _ _ _ [iv z63] _ _
        have M360 : Hid ((z63 = 1 → rmR S 2 = -1) ∧ (z63 = 0 → rmR S 2 ≠ -1)) := by have t := f360; rw [rmR_FR hFT6 rfl rfl] at t; exact t
        clear f360
        refine y_if_eq rfl rfl (by unfold rg; omega) (fun w64 => ?_) (fun w65 => ?_)
        · refine y_aload_n rfl rfl ?_
          refine y_aload_n rfl rfl ?_
          refine y_iconst rfl ?_
          refine y_bipush rfl rfl ?_
          refine y_callV rfl rfl rfl (t_mo_meansRun__p hHT6 2 7 ⟨by omega, by omega⟩ ⟨by omega, by omega⟩ (by first | assumption | exact (LSP_FR hFT6 rfl rfl (by assumption : LSP S))) (by first | assumption | omega) (by first | assumption | exact (RBD_FR hFT6 rfl (by assumption : RBD S))) _) ?_
          rintro _ _ ⟨rfl, z70, rfl, w70, f385⟩
          show Pl _ _ _ _ _ _ [iv z70, .ref 904] _ _
          have K385 : z70 = rnR S 2 7 := by have t := f385; rw [rnR_FR hFT6 rfl rfl] at t; exact t
          clear f385
          refine y_iconst rfl ?_
          refine y_icmp_eq rfl rfl (by unfold rg; omega) (by unfold rg; omega) (fun w71 => ?_) (fun w72 => ?_)
          · refine y_iconst rfl ?_
            refine y_iconst rfl ?_
            refine y_aload_n rfl rfl ?_
            refine y_gfr rfl rfl rfl rfl rfl (hHT6.r 904 67 950 rfl) ?_
            refine y_iconst rfl ?_
            refine y_ialoadP (n := 2600) rfl rfl (by unfold rg; omega) (fun w73 w74 => ?_)
            have w75 : -2147483648 ≤ (Xi T6 950 ((2 : Int).toNat)) ∧ (Xi T6 950 ((2 : Int).toNat)) ≤ 2147483647 := Xi_rgI
            have w76 : (Xi T6 950 ((2 : Int).toNat)) = Xi T6 950 2 := rfl
            refine y_callV rfl rfl rfl (t_mo_need__p hHT6 0 4 (Xi T6 950 ((2 : Int).toNat)) ⟨by omega, by omega⟩ ⟨by omega, by omega⟩ ⟨by omega, by omega⟩ _) ?_
            rintro _ T7 ⟨hHT7, w82, rfl, nt404_⟩
            have hFT7 : FR md_mo_asked__17f S T7 := FR.tr hFT6 w82 rfl
            show Pl _ _ _ _ _ _ [] _ _
            have n404 : Hid (NT3 T7 = if rnR S 2 7 = -1 then ntF (NT3 T6) 4 (pR S 2) else NT3 T6) := by have t := nt404_; rw [(hFT6.cx 908 rfl _).1, (hFT6.cx 950 rfl _).1] at t; first | (rw [if_pos (show (0 : Int) = 0 from rfl)] at t; rw [if_pos (by omega)]; exact t) | (rw [if_neg (show ¬ (1 : Int) = 0 by decide)] at t; rw [if_neg (by omega)]; exact t)
            clear nt404_
            refine y_goto rfl rfl ?_
            refine y_return rfl rfl ?_
            exact ⟨hHT7, hFT7, rfl⟩
          · refine y_iconst rfl ?_
            refine y_goto rfl rfl ?_
            refine y_iconst rfl ?_
            refine y_aload_n rfl rfl ?_
            refine y_gfr rfl rfl rfl rfl rfl (hHT6.r 904 67 950 rfl) ?_
            refine y_iconst rfl ?_
            refine y_ialoadP (n := 2600) rfl rfl (by unfold rg; omega) (fun w87 w88 => ?_)
            have w89 : -2147483648 ≤ (Xi T6 950 ((2 : Int).toNat)) ∧ (Xi T6 950 ((2 : Int).toNat)) ≤ 2147483647 := Xi_rgI
            have w90 : (Xi T6 950 ((2 : Int).toNat)) = Xi T6 950 2 := rfl
            refine y_callV rfl rfl rfl (t_mo_need__p hHT6 1 4 (Xi T6 950 ((2 : Int).toNat)) ⟨by omega, by omega⟩ ⟨by omega, by omega⟩ ⟨by omega, by omega⟩ _) ?_
            rintro _ T8 ⟨hHT8, w96, rfl, nt404_⟩
            have hFT8 : FR md_mo_asked__17f S T8 := FR.tr hFT6 w96 rfl
            show Pl _ _ _ _ _ _ [] _ _
            have n404 : Hid (NT3 T8 = if rnR S 2 7 = -1 then ntF (NT3 T6) 4 (pR S 2) else NT3 T6) := by have t := nt404_; rw [(hFT6.cx 908 rfl _).1, (hFT6.cx 950 rfl _).1] at t; first | (rw [if_pos (show (0 : Int) = 0 from rfl)] at t; rw [if_pos (by omega)]; exact t) | (rw [if_neg (show ¬ (1 : Int) = 0 by decide)] at t; rw [if_neg (by omega)]; exact t)
            clear nt404_
            refine y_goto rfl rfl ?_
            refine y_return rfl rfl ?_
            exact ⟨hHT8, hFT8, rfl⟩
        · refine y_aload_n rfl rfl ?_
          refine y_iconst rfl ?_
          refine y_aload_n rfl rfl ?_
          refine y_gfi rfl rfl rfl rfl rfl ?_
          have w101 : (Xi T6 904 32) = (Xi S 904 32) := (show Xi T6 904 32 = Xi T5 904 32 from w58.x _ _ rfl).trans ( (show Xi T5 904 32 = Xi U4 904 32 from w41.x _ _ rfl).trans ( (show Xi U4 904 32 = Xi U3 904 32 from by rw [eU4]; exact Xi_ne (by omega)).trans ( (show Xi U3 904 32 = Xi U2 904 32 from by rw [eU3]; exact Xi_ne (by omega)).trans ( (show Xi U2 904 32 = Xi U1 904 32 from by rw [eU2]; exact Xi_ne (by omega)).trans ((show Xi U1 904 32 = Xi S 904 32 from by rw [eU1]; exact Xi_ne (by omega)))))))
          rw [w101]
          refine y_bipush rfl rfl ?_
          refine y_callV rfl rfl rfl (t_mo_mustBeNew__p hHT6 2 (Xi S 904 32) 12 ⟨by omega, by omega⟩ ⟨by omega, by omega⟩ ⟨by omega, by omega⟩ (by first | assumption | exact (LSP_FR hFT6 rfl rfl (by assumption : LSP S))) (by first | assumption | omega) (by first | assumption | exact (RBD_FR hFT6 rfl (by assumption : RBD S))) (by first | assumption | omega) _) ?_
          rintro _ T9 ⟨hHT9, w107, rfl, y374_, m374_⟩
          have hFT9 : FR md_mo_asked__17f S T9 := FR.tr hFT6 w107 rfl
          show Pl _ _ _ _ _ _ [] _ _
          have K374 : True := trivial
          have q374 : Hid (nwR T6 2 ↔ nwR0 S 2) := nwR_0 (fun j => (hFT6.cx 951 rfl j).1) (rmR_FR hFT6 rfl rfl) (by omega)
          have y374 : Hid (nwR0 S 2 → NT3 T9 = (if Xi S 904 32 < 12 then NT3 T6 else ntF (NT3 T6) 9 (pR S 2))) := fun q => by have t := (y374_ (q374.o.2 q)).1; rw [(hFT6.cx 908 rfl _).1, (hFT6.cx 950 rfl _).1] at t; exact t
          have m374 : Hid (¬ nwR0 S 2 → NT3 T9 = ntF (NT3 T6) 3 (pR S 2)) := fun q => by have t := (m374_ (fun w => q (q374.o.1 w))).1; rw [(hFT6.cx 908 rfl _).1, (hFT6.cx 950 rfl _).1] at t; exact t
          clear y374_ m374_
          refine y_goto rfl rfl ?_
          refine y_return rfl rfl ?_
          exact ⟨hHT9, hFT9, rfl⟩
      · refine y_iconst rfl ?_
        refine y_goto rfl rfl ?_
        refine y_iconst rfl ?_
        refine y_aload_n rfl rfl ?_
        refine y_gfr rfl rfl rfl rfl rfl (hHT5.r 904 67 950 rfl) ?_
        refine y_iconst rfl ?_
        refine y_ialoadP (n := 2600) rfl rfl (by unfold rg; omega) (fun w111 w112 => ?_)
        have w113 : -2147483648 ≤ (Xi T5 950 ((1 : Int).toNat)) ∧ (Xi T5 950 ((1 : Int).toNat)) ≤ 2147483647 := Xi_rgI
        have w114 : (Xi T5 950 ((1 : Int).toNat)) = Xi T5 950 1 := rfl
        refine y_callV rfl rfl rfl (t_mo_need__p hHT5 1 4 (Xi T5 950 ((1 : Int).toNat)) ⟨by omega, by omega⟩ ⟨by omega, by omega⟩ ⟨by omega, by omega⟩ _) ?_
        rintro _ T10 ⟨hHT10, w120, rfl, nt355_⟩
        have hFT10 : FR md_mo_asked__17f S T10 := FR.tr hFT5 w120 rfl
        show Pl _ _ _ _ _ _ [] _ _
        have n355 : Hid (NT3 T10 = if r2R S 1 2 3 = -1 then ntF (NT3 T5) 4 (pR S 1) else NT3 T5) := by have t := nt355_; rw [(hFT5.cx 908 rfl _).1, (hFT5.cx 950 rfl _).1] at t; first | (rw [if_pos (show (0 : Int) = 0 from rfl)] at t; rw [if_pos (by omega)]; exact t) | (rw [if_neg (show ¬ (1 : Int) = 0 by decide)] at t; rw [if_neg (by omega)]; exact t)
        clear nt355_
        refine y_aload_n rfl rfl ?_
        refine y_iconst rfl ?_
        have w121 : Xi T10 904 108 = Xi U2 904 108 := (show Xi T10 904 108 = Xi T5 904 108 from w120.x _ _ rfl).trans ( (show Xi T5 904 108 = Xi U4 904 108 from w41.x _ _ rfl).trans ( (show Xi U4 904 108 = Xi U3 904 108 from by rw [eU4]; exact Xi_ne (by omega)).trans ((show Xi U3 904 108 = Xi U2 904 108 from by rw [eU3]; exact Xi_ne (by omega)))))
        have w122 : Xi T10 904 15 = Xi S 904 15 := (show Xi T10 904 15 = Xi T5 904 15 from w120.x _ _ rfl).trans ( (show Xi T5 904 15 = Xi U4 904 15 from w41.x _ _ rfl).trans ( (show Xi U4 904 15 = Xi U3 904 15 from by rw [eU4]; exact Xi_ne (by omega)).trans ( (show Xi U3 904 15 = Xi U2 904 15 from by rw [eU3]; exact Xi_ne (by omega)).trans ( (show Xi U2 904 15 = Xi U1 904 15 from by rw [eU2]; exact Xi_ne (by omega)).trans ((show Xi U1 904 15 = Xi S 904 15 from by rw [eU1]; exact Xi_ne (by omega)))))))
        have w123 : Xi T10 904 32 = Xi S 904 32 := (show Xi T10 904 32 = Xi T5 904 32 from w120.x _ _ rfl).trans ( (show Xi T5 904 32 = Xi U4 904 32 from w41.x _ _ rfl).trans ( (show Xi U4 904 32 = Xi U3 904 32 from by rw [eU4]; exact Xi_ne (by omega)).trans ( (show Xi U3 904 32 = Xi U2 904 32 from by rw [eU3]; exact Xi_ne (by omega)).trans ( (show Xi U2 904 32 = Xi U1 904 32 from by rw [eU2]; exact Xi_ne (by omega)).trans ((show Xi U1 904 32 = Xi S 904 32 from by rw [eU1]; exact Xi_ne (by omega)))))))
        have w124 : Xi T10 904 70 = Xi S 904 70 := (show Xi T10 904 70 = Xi T5 904 70 from w120.x _ _ rfl).trans ( (show Xi T5 904 70 = Xi U4 904 70 from w41.x _ _ rfl).trans ( (show Xi U4 904 70 = Xi U3 904 70 from by rw [eU4]; exact Xi_ne (by omega)).trans ( (show Xi U3 904 70 = Xi U2 904 70 from by rw [eU3]; exact Xi_ne (by omega)).trans ( (show Xi U2 904 70 = Xi U1 904 70 from by rw [eU2]; exact Xi_ne (by omega)).trans ((show Xi U1 904 70 = Xi S 904 70 from by rw [eU1]; exact Xi_ne (by omega)))))))
        refine y_callV rfl rfl rfl (t_mo_meansNothing__p hHT10 2 ⟨by omega, by omega⟩ (by first | assumption | exact (LSP_FR hFT10 rfl rfl (by assumption : LSP S))) (by first | assumption | omega) (by first | assumption | exact (RBD_FR hFT10 rfl (by assumption : RBD S))) _) ?_
        rintro _ _ ⟨rfl, z125, rfl, w125, f360⟩
        show Pl _ _ _ _ _ _ [iv z125] _ _
        have M360 : Hid ((z125 = 1 → rmR S 2 = -1) ∧ (z125 = 0 → rmR S 2 ≠ -1)) := by have t := f360; rw [rmR_FR hFT10 rfl rfl] at t; exact t
        clear f360
        refine y_if_eq rfl rfl (by unfold rg; omega) (fun w126 => ?_) (fun w127 => ?_)
        · refine y_aload_n rfl rfl ?_
          refine y_aload_n rfl rfl ?_
          refine y_iconst rfl ?_
          refine y_bipush rfl rfl ?_
          refine y_callV rfl rfl rfl (t_mo_meansRun__p hHT10 2 7 ⟨by omega, by omega⟩ ⟨by omega, by omega⟩ (by first | assumption | exact (LSP_FR hFT10 rfl rfl (by assumption : LSP S))) (by first | assumption | omega) (by first | assumption | exact (RBD_FR hFT10 rfl (by assumption : RBD S))) _) ?_
          rintro _ _ ⟨rfl, z132, rfl, w132, f385⟩
          show Pl _ _ _ _ _ _ [iv z132, .ref 904] _ _
          have K385 : z132 = rnR S 2 7 := by have t := f385; rw [rnR_FR hFT10 rfl rfl] at t; exact t
          clear f385
          refine y_iconst rfl ?_
          refine y_icmp_eq rfl rfl (by unfold rg; omega) (by unfold rg; omega) (fun w133 => ?_) (fun w134 => ?_)
          · refine y_iconst rfl ?_
            refine y_iconst rfl ?_
            refine y_aload_n rfl rfl ?_
            refine y_gfr rfl rfl rfl rfl rfl (hHT10.r 904 67 950 rfl) ?_
            refine y_iconst rfl ?_
            refine y_ialoadP (n := 2600) rfl rfl (by unfold rg; omega) (fun w135 w136 => ?_)
            have w137 : -2147483648 ≤ (Xi T10 950 ((2 : Int).toNat)) ∧ (Xi T10 950 ((2 : Int).toNat)) ≤ 2147483647 := Xi_rgI
            have w138 : (Xi T10 950 ((2 : Int).toNat)) = Xi T10 950 2 := rfl
            refine y_callV rfl rfl rfl (t_mo_need__p hHT10 0 4 (Xi T10 950 ((2 : Int).toNat)) ⟨by omega, by omega⟩ ⟨by omega, by omega⟩ ⟨by omega, by omega⟩ _) ?_
            rintro _ T11 ⟨hHT11, w144, rfl, nt404_⟩
            have hFT11 : FR md_mo_asked__17f S T11 := FR.tr hFT10 w144 rfl
            show Pl _ _ _ _ _ _ [] _ _
            have n404 : Hid (NT3 T11 = if rnR S 2 7 = -1 then ntF (NT3 T10) 4 (pR S 2) else NT3 T10) := by have t := nt404_; rw [(hFT10.cx 908 rfl _).1, (hFT10.cx 950 rfl _).1] at t; first | (rw [if_pos (show (0 : Int) = 0 from rfl)] at t; rw [if_pos (by omega)]; exact t) | (rw [if_neg (show ¬ (1 : Int) = 0 by decide)] at t; rw [if_neg (by omega)]; exact t)
            clear nt404_
            refine y_goto rfl rfl ?_
            refine y_return rfl rfl ?_
            exact ⟨hHT11, hFT11, rfl⟩
          · refine y_iconst rfl ?_
            refine y_goto rfl rfl ?_
            refine y_iconst rfl ?_
            refine y_aload_n rfl rfl ?_
            refine y_gfr rfl rfl rfl rfl rfl (hHT10.r 904 67 950 rfl) ?_
            refine y_iconst rfl ?_
            refine y_ialoadP (n := 2600) rfl rfl (by unfold rg; omega) (fun w149 w150 => ?_)
            have w151 : -2147483648 ≤ (Xi T10 950 ((2 : Int).toNat)) ∧ (Xi T10 950 ((2 : Int).toNat)) ≤ 2147483647 := Xi_rgI
            have w152 : (Xi T10 950 ((2 : Int).toNat)) = Xi T10 950 2 := rfl
            refine y_callV rfl rfl rfl (t_mo_need__p hHT10 1 4 (Xi T10 950 ((2 : Int).toNat)) ⟨by omega, by omega⟩ ⟨by omega, by omega⟩ ⟨by omega, by omega⟩ _) ?_
            rintro _ T12 ⟨hHT12, w158, rfl, nt404_⟩
            have hFT12 : FR md_mo_asked__17f S T12 := FR.tr hFT10 w158 rfl
            show Pl _ _ _ _ _ _ [] _ _
            have n404 : Hid (NT3 T12 = if rnR S 2 7 = -1 then ntF (NT3 T10) 4 (pR S 2) else NT3 T10) := by have t := nt404_; rw [(hFT10.cx 908 rfl _).1, (hFT10.cx 950 rfl _).1] at t; first | (rw [if_pos (show (0 : Int) = 0 from rfl)] at t; rw [if_pos (by omega)]; exact t) | (rw [if_neg (show ¬ (1 : Int) = 0 by decide)] at t; rw [if_neg (by omega)]; exact t)
            clear nt404_
            refine y_goto rfl rfl ?_
            refine y_return rfl rfl ?_
            exact ⟨hHT12, hFT12, rfl⟩
        · refine y_aload_n rfl rfl ?_
          refine y_iconst rfl ?_
          refine y_aload_n rfl rfl ?_
          refine y_gfi rfl rfl rfl rfl rfl ?_
          have w163 : (Xi T10 904 32) = (Xi S 904 32) := (show Xi T10 904 32 = Xi T5 904 32 from w120.x _ _ rfl).trans ( (show Xi T5 904 32 = Xi U4 904 32 from w41.x _ _ rfl).trans ( (show Xi U4 904 32 = Xi U3 904 32 from by rw [eU4]; exact Xi_ne (by omega)).trans ( (show Xi U3 904 32 = Xi U2 904 32 from by rw [eU3]; exact Xi_ne (by omega)).trans ( (show Xi U2 904 32 = Xi U1 904 32 from by rw [eU2]; exact Xi_ne (by omega)).trans ((show Xi U1 904 32 = Xi S 904 32 from by rw [eU1]; exact Xi_ne (by omega)))))))
          rw [w163]
          refine y_bipush rfl rfl ?_
          refine y_callV rfl rfl rfl (t_mo_mustBeNew__p hHT10 2 (Xi S 904 32) 12 ⟨by omega, by omega⟩ ⟨by omega, by omega⟩ ⟨by omega, by omega⟩ (by first | assumption | exact (LSP_FR hFT10 rfl rfl (by assumption : LSP S))) (by first | assumption | omega) (by first | assumption | exact (RBD_FR hFT10 rfl (by assumption : RBD S))) (by first | assumption | omega) _) ?_
          rintro _ T13 ⟨hHT13, w169, rfl, y374_, m374_⟩
          have hFT13 : FR md_mo_asked__17f S T13 := FR.tr hFT10 w169 rfl
          show Pl _ _ _ _ _ _ [] _ _
          have K374 : True := trivial
          have q374 : Hid (nwR T10 2 ↔ nwR0 S 2) := nwR_0 (fun j => (hFT10.cx 951 rfl j).1) (rmR_FR hFT10 rfl rfl) (by omega)
          have y374 : Hid (nwR0 S 2 → NT3 T13 = (if Xi S 904 32 < 12 then NT3 T10 else ntF (NT3 T10) 9 (pR S 2))) := fun q => by have t := (y374_ (q374.o.2 q)).1; rw [(hFT10.cx 908 rfl _).1, (hFT10.cx 950 rfl _).1] at t; exact t
          have m374 : Hid (¬ nwR0 S 2 → NT3 T13 = ntF (NT3 T10) 3 (pR S 2)) := fun q => by have t := (m374_ (fun w => q (q374.o.1 w))).1; rw [(hFT10.cx 908 rfl _).1, (hFT10.cx 950 rfl _).1] at t; exact t
          clear y374_ m374_
          refine y_goto rfl rfl ?_
          refine y_return rfl rfl ?_
          exact ⟨hHT13, hFT13, rfl⟩
    | 18, hii =>
      cases hii
      have w173 : (Xi S 904 70) = 18 := by simpa using w13
      exfalso; omega
    | 19, hii =>
      cases hii
      have w174 : (Xi S 904 70) = 19 := by simpa using w13
      exfalso; omega
    | 20, hii =>
      cases hii
      have w175 : (Xi S 904 70) = 20 := by simpa using w13
      exfalso; omega
    | n + 21, hii => exact absurd hii (by simp)
def md_mo_asked__18f : List rec := [(904, 905, 104, 105), (904, 905, 105, 106), (904, 905, 106, 107), (904, 905, 108, 109), (904, 905, 115, 116), (904, 905, 116, 117), (966, 967, 0, 100000)]
abbrev Q_mo_asked__18f (S : sS) (first : Int) : pst := fun r S1 => RI S1 ∧ FR md_mo_asked__18f S S1 ∧ (r = none)
set_option maxRecDepth 100000 in
theorem t_mo_asked__18f {S : sS} (hH : RI S) (first : Int) (hfirst : 0 ≤ first ∧ first ≤ 5001) (hLS : LSP S) (h15 : 0 ≤ Xi S 904 15) (hRB : RBD S) (hs : Xi S 904 70 = 18) (hp : pR S 0 < pR S 1 ∧ pR S 1 < pR S 2) (ha : 0 ≤ Xi S 904 23 ∧ Xi S 904 23 ≤ 24) (d : Nat) : Mp lay0 (d + 13) m_mo_asked [.ref 904, iv first] S (Q_mo_asked__18f S first) := by
  refine Mp_R rfl rfl (fun fu => ?_)
  have hF : FR md_mo_asked__18f S S := FR.rf
  have w1 : -2147483648 ≤ Xi S 904 104 ∧ Xi S 904 104 ≤ 2147483647 := Xi_rgI
  have w2 : -2147483648 ≤ Xi S 904 105 ∧ Xi S 904 105 ≤ 2147483647 := Xi_rgI
  have w3 : -2147483648 ≤ Xi S 904 106 ∧ Xi S 904 106 ≤ 2147483647 := Xi_rgI
  have w4 : -2147483648 ≤ Xi S 904 108 ∧ Xi S 904 108 ≤ 2147483647 := Xi_rgI
  have w5 : -2147483648 ≤ Xi S 904 15 ∧ Xi S 904 15 ≤ 2147483647 := Xi_rgI
  have w6 : -2147483648 ≤ Xi S 904 23 ∧ Xi S 904 23 ≤ 2147483647 := Xi_rgI
  have w7 : -2147483648 ≤ Xi S 904 70 ∧ Xi S 904 70 ≤ 2147483647 := Xi_rgI
  refine y_aload_n rfl rfl ?_
  refine y_iconst rfl ?_
  refine y_pfi rfl rfl rfl rfl ?_
  obtain ⟨U1, eU1⟩ : ∃ T : sS, T = uI S 904 106 (Int32.ofInt 0) := ⟨_, rfl⟩
  rw [← eU1]
  have hHU1 : RI U1 := by rw [eU1]; exact RI_w hH
  have hFU1 : FR md_mo_asked__18f S U1 := by rw [eU1]; exact FR.wI hF (mdf_i (r := (904, 905, 106, 107)) (List.mem_of_getElem? (i := 2) rfl) (inR_i (by omega) (by omega) (by omega) (by omega)))
  have w8 : Xi U1 904 106 = 0 := by rw [eU1]; exact Xi_same (by unfold rg; omega)
  refine y_aload_n rfl rfl ?_
  refine y_iconst rfl ?_
  refine y_pfi rfl rfl rfl rfl ?_
  obtain ⟨U2, eU2⟩ : ∃ T : sS, T = uI U1 904 108 (Int32.ofInt 0) := ⟨_, rfl⟩
  rw [← eU2]
  have hHU2 : RI U2 := by rw [eU2]; exact RI_w hHU1
  have hFU2 : FR md_mo_asked__18f S U2 := by rw [eU2]; exact FR.wI hFU1 (mdf_i (r := (904, 905, 108, 109)) (List.mem_of_getElem? (i := 3) rfl) (inR_i (by omega) (by omega) (by omega) (by omega)))
  have w9 : Xi U2 904 108 = 0 := by rw [eU2]; exact Xi_same (by unfold rg; omega)
  refine y_aload_n rfl rfl ?_
  refine y_iconst rfl ?_
  refine y_pfi rfl rfl rfl rfl ?_
  obtain ⟨U3, eU3⟩ : ∃ T : sS, T = uI U2 904 115 (Int32.ofInt (-1)) := ⟨_, rfl⟩
  rw [← eU3]
  have hHU3 : RI U3 := by rw [eU3]; exact RI_w hHU2
  have hFU3 : FR md_mo_asked__18f S U3 := by rw [eU3]; exact FR.wI hFU2 (mdf_i (r := (904, 905, 115, 116)) (List.mem_of_getElem? (i := 4) rfl) (inR_i (by omega) (by omega) (by omega) (by omega)))
  have w10 : Xi U3 904 115 = (-1) := by rw [eU3]; exact Xi_same (by unfold rg; omega)
  refine y_aload_n rfl rfl ?_
  refine y_iconst rfl ?_
  refine y_pfi rfl rfl rfl rfl ?_
  obtain ⟨U4, eU4⟩ : ∃ T : sS, T = uI U3 904 116 (Int32.ofInt (-1)) := ⟨_, rfl⟩
  rw [← eU4]
  have hHU4 : RI U4 := by rw [eU4]; exact RI_w hHU3
  have hFU4 : FR md_mo_asked__18f S U4 := by rw [eU4]; exact FR.wI hFU3 (mdf_i (r := (904, 905, 116, 117)) (List.mem_of_getElem? (i := 5) rfl) (inR_i (by omega) (by omega) (by omega) (by omega)))
  have w11 : Xi U4 904 116 = (-1) := by rw [eU4]; exact Xi_same (by unfold rg; omega)
  refine y_aload_n rfl rfl ?_
  refine y_gfi rfl rfl rfl rfl rfl ?_
  have w12 : (Xi U4 904 70) = (Xi S 904 70) := (show Xi U4 904 70 = Xi U3 904 70 from by rw [eU4]; exact Xi_ne (by omega)).trans ( (show Xi U3 904 70 = Xi U2 904 70 from by rw [eU3]; exact Xi_ne (by omega)).trans ( (show Xi U2 904 70 = Xi U1 904 70 from by rw [eU2]; exact Xi_ne (by omega)).trans ((show Xi U1 904 70 = Xi S 904 70 from by rw [eU1]; exact Xi_ne (by omega)))))
  rw [w12]
  refine y_tsw rfl rfl rfl rfl (by unfold rg; omega) (fun w13 => ?_) (fun ii tt hii w13 => ?_)
  · exfalso; omega
  · match ii, hii with
    | 0, hii =>
      cases hii
      have w14 : (Xi S 904 70) = 0 := by simpa using w13
      exfalso; omega
    | 1, hii =>
      cases hii
      have w15 : (Xi S 904 70) = 1 := by simpa using w13
      exfalso; omega
    | 2, hii =>
      cases hii
      have w16 : (Xi S 904 70) = 2 := by simpa using w13
      exfalso; omega
    | 3, hii =>
      cases hii
      have w17 : (Xi S 904 70) = 3 := by simpa using w13
      exfalso; omega
    | 4, hii =>
      cases hii
      have w18 : (Xi S 904 70) = 4 := by simpa using w13
      exfalso; omega
    | 5, hii =>
      cases hii
      have w19 : (Xi S 904 70) = 5 := by simpa using w13
      exfalso; omega
    | 6, hii =>
      cases hii
      have w20 : (Xi S 904 70) = 6 := by simpa using w13
      exfalso; omega
    | 7, hii =>
      cases hii
      have w21 : (Xi S 904 70) = 7 := by simpa using w13
      exfalso; omega
    | 8, hii =>
      cases hii
      have w22 : (Xi S 904 70) = 8 := by simpa using w13
      exfalso; omega
    | 9, hii =>
      cases hii
      have w23 : (Xi S 904 70) = 9 := by simpa using w13
      exfalso; omega
    | 10, hii =>
      cases hii
      have w24 : (Xi S 904 70) = 10 := by simpa using w13
      exfalso; omega
    | 11, hii =>
      cases hii
      have w25 : (Xi S 904 70) = 11 := by simpa using w13
      exfalso; omega
    | 12, hii =>
      cases hii
      have w26 : (Xi S 904 70) = 12 := by simpa using w13
      exfalso; omega
    | 13, hii =>
      cases hii
      have w27 : (Xi S 904 70) = 13 := by simpa using w13
      exfalso; omega
    | 14, hii =>
      cases hii
      have w28 : (Xi S 904 70) = 14 := by simpa using w13
      exfalso; omega
    | 15, hii =>
      cases hii
      have w29 : (Xi S 904 70) = 15 := by simpa using w13
      exfalso; omega
    | 16, hii =>
      cases hii
      have w30 : (Xi S 904 70) = 16 := by simpa using w13
      exfalso; omega
    | 17, hii =>
      cases hii
      have w31 : (Xi S 904 70) = 17 := by simpa using w13
      exfalso; omega
    | 18, hii =>
      cases hii
      have w32 : (Xi S 904 70) = 18 := by simpa using w13
      refine y_aload_n rfl rfl ?_
      refine y_iconst rfl ?_
      have w33 : Xi U4 904 104 = Xi S 904 104 := (show Xi U4 904 104 = Xi U3 904 104 from by rw [eU4]; exact Xi_ne (by omega)).trans ( (show Xi U3 904 104 = Xi U2 904 104 from by rw [eU3]; exact Xi_ne (by omega)).trans ( (show Xi U2 904 104 = Xi U1 904 104 from by rw [eU2]; exact Xi_ne (by omega)).trans ((show Xi U1 904 104 = Xi S 904 104 from by rw [eU1]; exact Xi_ne (by omega)))))
      have w34 : Xi U4 904 105 = Xi S 904 105 := (show Xi U4 904 105 = Xi U3 904 105 from by rw [eU4]; exact Xi_ne (by omega)).trans ( (show Xi U3 904 105 = Xi U2 904 105 from by rw [eU3]; exact Xi_ne (by omega)).trans ( (show Xi U2 904 105 = Xi U1 904 105 from by rw [eU2]; exact Xi_ne (by omega)).trans ((show Xi U1 904 105 = Xi S 904 105 from by rw [eU1]; exact Xi_ne (by omega)))))
      have w35 : Xi U4 904 106 = Xi U1 904 106 := (show Xi U4 904 106 = Xi U3 904 106 from by rw [eU4]; exact Xi_ne (by omega)).trans ( (show Xi U3 904 106 = Xi U2 904 106 from by rw [eU3]; exact Xi_ne (by omega)).trans ((show Xi U2 904 106 = Xi U1 904 106 from by rw [eU2]; exact Xi_ne (by omega))))
      have w36 : Xi U4 904 108 = Xi U2 904 108 := (show Xi U4 904 108 = Xi U3 904 108 from by rw [eU4]; exact Xi_ne (by omega)).trans ((show Xi U3 904 108 = Xi U2 904 108 from by rw [eU3]; exact Xi_ne (by omega)))
      have w37 : Xi U4 904 15 = Xi S 904 15 := (show Xi U4 904 15 = Xi U3 904 15 from by rw [eU4]; exact Xi_ne (by omega)).trans ( (show Xi U3 904 15 = Xi U2 904 15 from by rw [eU3]; exact Xi_ne (by omega)).trans ( (show Xi U2 904 15 = Xi U1 904 15 from by rw [eU2]; exact Xi_ne (by omega)).trans ((show Xi U1 904 15 = Xi S 904 15 from by rw [eU1]; exact Xi_ne (by omega)))))
      have w38 : Xi U4 904 23 = Xi S 904 23 := (show Xi U4 904 23 = Xi U3 904 23 from by rw [eU4]; exact Xi_ne (by omega)).trans ( (show Xi U3 904 23 = Xi U2 904 23 from by rw [eU3]; exact Xi_ne (by omega)).trans ( (show Xi U2 904 23 = Xi U1 904 23 from by rw [eU2]; exact Xi_ne (by omega)).trans ((show Xi U1 904 23 = Xi S 904 23 from by rw [eU1]; exact Xi_ne (by omega)))))
      have w39 : Xi U4 904 70 = Xi S 904 70 := (show Xi U4 904 70 = Xi U3 904 70 from by rw [eU4]; exact Xi_ne (by omega)).trans ( (show Xi U3 904 70 = Xi U2 904 70 from by rw [eU3]; exact Xi_ne (by omega)).trans ( (show Xi U2 904 70 = Xi U1 904 70 from by rw [eU2]; exact Xi_ne (by omega)).trans ((show Xi U1 904 70 = Xi S 904 70 from by rw [eU1]; exact Xi_ne (by omega)))))
      refine y_callV rfl rfl rfl (t_mo_kindOfRun__p hHU4 0 ⟨by omega, by omega⟩ (by first | assumption | exact (LSP_FR hFU4 rfl rfl (by assumption : LSP S))) (by first | assumption | omega) (by first | assumption | exact (RBD_FR hFU4 rfl (by assumption : RBD S))) _) ?_
      rintro _ T5 ⟨hHT5, w42, z41, rfl, w41, w40, nt412_⟩
      have hFT5 : FR md_mo_asked__18f S T5 := FR.tr hFU4 w42 rfl
      show Pl _ _ _ _ _ _ [iv z41] _ _
      have z412 : (NT3 U4).1 = 0 := by show Xi U4 904 106 = 0; omega
      have n412 : Hid (NT3 T5 = if rnR S 0 0 = -1 then ntF (NT3 U4) 4 (pR S 0) else NT3 U4) := by have t := nt412_; rw [rnR_FR hFU4 rfl rfl, (hFU4.cx 908 rfl _).1, (hFU4.cx 950 rfl _).1] at t; exact t
      clear nt412_
      refine y_pop rfl rfl ?_
      refine y_aload_n rfl rfl ?_
      refine y_iconst rfl ?_
      refine y_aload_n rfl rfl ?_
      refine y_gfi rfl rfl rfl rfl rfl ?_
      have w43 : (Xi T5 904 23) = (Xi S 904 23) := (show Xi T5 904 23 = Xi U4 904 23 from w42.x _ _ rfl).trans ( (show Xi U4 904 23 = Xi U3 904 23 from by rw [eU4]; exact Xi_ne (by omega)).trans ( (show Xi U3 904 23 = Xi U2 904 23 from by rw [eU3]; exact Xi_ne (by omega)).trans ( (show Xi U2 904 23 = Xi U1 904 23 from by rw [eU2]; exact Xi_ne (by omega)).trans ((show Xi U1 904 23 = Xi S 904 23 from by rw [eU1]; exact Xi_ne (by omega))))))
      rw [w43]
      refine y_bipush rfl rfl ?_
      have w44 : Xi T5 904 108 = Xi U2 904 108 := (show Xi T5 904 108 = Xi U4 904 108 from w42.x _ _ rfl).trans ( (show Xi U4 904 108 = Xi U3 904 108 from by rw [eU4]; exact Xi_ne (by omega)).trans ((show Xi U3 904 108 = Xi U2 904 108 from by rw [eU3]; exact Xi_ne (by omega))))
      have w45 : Xi T5 904 15 = Xi S 904 15 := (show Xi T5 904 15 = Xi U4 904 15 from w42.x _ _ rfl).trans ( (show Xi U4 904 15 = Xi U3 904 15 from by rw [eU4]; exact Xi_ne (by omega)).trans ( (show Xi U3 904 15 = Xi U2 904 15 from by rw [eU3]; exact Xi_ne (by omega)).trans ( (show Xi U2 904 15 = Xi U1 904 15 from by rw [eU2]; exact Xi_ne (by omega)).trans ((show Xi U1 904 15 = Xi S 904 15 from by rw [eU1]; exact Xi_ne (by omega))))))
      have w46 : Xi T5 904 23 = Xi S 904 23 := (show Xi T5 904 23 = Xi U4 904 23 from w42.x _ _ rfl).trans ( (show Xi U4 904 23 = Xi U3 904 23 from by rw [eU4]; exact Xi_ne (by omega)).trans ( (show Xi U3 904 23 = Xi U2 904 23 from by rw [eU3]; exact Xi_ne (by omega)).trans ( (show Xi U2 904 23 = Xi U1 904 23 from by rw [eU2]; exact Xi_ne (by omega)).trans ((show Xi U1 904 23 = Xi S 904 23 from by rw [eU1]; exact Xi_ne (by omega))))))
      have w47 : Xi T5 904 70 = Xi S 904 70 := (show Xi T5 904 70 = Xi U4 904 70 from w42.x _ _ rfl).trans ( (show Xi U4 904 70 = Xi U3 904 70 from by rw [eU4]; exact Xi_ne (by omega)).trans ( (show Xi U3 904 70 = Xi U2 904 70 from by rw [eU3]; exact Xi_ne (by omega)).trans ( (show Xi U2 904 70 = Xi U1 904 70 from by rw [eU2]; exact Xi_ne (by omega)).trans ((show Xi U1 904 70 = Xi S 904 70 from by rw [eU1]; exact Xi_ne (by omega))))))
      refine y_callV rfl rfl rfl (t_mo_mustBeNew__p hHT5 1 (Xi S 904 23) 24 ⟨by omega, by omega⟩ ⟨by omega, by omega⟩ ⟨by omega, by omega⟩ (by first | assumption | exact (LSP_FR hFT5 rfl rfl (by assumption : LSP S))) (by first | assumption | omega) (by first | assumption | exact (RBD_FR hFT5 rfl (by assumption : RBD S))) (by first | assumption | omega) _) ?_
      rintro _ T6 ⟨hHT6, w49, rfl, y424_, m424_⟩
      have hFT6 : FR md_mo_asked__18f S T6 := FR.tr hFT5 w49 rfl
      show Pl _ _ _ _ _ _ [] _ _
      have q424 : Hid (nwR T5 1 ↔ nwR0 S 1) := nwR_0 (fun j => (hFT5.cx 951 rfl j).1) (rmR_FR hFT5 rfl rfl) (by omega)
      have x424 : Xi T5 904 108 = 0 := by omega
      have y424 : Hid (nwR0 S 1 → NT3 T6 = (if Xi S 904 23 < 24 then NT3 T5 else ntF (NT3 T5) 9 (pR S 1)) ∧ Xi T6 904 108 = 1 ∧ Xi T6 966 0 = 1) := fun q => by have t := y424_ (q424.o.2 q); rw [x424, (hFT5.cx 908 rfl _).1, (hFT5.cx 950 rfl _).1] at t; exact ⟨t.1, by omega, t.2.2.1⟩
      have m424 : Hid (¬ nwR0 S 1 → NT3 T6 = ntF (NT3 T5) 3 (pR S 1) ∧ Xi T6 904 108 = 0) := fun q => by have t := m424_ (fun w => q (q424.o.1 w)); rw [x424, (hFT5.cx 908 rfl _).1, (hFT5.cx 950 rfl _).1] at t; exact ⟨t.1, t.2.1⟩
      clear y424_ m424_
      have g424 : 0 ≤ Xi T6 904 108 ∧ (Xi T6 904 108 = 0 ∨ Xi T6 904 108 = 1) := (Classical.em (nwR0 S 1)).elim (fun q => by have t := (y424.o q).2.1; omega) (fun q => by have t := (m424.o q).2; omega)
      refine y_aload_n rfl rfl ?_
      refine y_iconst rfl ?_
      refine y_aload_n rfl rfl ?_
      refine y_gfi rfl rfl rfl rfl rfl ?_
      have w50 : (Xi T6 904 23) = (Xi S 904 23) := (show Xi T6 904 23 = Xi T5 904 23 from w49.x _ _ rfl).trans ( (show Xi T5 904 23 = Xi U4 904 23 from w42.x _ _ rfl).trans ( (show Xi U4 904 23 = Xi U3 904 23 from by rw [eU4]; exact Xi_ne (by omega)).trans ( (show Xi U3 904 23 = Xi U2 904 23 from by rw [eU3]; exact Xi_ne (by omega)).trans ( (show Xi U2 904 23 = Xi U1 904 23 from by rw [eU2]; exact Xi_ne (by omega)).trans ((show Xi U1 904 23 = Xi S 904 23 from by rw [eU1]; exact Xi_ne (by omega)))))))
      rw [w50]
      refine y_aload_n rfl rfl ?_
      refine y_gfi rfl rfl rfl rfl rfl ?_
      have w51 : -2147483648 ≤ (Xi T6 904 108) ∧ (Xi T6 904 108) ≤ 2147483647 := Xi_rgI
      refine y_if_le rfl rfl (by unfold rg; omega) (fun w52 => ?_) (fun w53 => ?_)
      · refine y_iconst rfl ?_
        refine y_iadd rfl ?_
        refine y_bipush rfl rfl ?_
        have w54 : Xi T6 904 15 = Xi S 904 15 := (show Xi T6 904 15 = Xi T5 904 15 from w49.x _ _ rfl).trans ( (show Xi T5 904 15 = Xi U4 904 15 from w42.x _ _ rfl).trans ( (show Xi U4 904 15 = Xi U3 904 15 from by rw [eU4]; exact Xi_ne (by omega)).trans ( (show Xi U3 904 15 = Xi U2 904 15 from by rw [eU3]; exact Xi_ne (by omega)).trans ( (show Xi U2 904 15 = Xi U1 904 15 from by rw [eU2]; exact Xi_ne (by omega)).trans ((show Xi U1 904 15 = Xi S 904 15 from by rw [eU1]; exact Xi_ne (by omega)))))))
        have w55 : Xi T6 904 23 = Xi S 904 23 := (show Xi T6 904 23 = Xi T5 904 23 from w49.x _ _ rfl).trans ( (show Xi T5 904 23 = Xi U4 904 23 from w42.x _ _ rfl).trans ( (show Xi U4 904 23 = Xi U3 904 23 from by rw [eU4]; exact Xi_ne (by omega)).trans ( (show Xi U3 904 23 = Xi U2 904 23 from by rw [eU3]; exact Xi_ne (by omega)).trans ( (show Xi U2 904 23 = Xi U1 904 23 from by rw [eU2]; exact Xi_ne (by omega)).trans ((show Xi U1 904 23 = Xi S 904 23 from by rw [eU1]; exact Xi_ne (by omega)))))))
        refine y_callV rfl rfl rfl (t_mo_mustBeNew__p hHT6 2 ((Xi S 904 23) + 0) 24 ⟨by omega, by omega⟩ ⟨by omega, by omega⟩ ⟨by omega, by omega⟩ (by first | assumption | exact (LSP_FR hFT6 rfl rfl (by assumption : LSP S))) (by first | assumption | omega) (by first | assumption | exact (RBD_FR hFT6 rfl (by assumption : RBD S))) (by first | assumption | omega) _) ?_
        rintro _ T7 ⟨hHT7, w58, rfl, y448_, m448_⟩
        have hFT7 : FR md_mo_asked__18f S T7 := FR.tr hFT6 w58 rfl
        show Pl _ _ _ _ _ _ [] _ _
        have h448 : Hid (nwR0 S 1 → (nwR T6 2 ↔ nwR1 S 1 2)) := fun q => nwR_1 (fun j => (hFT6.cx 950 rfl j).1) (fun j => (hFT6.cx 951 rfl j).1) (fun j => (hFT6.cx 910 rfl j).2) (rmR_FR hFT6 rfl rfl) (y424.o q).2.1 (y424.o q).2.2
        have m448 : Hid (¬ nwR T6 2 → NT3 T7 = ntF (NT3 T6) 3 (pR S 2)) := fun q => by have t := (m448_ q).1; rw [(hFT6.cx 908 rfl _).1, (hFT6.cx 950 rfl _).1] at t; exact t
        have y448 : Hid (nwR0 S 1 → nwR T6 2 → NT3 T7 = if Xi S 904 23 + 1 < 24 then NT3 T6 else ntF (NT3 T6) 9 (pR S 2)) := fun d w => by have x := (y424.o d).2.1; first | (exfalso; omega) | (have t := (y448_ w).1; rw [(hFT6.cx 908 rfl _).1, (hFT6.cx 950 rfl _).1] at t; exact t)
        have w448 : Hid (¬ nwR0 S 1 → nwR T6 2 → NT3 T7 = NT3 T6 ∨ NT3 T7 = ntF (NT3 T6) 9 (pR S 2)) := fun d w => by have x := (m424.o d).2; first | (exfalso; omega) | (have t := (y448_ w).1; rw [(hFT6.cx 908 rfl _).1, (hFT6.cx 950 rfl _).1] at t; rcases Classical.em (Xi S 904 23 + 0 < 24) with c | c; exact Or.inl (by rw [if_pos c] at t; exact t); exact Or.inr (by rw [if_neg c] at t; exact t))
        clear y448_ m448_
        refine y_goto rfl rfl ?_
        refine y_return rfl rfl ?_
        exact ⟨hHT7, hFT7, rfl⟩
      · refine y_iconst rfl ?_
        refine y_goto rfl rfl ?_
        refine y_iadd rfl ?_
        refine y_bipush rfl rfl ?_
        have w62 : Xi T6 904 15 = Xi S 904 15 := (show Xi T6 904 15 = Xi T5 904 15 from w49.x _ _ rfl).trans ( (show Xi T5 904 15 = Xi U4 904 15 from w42.x _ _ rfl).trans ( (show Xi U4 904 15 = Xi U3 904 15 from by rw [eU4]; exact Xi_ne (by omega)).trans ( (show Xi U3 904 15 = Xi U2 904 15 from by rw [eU3]; exact Xi_ne (by omega)).trans ( (show Xi U2 904 15 = Xi U1 904 15 from by rw [eU2]; exact Xi_ne (by omega)).trans ((show Xi U1 904 15 = Xi S 904 15 from by rw [eU1]; exact Xi_ne (by omega)))))))
        have w63 : Xi T6 904 23 = Xi S 904 23 := (show Xi T6 904 23 = Xi T5 904 23 from w49.x _ _ rfl).trans ( (show Xi T5 904 23 = Xi U4 904 23 from w42.x _ _ rfl).trans ( (show Xi U4 904 23 = Xi U3 904 23 from by rw [eU4]; exact Xi_ne (by omega)).trans ( (show Xi U3 904 23 = Xi U2 904 23 from by rw [eU3]; exact Xi_ne (by omega)).trans ( (show Xi U2 904 23 = Xi U1 904 23 from by rw [eU2]; exact Xi_ne (by omega)).trans ((show Xi U1 904 23 = Xi S 904 23 from by rw [eU1]; exact Xi_ne (by omega)))))))
        refine y_callV rfl rfl rfl (t_mo_mustBeNew__p hHT6 2 ((Xi S 904 23) + 1) 24 ⟨by omega, by omega⟩ ⟨by omega, by omega⟩ ⟨by omega, by omega⟩ (by first | assumption | exact (LSP_FR hFT6 rfl rfl (by assumption : LSP S))) (by first | assumption | omega) (by first | assumption | exact (RBD_FR hFT6 rfl (by assumption : RBD S))) (by first | assumption | omega) _) ?_
        rintro _ T8 ⟨hHT8, w66, rfl, y448_, m448_⟩
        have hFT8 : FR md_mo_asked__18f S T8 := FR.tr hFT6 w66 rfl
        show Pl _ _ _ _ _ _ [] _ _
        have h448 : Hid (nwR0 S 1 → (nwR T6 2 ↔ nwR1 S 1 2)) := fun q => nwR_1 (fun j => (hFT6.cx 950 rfl j).1) (fun j => (hFT6.cx 951 rfl j).1) (fun j => (hFT6.cx 910 rfl j).2) (rmR_FR hFT6 rfl rfl) (y424.o q).2.1 (y424.o q).2.2
        have m448 : Hid (¬ nwR T6 2 → NT3 T8 = ntF (NT3 T6) 3 (pR S 2)) := fun q => by have t := (m448_ q).1; rw [(hFT6.cx 908 rfl _).1, (hFT6.cx 950 rfl _).1] at t; exact t
        have y448 : Hid (nwR0 S 1 → nwR T6 2 → NT3 T8 = if Xi S 904 23 + 1 < 24 then NT3 T6 else ntF (NT3 T6) 9 (pR S 2)) := fun d w => by have x := (y424.o d).2.1; first | (exfalso; omega) | (have t := (y448_ w).1; rw [(hFT6.cx 908 rfl _).1, (hFT6.cx 950 rfl _).1] at t; exact t)
        have w448 : Hid (¬ nwR0 S 1 → nwR T6 2 → NT3 T8 = NT3 T6 ∨ NT3 T8 = ntF (NT3 T6) 9 (pR S 2)) := fun d w => by have x := (m424.o d).2; first | (exfalso; omega) | (have t := (y448_ w).1; rw [(hFT6.cx 908 rfl _).1, (hFT6.cx 950 rfl _).1] at t; rcases Classical.em (Xi S 904 23 + 0 < 24) with c | c; exact Or.inl (by rw [if_pos c] at t; exact t); exact Or.inr (by rw [if_neg c] at t; exact t))
        clear y448_ m448_
        refine y_goto rfl rfl ?_
        refine y_return rfl rfl ?_
        exact ⟨hHT8, hFT8, rfl⟩
    | 19, hii =>
      cases hii
      have w70 : (Xi S 904 70) = 19 := by simpa using w13
      exfalso; omega
    | 20, hii =>
      cases hii
      have w71 : (Xi S 904 70) = 20 := by simpa using w13
      exfalso; omega
    | n + 21, hii => exact absurd hii (by simp)
def md_mo_asked__19f : List rec := [(904, 905, 104, 105), (904, 905, 105, 106), (904, 905, 106, 107), (904, 905, 108, 109), (904, 905, 115, 116), (904, 905, 116, 117), (966, 967, 0, 100000)]
abbrev Q_mo_asked__19f (S : sS) (first : Int) : pst := fun r S1 => RI S1 ∧ FR md_mo_asked__19f S S1 ∧ (r = none)
set_option maxRecDepth 100000 in
theorem t_mo_asked__19f {S : sS} (hH : RI S) (first : Int) (hfirst : 0 ≤ first ∧ first ≤ 5001) (hLS : LSP S) (h15 : 0 ≤ Xi S 904 15) (hRB : RBD S) (hs : Xi S 904 70 = 19) (hp : pR S 0 < pR S 1 ∧ pR S 1 < pR S 2) (ha : 0 ≤ Xi S 904 41 ∧ Xi S 904 41 ≤ 6) (d : Nat) : Mp lay0 (d + 13) m_mo_asked [.ref 904, iv first] S (Q_mo_asked__19f S first) := by
  refine Mp_R rfl rfl (fun fu => ?_)
  have hF : FR md_mo_asked__19f S S := FR.rf
  have w1 : -2147483648 ≤ Xi S 904 104 ∧ Xi S 904 104 ≤ 2147483647 := Xi_rgI
  have w2 : -2147483648 ≤ Xi S 904 105 ∧ Xi S 904 105 ≤ 2147483647 := Xi_rgI
  have w3 : -2147483648 ≤ Xi S 904 106 ∧ Xi S 904 106 ≤ 2147483647 := Xi_rgI
  have w4 : -2147483648 ≤ Xi S 904 108 ∧ Xi S 904 108 ≤ 2147483647 := Xi_rgI
  have w5 : -2147483648 ≤ Xi S 904 15 ∧ Xi S 904 15 ≤ 2147483647 := Xi_rgI
  have w6 : -2147483648 ≤ Xi S 904 41 ∧ Xi S 904 41 ≤ 2147483647 := Xi_rgI
  have w7 : -2147483648 ≤ Xi S 904 70 ∧ Xi S 904 70 ≤ 2147483647 := Xi_rgI
  refine y_aload_n rfl rfl ?_
  refine y_iconst rfl ?_
  refine y_pfi rfl rfl rfl rfl ?_
  obtain ⟨U1, eU1⟩ : ∃ T : sS, T = uI S 904 106 (Int32.ofInt 0) := ⟨_, rfl⟩
  rw [← eU1]
  have hHU1 : RI U1 := by rw [eU1]; exact RI_w hH
  have hFU1 : FR md_mo_asked__19f S U1 := by rw [eU1]; exact FR.wI hF (mdf_i (r := (904, 905, 106, 107)) (List.mem_of_getElem? (i := 2) rfl) (inR_i (by omega) (by omega) (by omega) (by omega)))
  have w8 : Xi U1 904 106 = 0 := by rw [eU1]; exact Xi_same (by unfold rg; omega)
  refine y_aload_n rfl rfl ?_
  refine y_iconst rfl ?_
  refine y_pfi rfl rfl rfl rfl ?_
  obtain ⟨U2, eU2⟩ : ∃ T : sS, T = uI U1 904 108 (Int32.ofInt 0) := ⟨_, rfl⟩
  rw [← eU2]
  have hHU2 : RI U2 := by rw [eU2]; exact RI_w hHU1
  have hFU2 : FR md_mo_asked__19f S U2 := by rw [eU2]; exact FR.wI hFU1 (mdf_i (r := (904, 905, 108, 109)) (List.mem_of_getElem? (i := 3) rfl) (inR_i (by omega) (by omega) (by omega) (by omega)))
  have w9 : Xi U2 904 108 = 0 := by rw [eU2]; exact Xi_same (by unfold rg; omega)
  refine y_aload_n rfl rfl ?_
  refine y_iconst rfl ?_
  refine y_pfi rfl rfl rfl rfl ?_
  obtain ⟨U3, eU3⟩ : ∃ T : sS, T = uI U2 904 115 (Int32.ofInt (-1)) := ⟨_, rfl⟩
  rw [← eU3]
  have hHU3 : RI U3 := by rw [eU3]; exact RI_w hHU2
  have hFU3 : FR md_mo_asked__19f S U3 := by rw [eU3]; exact FR.wI hFU2 (mdf_i (r := (904, 905, 115, 116)) (List.mem_of_getElem? (i := 4) rfl) (inR_i (by omega) (by omega) (by omega) (by omega)))
  have w10 : Xi U3 904 115 = (-1) := by rw [eU3]; exact Xi_same (by unfold rg; omega)
  refine y_aload_n rfl rfl ?_
  refine y_iconst rfl ?_
  refine y_pfi rfl rfl rfl rfl ?_
  obtain ⟨U4, eU4⟩ : ∃ T : sS, T = uI U3 904 116 (Int32.ofInt (-1)) := ⟨_, rfl⟩
  rw [← eU4]
  have hHU4 : RI U4 := by rw [eU4]; exact RI_w hHU3
  have hFU4 : FR md_mo_asked__19f S U4 := by rw [eU4]; exact FR.wI hFU3 (mdf_i (r := (904, 905, 116, 117)) (List.mem_of_getElem? (i := 5) rfl) (inR_i (by omega) (by omega) (by omega) (by omega)))
  have w11 : Xi U4 904 116 = (-1) := by rw [eU4]; exact Xi_same (by unfold rg; omega)
  refine y_aload_n rfl rfl ?_
  refine y_gfi rfl rfl rfl rfl rfl ?_
  have w12 : (Xi U4 904 70) = (Xi S 904 70) := (show Xi U4 904 70 = Xi U3 904 70 from by rw [eU4]; exact Xi_ne (by omega)).trans ( (show Xi U3 904 70 = Xi U2 904 70 from by rw [eU3]; exact Xi_ne (by omega)).trans ( (show Xi U2 904 70 = Xi U1 904 70 from by rw [eU2]; exact Xi_ne (by omega)).trans ((show Xi U1 904 70 = Xi S 904 70 from by rw [eU1]; exact Xi_ne (by omega)))))
  rw [w12]
  refine y_tsw rfl rfl rfl rfl (by unfold rg; omega) (fun w13 => ?_) (fun ii tt hii w13 => ?_)
  · exfalso; omega
  · match ii, hii with
    | 0, hii =>
      cases hii
      have w14 : (Xi S 904 70) = 0 := by simpa using w13
      exfalso; omega
    | 1, hii =>
      cases hii
      have w15 : (Xi S 904 70) = 1 := by simpa using w13
      exfalso; omega
    | 2, hii =>
      cases hii
      have w16 : (Xi S 904 70) = 2 := by simpa using w13
      exfalso; omega
    | 3, hii =>
      cases hii
      have w17 : (Xi S 904 70) = 3 := by simpa using w13
      exfalso; omega
    | 4, hii =>
      cases hii
      have w18 : (Xi S 904 70) = 4 := by simpa using w13
      exfalso; omega
    | 5, hii =>
      cases hii
      have w19 : (Xi S 904 70) = 5 := by simpa using w13
      exfalso; omega
    | 6, hii =>
      cases hii
      have w20 : (Xi S 904 70) = 6 := by simpa using w13
      exfalso; omega
    | 7, hii =>
      cases hii
      have w21 : (Xi S 904 70) = 7 := by simpa using w13
      exfalso; omega
    | 8, hii =>
      cases hii
      have w22 : (Xi S 904 70) = 8 := by simpa using w13
      exfalso; omega
    | 9, hii =>
      cases hii
      have w23 : (Xi S 904 70) = 9 := by simpa using w13
      exfalso; omega
    | 10, hii =>
      cases hii
      have w24 : (Xi S 904 70) = 10 := by simpa using w13
      exfalso; omega
    | 11, hii =>
      cases hii
      have w25 : (Xi S 904 70) = 11 := by simpa using w13
      exfalso; omega
    | 12, hii =>
      cases hii
      have w26 : (Xi S 904 70) = 12 := by simpa using w13
      exfalso; omega
    | 13, hii =>
      cases hii
      have w27 : (Xi S 904 70) = 13 := by simpa using w13
      exfalso; omega
    | 14, hii =>
      cases hii
      have w28 : (Xi S 904 70) = 14 := by simpa using w13
      exfalso; omega
    | 15, hii =>
      cases hii
      have w29 : (Xi S 904 70) = 15 := by simpa using w13
      exfalso; omega
    | 16, hii =>
      cases hii
      have w30 : (Xi S 904 70) = 16 := by simpa using w13
      exfalso; omega
    | 17, hii =>
      cases hii
      have w31 : (Xi S 904 70) = 17 := by simpa using w13
      exfalso; omega
    | 18, hii =>
      cases hii
      have w32 : (Xi S 904 70) = 18 := by simpa using w13
      exfalso; omega
    | 19, hii =>
      cases hii
      have w33 : (Xi S 904 70) = 19 := by simpa using w13
      refine y_aload_n rfl rfl ?_
      refine y_iconst rfl ?_
      refine y_aload_n rfl rfl ?_
      refine y_gfi rfl rfl rfl rfl rfl ?_
      have w34 : (Xi U4 904 41) = (Xi S 904 41) := (show Xi U4 904 41 = Xi U3 904 41 from by rw [eU4]; exact Xi_ne (by omega)).trans ( (show Xi U3 904 41 = Xi U2 904 41 from by rw [eU3]; exact Xi_ne (by omega)).trans ( (show Xi U2 904 41 = Xi U1 904 41 from by rw [eU2]; exact Xi_ne (by omega)).trans ((show Xi U1 904 41 = Xi S 904 41 from by rw [eU1]; exact Xi_ne (by omega)))))
      rw [w34]
      refine y_bipush rfl rfl ?_
      have w35 : Xi U4 904 104 = Xi S 904 104 := (show Xi U4 904 104 = Xi U3 904 104 from by rw [eU4]; exact Xi_ne (by omega)).trans ( (show Xi U3 904 104 = Xi U2 904 104 from by rw [eU3]; exact Xi_ne (by omega)).trans ( (show Xi U2 904 104 = Xi U1 904 104 from by rw [eU2]; exact Xi_ne (by omega)).trans ((show Xi U1 904 104 = Xi S 904 104 from by rw [eU1]; exact Xi_ne (by omega)))))
      have w36 : Xi U4 904 105 = Xi S 904 105 := (show Xi U4 904 105 = Xi U3 904 105 from by rw [eU4]; exact Xi_ne (by omega)).trans ( (show Xi U3 904 105 = Xi U2 904 105 from by rw [eU3]; exact Xi_ne (by omega)).trans ( (show Xi U2 904 105 = Xi U1 904 105 from by rw [eU2]; exact Xi_ne (by omega)).trans ((show Xi U1 904 105 = Xi S 904 105 from by rw [eU1]; exact Xi_ne (by omega)))))
      have w37 : Xi U4 904 106 = Xi U1 904 106 := (show Xi U4 904 106 = Xi U3 904 106 from by rw [eU4]; exact Xi_ne (by omega)).trans ( (show Xi U3 904 106 = Xi U2 904 106 from by rw [eU3]; exact Xi_ne (by omega)).trans ((show Xi U2 904 106 = Xi U1 904 106 from by rw [eU2]; exact Xi_ne (by omega))))
      have w38 : Xi U4 904 108 = Xi U2 904 108 := (show Xi U4 904 108 = Xi U3 904 108 from by rw [eU4]; exact Xi_ne (by omega)).trans ((show Xi U3 904 108 = Xi U2 904 108 from by rw [eU3]; exact Xi_ne (by omega)))
      have w39 : Xi U4 904 15 = Xi S 904 15 := (show Xi U4 904 15 = Xi U3 904 15 from by rw [eU4]; exact Xi_ne (by omega)).trans ( (show Xi U3 904 15 = Xi U2 904 15 from by rw [eU3]; exact Xi_ne (by omega)).trans ( (show Xi U2 904 15 = Xi U1 904 15 from by rw [eU2]; exact Xi_ne (by omega)).trans ((show Xi U1 904 15 = Xi S 904 15 from by rw [eU1]; exact Xi_ne (by omega)))))
      have w40 : Xi U4 904 41 = Xi S 904 41 := (show Xi U4 904 41 = Xi U3 904 41 from by rw [eU4]; exact Xi_ne (by omega)).trans ( (show Xi U3 904 41 = Xi U2 904 41 from by rw [eU3]; exact Xi_ne (by omega)).trans ( (show Xi U2 904 41 = Xi U1 904 41 from by rw [eU2]; exact Xi_ne (by omega)).trans ((show Xi U1 904 41 = Xi S 904 41 from by rw [eU1]; exact Xi_ne (by omega)))))
      have w41 : Xi U4 904 70 = Xi S 904 70 := (show Xi U4 904 70 = Xi U3 904 70 from by rw [eU4]; exact Xi_ne (by omega)).trans ( (show Xi U3 904 70 = Xi U2 904 70 from by rw [eU3]; exact Xi_ne (by omega)).trans ( (show Xi U2 904 70 = Xi U1 904 70 from by rw [eU2]; exact Xi_ne (by omega)).trans ((show Xi U1 904 70 = Xi S 904 70 from by rw [eU1]; exact Xi_ne (by omega)))))
      refine y_callV rfl rfl rfl (t_mo_mustBeNew__p hHU4 0 (Xi S 904 41) 6 ⟨by omega, by omega⟩ ⟨by omega, by omega⟩ ⟨by omega, by omega⟩ (by first | assumption | exact (LSP_FR hFU4 rfl rfl (by assumption : LSP S))) (by first | assumption | omega) (by first | assumption | exact (RBD_FR hFU4 rfl (by assumption : RBD S))) (by first | assumption | omega) _) ?_
      rintro _ T5 ⟨hHT5, w43, rfl, y462_, m462_⟩
      have hFT5 : FR md_mo_asked__19f S T5 := FR.tr hFU4 w43 rfl
      show Pl _ _ _ _ _ _ [] _ _
      have z462 : (NT3 U4).1 = 0 := by show Xi U4 904 106 = 0; omega
      have q462 : Hid (nwR U4 0 ↔ nwR0 S 0) := nwR_0 (fun j => (hFU4.cx 951 rfl j).1) (rmR_FR hFU4 rfl rfl) (by omega)
      have x462 : Xi U4 904 108 = 0 := by omega
      have y462 : Hid (nwR0 S 0 → NT3 T5 = (if Xi S 904 41 < 6 then NT3 U4 else ntF (NT3 U4) 9 (pR S 0))) := fun q => by have t := (y462_ (q462.o.2 q)).1; rw [(hFU4.cx 908 rfl _).1, (hFU4.cx 950 rfl _).1] at t; exact t
      have m462 : Hid (¬ nwR0 S 0 → NT3 T5 = ntF (NT3 U4) 3 (pR S 0)) := fun q => by have t := (m462_ (fun w => q (q462.o.1 w))).1; rw [(hFU4.cx 908 rfl _).1, (hFU4.cx 950 rfl _).1] at t; exact t
      clear y462_ m462_
      refine y_aload_n rfl rfl ?_
      refine y_aload_n rfl rfl ?_
      refine y_iconst rfl ?_
      have w44 : Xi T5 904 15 = Xi S 904 15 := (show Xi T5 904 15 = Xi U4 904 15 from w43.x _ _ rfl).trans ( (show Xi U4 904 15 = Xi U3 904 15 from by rw [eU4]; exact Xi_ne (by omega)).trans ( (show Xi U3 904 15 = Xi U2 904 15 from by rw [eU3]; exact Xi_ne (by omega)).trans ( (show Xi U2 904 15 = Xi U1 904 15 from by rw [eU2]; exact Xi_ne (by omega)).trans ((show Xi U1 904 15 = Xi S 904 15 from by rw [eU1]; exact Xi_ne (by omega))))))
      have w45 : Xi T5 904 41 = Xi S 904 41 := (show Xi T5 904 41 = Xi U4 904 41 from w43.x _ _ rfl).trans ( (show Xi U4 904 41 = Xi U3 904 41 from by rw [eU4]; exact Xi_ne (by omega)).trans ( (show Xi U3 904 41 = Xi U2 904 41 from by rw [eU3]; exact Xi_ne (by omega)).trans ( (show Xi U2 904 41 = Xi U1 904 41 from by rw [eU2]; exact Xi_ne (by omega)).trans ((show Xi U1 904 41 = Xi S 904 41 from by rw [eU1]; exact Xi_ne (by omega))))))
      have w46 : Xi T5 904 70 = Xi S 904 70 := (show Xi T5 904 70 = Xi U4 904 70 from w43.x _ _ rfl).trans ( (show Xi U4 904 70 = Xi U3 904 70 from by rw [eU4]; exact Xi_ne (by omega)).trans ( (show Xi U3 904 70 = Xi U2 904 70 from by rw [eU3]; exact Xi_ne (by omega)).trans ( (show Xi U2 904 70 = Xi U1 904 70 from by rw [eU2]; exact Xi_ne (by omega)).trans ((show Xi U1 904 70 = Xi S 904 70 from by rw [eU1]; exact Xi_ne (by omega))))))
      refine y_callV rfl rfl rfl (t_mo_kindOrPlural__p hHT5 1 ⟨by omega, by omega⟩ (by first | assumption | exact (LSP_FR hFT5 rfl rfl (by assumption : LSP S))) (by first | assumption | omega) (by first | assumption | exact (RBD_FR hFT5 rfl (by assumption : RBD S))) _) ?_
      rintro _ _ ⟨rfl, z47, rfl, w47, f468⟩
      show Pl _ _ _ _ _ _ [iv z47, .ref 904] _ _
      have K468 : z47 = r2R S 1 0 1 := by have t := f468; rw [r2R_FR hFT5 rfl rfl] at t; exact t
      clear f468
      refine y_iconst rfl ?_
      refine y_icmp_eq rfl rfl (by unfold rg; omega) (by unfold rg; omega) (fun w48 => ?_) (fun w49 => ?_)
      · refine y_iconst rfl ?_
        refine y_iconst rfl ?_
        refine y_aload_n rfl rfl ?_
        refine y_gfr rfl rfl rfl rfl rfl (hHT5.r 904 67 950 rfl) ?_
        refine y_iconst rfl ?_
        refine y_ialoadP (n := 2600) rfl rfl (by unfold rg; omega) (fun w50 w51 => ?_)
        have w52 : -2147483648 ≤ (Xi T5 950 ((1 : Int).toNat)) ∧ (Xi T5 950 ((1 : Int).toNat)) ≤ 2147483647 := Xi_rgI
        have w53 : (Xi T5 950 ((1 : Int).toNat)) = Xi T5 950 1 := rfl
        refine y_callV rfl rfl rfl (t_mo_need__p hHT5 0 4 (Xi T5 950 ((1 : Int).toNat)) ⟨by omega, by omega⟩ ⟨by omega, by omega⟩ ⟨by omega, by omega⟩ _) ?_
        rintro _ T6 ⟨hHT6, w58, rfl, nt487_⟩
        have hFT6 : FR md_mo_asked__19f S T6 := FR.tr hFT5 w58 rfl
        show Pl _ _ _ _ _ _ [] _ _
        have n487 : Hid (NT3 T6 = if r2R S 1 0 1 = -1 then ntF (NT3 T5) 4 (pR S 1) else NT3 T5) := by have t := nt487_; rw [(hFT5.cx 908 rfl _).1, (hFT5.cx 950 rfl _).1] at t; first | (rw [if_pos (show (0 : Int) = 0 from rfl)] at t; rw [if_pos (by omega)]; exact t) | (rw [if_neg (show ¬ (1 : Int) = 0 by decide)] at t; rw [if_neg (by omega)]; exact t)
        clear nt487_
        refine y_aload_n rfl rfl ?_
        refine y_aload_n rfl rfl ?_
        refine y_iconst rfl ?_
        have w59 : Xi T6 904 108 = Xi T5 904 108 := (show Xi T6 904 108 = Xi T5 904 108 from w58.x _ _ rfl)
        have w60 : Xi T6 904 15 = Xi S 904 15 := (show Xi T6 904 15 = Xi T5 904 15 from w58.x _ _ rfl).trans ( (show Xi T5 904 15 = Xi U4 904 15 from w43.x _ _ rfl).trans ( (show Xi U4 904 15 = Xi U3 904 15 from by rw [eU4]; exact Xi_ne (by omega)).trans ( (show Xi U3 904 15 = Xi U2 904 15 from by rw [eU3]; exact Xi_ne (by omega)).trans ( (show Xi U2 904 15 = Xi U1 904 15 from by rw [eU2]; exact Xi_ne (by omega)).trans ((show Xi U1 904 15 = Xi S 904 15 from by rw [eU1]; exact Xi_ne (by omega)))))))
        have w61 : Xi T6 904 41 = Xi S 904 41 := (show Xi T6 904 41 = Xi T5 904 41 from w58.x _ _ rfl).trans ( (show Xi T5 904 41 = Xi U4 904 41 from w43.x _ _ rfl).trans ( (show Xi U4 904 41 = Xi U3 904 41 from by rw [eU4]; exact Xi_ne (by omega)).trans ( (show Xi U3 904 41 = Xi U2 904 41 from by rw [eU3]; exact Xi_ne (by omega)).trans ( (show Xi U2 904 41 = Xi U1 904 41 from by rw [eU2]; exact Xi_ne (by omega)).trans ((show Xi U1 904 41 = Xi S 904 41 from by rw [eU1]; exact Xi_ne (by omega)))))))
        have w62 : Xi T6 904 70 = Xi S 904 70 := (show Xi T6 904 70 = Xi T5 904 70 from w58.x _ _ rfl).trans ( (show Xi T5 904 70 = Xi U4 904 70 from w43.x _ _ rfl).trans ( (show Xi U4 904 70 = Xi U3 904 70 from by rw [eU4]; exact Xi_ne (by omega)).trans ( (show Xi U3 904 70 = Xi U2 904 70 from by rw [eU3]; exact Xi_ne (by omega)).trans ( (show Xi U2 904 70 = Xi U1 904 70 from by rw [eU2]; exact Xi_ne (by omega)).trans ((show Xi U1 904 70 = Xi S 904 70 from by rw [eU1]; exact Xi_ne (by omega)))))))
        refine y_callV rfl rfl rfl (t_mo_kindOrPlural__p hHT6 2 ⟨by omega, by omega⟩ (by first | assumption | exact (LSP_FR hFT6 rfl rfl (by assumption : LSP S))) (by first | assumption | omega) (by first | assumption | exact (RBD_FR hFT6 rfl (by assumption : RBD S))) _) ?_
        rintro _ _ ⟨rfl, z63, rfl, w63, f493⟩
        show Pl _ _ _ _ _ _ [iv z63, .ref 904] _ _
        have K493 : z63 = r2R S 2 0 1 := by have t := f493; rw [r2R_FR hFT6 rfl rfl] at t; exact t
        clear f493
        refine y_iconst rfl ?_
        refine y_icmp_eq rfl rfl (by unfold rg; omega) (by unfold rg; omega) (fun w64 => ?_) (fun w65 => ?_)
        · refine y_iconst rfl ?_
          refine y_iconst rfl ?_
          refine y_aload_n rfl rfl ?_
          refine y_gfr rfl rfl rfl rfl rfl (hHT6.r 904 67 950 rfl) ?_
          refine y_iconst rfl ?_
          refine y_ialoadP (n := 2600) rfl rfl (by unfold rg; omega) (fun w66 w67 => ?_)
          have w68 : -2147483648 ≤ (Xi T6 950 ((2 : Int).toNat)) ∧ (Xi T6 950 ((2 : Int).toNat)) ≤ 2147483647 := Xi_rgI
          have w69 : (Xi T6 950 ((2 : Int).toNat)) = Xi T6 950 2 := rfl
          refine y_callV rfl rfl rfl (t_mo_need__p hHT6 0 4 (Xi T6 950 ((2 : Int).toNat)) ⟨by omega, by omega⟩ ⟨by omega, by omega⟩ ⟨by omega, by omega⟩ _) ?_
          rintro _ T7 ⟨hHT7, w75, rfl, nt512_⟩
          have hFT7 : FR md_mo_asked__19f S T7 := FR.tr hFT6 w75 rfl
          show Pl _ _ _ _ _ _ [] _ _
          have n512 : Hid (NT3 T7 = if r2R S 2 0 1 = -1 then ntF (NT3 T6) 4 (pR S 2) else NT3 T6) := by have t := nt512_; rw [(hFT6.cx 908 rfl _).1, (hFT6.cx 950 rfl _).1] at t; first | (rw [if_pos (show (0 : Int) = 0 from rfl)] at t; rw [if_pos (by omega)]; exact t) | (rw [if_neg (show ¬ (1 : Int) = 0 by decide)] at t; rw [if_neg (by omega)]; exact t)
          clear nt512_
          refine y_goto rfl rfl ?_
          refine y_return rfl rfl ?_
          exact ⟨hHT7, hFT7, rfl⟩
        · refine y_iconst rfl ?_
          refine y_goto rfl rfl ?_
          refine y_iconst rfl ?_
          refine y_aload_n rfl rfl ?_
          refine y_gfr rfl rfl rfl rfl rfl (hHT6.r 904 67 950 rfl) ?_
          refine y_iconst rfl ?_
          refine y_ialoadP (n := 2600) rfl rfl (by unfold rg; omega) (fun w80 w81 => ?_)
          have w82 : -2147483648 ≤ (Xi T6 950 ((2 : Int).toNat)) ∧ (Xi T6 950 ((2 : Int).toNat)) ≤ 2147483647 := Xi_rgI
          have w83 : (Xi T6 950 ((2 : Int).toNat)) = Xi T6 950 2 := rfl
          refine y_callV rfl rfl rfl (t_mo_need__p hHT6 1 4 (Xi T6 950 ((2 : Int).toNat)) ⟨by omega, by omega⟩ ⟨by omega, by omega⟩ ⟨by omega, by omega⟩ _) ?_
          rintro _ T8 ⟨hHT8, w89, rfl, nt512_⟩
          have hFT8 : FR md_mo_asked__19f S T8 := FR.tr hFT6 w89 rfl
          show Pl _ _ _ _ _ _ [] _ _
          have n512 : Hid (NT3 T8 = if r2R S 2 0 1 = -1 then ntF (NT3 T6) 4 (pR S 2) else NT3 T6) := by have t := nt512_; rw [(hFT6.cx 908 rfl _).1, (hFT6.cx 950 rfl _).1] at t; first | (rw [if_pos (show (0 : Int) = 0 from rfl)] at t; rw [if_pos (by omega)]; exact t) | (rw [if_neg (show ¬ (1 : Int) = 0 by decide)] at t; rw [if_neg (by omega)]; exact t)
          clear nt512_
          refine y_goto rfl rfl ?_
          refine y_return rfl rfl ?_
          exact ⟨hHT8, hFT8, rfl⟩
      · refine y_iconst rfl ?_
        refine y_goto rfl rfl ?_
        refine y_iconst rfl ?_
        refine y_aload_n rfl rfl ?_
        refine y_gfr rfl rfl rfl rfl rfl (hHT5.r 904 67 950 rfl) ?_
        refine y_iconst rfl ?_
        refine y_ialoadP (n := 2600) rfl rfl (by unfold rg; omega) (fun w94 w95 => ?_)
        have w96 : -2147483648 ≤ (Xi T5 950 ((1 : Int).toNat)) ∧ (Xi T5 950 ((1 : Int).toNat)) ≤ 2147483647 := Xi_rgI
        have w97 : (Xi T5 950 ((1 : Int).toNat)) = Xi T5 950 1 := rfl
        refine y_callV rfl rfl rfl (t_mo_need__p hHT5 1 4 (Xi T5 950 ((1 : Int).toNat)) ⟨by omega, by omega⟩ ⟨by omega, by omega⟩ ⟨by omega, by omega⟩ _) ?_
        rintro _ T9 ⟨hHT9, w102, rfl, nt487_⟩
        have hFT9 : FR md_mo_asked__19f S T9 := FR.tr hFT5 w102 rfl
        show Pl _ _ _ _ _ _ [] _ _
        have n487 : Hid (NT3 T9 = if r2R S 1 0 1 = -1 then ntF (NT3 T5) 4 (pR S 1) else NT3 T5) := by have t := nt487_; rw [(hFT5.cx 908 rfl _).1, (hFT5.cx 950 rfl _).1] at t; first | (rw [if_pos (show (0 : Int) = 0 from rfl)] at t; rw [if_pos (by omega)]; exact t) | (rw [if_neg (show ¬ (1 : Int) = 0 by decide)] at t; rw [if_neg (by omega)]; exact t)
        clear nt487_
        refine y_aload_n rfl rfl ?_
        refine y_aload_n rfl rfl ?_
        refine y_iconst rfl ?_
        have w103 : Xi T9 904 108 = Xi T5 904 108 := (show Xi T9 904 108 = Xi T5 904 108 from w102.x _ _ rfl)
        have w104 : Xi T9 904 15 = Xi S 904 15 := (show Xi T9 904 15 = Xi T5 904 15 from w102.x _ _ rfl).trans ( (show Xi T5 904 15 = Xi U4 904 15 from w43.x _ _ rfl).trans ( (show Xi U4 904 15 = Xi U3 904 15 from by rw [eU4]; exact Xi_ne (by omega)).trans ( (show Xi U3 904 15 = Xi U2 904 15 from by rw [eU3]; exact Xi_ne (by omega)).trans ( (show Xi U2 904 15 = Xi U1 904 15 from by rw [eU2]; exact Xi_ne (by omega)).trans ((show Xi U1 904 15 = Xi S 904 15 from by rw [eU1]; exact Xi_ne (by omega)))))))
        have w105 : Xi T9 904 41 = Xi S 904 41 := (show Xi T9 904 41 = Xi T5 904 41 from w102.x _ _ rfl).trans ( (show Xi T5 904 41 = Xi U4 904 41 from w43.x _ _ rfl).trans ( (show Xi U4 904 41 = Xi U3 904 41 from by rw [eU4]; exact Xi_ne (by omega)).trans ( (show Xi U3 904 41 = Xi U2 904 41 from by rw [eU3]; exact Xi_ne (by omega)).trans ( (show Xi U2 904 41 = Xi U1 904 41 from by rw [eU2]; exact Xi_ne (by omega)).trans ((show Xi U1 904 41 = Xi S 904 41 from by rw [eU1]; exact Xi_ne (by omega)))))))
        have w106 : Xi T9 904 70 = Xi S 904 70 := (show Xi T9 904 70 = Xi T5 904 70 from w102.x _ _ rfl).trans ( (show Xi T5 904 70 = Xi U4 904 70 from w43.x _ _ rfl).trans ( (show Xi U4 904 70 = Xi U3 904 70 from by rw [eU4]; exact Xi_ne (by omega)).trans ( (show Xi U3 904 70 = Xi U2 904 70 from by rw [eU3]; exact Xi_ne (by omega)).trans ( (show Xi U2 904 70 = Xi U1 904 70 from by rw [eU2]; exact Xi_ne (by omega)).trans ((show Xi U1 904 70 = Xi S 904 70 from by rw [eU1]; exact Xi_ne (by omega)))))))
        refine y_callV rfl rfl rfl (t_mo_kindOrPlural__p hHT9 2 ⟨by omega, by omega⟩ (by first | assumption | exact (LSP_FR hFT9 rfl rfl (by assumption : LSP S))) (by first | assumption | omega) (by first | assumption | exact (RBD_FR hFT9 rfl (by assumption : RBD S))) _) ?_
        rintro _ _ ⟨rfl, z107, rfl, w107, f493⟩
        show Pl _ _ _ _ _ _ [iv z107, .ref 904] _ _
        have K493 : z107 = r2R S 2 0 1 := by have t := f493; rw [r2R_FR hFT9 rfl rfl] at t; exact t
        clear f493
        refine y_iconst rfl ?_
        refine y_icmp_eq rfl rfl (by unfold rg; omega) (by unfold rg; omega) (fun w108 => ?_) (fun w109 => ?_)
        · refine y_iconst rfl ?_
          refine y_iconst rfl ?_
          refine y_aload_n rfl rfl ?_
          refine y_gfr rfl rfl rfl rfl rfl (hHT9.r 904 67 950 rfl) ?_
          refine y_iconst rfl ?_
          refine y_ialoadP (n := 2600) rfl rfl (by unfold rg; omega) (fun w110 w111 => ?_)
          have w112 : -2147483648 ≤ (Xi T9 950 ((2 : Int).toNat)) ∧ (Xi T9 950 ((2 : Int).toNat)) ≤ 2147483647 := Xi_rgI
          have w113 : (Xi T9 950 ((2 : Int).toNat)) = Xi T9 950 2 := rfl
          refine y_callV rfl rfl rfl (t_mo_need__p hHT9 0 4 (Xi T9 950 ((2 : Int).toNat)) ⟨by omega, by omega⟩ ⟨by omega, by omega⟩ ⟨by omega, by omega⟩ _) ?_
          rintro _ T10 ⟨hHT10, w119, rfl, nt512_⟩
          have hFT10 : FR md_mo_asked__19f S T10 := FR.tr hFT9 w119 rfl
          show Pl _ _ _ _ _ _ [] _ _
          have n512 : Hid (NT3 T10 = if r2R S 2 0 1 = -1 then ntF (NT3 T9) 4 (pR S 2) else NT3 T9) := by have t := nt512_; rw [(hFT9.cx 908 rfl _).1, (hFT9.cx 950 rfl _).1] at t; first | (rw [if_pos (show (0 : Int) = 0 from rfl)] at t; rw [if_pos (by omega)]; exact t) | (rw [if_neg (show ¬ (1 : Int) = 0 by decide)] at t; rw [if_neg (by omega)]; exact t)
          clear nt512_
          refine y_goto rfl rfl ?_
          refine y_return rfl rfl ?_
          exact ⟨hHT10, hFT10, rfl⟩
        · refine y_iconst rfl ?_
          refine y_goto rfl rfl ?_
          refine y_iconst rfl ?_
          refine y_aload_n rfl rfl ?_
          refine y_gfr rfl rfl rfl rfl rfl (hHT9.r 904 67 950 rfl) ?_
          refine y_iconst rfl ?_
          refine y_ialoadP (n := 2600) rfl rfl (by unfold rg; omega) (fun w124 w125 => ?_)
          have w126 : -2147483648 ≤ (Xi T9 950 ((2 : Int).toNat)) ∧ (Xi T9 950 ((2 : Int).toNat)) ≤ 2147483647 := Xi_rgI
          have w127 : (Xi T9 950 ((2 : Int).toNat)) = Xi T9 950 2 := rfl
          refine y_callV rfl rfl rfl (t_mo_need__p hHT9 1 4 (Xi T9 950 ((2 : Int).toNat)) ⟨by omega, by omega⟩ ⟨by omega, by omega⟩ ⟨by omega, by omega⟩ _) ?_
          rintro _ T11 ⟨hHT11, w133, rfl, nt512_⟩
          have hFT11 : FR md_mo_asked__19f S T11 := FR.tr hFT9 w133 rfl
          show Pl _ _ _ _ _ _ [] _ _
          have n512 : Hid (NT3 T11 = if r2R S 2 0 1 = -1 then ntF (NT3 T9) 4 (pR S 2) else NT3 T9) := by have t := nt512_; rw [(hFT9.cx 908 rfl _).1, (hFT9.cx 950 rfl _).1] at t; first | (rw [if_pos (show (0 : Int) = 0 from rfl)] at t; rw [if_pos (by omega)]; exact t) | (rw [if_neg (show ¬ (1 : Int) = 0 by decide)] at t; rw [if_neg (by omega)]; exact t)
          clear nt512_
          refine y_goto rfl rfl ?_
          refine y_return rfl rfl ?_
          exact ⟨hHT11, hFT11, rfl⟩
    | 20, hii =>
      cases hii
      have w138 : (Xi S 904 70) = 20 := by simpa using w13
      exfalso; omega
    | n + 21, hii => exact absurd hii (by simp)
def md_mo_asked__20f : List rec := [(904, 905, 104, 105), (904, 905, 105, 106), (904, 905, 106, 107), (904, 905, 108, 109), (904, 905, 115, 116), (904, 905, 116, 117), (904, 905, 144, 145), (904, 905, 146, 147), (904, 905, 147, 148), (988, 989, 0, 100000), (989, 990, 0, 100000), (990, 991, 0, 100000)]
abbrev Q_mo_asked__20f (S : sS) (dd : Nat) (first : Int) : pst := fun r S1 => RI S1 ∧ FR md_mo_asked__20f S S1 ∧ (r = none)
set_option maxRecDepth 100000 in
theorem t_mo_asked__20f {S : sS} (hH : RI S) (dd : Nat) (first : Int) (hfirst : 0 ≤ first ∧ first ≤ 5001) (hLS : LSP S) (h15 : 0 ≤ Xi S 904 15) (hB : ABV S) (hko : Hid (∀ j : Nat, -1 ≤ Xi S 918 j ∧ Xi S 918 j ≤ 15)) (hd : first ≤ (dd : Int) ∧ (dd : Int) ≤ 5001) (he : Xi S 907 dd = 46) (hu : Hid (∀ j : Nat, first ≤ (j : Int) → j < dd → Xi S 907 j ≠ 46)) (hs : Xi S 904 70 = 20) (d : Nat) : Mp lay0 (d + 13) m_mo_asked [.ref 904, iv first] S (Q_mo_asked__20f S dd first) := by
  refine Mp_R rfl rfl (fun fu => ?_)
  have hF : FR md_mo_asked__20f S S := FR.rf
  have w1 : -2147483648 ≤ Xi S 904 104 ∧ Xi S 904 104 ≤ 2147483647 := Xi_rgI
  have w2 : -2147483648 ≤ Xi S 904 105 ∧ Xi S 904 105 ≤ 2147483647 := Xi_rgI
  have w3 : -2147483648 ≤ Xi S 904 106 ∧ Xi S 904 106 ≤ 2147483647 := Xi_rgI
  have w4 : -2147483648 ≤ Xi S 904 108 ∧ Xi S 904 108 ≤ 2147483647 := Xi_rgI
  have w5 : -2147483648 ≤ Xi S 904 15 ∧ Xi S 904 15 ≤ 2147483647 := Xi_rgI
  have w6 : -2147483648 ≤ Xi S 904 70 ∧ Xi S 904 70 ≤ 2147483647 := Xi_rgI
  refine y_aload_n rfl rfl ?_
  refine y_iconst rfl ?_
  refine y_pfi rfl rfl rfl rfl ?_
  obtain ⟨U1, eU1⟩ : ∃ T : sS, T = uI S 904 106 (Int32.ofInt 0) := ⟨_, rfl⟩
  rw [← eU1]
  have hHU1 : RI U1 := by rw [eU1]; exact RI_w hH
  have hFU1 : FR md_mo_asked__20f S U1 := by rw [eU1]; exact FR.wI hF (mdf_i (r := (904, 905, 106, 107)) (List.mem_of_getElem? (i := 2) rfl) (inR_i (by omega) (by omega) (by omega) (by omega)))
  have w7 : Xi U1 904 106 = 0 := by rw [eU1]; exact Xi_same (by unfold rg; omega)
  have FA2 : FR lA S U1 := by rw [eU1]; exact FR.wI FR.rf (mdf_i (r := (904, 905, 106, 107)) (List.mem_of_getElem? (i := 0) rfl) (inR_i (by omega) (by omega) (by omega) (by omega)))
  refine y_aload_n rfl rfl ?_
  refine y_iconst rfl ?_
  refine y_pfi rfl rfl rfl rfl ?_
  obtain ⟨U2, eU2⟩ : ∃ T : sS, T = uI U1 904 108 (Int32.ofInt 0) := ⟨_, rfl⟩
  rw [← eU2]
  have hHU2 : RI U2 := by rw [eU2]; exact RI_w hHU1
  have hFU2 : FR md_mo_asked__20f S U2 := by rw [eU2]; exact FR.wI hFU1 (mdf_i (r := (904, 905, 108, 109)) (List.mem_of_getElem? (i := 3) rfl) (inR_i (by omega) (by omega) (by omega) (by omega)))
  have w8 : Xi U2 904 108 = 0 := by rw [eU2]; exact Xi_same (by unfold rg; omega)
  have FA7 : FR lA S U2 := by rw [eU2]; exact FR.wI FA2 (mdf_i (r := (904, 905, 108, 109)) (List.mem_of_getElem? (i := 1) rfl) (inR_i (by omega) (by omega) (by omega) (by omega)))
  refine y_aload_n rfl rfl ?_
  refine y_iconst rfl ?_
  refine y_pfi rfl rfl rfl rfl ?_
  obtain ⟨U3, eU3⟩ : ∃ T : sS, T = uI U2 904 115 (Int32.ofInt (-1)) := ⟨_, rfl⟩
  rw [← eU3]
  have hHU3 : RI U3 := by rw [eU3]; exact RI_w hHU2
  have hFU3 : FR md_mo_asked__20f S U3 := by rw [eU3]; exact FR.wI hFU2 (mdf_i (r := (904, 905, 115, 116)) (List.mem_of_getElem? (i := 4) rfl) (inR_i (by omega) (by omega) (by omega) (by omega)))
  have w9 : Xi U3 904 115 = (-1) := by rw [eU3]; exact Xi_same (by unfold rg; omega)
  have FA12 : FR lA S U3 := by rw [eU3]; exact FR.wI FA7 (mdf_i (r := (904, 905, 115, 116)) (List.mem_of_getElem? (i := 2) rfl) (inR_i (by omega) (by omega) (by omega) (by omega)))
  refine y_aload_n rfl rfl ?_
  refine y_iconst rfl ?_
  refine y_pfi rfl rfl rfl rfl ?_
  obtain ⟨U4, eU4⟩ : ∃ T : sS, T = uI U3 904 116 (Int32.ofInt (-1)) := ⟨_, rfl⟩
  rw [← eU4]
  have hHU4 : RI U4 := by rw [eU4]; exact RI_w hHU3
  have hFU4 : FR md_mo_asked__20f S U4 := by rw [eU4]; exact FR.wI hFU3 (mdf_i (r := (904, 905, 116, 117)) (List.mem_of_getElem? (i := 5) rfl) (inR_i (by omega) (by omega) (by omega) (by omega)))
  have w10 : Xi U4 904 116 = (-1) := by rw [eU4]; exact Xi_same (by unfold rg; omega)
  have FA17 : FR lA S U4 := by rw [eU4]; exact FR.wI FA12 (mdf_i (r := (904, 905, 116, 117)) (List.mem_of_getElem? (i := 3) rfl) (inR_i (by omega) (by omega) (by omega) (by omega)))
  have m17 : SMR S U4 := SMR_FR FA17 rfl rfl
  refine y_aload_n rfl rfl ?_
  refine y_gfi rfl rfl rfl rfl rfl ?_
  have w11 : (Xi U4 904 70) = (Xi S 904 70) := (show Xi U4 904 70 = Xi U3 904 70 from by rw [eU4]; exact Xi_ne (by omega)).trans ( (show Xi U3 904 70 = Xi U2 904 70 from by rw [eU3]; exact Xi_ne (by omega)).trans ( (show Xi U2 904 70 = Xi U1 904 70 from by rw [eU2]; exact Xi_ne (by omega)).trans ((show Xi U1 904 70 = Xi S 904 70 from by rw [eU1]; exact Xi_ne (by omega)))))
  rw [w11]
  refine y_tsw rfl rfl rfl rfl (by unfold rg; omega) (fun w12 => ?_) (fun ii tt hii w12 => ?_)
  · exfalso; omega
  · match ii, hii with
    | 0, hii =>
      cases hii
      have w13 : (Xi S 904 70) = 0 := by simpa using w12
      exfalso; omega
    | 1, hii =>
      cases hii
      have w14 : (Xi S 904 70) = 1 := by simpa using w12
      exfalso; omega
    | 2, hii =>
      cases hii
      have w15 : (Xi S 904 70) = 2 := by simpa using w12
      exfalso; omega
    | 3, hii =>
      cases hii
      have w16 : (Xi S 904 70) = 3 := by simpa using w12
      exfalso; omega
    | 4, hii =>
      cases hii
      have w17 : (Xi S 904 70) = 4 := by simpa using w12
      exfalso; omega
    | 5, hii =>
      cases hii
      have w18 : (Xi S 904 70) = 5 := by simpa using w12
      exfalso; omega
    | 6, hii =>
      cases hii
      have w19 : (Xi S 904 70) = 6 := by simpa using w12
      exfalso; omega
    | 7, hii =>
      cases hii
      have w20 : (Xi S 904 70) = 7 := by simpa using w12
      exfalso; omega
    | 8, hii =>
      cases hii
      have w21 : (Xi S 904 70) = 8 := by simpa using w12
      exfalso; omega
    | 9, hii =>
      cases hii
      have w22 : (Xi S 904 70) = 9 := by simpa using w12
      exfalso; omega
    | 10, hii =>
      cases hii
      have w23 : (Xi S 904 70) = 10 := by simpa using w12
      exfalso; omega
    | 11, hii =>
      cases hii
      have w24 : (Xi S 904 70) = 11 := by simpa using w12
      exfalso; omega
    | 12, hii =>
      cases hii
      have w25 : (Xi S 904 70) = 12 := by simpa using w12
      exfalso; omega
    | 13, hii =>
      cases hii
      have w26 : (Xi S 904 70) = 13 := by simpa using w12
      exfalso; omega
    | 14, hii =>
      cases hii
      have w27 : (Xi S 904 70) = 14 := by simpa using w12
      exfalso; omega
    | 15, hii =>
      cases hii
      have w28 : (Xi S 904 70) = 15 := by simpa using w12
      exfalso; omega
    | 16, hii =>
      cases hii
      have w29 : (Xi S 904 70) = 16 := by simpa using w12
      exfalso; omega
    | 17, hii =>
      cases hii
      have w30 : (Xi S 904 70) = 17 := by simpa using w12
      exfalso; omega
    | 18, hii =>
      cases hii
      have w31 : (Xi S 904 70) = 18 := by simpa using w12
      exfalso; omega
    | 19, hii =>
      cases hii
      have w32 : (Xi S 904 70) = 19 := by simpa using w12
      exfalso; omega
    | 20, hii =>
      cases hii
      have w33 : (Xi S 904 70) = 20 := by simpa using w12
      refine y_aload_n rfl rfl ?_
      refine y_iload_n rfl rfl ?_
      have w36 : Xi U4 904 106 = Xi U1 904 106 := (show Xi U4 904 106 = Xi U3 904 106 from by rw [eU4]; exact Xi_ne (by omega)).trans ( (show Xi U3 904 106 = Xi U2 904 106 from by rw [eU3]; exact Xi_ne (by omega)).trans ((show Xi U2 904 106 = Xi U1 904 106 from by rw [eU2]; exact Xi_ne (by omega))))
      have w37 : Xi U4 904 108 = Xi U2 904 108 := (show Xi U4 904 108 = Xi U3 904 108 from by rw [eU4]; exact Xi_ne (by omega)).trans ((show Xi U3 904 108 = Xi U2 904 108 from by rw [eU3]; exact Xi_ne (by omega)))
      have w38 : Xi U4 904 15 = Xi S 904 15 := (show Xi U4 904 15 = Xi U3 904 15 from by rw [eU4]; exact Xi_ne (by omega)).trans ( (show Xi U3 904 15 = Xi U2 904 15 from by rw [eU3]; exact Xi_ne (by omega)).trans ( (show Xi U2 904 15 = Xi U1 904 15 from by rw [eU2]; exact Xi_ne (by omega)).trans ((show Xi U1 904 15 = Xi S 904 15 from by rw [eU1]; exact Xi_ne (by omega)))))
      refine y_callV rfl rfl rfl (t_mo_askSaying__p hHU4 dd first ⟨by omega, by omega⟩ (by first | assumption | exact (LSP_FR hFU4 rfl rfl (by assumption : LSP S))) (by first | assumption | omega) (by first | assumption | exact (ABV_FR hFU4 rfl (by assumption : ABV S))) (fun j => by rw [FA17.x 918 j rfl]; exact hko.o j) (by first | assumption | omega) (by rw [FA17.x 907 _ rfl]; exact he) (fun j a b => by rw [FA17.x 907 _ rfl]; exact hu.o j a b) _) ?_
      rintro _ T5 ⟨hHT5, w41, rfl, o520⟩
      have hFT5 : FR md_mo_asked__20f S T5 := FR.tr hFU4 w41 rfl
      show Pl _ _ _ _ _ _ [] _ _
      have K520 : True := trivial
      have z520 : Xi U4 904 106 = 0 ∧ Xi U4 904 108 = 0 := ⟨by omega, by omega⟩
      refine y_goto rfl rfl ?_
      refine y_return rfl rfl ?_
      exact ⟨hHT5, hFT5, rfl⟩
    | n + 21, hii => exact absurd hii (by simp)
end
