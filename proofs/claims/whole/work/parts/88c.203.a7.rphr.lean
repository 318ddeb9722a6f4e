section
/-! rules of the reference: PHRASES -/
def pTS (S : sS) (i : Int) : Int := Xi S 964 i.toNat
def phA (S : sS) (i q p : Int) : sS := uI (uI S 976 p.toNat (Int32.ofInt (Xi S 963 i.toNat))) 977 p.toNat (Int32.ofInt q)
def xPS (S : sS) (i : Int) : Int := Xi S 957 (pTS S i).toNat
def PM0 (S S1 : sS) (i q p : Int) : Prop := ∃ (B C : sS) (z : Int), B = uI (uI (phA S i q p) 973 q.toNat (Int32.ofInt (Xi S 908 (xPS S i).toNat + 1))) 974 q.toNat (Int32.ofInt (Xi S 909 (xPS S i).toNat)) ∧ SAYD B C (Xi S 908 (xPS S i).toNat + 1) (Xi S 909 (xPS S i).toNat) (-1) z ∧ FR md_mo_says__d B C ∧ FR md_mo_need__p C S1 ∧ NT3 S1 = (if z = 0 then ntF (NT3 C) 8 (Xi C 908 (xPS S i).toNat) else NT3 C) ∧ (z = 0 ∨ z = 1)
def PM1 (S S1 : sS) (i q p : Int) : Prop := TMX (phA S i q p) S1 (pTS S i) q 1 ∧ FR md_mo_testMeant__p (phA S i q p) S1
def PM2 (S S1 : sS) (i q p : Int) : Prop := ∃ (B C D E : sS) (z w g : Int), MTO (phA S i q p) B z (Xi S 954 (pTS S i).toNat) (Xi S 955 (pTS S i).toNat) ∧ FR md_mo_meant__p (phA S i q p) B ∧ C = uI B 971 q.toNat (Int32.ofInt z) ∧ (g = 0 ∨ g = 1) ∧ (g = 1 ↔ z = -9 ∨ blR C (ktC C z) 0 ≠ 0) ∧ NT3 D = (if g = 0 then ntF (NT3 C) 4 (Xi C 908 (Xi S 954 (pTS S i).toNat % 10000).toNat) else NT3 C) ∧ FR md_mo_need__p C D ∧ MTO D E w (Xi S 959 (pTS S i).toNat) (Xi S 960 (pTS S i).toNat) ∧ FR md_mo_meant__p D E ∧ S1 = uI E 975 q.toNat (Int32.ofInt w)
def PM3 (S S1 : sS) (i q p : Int) : Prop := ∃ (B C D E F : sS) (z w : Int), MTO (phA S i q p) B z (Xi S 954 (pTS S i).toNat) (Xi S 955 (pTS S i).toNat) ∧ FR md_mo_meant__p (phA S i q p) B ∧ C = uI B 971 q.toNat (Int32.ofInt z) ∧ PMO C D w (Xi S 956 (pTS S i).toNat) z ∧ FR md_mo_propertyMeant__p C D ∧ E = uI D 972 q.toNat (Int32.ofInt w) ∧ NMO E F (Xi S 956 (pTS S i).toNat) ∧ FR md_mo_numberMeant__p E F ∧ S1 = uI F 973 q.toNat (Int32.ofInt (Xj S 910 (xPS S i).toNat))
def PM5 (S S1 : sS) (i q p : Int) : Prop := ∃ (B C D E : sS) (g a z : Int), (g = 0 ∨ g = 1) ∧ a = rnR S (Xi S 956 (pTS S i).toNat) 11 ∧ (g = 1 ↔ a ≠ -1 ∧ 0 ≤ Xi S 942 a.toNat) ∧ NT3 B = (if g = 0 then ntF (NT3 (phA S i q p)) 4 (pR S (Xi S 956 (pTS S i).toNat)) else NT3 (phA S i q p)) ∧ FR md_mo_need__p (phA S i q p) B ∧ C = uI B 972 q.toNat (Int32.ofInt a) ∧ MTO C D z (Xi S 954 (pTS S i).toNat) (Xi S 955 (pTS S i).toNat) ∧ FR md_mo_meant__p C D ∧ E = uI D 971 q.toNat (Int32.ofInt z) ∧ S1 = uI E 970 q.toNat (Int32.ofInt 0)
def PM6 (S S1 : sS) (i q p : Int) : Prop := ∃ (B C D E G : sS) (n t o : Int), ACO (phA S i q p) B (Xi S 956 (pTS S i).toNat) 1 n ∧ FR md_mo_actings__p (phA S i q p) B ∧ NT3 C = (if 0 < n then NT3 B else ntF (NT3 B) 4 (pR S (Xi S 956 (pTS S i).toNat))) ∧ FR md_mo_need__p B C ∧ NT3 D = (if n < 2 then NT3 C else ntF (NT3 C) 7 (pR S (Xi S 956 (pTS S i).toNat))) ∧ FR md_mo_need__p C D ∧ t = (if 0 < n then Xi B 904 128 else 0) ∧ o = (if 0 < n then Xi B 904 129 else -1) ∧ E = uI D 972 q.toNat (Int32.ofInt t) ∧ G = uI E 971 q.toNat (Int32.ofInt o) ∧ S1 = uI G 970 q.toNat (Int32.ofInt (if o = -1 then 1 else 0))
theorem phA_of {S A B : sS} {i q p v : Int} (e1 : A = uI S 976 p.toNat (Int32.ofInt v)) (hv : v = Xi S 963 i.toNat) (e2 : B = uI A 977 p.toNat (Int32.ofInt q)) : B = phA S i q p := by
  subst hv e1
  exact e2
theorem xi_of {T U : sS} {k j : Nat} {z : Int} (e : U = uI T k j (Int32.ofInt z)) (r : rg z) : Xi U k j = z := by rw [e]; exact Xi_same r

def md_mo_phraseMeant__0 : List rec := [(904, 905, 64, 65), (904, 905, 104, 105), (904, 905, 105, 106), (904, 905, 106, 107), (904, 905, 113, 114), (904, 905, 128, 129), (904, 905, 129, 130), (904, 905, 154, 155), (904, 905, 156, 157), (904, 905, 157, 158), (904, 905, 158, 159), (904, 905, 160, 161), (969, 970, 0, 100000), (970, 971, 0, 100000), (971, 972, 0, 100000), (972, 973, 0, 100000), (973, 974, 0, 100000), (974, 975, 0, 100000), (975, 976, 0, 100000), (976, 977, 0, 100000), (977, 978, 0, 100000), (993, 994, 0, 100000), (994, 995, 0, 100000), (1000, 1001, 0, 1)]
abbrev Q_mo_phraseMeant__0 (S : sS) (i : Int) (q : Int) (p : Int) : pst := fun r S1 => RI S1 ∧ FR md_mo_phraseMeant__0 S S1 ∧ (r = none ∧ (PM0 S S1 i q p))
set_option maxRecDepth 100000 in
theorem t_mo_phraseMeant__0 {S : sS} (hH : RI S) (i : Int) (q : Int) (p : Int) (hi : 0 ≤ i ∧ i ≤ 1699) (hq : 0 ≤ q ∧ q ≤ 2399) (hp : 0 ≤ p ∧ p ≤ 1999) (hLS : LSP S) (h15 : 0 ≤ Xi S 904 15) (hB : ABV S) (hkx : Hid (∀ j : Nat, -1 ≤ Xi S 918 j ∧ Xi S 918 j ≤ 15)) (hit : (-1 ≤ Xi S 904 115 ∧ Xi S 904 115 ≤ 15) ∧ (-1 ≤ Xi S 904 116 ∧ Xi S 904 116 ≤ 15)) (hb6 : BYT S 906) (hlx7 : Hid (∀ j : Nat, (j : Int) < Xi S 904 15 → Xi S 914 j = 7 → 0 ≤ Xi S 915 j ∧ Xi S 915 j ≤ 11)) (htq : 0 ≤ Xi S 964 i.toNat ∧ Xi S 964 i.toNat ≤ 1699) (hpw : Xi S 963 i.toNat = 0) (hxl : 0 ≤ Xi S 908 (xPS S i).toNat ∧ 0 ≤ Xi S 909 (xPS S i).toNat ∧ Xi S 908 (xPS S i).toNat + 1 + Xi S 909 (xPS S i).toNat ≤ 5000) (d : Nat) : Mp lay0 (d + 8) m_mo_phraseMeant [.ref 904, iv i, iv q, iv p] S (Q_mo_phraseMeant__0 S i q p) := by
  refine Mp_R rfl rfl (fun fu => ?_)
  have hF : FR md_mo_phraseMeant__0 S S := FR.rf
  have w1 : -2147483648 ≤ Xi S 904 115 ∧ Xi S 904 115 ≤ 2147483647 := Xi_rgI
  have w2 : -2147483648 ≤ Xi S 904 116 ∧ Xi S 904 116 ≤ 2147483647 := Xi_rgI
  have w3 : -2147483648 ≤ Xi S 904 15 ∧ Xi S 904 15 ≤ 2147483647 := Xi_rgI
  refine y_aload_n rfl rfl ?_
  refine y_gfr rfl rfl rfl rfl rfl (hH.r 904 96 964 rfl) ?_
  refine y_iload_n rfl rfl ?_
  refine y_ialoadP (n := 1700) rfl rfl (by unfold rg; omega) (fun w4 w5 => ?_)
  have w6 : -2147483648 ≤ (Xi S 964 ((i).toNat)) ∧ (Xi S 964 ((i).toNat)) ≤ 2147483647 := Xi_rgI
  refine y_istore rfl rfl rfl ?_
  refine y_aload_n rfl rfl ?_
  refine y_gfr rfl rfl rfl rfl rfl (hH.r 904 126 976 rfl) ?_
  refine y_iload_n rfl rfl ?_
  refine y_aload_n rfl rfl ?_
  refine y_gfr rfl rfl rfl rfl rfl (hH.r 904 95 963 rfl) ?_
  refine y_iload_n rfl rfl ?_
  refine y_ialoadP (n := 1700) rfl rfl (by unfold rg; omega) (fun w7 w8 => ?_)
  have w9 : -2147483648 ≤ (Xi S 963 ((i).toNat)) ∧ (Xi S 963 ((i).toNat)) ≤ 2147483647 := Xi_rgI
  refine y_iastoreP (n := 2000) rfl rfl (by unfold rg; omega) (fun w10 w11 => ?_)
  obtain ⟨U1, eU1⟩ : ∃ T : sS, T = uI S 976 ((p).toNat) (Int32.ofInt (Xi S 963 ((i).toNat))) := ⟨_, rfl⟩
  rw [← eU1]
  have hHU1 : RI U1 := by rw [eU1]; exact RI_w hH
  have hFU1 : FR md_mo_phraseMeant__0 S U1 := by rw [eU1]; exact FR.wI hF (mdf_i (r := (976, 977, 0, 100000)) (List.mem_of_getElem? (i := 19) rfl) (inR_i (by omega) (by omega) (by omega) (by omega)))
  have w12 : Xi U1 976 ((p).toNat) = (Xi S 963 ((i).toNat)) := by rw [eU1]; exact Xi_same (by unfold rg; omega)
  have e19 := eU1
  refine y_aload_n rfl rfl ?_
  refine y_gfr rfl rfl rfl rfl rfl (hHU1.r 904 127 977 rfl) ?_
  refine y_iload_n rfl rfl ?_
  refine y_iload_n rfl rfl ?_
  refine y_iastoreP (n := 2000) rfl rfl (by unfold rg; omega) (fun w13 w14 => ?_)
  obtain ⟨U2, eU2⟩ : ∃ T : sS, T = uI U1 977 ((p).toNat) (Int32.ofInt q) := ⟨_, rfl⟩
  rw [← eU2]
  have hHU2 : RI U2 := by rw [eU2]; exact RI_w hHU1
  have hFU2 : FR md_mo_phraseMeant__0 S U2 := by rw [eU2]; exact FR.wI hFU1 (mdf_i (r := (977, 978, 0, 100000)) (List.mem_of_getElem? (i := 20) rfl) (inR_i (by omega) (by omega) (by omega) (by omega)))
  have w15 : Xi U2 977 ((p).toNat) = q := by rw [eU2]; exact Xi_same (by unfold rg; omega)
  have e26 := eU2
  have A26 : U2 = phA S i q p := phA_of e19 rfl e26
  have w26 : Xi U2 963 i.toNat = Xi S 963 i.toNat := (hFU2.cx 963 rfl _).1
  refine y_aload_n rfl rfl ?_
  refine y_gfr rfl rfl rfl rfl rfl (hHU2.r 904 95 963 rfl) ?_
  refine y_iload_n rfl rfl ?_
  refine y_ialoadP (n := 1700) rfl rfl (by unfold rg; omega) (fun w16 w17 => ?_)
  have w18 : (Xi U2 963 ((i).toNat)) = (Xi S 963 ((i).toNat)) := (show Xi U2 963 ((i).toNat) = Xi U1 963 ((i).toNat) from by rw [eU2]; exact Xi_ne (by omega)).trans ((show Xi U1 963 ((i).toNat) = Xi S 963 ((i).toNat) from by rw [eU1]; exact Xi_ne (by omega)))
  rw [w18]
  refine y_if_ne rfl rfl (by unfold rg; omega) (fun w19 => ?_) (fun w20 => ?_)
  · exfalso; omega
  · refine y_aload_n rfl rfl ?_
    refine y_gfr rfl rfl rfl rfl rfl (hHU2.r 904 87 957 rfl) ?_
    refine y_iload rfl rfl ?_
    refine y_ialoadP (n := 1700) rfl rfl (by unfold rg; omega) (fun w21 w22 => ?_)
    have w23 : -2147483648 ≤ (Xi U2 957 (((Xi S 964 ((i).toNat))).toNat)) ∧ (Xi U2 957 (((Xi S 964 ((i).toNat))).toNat)) ≤ 2147483647 := Xi_rgI
    have x42 : (Xi U2 957 (((Xi S 964 ((i).toNat))).toNat)) = xPS S i := (hFU2.cx 957 rfl _).1
    refine y_istore rfl rfl rfl ?_
    refine y_aload_n rfl rfl ?_
    refine y_gfr rfl rfl rfl rfl rfl (hHU2.r 904 122 973 rfl) ?_
    refine y_iload_n rfl rfl ?_
    refine y_aload_n rfl rfl ?_
    refine y_gfr rfl rfl rfl rfl rfl (hHU2.r 904 5 908 rfl) ?_
    refine y_iload rfl rfl ?_
    refine y_ialoadP (n := 5002) rfl rfl (by unfold rg; omega) (fun w24 w25 => ?_)
    have w26 : -2147483648 ≤ (Xi U2 908 (((Xi U2 957 (((Xi S 964 ((i).toNat))).toNat))).toNat)) ∧ (Xi U2 908 (((Xi U2 957 (((Xi S 964 ((i).toNat))).toNat))).toNat)) ≤ 2147483647 := Xi_rgI
    have l56 : (Xi U2 908 (((Xi U2 957 (((Xi S 964 ((i).toNat))).toNat))).toNat)) = Xi S 908 (xPS S i).toNat := by rw [(hFU2.cx 908 rfl _).1, x42]
    refine y_iconst rfl ?_
    refine y_iadd rfl ?_
    refine y_iastoreP (n := 2400) rfl rfl (by unfold rg; omega) (fun w27 w28 => ?_)
    obtain ⟨U3, eU3⟩ : ∃ T : sS, T = uI U2 973 ((q).toNat) (Int32.ofInt ((Xi U2 908 (((Xi U2 957 (((Xi S 964 ((i).toNat))).toNat))).toNat)) + 1)) := ⟨_, rfl⟩
    rw [← eU3]
    have hHU3 : RI U3 := by rw [eU3]; exact RI_w hHU2
    have hFU3 : FR md_mo_phraseMeant__0 S U3 := by rw [eU3]; exact FR.wI hFU2 (mdf_i (r := (973, 974, 0, 100000)) (List.mem_of_getElem? (i := 16) rfl) (inR_i (by omega) (by omega) (by omega) (by omega)))
    have w29 : Xi U3 973 ((q).toNat) = ((Xi U2 908 (((Xi U2 957 (((Xi S 964 ((i).toNat))).toNat))).toNat)) + 1) := by rw [eU3]; exact Xi_same (by unfold rg; omega)
    have e59 := eU3
    refine y_aload_n rfl rfl ?_
    refine y_gfr rfl rfl rfl rfl rfl (hHU3.r 904 123 974 rfl) ?_
    refine y_iload_n rfl rfl ?_
    refine y_aload_n rfl rfl ?_
    refine y_gfr rfl rfl rfl rfl rfl (hHU3.r 904 6 909 rfl) ?_
    refine y_iload rfl rfl ?_
    refine y_ialoadP (n := 5002) rfl rfl (by unfold rg; omega) (fun w30 w31 => ?_)
    have w32 : -2147483648 ≤ (Xi U3 909 (((Xi U2 957 (((Xi S 964 ((i).toNat))).toNat))).toNat)) ∧ (Xi U3 909 (((Xi U2 957 (((Xi S 964 ((i).toNat))).toNat))).toNat)) ≤ 2147483647 := Xi_rgI
    have l71 : (Xi U3 909 (((Xi U2 957 (((Xi S 964 ((i).toNat))).toNat))).toNat)) = Xi S 909 (xPS S i).toNat := by rw [(hFU3.cx 909 rfl _).1, x42]
    refine y_iastoreP (n := 2400) rfl rfl (by unfold rg; omega) (fun w33 w34 => ?_)
    obtain ⟨U4, eU4⟩ : ∃ T : sS, T = uI U3 974 ((q).toNat) (Int32.ofInt (Xi U3 909 (((Xi U2 957 (((Xi S 964 ((i).toNat))).toNat))).toNat))) := ⟨_, rfl⟩
    rw [← eU4]
    have hHU4 : RI U4 := by rw [eU4]; exact RI_w hHU3
    have hFU4 : FR md_mo_phraseMeant__0 S U4 := by rw [eU4]; exact FR.wI hFU3 (mdf_i (r := (974, 975, 0, 100000)) (List.mem_of_getElem? (i := 17) rfl) (inR_i (by omega) (by omega) (by omega) (by omega)))
    have w35 : Xi U4 974 ((q).toNat) = (Xi U3 909 (((Xi U2 957 (((Xi S 964 ((i).toNat))).toNat))).toNat)) := by rw [eU4]; exact Xi_same (by unfold rg; omega)
    have e72 := eU4
    have B72 : U4 = uI (uI (phA S i q p) 973 q.toNat (Int32.ofInt (Xi S 908 (xPS S i).toNat + 1))) 974 q.toNat (Int32.ofInt (Xi S 909 (xPS S i).toNat)) := by rw [← A26, ← l56, ← l71, ← e59]; exact e72
    refine y_aload_n rfl rfl ?_
    refine y_aload_n rfl rfl ?_
    refine y_aload_n rfl rfl ?_
    refine y_gfr rfl rfl rfl rfl rfl (hHU4.r 904 5 908 rfl) ?_
    refine y_iload rfl rfl ?_
    refine y_ialoadP (n := 5002) rfl rfl (by unfold rg; omega) (fun w36 w37 => ?_)
    have w38 : (Xi U4 908 (((Xi U2 957 (((Xi S 964 ((i).toNat))).toNat))).toNat)) = (Xi U2 908 (((Xi U2 957 (((Xi S 964 ((i).toNat))).toNat))).toNat)) := (show Xi U4 908 (((Xi U2 957 (((Xi S 964 ((i).toNat))).toNat))).toNat) = Xi U3 908 (((Xi U2 957 (((Xi S 964 ((i).toNat))).toNat))).toNat) from by rw [eU4]; exact Xi_ne (by omega)).trans ((show Xi U3 908 (((Xi U2 957 (((Xi S 964 ((i).toNat))).toNat))).toNat) = Xi U2 908 (((Xi U2 957 (((Xi S 964 ((i).toNat))).toNat))).toNat) from by rw [eU3]; exact Xi_ne (by omega)))
    rw [w38]
    have l81 : (Xi U2 908 (((Xi U2 957 (((Xi S 964 ((i).toNat))).toNat))).toNat)) = Xi S 908 (xPS S i).toNat := by first | exact l56 | (rw [(hFU4.cx 908 rfl _).1, x42])
    refine y_iconst rfl ?_
    refine y_iadd rfl ?_
    refine y_aload_n rfl rfl ?_
    refine y_gfr rfl rfl rfl rfl rfl (hHU4.r 904 6 909 rfl) ?_
    refine y_iload rfl rfl ?_
    refine y_ialoadP (n := 5002) rfl rfl (by unfold rg; omega) (fun w39 w40 => ?_)
    have w41 : (Xi U4 909 (((Xi U2 957 (((Xi S 964 ((i).toNat))).toNat))).toNat)) = (Xi U3 909 (((Xi U2 957 (((Xi S 964 ((i).toNat))).toNat))).toNat)) := (show Xi U4 909 (((Xi U2 957 (((Xi S 964 ((i).toNat))).toNat))).toNat) = Xi U3 909 (((Xi U2 957 (((Xi S 964 ((i).toNat))).toNat))).toNat) from by rw [eU4]; exact Xi_ne (by omega))
    rw [w41]
    have l90 : (Xi U3 909 (((Xi U2 957 (((Xi S 964 ((i).toNat))).toNat))).toNat)) = Xi S 909 (xPS S i).toNat := by first | exact l71 | (rw [(hFU4.cx 909 rfl _).1, x42])
    refine y_iconst rfl ?_
    have w42 : Xi U4 904 115 = Xi S 904 115 := (show Xi U4 904 115 = Xi U3 904 115 from by rw [eU4]; exact Xi_ne (by omega)).trans ( (show Xi U3 904 115 = Xi U2 904 115 from by rw [eU3]; exact Xi_ne (by omega)).trans ( (show Xi U2 904 115 = Xi U1 904 115 from by rw [eU2]; exact Xi_ne (by omega)).trans ((show Xi U1 904 115 = Xi S 904 115 from by rw [eU1]; exact Xi_ne (by omega)))))
    have w43 : Xi U4 904 116 = Xi S 904 116 := (show Xi U4 904 116 = Xi U3 904 116 from by rw [eU4]; exact Xi_ne (by omega)).trans ( (show Xi U3 904 116 = Xi U2 904 116 from by rw [eU3]; exact Xi_ne (by omega)).trans ( (show Xi U2 904 116 = Xi U1 904 116 from by rw [eU2]; exact Xi_ne (by omega)).trans ((show Xi U1 904 116 = Xi S 904 116 from by rw [eU1]; exact Xi_ne (by omega)))))
    have w44 : Xi U4 904 15 = Xi S 904 15 := (show Xi U4 904 15 = Xi U3 904 15 from by rw [eU4]; exact Xi_ne (by omega)).trans ( (show Xi U3 904 15 = Xi U2 904 15 from by rw [eU3]; exact Xi_ne (by omega)).trans ( (show Xi U2 904 15 = Xi U1 904 15 from by rw [eU2]; exact Xi_ne (by omega)).trans ((show Xi U1 904 15 = Xi S 904 15 from by rw [eU1]; exact Xi_ne (by omega)))))
    refine y_callV rfl rfl rfl (t_mo_says__d hHU4 ((Xi U2 908 (((Xi U2 957 (((Xi S 964 ((i).toNat))).toNat))).toNat)) + 1) (Xi U3 909 (((Xi U2 957 (((Xi S 964 ((i).toNat))).toNat))).toNat)) (-1) ⟨by omega, by omega⟩ ⟨by omega, by omega⟩ ⟨by omega, by omega⟩ (by first | assumption | omega) (BYT_R hFU4 rfl hb6) (by first | assumption | exact (LSP_FR hFU4 rfl rfl (by assumption : LSP S))) (by first | assumption | omega) (by first | assumption | exact (ABV_FR hFU4 rfl (by assumption : ABV S))) (fun j => by rw [(hFU4.cx 918 rfl _).1]; exact hkx.o j) (fun j => by rw [(hFU4.cx 914 rfl _).1, (hFU4.cx 915 rfl _).1, hFU4.x 904 15 rfl]; exact hlx7.o j) (by first | assumption | omega) _) ?_
    rintro _ T5 ⟨hHT5, w46, z45, rfl, w45, o92⟩
    have hFT5 : FR md_mo_phraseMeant__0 S T5 := FR.tr hFU4 w46 rfl
    show Pl _ _ _ _ _ _ [iv z45, .ref 904] _ _
    have F92 := (by assumption : FR md_mo_says__d U4 T5)
    refine y_bipush rfl rfl ?_
    refine y_iload rfl rfl ?_
    refine y_callV rfl rfl rfl (t_mo_need__p hHT5 z45 8 (Xi U2 957 (((Xi S 964 ((i).toNat))).toNat)) ⟨by omega, by omega⟩ ⟨by omega, by omega⟩ ⟨by omega, by omega⟩ _) ?_
    rintro _ T6 ⟨hHT6, w51, rfl, nt99⟩
    have hFT6 : FR md_mo_phraseMeant__0 S T6 := FR.tr hFT5 w51 rfl
    show Pl _ _ _ _ _ _ [] _ _
    have F99 := (by assumption : FR md_mo_need__p T5 T6)
    refine y_goto rfl rfl ?_
    refine y_return rfl rfl ?_
    exact ⟨hHT6, hFT6, rfl, (⟨_, _, _, B72, by rw [← l81, ← l90]; exact o92, F92, F99, (by rw [← x42]; exact nt99), by omega⟩)⟩
def md_mo_phraseMeant__1 : List rec := [(904, 905, 64, 65), (904, 905, 104, 105), (904, 905, 105, 106), (904, 905, 106, 107), (904, 905, 113, 114), (904, 905, 128, 129), (904, 905, 129, 130), (904, 905, 154, 155), (904, 905, 156, 157), (904, 905, 157, 158), (904, 905, 158, 159), (904, 905, 160, 161), (969, 970, 0, 100000), (970, 971, 0, 100000), (971, 972, 0, 100000), (972, 973, 0, 100000), (973, 974, 0, 100000), (974, 975, 0, 100000), (975, 976, 0, 100000), (976, 977, 0, 100000), (977, 978, 0, 100000), (993, 994, 0, 100000), (994, 995, 0, 100000), (1000, 1001, 0, 1)]
abbrev Q_mo_phraseMeant__1 (S : sS) (i : Int) (q : Int) (p : Int) : pst := fun r S1 => RI S1 ∧ FR md_mo_phraseMeant__1 S S1 ∧ (r = none ∧ (PM1 S S1 i q p))
set_option maxRecDepth 100000 in
theorem t_mo_phraseMeant__1 {S : sS} (hH : RI S) (i : Int) (q : Int) (p : Int) (hi : 0 ≤ i ∧ i ≤ 1699) (hq : 0 ≤ q ∧ q ≤ 2399) (hp : 0 ≤ p ∧ p ≤ 1999) (hLS : LSP S) (h15 : 0 ≤ Xi S 904 15) (hRB : RBD S) (hB : ABV S) (hkx : Hid (∀ j : Nat, -1 ≤ Xi S 918 j ∧ Xi S 918 j ≤ 15)) (hit : (-1 ≤ Xi S 904 115 ∧ Xi S 904 115 ≤ 15) ∧ (-1 ≤ Xi S 904 116 ∧ Xi S 904 116 ≤ 15)) (hLX : LXR S) (hp32 : 0 ≤ Xi S 904 32 ∧ Xi S 904 32 ≤ 12) (htq : 0 ≤ Xi S 964 i.toNat ∧ Xi S 964 i.toNat ≤ 1699) (hpw : Xi S 963 i.toNat = 1) (htk : Hid (TRK S (pTS S i))) (d : Nat) : Mp lay0 (d + 8) m_mo_phraseMeant [.ref 904, iv i, iv q, iv p] S (Q_mo_phraseMeant__1 S i q p) := by
  refine Mp_R rfl rfl (fun fu => ?_)
  have hF : FR md_mo_phraseMeant__1 S S := FR.rf
  have w1 : -2147483648 ≤ Xi S 904 115 ∧ Xi S 904 115 ≤ 2147483647 := Xi_rgI
  have w2 : -2147483648 ≤ Xi S 904 116 ∧ Xi S 904 116 ≤ 2147483647 := Xi_rgI
  have w3 : -2147483648 ≤ Xi S 904 15 ∧ Xi S 904 15 ≤ 2147483647 := Xi_rgI
  have w4 : -2147483648 ≤ Xi S 904 32 ∧ Xi S 904 32 ≤ 2147483647 := Xi_rgI
  refine y_aload_n rfl rfl ?_
  refine y_gfr rfl rfl rfl rfl rfl (hH.r 904 96 964 rfl) ?_
  refine y_iload_n rfl rfl ?_
  refine y_ialoadP (n := 1700) rfl rfl (by unfold rg; omega) (fun w5 w6 => ?_)
  have w7 : -2147483648 ≤ (Xi S 964 ((i).toNat)) ∧ (Xi S 964 ((i).toNat)) ≤ 2147483647 := Xi_rgI
  refine y_istore rfl rfl rfl ?_
  refine y_aload_n rfl rfl ?_
  refine y_gfr rfl rfl rfl rfl rfl (hH.r 904 126 976 rfl) ?_
  refine y_iload_n rfl rfl ?_
  refine y_aload_n rfl rfl ?_
  refine y_gfr rfl rfl rfl rfl rfl (hH.r 904 95 963 rfl) ?_
  refine y_iload_n rfl rfl ?_
  refine y_ialoadP (n := 1700) rfl rfl (by unfold rg; omega) (fun w8 w9 => ?_)
  have w10 : -2147483648 ≤ (Xi S 963 ((i).toNat)) ∧ (Xi S 963 ((i).toNat)) ≤ 2147483647 := Xi_rgI
  refine y_iastoreP (n := 2000) rfl rfl (by unfold rg; omega) (fun w11 w12 => ?_)
  obtain ⟨U1, eU1⟩ : ∃ T : sS, T = uI S 976 ((p).toNat) (Int32.ofInt (Xi S 963 ((i).toNat))) := ⟨_, rfl⟩
  rw [← eU1]
  have hHU1 : RI U1 := by rw [eU1]; exact RI_w hH
  have hFU1 : FR md_mo_phraseMeant__1 S U1 := by rw [eU1]; exact FR.wI hF (mdf_i (r := (976, 977, 0, 100000)) (List.mem_of_getElem? (i := 19) rfl) (inR_i (by omega) (by omega) (by omega) (by omega)))
  have w13 : Xi U1 976 ((p).toNat) = (Xi S 963 ((i).toNat)) := by rw [eU1]; exact Xi_same (by unfold rg; omega)
  have e19 := eU1
  refine y_aload_n rfl rfl ?_
  refine y_gfr rfl rfl rfl rfl rfl (hHU1.r 904 127 977 rfl) ?_
  refine y_iload_n rfl rfl ?_
  refine y_iload_n rfl rfl ?_
  refine y_iastoreP (n := 2000) rfl rfl (by unfold rg; omega) (fun w14 w15 => ?_)
  obtain ⟨U2, eU2⟩ : ∃ T : sS, T = uI U1 977 ((p).toNat) (Int32.ofInt q) := ⟨_, rfl⟩
  rw [← eU2]
  have hHU2 : RI U2 := by rw [eU2]; exact RI_w hHU1
  have hFU2 : FR md_mo_phraseMeant__1 S U2 := by rw [eU2]; exact FR.wI hFU1 (mdf_i (r := (977, 978, 0, 100000)) (List.mem_of_getElem? (i := 20) rfl) (inR_i (by omega) (by omega) (by omega) (by omega)))
  have w16 : Xi U2 977 ((p).toNat) = q := by rw [eU2]; exact Xi_same (by unfold rg; omega)
  have e26 := eU2
  have A26 : U2 = phA S i q p := phA_of e19 rfl e26
  have w26 : Xi U2 963 i.toNat = Xi S 963 i.toNat := (hFU2.cx 963 rfl _).1
  refine y_aload_n rfl rfl ?_
  refine y_gfr rfl rfl rfl rfl rfl (hHU2.r 904 95 963 rfl) ?_
  refine y_iload_n rfl rfl ?_
  refine y_ialoadP (n := 1700) rfl rfl (by unfold rg; omega) (fun w17 w18 => ?_)
  have w19 : (Xi U2 963 ((i).toNat)) = (Xi S 963 ((i).toNat)) := (show Xi U2 963 ((i).toNat) = Xi U1 963 ((i).toNat) from by rw [eU2]; exact Xi_ne (by omega)).trans ((show Xi U1 963 ((i).toNat) = Xi S 963 ((i).toNat) from by rw [eU1]; exact Xi_ne (by omega)))
  rw [w19]
  refine y_if_ne rfl rfl (by unfold rg; omega) (fun w20 => ?_) (fun w21 => ?_)
  · refine y_aload_n rfl rfl ?_
    refine y_gfr rfl rfl rfl rfl rfl (hHU2.r 904 95 963 rfl) ?_
    refine y_iload_n rfl rfl ?_
    refine y_ialoadP (n := 1700) rfl rfl (by unfold rg; omega) (fun w22 w23 => ?_)
    have w24 : (Xi U2 963 ((i).toNat)) = (Xi S 963 ((i).toNat)) := (show Xi U2 963 ((i).toNat) = Xi U1 963 ((i).toNat) from by rw [eU2]; exact Xi_ne (by omega)).trans ((show Xi U1 963 ((i).toNat) = Xi S 963 ((i).toNat) from by rw [eU1]; exact Xi_ne (by omega)))
    rw [w24]
    refine y_iconst rfl ?_
    refine y_icmp_ne rfl rfl (by unfold rg; omega) (by unfold rg; omega) (fun w25 => ?_) (fun w26 => ?_)
    · exfalso; omega
    · refine y_aload_n rfl rfl ?_
      refine y_iload rfl rfl ?_
      refine y_iload_n rfl rfl ?_
      refine y_iconst rfl ?_
      have w27 : Xi U2 904 115 = Xi S 904 115 := (show Xi U2 904 115 = Xi U1 904 115 from by rw [eU2]; exact Xi_ne (by omega)).trans ((show Xi U1 904 115 = Xi S 904 115 from by rw [eU1]; exact Xi_ne (by omega)))
      have w28 : Xi U2 904 116 = Xi S 904 116 := (show Xi U2 904 116 = Xi U1 904 116 from by rw [eU2]; exact Xi_ne (by omega)).trans ((show Xi U1 904 116 = Xi S 904 116 from by rw [eU1]; exact Xi_ne (by omega)))
      have w29 : Xi U2 904 15 = Xi S 904 15 := (show Xi U2 904 15 = Xi U1 904 15 from by rw [eU2]; exact Xi_ne (by omega)).trans ((show Xi U1 904 15 = Xi S 904 15 from by rw [eU1]; exact Xi_ne (by omega)))
      have w30 : Xi U2 904 32 = Xi S 904 32 := (show Xi U2 904 32 = Xi U1 904 32 from by rw [eU2]; exact Xi_ne (by omega)).trans ((show Xi U1 904 32 = Xi S 904 32 from by rw [eU1]; exact Xi_ne (by omega)))
      refine y_callV rfl rfl rfl (t_mo_testMeant__p hHU2 (Xi S 964 ((i).toNat)) q 1 ⟨by omega, by omega⟩ ⟨by omega, by omega⟩ ⟨by omega, by omega⟩ (by first | assumption | exact (LSP_FR hFU2 rfl rfl (by assumption : LSP S))) (by first | assumption | omega) (by first | assumption | exact (RBD_FR hFU2 rfl (by assumption : RBD S))) (by first | assumption | exact (ABV_FR hFU2 rfl (by assumption : ABV S))) (fun j => by rw [(hFU2.cx 918 rfl _).1]; exact hkx.o j) (by first | assumption | omega) (LXR_FR hFU2 rfl rfl hLX) (by first | assumption | omega) (TRK_F hFU2 (SMR_FR hFU2 rfl rfl) rfl rfl htk.o) _) ?_
      rintro _ T3 ⟨hHT3, w32, rfl, o120⟩
      have hFT3 : FR md_mo_phraseMeant__1 S T3 := FR.tr hFU2 w32 rfl
      show Pl _ _ _ _ _ _ [] _ _
      have F120 := (by assumption : FR md_mo_testMeant__p U2 T3)
      refine y_goto rfl rfl ?_
      refine y_return rfl rfl ?_
      exact ⟨hHT3, hFT3, rfl, (⟨by rw [← A26]; exact o120, by rw [← A26]; exact F120⟩)⟩
  · exfalso; omega
def md_mo_phraseMeant__2 : List rec := [(904, 905, 64, 65), (904, 905, 104, 105), (904, 905, 105, 106), (904, 905, 106, 107), (904, 905, 113, 114), (904, 905, 128, 129), (904, 905, 129, 130), (904, 905, 154, 155), (904, 905, 156, 157), (904, 905, 157, 158), (904, 905, 158, 159), (904, 905, 160, 161), (969, 970, 0, 100000), (970, 971, 0, 100000), (971, 972, 0, 100000), (972, 973, 0, 100000), (973, 974, 0, 100000), (974, 975, 0, 100000), (975, 976, 0, 100000), (976, 977, 0, 100000), (977, 978, 0, 100000), (993, 994, 0, 100000), (994, 995, 0, 100000), (1000, 1001, 0, 1)]
abbrev Q_mo_phraseMeant__2 (S : sS) (i : Int) (q : Int) (p : Int) : pst := fun r S1 => RI S1 ∧ FR md_mo_phraseMeant__2 S S1 ∧ (r = none ∧ (PM2 S S1 i q p))
set_option maxRecDepth 100000 in
theorem t_mo_phraseMeant__2 {S : sS} (hH : RI S) (i : Int) (q : Int) (p : Int) (hi : 0 ≤ i ∧ i ≤ 1699) (hq : 0 ≤ q ∧ q ≤ 2399) (hp : 0 ≤ p ∧ p ≤ 1999) (hLS : LSP S) (h15 : 0 ≤ Xi S 904 15) (hRB : RBD S) (hB : ABV S) (hkx : Hid (∀ j : Nat, -1 ≤ Xi S 918 j ∧ Xi S 918 j ≤ 15)) (hit : (-1 ≤ Xi S 904 115 ∧ Xi S 904 115 ≤ 15) ∧ (-1 ≤ Xi S 904 116 ∧ Xi S 904 116 ≤ 15)) (htq : 0 ≤ Xi S 964 i.toNat ∧ Xi S 964 i.toNat ≤ 1699) (hpw : Xi S 963 i.toNat = 2) (htd : 0 ≤ Xi S 954 (pTS S i).toNat ∧ Xi S 954 (pTS S i).toNat ≤ 29999) (hto : 0 ≤ Xi S 959 (pTS S i).toNat ∧ Xi S 959 (pTS S i).toNat ≤ 29999) (d : Nat) : Mp lay0 (d + 8) m_mo_phraseMeant [.ref 904, iv i, iv q, iv p] S (Q_mo_phraseMeant__2 S i q p) := by
  refine Mp_R rfl rfl (fun fu => ?_)
  have hF : FR md_mo_phraseMeant__2 S S := FR.rf
  have w1 : -2147483648 ≤ Xi S 904 115 ∧ Xi S 904 115 ≤ 2147483647 := Xi_rgI
  have w2 : -2147483648 ≤ Xi S 904 116 ∧ Xi S 904 116 ≤ 2147483647 := Xi_rgI
  have w3 : -2147483648 ≤ Xi S 904 15 ∧ Xi S 904 15 ≤ 2147483647 := Xi_rgI
  refine y_aload_n rfl rfl ?_
  refine y_gfr rfl rfl rfl rfl rfl (hH.r 904 96 964 rfl) ?_
  refine y_iload_n rfl rfl ?_
  refine y_ialoadP (n := 1700) rfl rfl (by unfold rg; omega) (fun w4 w5 => ?_)
  have w6 : -2147483648 ≤ (Xi S 964 ((i).toNat)) ∧ (Xi S 964 ((i).toNat)) ≤ 2147483647 := Xi_rgI
  refine y_istore rfl rfl rfl ?_
  refine y_aload_n rfl rfl ?_
  refine y_gfr rfl rfl rfl rfl rfl (hH.r 904 126 976 rfl) ?_
  refine y_iload_n rfl rfl ?_
  refine y_aload_n rfl rfl ?_
  refine y_gfr rfl rfl rfl rfl rfl (hH.r 904 95 963 rfl) ?_
  refine y_iload_n rfl rfl ?_
  refine y_ialoadP (n := 1700) rfl rfl (by unfold rg; omega) (fun w7 w8 => ?_)
  have w9 : -2147483648 ≤ (Xi S 963 ((i).toNat)) ∧ (Xi S 963 ((i).toNat)) ≤ 2147483647 := Xi_rgI
  refine y_iastoreP (n := 2000) rfl rfl (by unfold rg; omega) (fun w10 w11 => ?_)
  obtain ⟨U1, eU1⟩ : ∃ T : sS, T = uI S 976 ((p).toNat) (Int32.ofInt (Xi S 963 ((i).toNat))) := ⟨_, rfl⟩
  rw [← eU1]
  have hHU1 : RI U1 := by rw [eU1]; exact RI_w hH
  have hFU1 : FR md_mo_phraseMeant__2 S U1 := by rw [eU1]; exact FR.wI hF (mdf_i (r := (976, 977, 0, 100000)) (List.mem_of_getElem? (i := 19) rfl) (inR_i (by omega) (by omega) (by omega) (by omega)))
  have w12 : Xi U1 976 ((p).toNat) = (Xi S 963 ((i).toNat)) := by rw [eU1]; exact Xi_same (by unfold rg; omega)
  have e19 := eU1
  refine y_aload_n rfl rfl ?_
  refine y_gfr rfl rfl rfl rfl rfl (hHU1.r 904 127 977 rfl) ?_
  refine y_iload_n rfl rfl ?_
  refine y_iload_n rfl rfl ?_
  refine y_iastoreP (n := 2000) rfl rfl (by unfold rg; omega) (fun w13 w14 => ?_)
  obtain ⟨U2, eU2⟩ : ∃ T : sS, T = uI U1 977 ((p).toNat) (Int32.ofInt q) := ⟨_, rfl⟩
  rw [← eU2]
  have hHU2 : RI U2 := by rw [eU2]; exact RI_w hHU1
  have hFU2 : FR md_mo_phraseMeant__2 S U2 := by rw [eU2]; exact FR.wI hFU1 (mdf_i (r := (977, 978, 0, 100000)) (List.mem_of_getElem? (i := 20) rfl) (inR_i (by omega) (by omega) (by omega) (by omega)))
  have w15 : Xi U2 977 ((p).toNat) = q := by rw [eU2]; exact Xi_same (by unfold rg; omega)
  have e26 := eU2
  have A26 : U2 = phA S i q p := phA_of e19 rfl e26
  have w26 : Xi U2 963 i.toNat = Xi S 963 i.toNat := (hFU2.cx 963 rfl _).1
  refine y_aload_n rfl rfl ?_
  refine y_gfr rfl rfl rfl rfl rfl (hHU2.r 904 95 963 rfl) ?_
  refine y_iload_n rfl rfl ?_
  refine y_ialoadP (n := 1700) rfl rfl (by unfold rg; omega) (fun w16 w17 => ?_)
  have w18 : (Xi U2 963 ((i).toNat)) = (Xi S 963 ((i).toNat)) := (show Xi U2 963 ((i).toNat) = Xi U1 963 ((i).toNat) from by rw [eU2]; exact Xi_ne (by omega)).trans ((show Xi U1 963 ((i).toNat) = Xi S 963 ((i).toNat) from by rw [eU1]; exact Xi_ne (by omega)))
  rw [w18]
  refine y_if_ne rfl rfl (by unfold rg; omega) (fun w19 => ?_) (fun w20 => ?_)
  · refine y_aload_n rfl rfl ?_
    refine y_gfr rfl rfl rfl rfl rfl (hHU2.r 904 95 963 rfl) ?_
    refine y_iload_n rfl rfl ?_
    refine y_ialoadP (n := 1700) rfl rfl (by unfold rg; omega) (fun w21 w22 => ?_)
    have w23 : (Xi U2 963 ((i).toNat)) = (Xi S 963 ((i).toNat)) := (show Xi U2 963 ((i).toNat) = Xi U1 963 ((i).toNat) from by rw [eU2]; exact Xi_ne (by omega)).trans ((show Xi U1 963 ((i).toNat) = Xi S 963 ((i).toNat) from by rw [eU1]; exact Xi_ne (by omega)))
    rw [w23]
    refine y_iconst rfl ?_
    refine y_icmp_ne rfl rfl (by unfold rg; omega) (by unfold rg; omega) (fun w24 => ?_) (fun w25 => ?_)
    · refine y_aload_n rfl rfl ?_
      refine y_gfr rfl rfl rfl rfl rfl (hHU2.r 904 95 963 rfl) ?_
      refine y_iload_n rfl rfl ?_
      refine y_ialoadP (n := 1700) rfl rfl (by unfold rg; omega) (fun w26 w27 => ?_)
      have w28 : (Xi U2 963 ((i).toNat)) = (Xi S 963 ((i).toNat)) := (show Xi U2 963 ((i).toNat) = Xi U1 963 ((i).toNat) from by rw [eU2]; exact Xi_ne (by omega)).trans ((show Xi U1 963 ((i).toNat) = Xi S 963 ((i).toNat) from by rw [eU1]; exact Xi_ne (by omega)))
      rw [w28]
      refine y_iconst rfl ?_
      refine y_icmp_ne rfl rfl (by unfold rg; omega) (by unfold rg; omega) (fun w29 => ?_) (fun w30 => ?_)
      · exfalso; omega
      · refine y_aload_n rfl rfl ?_
        refine y_gfr rfl rfl rfl rfl rfl (hHU2.r 904 120 971 rfl) ?_
        refine y_iload_n rfl rfl ?_
        refine y_aload_n rfl rfl ?_
        refine y_aload_n rfl rfl ?_
        refine y_gfr rfl rfl rfl rfl rfl (hHU2.r 904 84 954 rfl) ?_
        refine y_iload rfl rfl ?_
        refine y_ialoadP (n := 1700) rfl rfl (by unfold rg; omega) (fun w31 w32 => ?_)
        have w33 : -2147483648 ≤ (Xi U2 954 (((Xi S 964 ((i).toNat))).toNat)) ∧ (Xi U2 954 (((Xi S 964 ((i).toNat))).toNat)) ≤ 2147483647 := Xi_rgI
        have a148 : (Xi U2 954 (((Xi S 964 ((i).toNat))).toNat)) = Xi S 954 (pTS S i).toNat := (hFU2.cx 954 rfl _).1
        refine y_aload_n rfl rfl ?_
        refine y_gfr rfl rfl rfl rfl rfl (hHU2.r 904 85 955 rfl) ?_
        refine y_iload rfl rfl ?_
        refine y_ialoadP (n := 1700) rfl rfl (by unfold rg; omega) (fun w34 w35 => ?_)
        have w36 : -2147483648 ≤ (Xi U2 955 (((Xi S 964 ((i).toNat))).toNat)) ∧ (Xi U2 955 (((Xi S 964 ((i).toNat))).toNat)) ≤ 2147483647 := Xi_rgI
        have a155 : (Xi U2 955 (((Xi S 964 ((i).toNat))).toNat)) = Xi S 955 (pTS S i).toNat := (hFU2.cx 955 rfl _).1
        have w37 : Xi U2 904 115 = Xi S 904 115 := (show Xi U2 904 115 = Xi U1 904 115 from by rw [eU2]; exact Xi_ne (by omega)).trans ((show Xi U1 904 115 = Xi S 904 115 from by rw [eU1]; exact Xi_ne (by omega)))
        have w38 : Xi U2 904 116 = Xi S 904 116 := (show Xi U2 904 116 = Xi U1 904 116 from by rw [eU2]; exact Xi_ne (by omega)).trans ((show Xi U1 904 116 = Xi S 904 116 from by rw [eU1]; exact Xi_ne (by omega)))
        have w39 : Xi U2 904 15 = Xi S 904 15 := (show Xi U2 904 15 = Xi U1 904 15 from by rw [eU2]; exact Xi_ne (by omega)).trans ((show Xi U1 904 15 = Xi S 904 15 from by rw [eU1]; exact Xi_ne (by omega)))
        refine y_callV rfl rfl rfl (t_mo_meant__p hHU2 (Xi U2 954 (((Xi S 964 ((i).toNat))).toNat)) (Xi U2 955 (((Xi S 964 ((i).toNat))).toNat)) ⟨by omega, by omega⟩ ⟨by omega, by omega⟩ (by first | assumption | exact (LSP_FR hFU2 rfl rfl (by assumption : LSP S))) (by first | assumption | omega) (by first | assumption | exact (RBD_FR hFU2 rfl (by assumption : RBD S))) _) ?_
        rintro _ T3 ⟨hHT3, w41, z40, rfl, w40, o156⟩
        have hFT3 : FR md_mo_phraseMeant__2 S T3 := FR.tr hFU2 w41 rfl
        show Pl _ _ _ _ _ _ [iv z40, iv q, .ref 971] _ _
        have F156 := (by assumption : FR md_mo_meant__p U2 T3)
        refine y_iastoreP (n := 2400) rfl rfl (by unfold rg; omega) (fun w42 w43 => ?_)
        obtain ⟨U4, eU4⟩ : ∃ T : sS, T = uI T3 971 ((q).toNat) (Int32.ofInt z40) := ⟨_, rfl⟩
        rw [← eU4]
        have hHU4 : RI U4 := by rw [eU4]; exact RI_w hHT3
        have hFU4 : FR md_mo_phraseMeant__2 S U4 := by rw [eU4]; exact FR.wI hFT3 (mdf_i (r := (971, 972, 0, 100000)) (List.mem_of_getElem? (i := 14) rfl) (inR_i (by omega) (by omega) (by omega) (by omega)))
        have w44 : Xi U4 971 ((q).toNat) = z40 := by rw [eU4]; exact Xi_same (by unfold rg; omega)
        have e159 := eU4
        refine y_aload_n rfl rfl ?_
        refine y_aload_n rfl rfl ?_
        refine y_gfr rfl rfl rfl rfl rfl (hHU4.r 904 120 971 rfl) ?_
        refine y_iload_n rfl rfl ?_
        refine y_ialoadP (n := 2400) rfl rfl (by unfold rg; omega) (fun w45 w46 => ?_)
        have h166 := xi_of e159 (by unfold rg; omega)
        refine y_bipush rfl rfl ?_
        refine y_icmp_eq rfl rfl (by unfold rg; omega) (by unfold rg; omega) (fun w47 => ?_) (fun w48 => ?_)
        · refine y_iconst rfl ?_
          have G190 : Xi U4 971 q.toNat = -9 ∨ blR U4 (ktC U4 (Xi U4 971 q.toNat)) 0 ≠ 0 := by first | exact Or.inl (by omega) | exact Or.inr (by rw [← k180, ← f184]; omega)
          refine y_goto rfl rfl ?_
          refine y_iconst rfl ?_
          refine y_aload_n rfl rfl ?_
          refine y_gfr rfl rfl rfl rfl rfl (hHU4.r 904 84 954 rfl) ?_
          refine y_iload rfl rfl ?_
          refine y_ialoadP (n := 1700) rfl rfl (by unfold rg; omega) (fun w49 w50 => ?_)
          have w51 : (Xi U4 954 (((Xi S 964 ((i).toNat))).toNat)) = (Xi U2 954 (((Xi S 964 ((i).toNat))).toNat)) := (show Xi U4 954 (((Xi S 964 ((i).toNat))).toNat) = Xi T3 954 (((Xi S 964 ((i).toNat))).toNat) from by rw [eU4]; exact Xi_ne (by omega)).trans ((show Xi T3 954 (((Xi S 964 ((i).toNat))).toNat) = Xi U2 954 (((Xi S 964 ((i).toNat))).toNat) from w41.x _ _ rfl))
          rw [w51]
          have a202 : (Xi U2 954 (((Xi S 964 ((i).toNat))).toNat)) = Xi S 954 (pTS S i).toNat := (hFU2.cx 954 rfl _).1
          refine y_sipush rfl rfl ?_
          refine y_iremA rfl (by omega) (by unfold rg; omega) (by unfold rg; omega) (fun c52 w52 w52b w52c => ?_)
          have c206 : c52 = Xi S 954 (pTS S i).toNat % 10000 := by omega
          refine y_callV rfl rfl rfl (t_mo_need__p hHU4 1 4 c52 ⟨by omega, by omega⟩ ⟨by omega, by omega⟩ ⟨by omega, by omega⟩ _) ?_
          rintro _ T5 ⟨hHT5, w57, rfl, nt207⟩
          have hFT5 : FR md_mo_phraseMeant__2 S T5 := FR.tr hFU4 w57 rfl
          show Pl _ _ _ _ _ _ [] _ _
          have F207 := (by assumption : FR md_mo_need__p U4 T5)
          refine y_aload_n rfl rfl ?_
          refine y_gfr rfl rfl rfl rfl rfl (hHT5.r 904 124 975 rfl) ?_
          refine y_iload_n rfl rfl ?_
          refine y_aload_n rfl rfl ?_
          refine y_aload_n rfl rfl ?_
          refine y_gfr rfl rfl rfl rfl rfl (hHT5.r 904 89 959 rfl) ?_
          refine y_iload rfl rfl ?_
          refine y_ialoadP (n := 1700) rfl rfl (by unfold rg; omega) (fun w58 w59 => ?_)
          have w60 : -2147483648 ≤ (Xi T5 959 (((Xi S 964 ((i).toNat))).toNat)) ∧ (Xi T5 959 (((Xi S 964 ((i).toNat))).toNat)) ≤ 2147483647 := Xi_rgI
          have a222 : (Xi T5 959 (((Xi S 964 ((i).toNat))).toNat)) = Xi S 959 (pTS S i).toNat := (hFT5.cx 959 rfl _).1
          refine y_aload_n rfl rfl ?_
          refine y_gfr rfl rfl rfl rfl rfl (hHT5.r 904 90 960 rfl) ?_
          refine y_iload rfl rfl ?_
          refine y_ialoadP (n := 1700) rfl rfl (by unfold rg; omega) (fun w61 w62 => ?_)
          have w63 : -2147483648 ≤ (Xi T5 960 (((Xi S 964 ((i).toNat))).toNat)) ∧ (Xi T5 960 (((Xi S 964 ((i).toNat))).toNat)) ≤ 2147483647 := Xi_rgI
          have a229 : (Xi T5 960 (((Xi S 964 ((i).toNat))).toNat)) = Xi S 960 (pTS S i).toNat := (hFT5.cx 960 rfl _).1
          have w66 : Xi T5 904 15 = Xi S 904 15 := (show Xi T5 904 15 = Xi U4 904 15 from w57.x _ _ rfl).trans ( (show Xi U4 904 15 = Xi T3 904 15 from by rw [eU4]; exact Xi_ne (by omega)).trans ( (show Xi T3 904 15 = Xi U2 904 15 from w41.x _ _ rfl).trans ( (show Xi U2 904 15 = Xi U1 904 15 from by rw [eU2]; exact Xi_ne (by omega)).trans ((show Xi U1 904 15 = Xi S 904 15 from by rw [eU1]; exact Xi_ne (by omega))))))
          refine y_callV rfl rfl rfl (t_mo_meant__p hHT5 (Xi T5 959 (((Xi S 964 ((i).toNat))).toNat)) (Xi T5 960 (((Xi S 964 ((i).toNat))).toNat)) ⟨by omega, by omega⟩ ⟨by omega, by omega⟩ (by first | assumption | exact (LSP_FR hFT5 rfl rfl (by assumption : LSP S))) (by first | assumption | omega) (by first | assumption | exact (RBD_FR hFT5 rfl (by assumption : RBD S))) _) ?_
          rintro _ T6 ⟨hHT6, w68, z67, rfl, w67, o230⟩
          have hFT6 : FR md_mo_phraseMeant__2 S T6 := FR.tr hFT5 w68 rfl
          show Pl _ _ _ _ _ _ [iv z67, iv q, .ref 975] _ _
          have F230 := (by assumption : FR md_mo_meant__p T5 T6)
          refine y_iastoreP (n := 2400) rfl rfl (by unfold rg; omega) (fun w69 w70 => ?_)
          obtain ⟨U7, eU7⟩ : ∃ T : sS, T = uI T6 975 ((q).toNat) (Int32.ofInt z67) := ⟨_, rfl⟩
          rw [← eU7]
          have hHU7 : RI U7 := by rw [eU7]; exact RI_w hHT6
          have hFU7 : FR md_mo_phraseMeant__2 S U7 := by rw [eU7]; exact FR.wI hFT6 (mdf_i (r := (975, 976, 0, 100000)) (List.mem_of_getElem? (i := 18) rfl) (inR_i (by omega) (by omega) (by omega) (by omega)))
          have w71 : Xi U7 975 ((q).toNat) = z67 := by rw [eU7]; exact Xi_same (by unfold rg; omega)
          have e233 := eU7
          refine y_goto rfl rfl ?_
          refine y_return rfl rfl ?_
          exact ⟨hHU7, hFU7, rfl, (by first | (have u := G190; exact ⟨_, _, _, _, _, _, 1, by rw [← A26, ← a148, ← a155]; exact o156, by rw [← A26]; exact F156, e159, Or.inr rfl, ⟨fun _ => (by have t := G190; rw [h166] at t; exact t), fun _ => rfl⟩, by rw [← c206]; exact nt207, F207, by rw [← a222, ← a229]; exact o230, F230, e233⟩) | exact ⟨_, _, _, _, _, _, 0, by rw [← A26, ← a148, ← a155]; exact o156, by rw [← A26]; exact F156, e159, Or.inl rfl, ⟨fun w => absurd w (by decide), fun w => absurd w (by have t := G194; rw [h166] at t; exact t)⟩, by rw [← c206]; exact nt207, F207, by rw [← a222, ← a229]; exact o230, F230, e233⟩)⟩
        · refine y_aload_n rfl rfl ?_
          refine y_aload_n rfl rfl ?_
          refine y_aload_n rfl rfl ?_
          refine y_gfr rfl rfl rfl rfl rfl (hHU4.r 904 120 971 rfl) ?_
          refine y_iload_n rfl rfl ?_
          refine y_ialoadP (n := 2400) rfl rfl (by unfold rg; omega) (fun w75 w76 => ?_)
          have h179 := xi_of e159 (by unfold rg; omega)
          have w77 : Xi U4 904 115 = Xi S 904 115 := (show Xi U4 904 115 = Xi T3 904 115 from by rw [eU4]; exact Xi_ne (by omega)).trans ( (show Xi T3 904 115 = Xi U2 904 115 from w41.x _ _ rfl).trans ( (show Xi U2 904 115 = Xi U1 904 115 from by rw [eU2]; exact Xi_ne (by omega)).trans ((show Xi U1 904 115 = Xi S 904 115 from by rw [eU1]; exact Xi_ne (by omega)))))
          have w78 : Xi U4 904 116 = Xi S 904 116 := (show Xi U4 904 116 = Xi T3 904 116 from by rw [eU4]; exact Xi_ne (by omega)).trans ( (show Xi T3 904 116 = Xi U2 904 116 from w41.x _ _ rfl).trans ( (show Xi U2 904 116 = Xi U1 904 116 from by rw [eU2]; exact Xi_ne (by omega)).trans ((show Xi U1 904 116 = Xi S 904 116 from by rw [eU1]; exact Xi_ne (by omega)))))
          have w79 : Xi U4 904 15 = Xi S 904 15 := (show Xi U4 904 15 = Xi T3 904 15 from by rw [eU4]; exact Xi_ne (by omega)).trans ( (show Xi T3 904 15 = Xi U2 904 15 from w41.x _ _ rfl).trans ( (show Xi U2 904 15 = Xi U1 904 15 from by rw [eU2]; exact Xi_ne (by omega)).trans ((show Xi U1 904 15 = Xi S 904 15 from by rw [eU1]; exact Xi_ne (by omega)))))
          refine y_callV rfl rfl rfl (t_mo_kindOfThing__p hHU4 (Xi U4 971 ((q).toNat)) ⟨by omega, by omega⟩ _) ?_
          rintro _ _ ⟨rfl, z80, rfl, w80, k180⟩
          show Pl _ _ _ _ _ _ [iv z80, .ref 904, .ref 904] _ _
          have r180 : -1 ≤ z80 ∧ z80 ≤ 15 := by rw [k180]; exact ktC_r (fun j => by rw [(hFU4.cx 918 rfl _).1]; exact hkx.o j) (by omega) (by omega)
          refine y_iconst rfl ?_
          refine y_callV rfl rfl rfl (t_mo_isBelow__p hHU4 z80 0 ⟨by omega, by omega⟩ ⟨by omega, by omega⟩ (by first | assumption | exact (ABV_FR hFU4 rfl (by assumption : ABV S))) _) ?_
          rintro _ _ ⟨rfl, z84, rfl, w84, f184⟩
          show Pl _ _ _ _ _ _ [iv z84, .ref 904] _ _
          refine y_if_eq rfl rfl (by unfold rg; omega) (fun w85 => ?_) (fun w86 => ?_)
          · refine y_iconst rfl ?_
            have G194 : ¬ (Xi U4 971 q.toNat = -9 ∨ blR U4 (ktC U4 (Xi U4 971 q.toNat)) 0 ≠ 0) := by intro w; rcases w with w | w; omega; (rw [← k180, ← f184] at w; omega)
            refine y_iconst rfl ?_
            refine y_aload_n rfl rfl ?_
            refine y_gfr rfl rfl rfl rfl rfl (hHU4.r 904 84 954 rfl) ?_
            refine y_iload rfl rfl ?_
            refine y_ialoadP (n := 1700) rfl rfl (by unfold rg; omega) (fun w87 w88 => ?_)
            have w89 : (Xi U4 954 (((Xi S 964 ((i).toNat))).toNat)) = (Xi U2 954 (((Xi S 964 ((i).toNat))).toNat)) := (show Xi U4 954 (((Xi S 964 ((i).toNat))).toNat) = Xi T3 954 (((Xi S 964 ((i).toNat))).toNat) from by rw [eU4]; exact Xi_ne (by omega)).trans ((show Xi T3 954 (((Xi S 964 ((i).toNat))).toNat) = Xi U2 954 (((Xi S 964 ((i).toNat))).toNat) from w41.x _ _ rfl))
            rw [w89]
            have a202 : (Xi U2 954 (((Xi S 964 ((i).toNat))).toNat)) = Xi S 954 (pTS S i).toNat := (hFU2.cx 954 rfl _).1
            refine y_sipush rfl rfl ?_
            refine y_iremA rfl (by omega) (by unfold rg; omega) (by unfold rg; omega) (fun c90 w90 w90b w90c => ?_)
            have c206 : c90 = Xi S 954 (pTS S i).toNat % 10000 := by omega
            refine y_callV rfl rfl rfl (t_mo_need__p hHU4 0 4 c90 ⟨by omega, by omega⟩ ⟨by omega, by omega⟩ ⟨by omega, by omega⟩ _) ?_
            rintro _ T8 ⟨hHT8, w95, rfl, nt207⟩
            have hFT8 : FR md_mo_phraseMeant__2 S T8 := FR.tr hFU4 w95 rfl
            show Pl _ _ _ _ _ _ [] _ _
            have F207 := (by assumption : FR md_mo_need__p U4 T8)
            refine y_aload_n rfl rfl ?_
            refine y_gfr rfl rfl rfl rfl rfl (hHT8.r 904 124 975 rfl) ?_
            refine y_iload_n rfl rfl ?_
            refine y_aload_n rfl rfl ?_
            refine y_aload_n rfl rfl ?_
            refine y_gfr rfl rfl rfl rfl rfl (hHT8.r 904 89 959 rfl) ?_
            refine y_iload rfl rfl ?_
            refine y_ialoadP (n := 1700) rfl rfl (by unfold rg; omega) (fun w96 w97 => ?_)
            have w98 : -2147483648 ≤ (Xi T8 959 (((Xi S 964 ((i).toNat))).toNat)) ∧ (Xi T8 959 (((Xi S 964 ((i).toNat))).toNat)) ≤ 2147483647 := Xi_rgI
            have a222 : (Xi T8 959 (((Xi S 964 ((i).toNat))).toNat)) = Xi S 959 (pTS S i).toNat := (hFT8.cx 959 rfl _).1
            refine y_aload_n rfl rfl ?_
            refine y_gfr rfl rfl rfl rfl rfl (hHT8.r 904 90 960 rfl) ?_
            refine y_iload rfl rfl ?_
            refine y_ialoadP (n := 1700) rfl rfl (by unfold rg; omega) (fun w99 w100 => ?_)
            have w101 : -2147483648 ≤ (Xi T8 960 (((Xi S 964 ((i).toNat))).toNat)) ∧ (Xi T8 960 (((Xi S 964 ((i).toNat))).toNat)) ≤ 2147483647 := Xi_rgI
            have a229 : (Xi T8 960 (((Xi S 964 ((i).toNat))).toNat)) = Xi S 960 (pTS S i).toNat := (hFT8.cx 960 rfl _).1
            have w104 : Xi T8 904 15 = Xi S 904 15 := (show Xi T8 904 15 = Xi U4 904 15 from w95.x _ _ rfl).trans ( (show Xi U4 904 15 = Xi T3 904 15 from by rw [eU4]; exact Xi_ne (by omega)).trans ( (show Xi T3 904 15 = Xi U2 904 15 from w41.x _ _ rfl).trans ( (show Xi U2 904 15 = Xi U1 904 15 from by rw [eU2]; exact Xi_ne (by omega)).trans ((show Xi U1 904 15 = Xi S 904 15 from by rw [eU1]; exact Xi_ne (by omega))))))
            refine y_callV rfl rfl rfl (t_mo_meant__p hHT8 (Xi T8 959 (((Xi S 964 ((i).toNat))).toNat)) (Xi T8 960 (((Xi S 964 ((i).toNat))).toNat)) ⟨by omega, by omega⟩ ⟨by omega, by omega⟩ (by first | assumption | exact (LSP_FR hFT8 rfl rfl (by assumption : LSP S))) (by first | assumption | omega) (by first | assumption | exact (RBD_FR hFT8 rfl (by assumption : RBD S))) _) ?_
            rintro _ T9 ⟨hHT9, w106, z105, rfl, w105, o230⟩
            have hFT9 : FR md_mo_phraseMeant__2 S T9 := FR.tr hFT8 w106 rfl
            show Pl _ _ _ _ _ _ [iv z105, iv q, .ref 975] _ _
            have F230 := (by assumption : FR md_mo_meant__p T8 T9)
            refine y_iastoreP (n := 2400) rfl rfl (by unfold rg; omega) (fun w107 w108 => ?_)
            obtain ⟨U10, eU10⟩ : ∃ T : sS, T = uI T9 975 ((q).toNat) (Int32.ofInt z105) := ⟨_, rfl⟩
            rw [← eU10]
            have hHU10 : RI U10 := by rw [eU10]; exact RI_w hHT9
            have hFU10 : FR md_mo_phraseMeant__2 S U10 := by rw [eU10]; exact FR.wI hFT9 (mdf_i (r := (975, 976, 0, 100000)) (List.mem_of_getElem? (i := 18) rfl) (inR_i (by omega) (by omega) (by omega) (by omega)))
            have w109 : Xi U10 975 ((q).toNat) = z105 := by rw [eU10]; exact Xi_same (by unfold rg; omega)
            have e233 := eU10
            refine y_goto rfl rfl ?_
            refine y_return rfl rfl ?_
            exact ⟨hHU10, hFU10, rfl, (by first | (have u := G190; exact ⟨_, _, _, _, _, _, 1, by rw [← A26, ← a148, ← a155]; exact o156, by rw [← A26]; exact F156, e159, Or.inr rfl, ⟨fun _ => (by have t := G190; rw [h166] at t; exact t), fun _ => rfl⟩, by rw [← c206]; exact nt207, F207, by rw [← a222, ← a229]; exact o230, F230, e233⟩) | exact ⟨_, _, _, _, _, _, 0, by rw [← A26, ← a148, ← a155]; exact o156, by rw [← A26]; exact F156, e159, Or.inl rfl, ⟨fun w => absurd w (by decide), fun w => absurd w (by have t := G194; rw [h166] at t; exact t)⟩, by rw [← c206]; exact nt207, F207, by rw [← a222, ← a229]; exact o230, F230, e233⟩)⟩
          · refine y_iconst rfl ?_
            have G190 : Xi U4 971 q.toNat = -9 ∨ blR U4 (ktC U4 (Xi U4 971 q.toNat)) 0 ≠ 0 := by first | exact Or.inl (by omega) | exact Or.inr (by rw [← k180, ← f184]; omega)
            refine y_goto rfl rfl ?_
            refine y_iconst rfl ?_
            refine y_aload_n rfl rfl ?_
            refine y_gfr rfl rfl rfl rfl rfl (hHU4.r 904 84 954 rfl) ?_
            refine y_iload rfl rfl ?_
            refine y_ialoadP (n := 1700) rfl rfl (by unfold rg; omega) (fun w113 w114 => ?_)
            have w115 : (Xi U4 954 (((Xi S 964 ((i).toNat))).toNat)) = (Xi U2 954 (((Xi S 964 ((i).toNat))).toNat)) := (show Xi U4 954 (((Xi S 964 ((i).toNat))).toNat) = Xi T3 954 (((Xi S 964 ((i).toNat))).toNat) from by rw [eU4]; exact Xi_ne (by omega)).trans ((show Xi T3 954 (((Xi S 964 ((i).toNat))).toNat) = Xi U2 954 (((Xi S 964 ((i).toNat))).toNat) from w41.x _ _ rfl))
            rw [w115]
            have a202 : (Xi U2 954 (((Xi S 964 ((i).toNat))).toNat)) = Xi S 954 (pTS S i).toNat := (hFU2.cx 954 rfl _).1
            refine y_sipush rfl rfl ?_
            refine y_iremA rfl (by omega) (by unfold rg; omega) (by unfold rg; omega) (fun c116 w116 w116b w116c => ?_)
            have c206 : c116 = Xi S 954 (pTS S i).toNat % 10000 := by omega
            refine y_callV rfl rfl rfl (t_mo_need__p hHU4 1 4 c116 ⟨by omega, by omega⟩ ⟨by omega, by omega⟩ ⟨by omega, by omega⟩ _) ?_
            rintro _ T11 ⟨hHT11, w121, rfl, nt207⟩
            have hFT11 : FR md_mo_phraseMeant__2 S T11 := FR.tr hFU4 w121 rfl
            show Pl _ _ _ _ _ _ [] _ _
            have F207 := (by assumption : FR md_mo_need__p U4 T11)
            refine y_aload_n rfl rfl ?_
            refine y_gfr rfl rfl rfl rfl rfl (hHT11.r 904 124 975 rfl) ?_
            refine y_iload_n rfl rfl ?_
            refine y_aload_n rfl rfl ?_
            refine y_aload_n rfl rfl ?_
            refine y_gfr rfl rfl rfl rfl rfl (hHT11.r 904 89 959 rfl) ?_
            refine y_iload rfl rfl ?_
            refine y_ialoadP (n := 1700) rfl rfl (by unfold rg; omega) (fun w122 w123 => ?_)
            have w124 : -2147483648 ≤ (Xi T11 959 (((Xi S 964 ((i).toNat))).toNat)) ∧ (Xi T11 959 (((Xi S 964 ((i).toNat))).toNat)) ≤ 2147483647 := Xi_rgI
            have a222 : (Xi T11 959 (((Xi S 964 ((i).toNat))).toNat)) = Xi S 959 (pTS S i).toNat := (hFT11.cx 959 rfl _).1
            refine y_aload_n rfl rfl ?_
            refine y_gfr rfl rfl rfl rfl rfl (hHT11.r 904 90 960 rfl) ?_
            refine y_iload rfl rfl ?_
            refine y_ialoadP (n := 1700) rfl rfl (by unfold rg; omega) (fun w125 w126 => ?_)
            have w127 : -2147483648 ≤ (Xi T11 960 (((Xi S 964 ((i).toNat))).toNat)) ∧ (Xi T11 960 (((Xi S 964 ((i).toNat))).toNat)) ≤ 2147483647 := Xi_rgI
            have a229 : (Xi T11 960 (((Xi S 964 ((i).toNat))).toNat)) = Xi S 960 (pTS S i).toNat := (hFT11.cx 960 rfl _).1
            have w130 : Xi T11 904 15 = Xi S 904 15 := (show Xi T11 904 15 = Xi U4 904 15 from w121.x _ _ rfl).trans ( (show Xi U4 904 15 = Xi T3 904 15 from by rw [eU4]; exact Xi_ne (by omega)).trans ( (show Xi T3 904 15 = Xi U2 904 15 from w41.x _ _ rfl).trans ( (show Xi U2 904 15 = Xi U1 904 15 from by rw [eU2]; exact Xi_ne (by omega)).trans ((show Xi U1 904 15 = Xi S 904 15 from by rw [eU1]; exact Xi_ne (by omega))))))
            refine y_callV rfl rfl rfl (t_mo_meant__p hHT11 (Xi T11 959 (((Xi S 964 ((i).toNat))).toNat)) (Xi T11 960 (((Xi S 964 ((i).toNat))).toNat)) ⟨by omega, by omega⟩ ⟨by omega, by omega⟩ (by first | assumption | exact (LSP_FR hFT11 rfl rfl (by assumption : LSP S))) (by first | assumption | omega) (by first | assumption | exact (RBD_FR hFT11 rfl (by assumption : RBD S))) _) ?_
            rintro _ T12 ⟨hHT12, w132, z131, rfl, w131, o230⟩
            have hFT12 : FR md_mo_phraseMeant__2 S T12 := FR.tr hFT11 w132 rfl
            show Pl _ _ _ _ _ _ [iv z131, iv q, .ref 975] _ _
            have F230 := (by assumption : FR md_mo_meant__p T11 T12)
            refine y_iastoreP (n := 2400) rfl rfl (by unfold rg; omega) (fun w133 w134 => ?_)
            obtain ⟨U13, eU13⟩ : ∃ T : sS, T = uI T12 975 ((q).toNat) (Int32.ofInt z131) := ⟨_, rfl⟩
            rw [← eU13]
            have hHU13 : RI U13 := by rw [eU13]; exact RI_w hHT12
            have hFU13 : FR md_mo_phraseMeant__2 S U13 := by rw [eU13]; exact FR.wI hFT12 (mdf_i (r := (975, 976, 0, 100000)) (List.mem_of_getElem? (i := 18) rfl) (inR_i (by omega) (by omega) (by omega) (by omega)))
            have w135 : Xi U13 975 ((q).toNat) = z131 := by rw [eU13]; exact Xi_same (by unfold rg; omega)
            have e233 := eU13
            refine y_goto rfl rfl ?_
            refine y_return rfl rfl ?_
            exact ⟨hHU13, hFU13, rfl, (by first | (have u := G190; exact ⟨_, _, _, _, _, _, 1, by rw [← A26, ← a148, ← a155]; exact o156, by rw [← A26]; exact F156, e159, Or.inr rfl, ⟨fun _ => (by have t := G190; rw [h166] at t; exact t), fun _ => rfl⟩, by rw [← c206]; exact nt207, F207, by rw [← a222, ← a229]; exact o230, F230, e233⟩) | exact ⟨_, _, _, _, _, _, 0, by rw [← A26, ← a148, ← a155]; exact o156, by rw [← A26]; exact F156, e159, Or.inl rfl, ⟨fun w => absurd w (by decide), fun w => absurd w (by have t := G194; rw [h166] at t; exact t)⟩, by rw [← c206]; exact nt207, F207, by rw [← a222, ← a229]; exact o230, F230, e233⟩)⟩
    · exfalso; omega
  · exfalso; omega
def md_mo_phraseMeant__3 : List rec := [(904, 905, 64, 65), (904, 905, 104, 105), (904, 905, 105, 106), (904, 905, 106, 107), (904, 905, 113, 114), (904, 905, 128, 129), (904, 905, 129, 130), (904, 905, 154, 155), (904, 905, 156, 157), (904, 905, 157, 158), (904, 905, 158, 159), (904, 905, 160, 161), (969, 970, 0, 100000), (970, 971, 0, 100000), (971, 972, 0, 100000), (972, 973, 0, 100000), (973, 974, 0, 100000), (974, 975, 0, 100000), (975, 976, 0, 100000), (976, 977, 0, 100000), (977, 978, 0, 100000), (993, 994, 0, 100000), (994, 995, 0, 100000), (1000, 1001, 0, 1)]
abbrev Q_mo_phraseMeant__3 (S : sS) (i : Int) (q : Int) (p : Int) : pst := fun r S1 => RI S1 ∧ FR md_mo_phraseMeant__3 S S1 ∧ (r = none ∧ (PM3 S S1 i q p))
set_option maxRecDepth 100000 in
theorem t_mo_phraseMeant__3 {S : sS} (hH : RI S) (i : Int) (q : Int) (p : Int) (hi : 0 ≤ i ∧ i ≤ 1699) (hq : 0 ≤ q ∧ q ≤ 2399) (hp : 0 ≤ p ∧ p ≤ 1999) (hLS : LSP S) (h15 : 0 ≤ Xi S 904 15) (hRB : RBD S) (hB : ABV S) (hkx : Hid (∀ j : Nat, -1 ≤ Xi S 918 j ∧ Xi S 918 j ≤ 15)) (hit : (-1 ≤ Xi S 904 115 ∧ Xi S 904 115 ≤ 15) ∧ (-1 ≤ Xi S 904 116 ∧ Xi S 904 116 ≤ 15)) (htq : 0 ≤ Xi S 964 i.toNat ∧ Xi S 964 i.toNat ≤ 1699) (hpw : Xi S 963 i.toNat = 3 ∨ Xi S 963 i.toNat = 4) (htd : 0 ≤ Xi S 954 (pTS S i).toNat ∧ Xi S 954 (pTS S i).toNat ≤ 29999) (hpx : Hid (-1 ≤ rnR S (Xi S 956 (pTS S i).toNat) 7 ∧ rnR S (Xi S 956 (pTS S i).toNat) 7 ≤ 11)) (hnum : 0 ≤ Xj S 910 (xPS S i).toNat ∧ Xj S 910 (xPS S i).toNat ≤ 2147483647) (d : Nat) : Mp lay0 (d + 8) m_mo_phraseMeant [.ref 904, iv i, iv q, iv p] S (Q_mo_phraseMeant__3 S i q p) := by
  refine Mp_R rfl rfl (fun fu => ?_)
  have hF : FR md_mo_phraseMeant__3 S S := FR.rf
  have w1 : -2147483648 ≤ Xi S 904 115 ∧ Xi S 904 115 ≤ 2147483647 := Xi_rgI
  have w2 : -2147483648 ≤ Xi S 904 116 ∧ Xi S 904 116 ≤ 2147483647 := Xi_rgI
  have w3 : -2147483648 ≤ Xi S 904 15 ∧ Xi S 904 15 ≤ 2147483647 := Xi_rgI
  refine y_aload_n rfl rfl ?_
  refine y_gfr rfl rfl rfl rfl rfl (hH.r 904 96 964 rfl) ?_
  refine y_iload_n rfl rfl ?_
  refine y_ialoadP (n := 1700) rfl rfl (by unfold rg; omega) (fun w4 w5 => ?_)
  have w6 : -2147483648 ≤ (Xi S 964 ((i).toNat)) ∧ (Xi S 964 ((i).toNat)) ≤ 2147483647 := Xi_rgI
  refine y_istore rfl rfl rfl ?_
  refine y_aload_n rfl rfl ?_
  refine y_gfr rfl rfl rfl rfl rfl (hH.r 904 126 976 rfl) ?_
  refine y_iload_n rfl rfl ?_
  refine y_aload_n rfl rfl ?_
  refine y_gfr rfl rfl rfl rfl rfl (hH.r 904 95 963 rfl) ?_
  refine y_iload_n rfl rfl ?_
  refine y_ialoadP (n := 1700) rfl rfl (by unfold rg; omega) (fun w7 w8 => ?_)
  have w9 : -2147483648 ≤ (Xi S 963 ((i).toNat)) ∧ (Xi S 963 ((i).toNat)) ≤ 2147483647 := Xi_rgI
  refine y_iastoreP (n := 2000) rfl rfl (by unfold rg; omega) (fun w10 w11 => ?_)
  obtain ⟨U1, eU1⟩ : ∃ T : sS, T = uI S 976 ((p).toNat) (Int32.ofInt (Xi S 963 ((i).toNat))) := ⟨_, rfl⟩
  rw [← eU1]
  have hHU1 : RI U1 := by rw [eU1]; exact RI_w hH
  have hFU1 : FR md_mo_phraseMeant__3 S U1 := by rw [eU1]; exact FR.wI hF (mdf_i (r := (976, 977, 0, 100000)) (List.mem_of_getElem? (i := 19) rfl) (inR_i (by omega) (by omega) (by omega) (by omega)))
  have w12 : Xi U1 976 ((p).toNat) = (Xi S 963 ((i).toNat)) := by rw [eU1]; exact Xi_same (by unfold rg; omega)
  have e19 := eU1
  refine y_aload_n rfl rfl ?_
  refine y_gfr rfl rfl rfl rfl rfl (hHU1.r 904 127 977 rfl) ?_
  refine y_iload_n rfl rfl ?_
  refine y_iload_n rfl rfl ?_
  refine y_iastoreP (n := 2000) rfl rfl (by unfold rg; omega) (fun w13 w14 => ?_)
  obtain ⟨U2, eU2⟩ : ∃ T : sS, T = uI U1 977 ((p).toNat) (Int32.ofInt q) := ⟨_, rfl⟩
  rw [← eU2]
  have hHU2 : RI U2 := by rw [eU2]; exact RI_w hHU1
  have hFU2 : FR md_mo_phraseMeant__3 S U2 := by rw [eU2]; exact FR.wI hFU1 (mdf_i (r := (977, 978, 0, 100000)) (List.mem_of_getElem? (i := 20) rfl) (inR_i (by omega) (by omega) (by omega) (by omega)))
  have w15 : Xi U2 977 ((p).toNat) = q := by rw [eU2]; exact Xi_same (by unfold rg; omega)
  have e26 := eU2
  have A26 : U2 = phA S i q p := phA_of e19 rfl e26
  have w26 : Xi U2 963 i.toNat = Xi S 963 i.toNat := (hFU2.cx 963 rfl _).1
  refine y_aload_n rfl rfl ?_
  refine y_gfr rfl rfl rfl rfl rfl (hHU2.r 904 95 963 rfl) ?_
  refine y_iload_n rfl rfl ?_
  refine y_ialoadP (n := 1700) rfl rfl (by unfold rg; omega) (fun w16 w17 => ?_)
  have w18 : (Xi U2 963 ((i).toNat)) = (Xi S 963 ((i).toNat)) := (show Xi U2 963 ((i).toNat) = Xi U1 963 ((i).toNat) from by rw [eU2]; exact Xi_ne (by omega)).trans ((show Xi U1 963 ((i).toNat) = Xi S 963 ((i).toNat) from by rw [eU1]; exact Xi_ne (by omega)))
  rw [w18]
  refine y_if_ne rfl rfl (by unfold rg; omega) (fun w19 => ?_) (fun w20 => ?_)
  · refine y_aload_n rfl rfl ?_
    refine y_gfr rfl rfl rfl rfl rfl (hHU2.r 904 95 963 rfl) ?_
    refine y_iload_n rfl rfl ?_
    refine y_ialoadP (n := 1700) rfl rfl (by unfold rg; omega) (fun w21 w22 => ?_)
    have w23 : (Xi U2 963 ((i).toNat)) = (Xi S 963 ((i).toNat)) := (show Xi U2 963 ((i).toNat) = Xi U1 963 ((i).toNat) from by rw [eU2]; exact Xi_ne (by omega)).trans ((show Xi U1 963 ((i).toNat) = Xi S 963 ((i).toNat) from by rw [eU1]; exact Xi_ne (by omega)))
    rw [w23]
    refine y_iconst rfl ?_
    refine y_icmp_ne rfl rfl (by unfold rg; omega) (by unfold rg; omega) (fun w24 => ?_) (fun w25 => ?_)
    · refine y_aload_n rfl rfl ?_
      refine y_gfr rfl rfl rfl rfl rfl (hHU2.r 904 95 963 rfl) ?_
      refine y_iload_n rfl rfl ?_
      refine y_ialoadP (n := 1700) rfl rfl (by unfold rg; omega) (fun w26 w27 => ?_)
      have w28 : (Xi U2 963 ((i).toNat)) = (Xi S 963 ((i).toNat)) := (show Xi U2 963 ((i).toNat) = Xi U1 963 ((i).toNat) from by rw [eU2]; exact Xi_ne (by omega)).trans ((show Xi U1 963 ((i).toNat) = Xi S 963 ((i).toNat) from by rw [eU1]; exact Xi_ne (by omega)))
      rw [w28]
      refine y_iconst rfl ?_
      refine y_icmp_ne rfl rfl (by unfold rg; omega) (by unfold rg; omega) (fun w29 => ?_) (fun w30 => ?_)
      · refine y_aload_n rfl rfl ?_
        refine y_gfr rfl rfl rfl rfl rfl (hHU2.r 904 95 963 rfl) ?_
        refine y_iload_n rfl rfl ?_
        refine y_ialoadP (n := 1700) rfl rfl (by unfold rg; omega) (fun w31 w32 => ?_)
        have w33 : (Xi U2 963 ((i).toNat)) = (Xi S 963 ((i).toNat)) := (show Xi U2 963 ((i).toNat) = Xi U1 963 ((i).toNat) from by rw [eU2]; exact Xi_ne (by omega)).trans ((show Xi U1 963 ((i).toNat) = Xi S 963 ((i).toNat) from by rw [eU1]; exact Xi_ne (by omega)))
        rw [w33]
        refine y_iconst rfl ?_
        refine y_icmp_eq rfl rfl (by unfold rg; omega) (by unfold rg; omega) (fun w34 => ?_) (fun w35 => ?_)
        · refine y_aload_n rfl rfl ?_
          refine y_gfr rfl rfl rfl rfl rfl (hHU2.r 904 120 971 rfl) ?_
          refine y_iload_n rfl rfl ?_
          refine y_aload_n rfl rfl ?_
          refine y_aload_n rfl rfl ?_
          refine y_gfr rfl rfl rfl rfl rfl (hHU2.r 904 84 954 rfl) ?_
          refine y_iload rfl rfl ?_
          refine y_ialoadP (n := 1700) rfl rfl (by unfold rg; omega) (fun w36 w37 => ?_)
          have w38 : -2147483648 ≤ (Xi U2 954 (((Xi S 964 ((i).toNat))).toNat)) ∧ (Xi U2 954 (((Xi S 964 ((i).toNat))).toNat)) ≤ 2147483647 := Xi_rgI
          have a269 : (Xi U2 954 (((Xi S 964 ((i).toNat))).toNat)) = Xi S 954 (pTS S i).toNat := (hFU2.cx 954 rfl _).1
          refine y_aload_n rfl rfl ?_
          refine y_gfr rfl rfl rfl rfl rfl (hHU2.r 904 85 955 rfl) ?_
          refine y_iload rfl rfl ?_
          refine y_ialoadP (n := 1700) rfl rfl (by unfold rg; omega) (fun w39 w40 => ?_)
          have w41 : -2147483648 ≤ (Xi U2 955 (((Xi S 964 ((i).toNat))).toNat)) ∧ (Xi U2 955 (((Xi S 964 ((i).toNat))).toNat)) ≤ 2147483647 := Xi_rgI
          have a276 : (Xi U2 955 (((Xi S 964 ((i).toNat))).toNat)) = Xi S 955 (pTS S i).toNat := (hFU2.cx 955 rfl _).1
          have w44 : Xi U2 904 15 = Xi S 904 15 := (show Xi U2 904 15 = Xi U1 904 15 from by rw [eU2]; exact Xi_ne (by omega)).trans ((show Xi U1 904 15 = Xi S 904 15 from by rw [eU1]; exact Xi_ne (by omega)))
          refine y_callV rfl rfl rfl (t_mo_meant__p hHU2 (Xi U2 954 (((Xi S 964 ((i).toNat))).toNat)) (Xi U2 955 (((Xi S 964 ((i).toNat))).toNat)) ⟨by omega, by omega⟩ ⟨by omega, by omega⟩ (by first | assumption | exact (LSP_FR hFU2 rfl rfl (by assumption : LSP S))) (by first | assumption | omega) (by first | assumption | exact (RBD_FR hFU2 rfl (by assumption : RBD S))) _) ?_
          rintro _ T3 ⟨hHT3, w46, z45, rfl, w45, o277⟩
          have hFT3 : FR md_mo_phraseMeant__3 S T3 := FR.tr hFU2 w46 rfl
          show Pl _ _ _ _ _ _ [iv z45, iv q, .ref 971] _ _
          have F277 := (by assumption : FR md_mo_meant__p U2 T3)
          refine y_iastoreP (n := 2400) rfl rfl (by unfold rg; omega) (fun w47 w48 => ?_)
          obtain ⟨U4, eU4⟩ : ∃ T : sS, T = uI T3 971 ((q).toNat) (Int32.ofInt z45) := ⟨_, rfl⟩
          rw [← eU4]
          have hHU4 : RI U4 := by rw [eU4]; exact RI_w hHT3
          have hFU4 : FR md_mo_phraseMeant__3 S U4 := by rw [eU4]; exact FR.wI hFT3 (mdf_i (r := (971, 972, 0, 100000)) (List.mem_of_getElem? (i := 14) rfl) (inR_i (by omega) (by omega) (by omega) (by omega)))
          have w49 : Xi U4 971 ((q).toNat) = z45 := by rw [eU4]; exact Xi_same (by unfold rg; omega)
          have e280 := eU4
          refine y_aload_n rfl rfl ?_
          refine y_gfr rfl rfl rfl rfl rfl (hHU4.r 904 121 972 rfl) ?_
          refine y_iload_n rfl rfl ?_
          refine y_aload_n rfl rfl ?_
          refine y_aload_n rfl rfl ?_
          refine y_gfr rfl rfl rfl rfl rfl (hHU4.r 904 86 956 rfl) ?_
          refine y_iload rfl rfl ?_
          refine y_ialoadP (n := 1700) rfl rfl (by unfold rg; omega) (fun w50 w51 => ?_)
          have w52 : -2147483648 ≤ (Xi U4 956 (((Xi S 964 ((i).toNat))).toNat)) ∧ (Xi U4 956 (((Xi S 964 ((i).toNat))).toNat)) ≤ 2147483647 := Xi_rgI
          have a293 : (Xi U4 956 (((Xi S 964 ((i).toNat))).toNat)) = Xi S 956 (pTS S i).toNat := (hFU4.cx 956 rfl _).1
          refine y_aload_n rfl rfl ?_
          refine y_gfr rfl rfl rfl rfl rfl (hHU4.r 904 120 971 rfl) ?_
          refine y_iload_n rfl rfl ?_
          refine y_ialoadP (n := 2400) rfl rfl (by unfold rg; omega) (fun w53 w54 => ?_)
          have h299 := xi_of e280 (by unfold rg; omega)
          have w55 : Xi U4 904 115 = Xi S 904 115 := (show Xi U4 904 115 = Xi T3 904 115 from by rw [eU4]; exact Xi_ne (by omega)).trans ( (show Xi T3 904 115 = Xi U2 904 115 from w46.x _ _ rfl).trans ( (show Xi U2 904 115 = Xi U1 904 115 from by rw [eU2]; exact Xi_ne (by omega)).trans ((show Xi U1 904 115 = Xi S 904 115 from by rw [eU1]; exact Xi_ne (by omega)))))
          have w56 : Xi U4 904 116 = Xi S 904 116 := (show Xi U4 904 116 = Xi T3 904 116 from by rw [eU4]; exact Xi_ne (by omega)).trans ( (show Xi T3 904 116 = Xi U2 904 116 from w46.x _ _ rfl).trans ( (show Xi U2 904 116 = Xi U1 904 116 from by rw [eU2]; exact Xi_ne (by omega)).trans ((show Xi U1 904 116 = Xi S 904 116 from by rw [eU1]; exact Xi_ne (by omega)))))
          have w57 : Xi U4 904 15 = Xi S 904 15 := (show Xi U4 904 15 = Xi T3 904 15 from by rw [eU4]; exact Xi_ne (by omega)).trans ( (show Xi T3 904 15 = Xi U2 904 15 from w46.x _ _ rfl).trans ( (show Xi U2 904 15 = Xi U1 904 15 from by rw [eU2]; exact Xi_ne (by omega)).trans ((show Xi U1 904 15 = Xi S 904 15 from by rw [eU1]; exact Xi_ne (by omega)))))
          refine y_callV rfl rfl rfl (t_mo_propertyMeant__p hHU4 (Xi U4 956 (((Xi S 964 ((i).toNat))).toNat)) (Xi U4 971 ((q).toNat)) ⟨by omega, by omega⟩ ⟨by omega, by omega⟩ (by first | assumption | exact (LSP_FR hFU4 rfl rfl (by assumption : LSP S))) (by first | assumption | omega) (by first | assumption | exact (RBD_FR hFU4 rfl (by assumption : RBD S))) (by first | assumption | exact (ABV_FR hFU4 rfl (by assumption : ABV S))) (fun j => by rw [(hFU4.cx 918 rfl _).1]; exact hkx.o j) (by first | assumption | omega) (by rw [a293, rnR_sm (SMR_FR hFU4 rfl rfl)]; exact hpx.o) _) ?_
          rintro _ T5 ⟨hHT5, w59, z58, rfl, w58, o300⟩
          have hFT5 : FR md_mo_phraseMeant__3 S T5 := FR.tr hFU4 w59 rfl
          show Pl _ _ _ _ _ _ [iv z58, iv q, .ref 972] _ _
          have F300 := (by assumption : FR md_mo_propertyMeant__p U4 T5)
          refine y_iastoreP (n := 2400) rfl rfl (by unfold rg; omega) (fun w60 w61 => ?_)
          obtain ⟨U6, eU6⟩ : ∃ T : sS, T = uI T5 972 ((q).toNat) (Int32.ofInt z58) := ⟨_, rfl⟩
          rw [← eU6]
          have hHU6 : RI U6 := by rw [eU6]; exact RI_w hHT5
          have hFU6 : FR md_mo_phraseMeant__3 S U6 := by rw [eU6]; exact FR.wI hFT5 (mdf_i (r := (972, 973, 0, 100000)) (List.mem_of_getElem? (i := 15) rfl) (inR_i (by omega) (by omega) (by omega) (by omega)))
          have w62 : Xi U6 972 ((q).toNat) = z58 := by rw [eU6]; exact Xi_same (by unfold rg; omega)
          have e303 := eU6
          refine y_aload_n rfl rfl ?_
          refine y_aload_n rfl rfl ?_
          refine y_gfr rfl rfl rfl rfl rfl (hHU6.r 904 86 956 rfl) ?_
          refine y_iload rfl rfl ?_
          refine y_ialoadP (n := 1700) rfl rfl (by unfold rg; omega) (fun w63 w64 => ?_)
          have w65 : (Xi U6 956 (((Xi S 964 ((i).toNat))).toNat)) = (Xi U4 956 (((Xi S 964 ((i).toNat))).toNat)) := (show Xi U6 956 (((Xi S 964 ((i).toNat))).toNat) = Xi T5 956 (((Xi S 964 ((i).toNat))).toNat) from by rw [eU6]; exact Xi_ne (by omega)).trans ((show Xi T5 956 (((Xi S 964 ((i).toNat))).toNat) = Xi U4 956 (((Xi S 964 ((i).toNat))).toNat) from w59.x _ _ rfl))
          rw [w65]
          have a311 : (Xi U4 956 (((Xi S 964 ((i).toNat))).toNat)) = Xi S 956 (pTS S i).toNat := (hFU4.cx 956 rfl _).1
          have w68 : Xi U6 904 15 = Xi S 904 15 := (show Xi U6 904 15 = Xi T5 904 15 from by rw [eU6]; exact Xi_ne (by omega)).trans ( (show Xi T5 904 15 = Xi U4 904 15 from w59.x _ _ rfl).trans ( (show Xi U4 904 15 = Xi T3 904 15 from by rw [eU4]; exact Xi_ne (by omega)).trans ( (show Xi T3 904 15 = Xi U2 904 15 from w46.x _ _ rfl).trans ( (show Xi U2 904 15 = Xi U1 904 15 from by rw [eU2]; exact Xi_ne (by omega)).trans ((show Xi U1 904 15 = Xi S 904 15 from by rw [eU1]; exact Xi_ne (by omega)))))))
          refine y_callV rfl rfl rfl (t_mo_numberMeant__p hHU6 (Xi U4 956 (((Xi S 964 ((i).toNat))).toNat)) ⟨by omega, by omega⟩ (by first | assumption | exact (LSP_FR hFU6 rfl rfl (by assumption : LSP S))) (by first | assumption | omega) (by first | assumption | exact (RBD_FR hFU6 rfl (by assumption : RBD S))) _) ?_
          rintro _ T7 ⟨hHT7, w70, rfl, o312⟩
          have hFT7 : FR md_mo_phraseMeant__3 S T7 := FR.tr hFU6 w70 rfl
          show Pl _ _ _ _ _ _ [] _ _
          have F312 := (by assumption : FR md_mo_numberMeant__p U6 T7)
          refine y_aload_n rfl rfl ?_
          refine y_gfr rfl rfl rfl rfl rfl (hHT7.r 904 122 973 rfl) ?_
          refine y_iload_n rfl rfl ?_
          refine y_aload_n rfl rfl ?_
          refine y_gfr rfl rfl rfl rfl rfl (hHT7.r 904 7 910 rfl) ?_
          refine y_aload_n rfl rfl ?_
          refine y_gfr rfl rfl rfl rfl rfl (hHT7.r 904 87 957 rfl) ?_
          refine y_iload rfl rfl ?_
          refine y_ialoadP (n := 1700) rfl rfl (by unfold rg; omega) (fun w71 w72 => ?_)
          have w73 : -2147483648 ≤ (Xi T7 957 (((Xi S 964 ((i).toNat))).toNat)) ∧ (Xi T7 957 (((Xi S 964 ((i).toNat))).toNat)) ≤ 2147483647 := Xi_rgI
          have x330 : (Xi T7 957 (((Xi S 964 ((i).toNat))).toNat)) = xPS S i := (hFT7.cx 957 rfl _).1
          refine y_laloadP (n := 5002) rfl rfl (by unfold rg; omega) (fun w74 w75 => ?_)
          have w76 : -9223372036854775808 ≤ (Xj T7 910 (((Xi T7 957 (((Xi S 964 ((i).toNat))).toNat))).toNat)) ∧ (Xj T7 910 (((Xi T7 957 (((Xi S 964 ((i).toNat))).toNat))).toNat)) < 9223372036854775808 := Xj_rg
          have j331 : (Xj T7 910 (((Xi T7 957 (((Xi S 964 ((i).toNat))).toNat))).toNat)) = Xj S 910 (xPS S i).toNat := by rw [(hFT7.cx 910 rfl _).2, x330]
          refine y_l2i rfl (fun c77 w77r w77 => ?_)
          unfold rg rgL at *
          have v332 : c77 = Xj S 910 (xPS S i).toNat := by omega
          refine y_iastoreP (n := 2400) rfl rfl (by unfold rg; omega) (fun w78 w79 => ?_)
          obtain ⟨U8, eU8⟩ : ∃ T : sS, T = uI T7 973 ((q).toNat) (Int32.ofInt c77) := ⟨_, rfl⟩
          rw [← eU8]
          have hHU8 : RI U8 := by rw [eU8]; exact RI_w hHT7
          have hFU8 : FR md_mo_phraseMeant__3 S U8 := by rw [eU8]; exact FR.wI hFT7 (mdf_i (r := (973, 974, 0, 100000)) (List.mem_of_getElem? (i := 16) rfl) (inR_i (by omega) (by omega) (by omega) (by omega)))
          have w80 : Xi U8 973 ((q).toNat) = c77 := by rw [eU8]; exact Xi_same (by unfold rg; omega)
          have e333 := eU8
          refine y_goto rfl rfl ?_
          refine y_return rfl rfl ?_
          exact ⟨hHU8, hFU8, rfl, (⟨_, _, _, _, _, _, _, by rw [← A26, ← a269, ← a276]; exact o277, by rw [← A26]; exact F277, e280, by rw [← a293, ← h299]; exact o300, F300, e303, by rw [← a311]; exact o312, F312, by rw [← v332]; exact e333⟩)⟩
        · refine y_aload_n rfl rfl ?_
          refine y_gfr rfl rfl rfl rfl rfl (hHU2.r 904 95 963 rfl) ?_
          refine y_iload_n rfl rfl ?_
          refine y_ialoadP (n := 1700) rfl rfl (by unfold rg; omega) (fun w84 w85 => ?_)
          have w86 : (Xi U2 963 ((i).toNat)) = (Xi S 963 ((i).toNat)) := (show Xi U2 963 ((i).toNat) = Xi U1 963 ((i).toNat) from by rw [eU2]; exact Xi_ne (by omega)).trans ((show Xi U1 963 ((i).toNat) = Xi S 963 ((i).toNat) from by rw [eU1]; exact Xi_ne (by omega)))
          rw [w86]
          refine y_iconst rfl ?_
          refine y_icmp_ne rfl rfl (by unfold rg; omega) (by unfold rg; omega) (fun w87 => ?_) (fun w88 => ?_)
          · exfalso; omega
          · refine y_aload_n rfl rfl ?_
            refine y_gfr rfl rfl rfl rfl rfl (hHU2.r 904 120 971 rfl) ?_
            refine y_iload_n rfl rfl ?_
            refine y_aload_n rfl rfl ?_
            refine y_aload_n rfl rfl ?_
            refine y_gfr rfl rfl rfl rfl rfl (hHU2.r 904 84 954 rfl) ?_
            refine y_iload rfl rfl ?_
            refine y_ialoadP (n := 1700) rfl rfl (by unfold rg; omega) (fun w89 w90 => ?_)
            have w91 : -2147483648 ≤ (Xi U2 954 (((Xi S 964 ((i).toNat))).toNat)) ∧ (Xi U2 954 (((Xi S 964 ((i).toNat))).toNat)) ≤ 2147483647 := Xi_rgI
            have a269 : (Xi U2 954 (((Xi S 964 ((i).toNat))).toNat)) = Xi S 954 (pTS S i).toNat := (hFU2.cx 954 rfl _).1
            refine y_aload_n rfl rfl ?_
            refine y_gfr rfl rfl rfl rfl rfl (hHU2.r 904 85 955 rfl) ?_
            refine y_iload rfl rfl ?_
            refine y_ialoadP (n := 1700) rfl rfl (by unfold rg; omega) (fun w92 w93 => ?_)
            have w94 : -2147483648 ≤ (Xi U2 955 (((Xi S 964 ((i).toNat))).toNat)) ∧ (Xi U2 955 (((Xi S 964 ((i).toNat))).toNat)) ≤ 2147483647 := Xi_rgI
            have a276 : (Xi U2 955 (((Xi S 964 ((i).toNat))).toNat)) = Xi S 955 (pTS S i).toNat := (hFU2.cx 955 rfl _).1
            have w97 : Xi U2 904 15 = Xi S 904 15 := (show Xi U2 904 15 = Xi U1 904 15 from by rw [eU2]; exact Xi_ne (by omega)).trans ((show Xi U1 904 15 = Xi S 904 15 from by rw [eU1]; exact Xi_ne (by omega)))
            refine y_callV rfl rfl rfl (t_mo_meant__p hHU2 (Xi U2 954 (((Xi S 964 ((i).toNat))).toNat)) (Xi U2 955 (((Xi S 964 ((i).toNat))).toNat)) ⟨by omega, by omega⟩ ⟨by omega, by omega⟩ (by first | assumption | exact (LSP_FR hFU2 rfl rfl (by assumption : LSP S))) (by first | assumption | omega) (by first | assumption | exact (RBD_FR hFU2 rfl (by assumption : RBD S))) _) ?_
            rintro _ T9 ⟨hHT9, w99, z98, rfl, w98, o277⟩
            have hFT9 : FR md_mo_phraseMeant__3 S T9 := FR.tr hFU2 w99 rfl
            show Pl _ _ _ _ _ _ [iv z98, iv q, .ref 971] _ _
            have F277 := (by assumption : FR md_mo_meant__p U2 T9)
            refine y_iastoreP (n := 2400) rfl rfl (by unfold rg; omega) (fun w100 w101 => ?_)
            obtain ⟨U10, eU10⟩ : ∃ T : sS, T = uI T9 971 ((q).toNat) (Int32.ofInt z98) := ⟨_, rfl⟩
            rw [← eU10]
            have hHU10 : RI U10 := by rw [eU10]; exact RI_w hHT9
            have hFU10 : FR md_mo_phraseMeant__3 S U10 := by rw [eU10]; exact FR.wI hFT9 (mdf_i (r := (971, 972, 0, 100000)) (List.mem_of_getElem? (i := 14) rfl) (inR_i (by omega) (by omega) (by omega) (by omega)))
            have w102 : Xi U10 971 ((q).toNat) = z98 := by rw [eU10]; exact Xi_same (by unfold rg; omega)
            have e280 := eU10
            refine y_aload_n rfl rfl ?_
            refine y_gfr rfl rfl rfl rfl rfl (hHU10.r 904 121 972 rfl) ?_
            refine y_iload_n rfl rfl ?_
            refine y_aload_n rfl rfl ?_
            refine y_aload_n rfl rfl ?_
            refine y_gfr rfl rfl rfl rfl rfl (hHU10.r 904 86 956 rfl) ?_
            refine y_iload rfl rfl ?_
            refine y_ialoadP (n := 1700) rfl rfl (by unfold rg; omega) (fun w103 w104 => ?_)
            have w105 : -2147483648 ≤ (Xi U10 956 (((Xi S 964 ((i).toNat))).toNat)) ∧ (Xi U10 956 (((Xi S 964 ((i).toNat))).toNat)) ≤ 2147483647 := Xi_rgI
            have a293 : (Xi U10 956 (((Xi S 964 ((i).toNat))).toNat)) = Xi S 956 (pTS S i).toNat := (hFU10.cx 956 rfl _).1
            refine y_aload_n rfl rfl ?_
            refine y_gfr rfl rfl rfl rfl rfl (hHU10.r 904 120 971 rfl) ?_
            refine y_iload_n rfl rfl ?_
            refine y_ialoadP (n := 2400) rfl rfl (by unfold rg; omega) (fun w106 w107 => ?_)
            have h299 := xi_of e280 (by unfold rg; omega)
            have w108 : Xi U10 904 115 = Xi S 904 115 := (show Xi U10 904 115 = Xi T9 904 115 from by rw [eU10]; exact Xi_ne (by omega)).trans ( (show Xi T9 904 115 = Xi U2 904 115 from w99.x _ _ rfl).trans ( (show Xi U2 904 115 = Xi U1 904 115 from by rw [eU2]; exact Xi_ne (by omega)).trans ((show Xi U1 904 115 = Xi S 904 115 from by rw [eU1]; exact Xi_ne (by omega)))))
            have w109 : Xi U10 904 116 = Xi S 904 116 := (show Xi U10 904 116 = Xi T9 904 116 from by rw [eU10]; exact Xi_ne (by omega)).trans ( (show Xi T9 904 116 = Xi U2 904 116 from w99.x _ _ rfl).trans ( (show Xi U2 904 116 = Xi U1 904 116 from by rw [eU2]; exact Xi_ne (by omega)).trans ((show Xi U1 904 116 = Xi S 904 116 from by rw [eU1]; exact Xi_ne (by omega)))))
            have w110 : Xi U10 904 15 = Xi S 904 15 := (show Xi U10 904 15 = Xi T9 904 15 from by rw [eU10]; exact Xi_ne (by omega)).trans ( (show Xi T9 904 15 = Xi U2 904 15 from w99.x _ _ rfl).trans ( (show Xi U2 904 15 = Xi U1 904 15 from by rw [eU2]; exact Xi_ne (by omega)).trans ((show Xi U1 904 15 = Xi S 904 15 from by rw [eU1]; exact Xi_ne (by omega)))))
            refine y_callV rfl rfl rfl (t_mo_propertyMeant__p hHU10 (Xi U10 956 (((Xi S 964 ((i).toNat))).toNat)) (Xi U10 971 ((q).toNat)) ⟨by omega, by omega⟩ ⟨by omega, by omega⟩ (by first | assumption | exact (LSP_FR hFU10 rfl rfl (by assumption : LSP S))) (by first | assumption | omega) (by first | assumption | exact (RBD_FR hFU10 rfl (by assumption : RBD S))) (by first | assumption | exact (ABV_FR hFU10 rfl (by assumption : ABV S))) (fun j => by rw [(hFU10.cx 918 rfl _).1]; exact hkx.o j) (by first | assumption | omega) (by rw [a293, rnR_sm (SMR_FR hFU10 rfl rfl)]; exact hpx.o) _) ?_
            rintro _ T11 ⟨hHT11, w112, z111, rfl, w111, o300⟩
            have hFT11 : FR md_mo_phraseMeant__3 S T11 := FR.tr hFU10 w112 rfl
            show Pl _ _ _ _ _ _ [iv z111, iv q, .ref 972] _ _
            have F300 := (by assumption : FR md_mo_propertyMeant__p U10 T11)
            refine y_iastoreP (n := 2400) rfl rfl (by unfold rg; omega) (fun w113 w114 => ?_)
            obtain ⟨U12, eU12⟩ : ∃ T : sS, T = uI T11 972 ((q).toNat) (Int32.ofInt z111) := ⟨_, rfl⟩
            rw [← eU12]
            have hHU12 : RI U12 := by rw [eU12]; exact RI_w hHT11
            have hFU12 : FR md_mo_phraseMeant__3 S U12 := by rw [eU12]; exact FR.wI hFT11 (mdf_i (r := (972, 973, 0, 100000)) (List.mem_of_getElem? (i := 15) rfl) (inR_i (by omega) (by omega) (by omega) (by omega)))
            have w115 : Xi U12 972 ((q).toNat) = z111 := by rw [eU12]; exact Xi_same (by unfold rg; omega)
            have e303 := eU12
            refine y_aload_n rfl rfl ?_
            refine y_aload_n rfl rfl ?_
            refine y_gfr rfl rfl rfl rfl rfl (hHU12.r 904 86 956 rfl) ?_
            refine y_iload rfl rfl ?_
            refine y_ialoadP (n := 1700) rfl rfl (by unfold rg; omega) (fun w116 w117 => ?_)
            have w118 : (Xi U12 956 (((Xi S 964 ((i).toNat))).toNat)) = (Xi U10 956 (((Xi S 964 ((i).toNat))).toNat)) := (show Xi U12 956 (((Xi S 964 ((i).toNat))).toNat) = Xi T11 956 (((Xi S 964 ((i).toNat))).toNat) from by rw [eU12]; exact Xi_ne (by omega)).trans ((show Xi T11 956 (((Xi S 964 ((i).toNat))).toNat) = Xi U10 956 (((Xi S 964 ((i).toNat))).toNat) from w112.x _ _ rfl))
            rw [w118]
            have a311 : (Xi U10 956 (((Xi S 964 ((i).toNat))).toNat)) = Xi S 956 (pTS S i).toNat := (hFU10.cx 956 rfl _).1
            have w121 : Xi U12 904 15 = Xi S 904 15 := (show Xi U12 904 15 = Xi T11 904 15 from by rw [eU12]; exact Xi_ne (by omega)).trans ( (show Xi T11 904 15 = Xi U10 904 15 from w112.x _ _ rfl).trans ( (show Xi U10 904 15 = Xi T9 904 15 from by rw [eU10]; exact Xi_ne (by omega)).trans ( (show Xi T9 904 15 = Xi U2 904 15 from w99.x _ _ rfl).trans ( (show Xi U2 904 15 = Xi U1 904 15 from by rw [eU2]; exact Xi_ne (by omega)).trans ((show Xi U1 904 15 = Xi S 904 15 from by rw [eU1]; exact Xi_ne (by omega)))))))
            refine y_callV rfl rfl rfl (t_mo_numberMeant__p hHU12 (Xi U10 956 (((Xi S 964 ((i).toNat))).toNat)) ⟨by omega, by omega⟩ (by first | assumption | exact (LSP_FR hFU12 rfl rfl (by assumption : LSP S))) (by first | assumption | omega) (by first | assumption | exact (RBD_FR hFU12 rfl (by assumption : RBD S))) _) ?_
            rintro _ T13 ⟨hHT13, w123, rfl, o312⟩
            have hFT13 : FR md_mo_phraseMeant__3 S T13 := FR.tr hFU12 w123 rfl
            show Pl _ _ _ _ _ _ [] _ _
            have F312 := (by assumption : FR md_mo_numberMeant__p U12 T13)
            refine y_aload_n rfl rfl ?_
            refine y_gfr rfl rfl rfl rfl rfl (hHT13.r 904 122 973 rfl) ?_
            refine y_iload_n rfl rfl ?_
            refine y_aload_n rfl rfl ?_
            refine y_gfr rfl rfl rfl rfl rfl (hHT13.r 904 7 910 rfl) ?_
            refine y_aload_n rfl rfl ?_
            refine y_gfr rfl rfl rfl rfl rfl (hHT13.r 904 87 957 rfl) ?_
            refine y_iload rfl rfl ?_
            refine y_ialoadP (n := 1700) rfl rfl (by unfold rg; omega) (fun w124 w125 => ?_)
            have w126 : -2147483648 ≤ (Xi T13 957 (((Xi S 964 ((i).toNat))).toNat)) ∧ (Xi T13 957 (((Xi S 964 ((i).toNat))).toNat)) ≤ 2147483647 := Xi_rgI
            have x330 : (Xi T13 957 (((Xi S 964 ((i).toNat))).toNat)) = xPS S i := (hFT13.cx 957 rfl _).1
            refine y_laloadP (n := 5002) rfl rfl (by unfold rg; omega) (fun w127 w128 => ?_)
            have w129 : -9223372036854775808 ≤ (Xj T13 910 (((Xi T13 957 (((Xi S 964 ((i).toNat))).toNat))).toNat)) ∧ (Xj T13 910 (((Xi T13 957 (((Xi S 964 ((i).toNat))).toNat))).toNat)) < 9223372036854775808 := Xj_rg
            have j331 : (Xj T13 910 (((Xi T13 957 (((Xi S 964 ((i).toNat))).toNat))).toNat)) = Xj S 910 (xPS S i).toNat := by rw [(hFT13.cx 910 rfl _).2, x330]
            refine y_l2i rfl (fun c130 w130r w130 => ?_)
            unfold rg rgL at *
            have v332 : c130 = Xj S 910 (xPS S i).toNat := by omega
            refine y_iastoreP (n := 2400) rfl rfl (by unfold rg; omega) (fun w131 w132 => ?_)
            obtain ⟨U14, eU14⟩ : ∃ T : sS, T = uI T13 973 ((q).toNat) (Int32.ofInt c130) := ⟨_, rfl⟩
            rw [← eU14]
            have hHU14 : RI U14 := by rw [eU14]; exact RI_w hHT13
            have hFU14 : FR md_mo_phraseMeant__3 S U14 := by rw [eU14]; exact FR.wI hFT13 (mdf_i (r := (973, 974, 0, 100000)) (List.mem_of_getElem? (i := 16) rfl) (inR_i (by omega) (by omega) (by omega) (by omega)))
            have w133 : Xi U14 973 ((q).toNat) = c130 := by rw [eU14]; exact Xi_same (by unfold rg; omega)
            have e333 := eU14
            refine y_goto rfl rfl ?_
            refine y_return rfl rfl ?_
            exact ⟨hHU14, hFU14, rfl, (⟨_, _, _, _, _, _, _, by rw [← A26, ← a269, ← a276]; exact o277, by rw [← A26]; exact F277, e280, by rw [← a293, ← h299]; exact o300, F300, e303, by rw [← a311]; exact o312, F312, by rw [← v332]; exact e333⟩)⟩
      · exfalso; omega
    · exfalso; omega
  · exfalso; omega
def md_mo_phraseMeant__5 : List rec := [(904, 905, 64, 65), (904, 905, 104, 105), (904, 905, 105, 106), (904, 905, 106, 107), (904, 905, 113, 114), (904, 905, 128, 129), (904, 905, 129, 130), (904, 905, 154, 155), (904, 905, 156, 157), (904, 905, 157, 158), (904, 905, 158, 159), (904, 905, 160, 161), (969, 970, 0, 100000), (970, 971, 0, 100000), (971, 972, 0, 100000), (972, 973, 0, 100000), (973, 974, 0, 100000), (974, 975, 0, 100000), (975, 976, 0, 100000), (976, 977, 0, 100000), (977, 978, 0, 100000), (993, 994, 0, 100000), (994, 995, 0, 100000), (1000, 1001, 0, 1)]
abbrev Q_mo_phraseMeant__5 (S : sS) (i : Int) (q : Int) (p : Int) : pst := fun r S1 => RI S1 ∧ FR md_mo_phraseMeant__5 S S1 ∧ (r = none ∧ (PM5 S S1 i q p))
set_option maxRecDepth 100000 in
theorem t_mo_phraseMeant__5 {S : sS} (hH : RI S) (i : Int) (q : Int) (p : Int) (hi : 0 ≤ i ∧ i ≤ 1699) (hq : 0 ≤ q ∧ q ≤ 2399) (hp : 0 ≤ p ∧ p ≤ 1999) (hLS : LSP S) (h15 : 0 ≤ Xi S 904 15) (hRB : RBD S) (htq : 0 ≤ Xi S 964 i.toNat ∧ Xi S 964 i.toNat ≤ 1699) (hpw : Xi S 963 i.toNat = 5) (hnt : Xi S 953 (pTS S i).toNat = 1) (htd : 0 ≤ Xi S 954 (pTS S i).toNat ∧ Xi S 954 (pTS S i).toNat ≤ 29999) (d : Nat) : Mp lay0 (d + 8) m_mo_phraseMeant [.ref 904, iv i, iv q, iv p] S (Q_mo_phraseMeant__5 S i q p) := by
  refine Mp_R rfl rfl (fun fu => ?_)
  have hF : FR md_mo_phraseMeant__5 S S := FR.rf
  have w1 : -2147483648 ≤ Xi S 904 115 ∧ Xi S 904 115 ≤ 2147483647 := Xi_rgI
  have w2 : -2147483648 ≤ Xi S 904 116 ∧ Xi S 904 116 ≤ 2147483647 := Xi_rgI
  have w3 : -2147483648 ≤ Xi S 904 15 ∧ Xi S 904 15 ≤ 2147483647 := Xi_rgI
  refine y_aload_n rfl rfl ?_
  refine y_gfr rfl rfl rfl rfl rfl (hH.r 904 96 964 rfl) ?_
  refine y_iload_n rfl rfl ?_
  refine y_ialoadP (n := 1700) rfl rfl (by unfold rg; omega) (fun w4 w5 => ?_)
  have w6 : -2147483648 ≤ (Xi S 964 ((i).toNat)) ∧ (Xi S 964 ((i).toNat)) ≤ 2147483647 := Xi_rgI
  refine y_istore rfl rfl rfl ?_
  refine y_aload_n rfl rfl ?_
  refine y_gfr rfl rfl rfl rfl rfl (hH.r 904 126 976 rfl) ?_
  refine y_iload_n rfl rfl ?_
  refine y_aload_n rfl rfl ?_
  refine y_gfr rfl rfl rfl rfl rfl (hH.r 904 95 963 rfl) ?_
  refine y_iload_n rfl rfl ?_
  refine y_ialoadP (n := 1700) rfl rfl (by unfold rg; omega) (fun w7 w8 => ?_)
  have w9 : -2147483648 ≤ (Xi S 963 ((i).toNat)) ∧ (Xi S 963 ((i).toNat)) ≤ 2147483647 := Xi_rgI
  refine y_iastoreP (n := 2000) rfl rfl (by unfold rg; omega) (fun w10 w11 => ?_)
  obtain ⟨U1, eU1⟩ : ∃ T : sS, T = uI S 976 ((p).toNat) (Int32.ofInt (Xi S 963 ((i).toNat))) := ⟨_, rfl⟩
  rw [← eU1]
  have hHU1 : RI U1 := by rw [eU1]; exact RI_w hH
  have hFU1 : FR md_mo_phraseMeant__5 S U1 := by rw [eU1]; exact FR.wI hF (mdf_i (r := (976, 977, 0, 100000)) (List.mem_of_getElem? (i := 19) rfl) (inR_i (by omega) (by omega) (by omega) (by omega)))
  have w12 : Xi U1 976 ((p).toNat) = (Xi S 963 ((i).toNat)) := by rw [eU1]; exact Xi_same (by unfold rg; omega)
  have e19 := eU1
  refine y_aload_n rfl rfl ?_
  refine y_gfr rfl rfl rfl rfl rfl (hHU1.r 904 127 977 rfl) ?_
  refine y_iload_n rfl rfl ?_
  refine y_iload_n rfl rfl ?_
  refine y_iastoreP (n := 2000) rfl rfl (by unfold rg; omega) (fun w13 w14 => ?_)
  obtain ⟨U2, eU2⟩ : ∃ T : sS, T = uI U1 977 ((p).toNat) (Int32.ofInt q) := ⟨_, rfl⟩
  rw [← eU2]
  have hHU2 : RI U2 := by rw [eU2]; exact RI_w hHU1
  have hFU2 : FR md_mo_phraseMeant__5 S U2 := by rw [eU2]; exact FR.wI hFU1 (mdf_i (r := (977, 978, 0, 100000)) (List.mem_of_getElem? (i := 20) rfl) (inR_i (by omega) (by omega) (by omega) (by omega)))
  have w15 : Xi U2 977 ((p).toNat) = q := by rw [eU2]; exact Xi_same (by unfold rg; omega)
  have e26 := eU2
  have A26 : U2 = phA S i q p := phA_of e19 rfl e26
  have w26 : Xi U2 963 i.toNat = Xi S 963 i.toNat := (hFU2.cx 963 rfl _).1
  refine y_aload_n rfl rfl ?_
  refine y_gfr rfl rfl rfl rfl rfl (hHU2.r 904 95 963 rfl) ?_
  refine y_iload_n rfl rfl ?_
  refine y_ialoadP (n := 1700) rfl rfl (by unfold rg; omega) (fun w16 w17 => ?_)
  have w18 : (Xi U2 963 ((i).toNat)) = (Xi S 963 ((i).toNat)) := (show Xi U2 963 ((i).toNat) = Xi U1 963 ((i).toNat) from by rw [eU2]; exact Xi_ne (by omega)).trans ((show Xi U1 963 ((i).toNat) = Xi S 963 ((i).toNat) from by rw [eU1]; exact Xi_ne (by omega)))
  rw [w18]
  refine y_if_ne rfl rfl (by unfold rg; omega) (fun w19 => ?_) (fun w20 => ?_)
  · refine y_aload_n rfl rfl ?_
    refine y_gfr rfl rfl rfl rfl rfl (hHU2.r 904 95 963 rfl) ?_
    refine y_iload_n rfl rfl ?_
    refine y_ialoadP (n := 1700) rfl rfl (by unfold rg; omega) (fun w21 w22 => ?_)
    have w23 : (Xi U2 963 ((i).toNat)) = (Xi S 963 ((i).toNat)) := (show Xi U2 963 ((i).toNat) = Xi U1 963 ((i).toNat) from by rw [eU2]; exact Xi_ne (by omega)).trans ((show Xi U1 963 ((i).toNat) = Xi S 963 ((i).toNat) from by rw [eU1]; exact Xi_ne (by omega)))
    rw [w23]
    refine y_iconst rfl ?_
    refine y_icmp_ne rfl rfl (by unfold rg; omega) (by unfold rg; omega) (fun w24 => ?_) (fun w25 => ?_)
    · refine y_aload_n rfl rfl ?_
      refine y_gfr rfl rfl rfl rfl rfl (hHU2.r 904 95 963 rfl) ?_
      refine y_iload_n rfl rfl ?_
      refine y_ialoadP (n := 1700) rfl rfl (by unfold rg; omega) (fun w26 w27 => ?_)
      have w28 : (Xi U2 963 ((i).toNat)) = (Xi S 963 ((i).toNat)) := (show Xi U2 963 ((i).toNat) = Xi U1 963 ((i).toNat) from by rw [eU2]; exact Xi_ne (by omega)).trans ((show Xi U1 963 ((i).toNat) = Xi S 963 ((i).toNat) from by rw [eU1]; exact Xi_ne (by omega)))
      rw [w28]
      refine y_iconst rfl ?_
      refine y_icmp_ne rfl rfl (by unfold rg; omega) (by unfold rg; omega) (fun w29 => ?_) (fun w30 => ?_)
      · refine y_aload_n rfl rfl ?_
        refine y_gfr rfl rfl rfl rfl rfl (hHU2.r 904 95 963 rfl) ?_
        refine y_iload_n rfl rfl ?_
        refine y_ialoadP (n := 1700) rfl rfl (by unfold rg; omega) (fun w31 w32 => ?_)
        have w33 : (Xi U2 963 ((i).toNat)) = (Xi S 963 ((i).toNat)) := (show Xi U2 963 ((i).toNat) = Xi U1 963 ((i).toNat) from by rw [eU2]; exact Xi_ne (by omega)).trans ((show Xi U1 963 ((i).toNat) = Xi S 963 ((i).toNat) from by rw [eU1]; exact Xi_ne (by omega)))
        rw [w33]
        refine y_iconst rfl ?_
        refine y_icmp_eq rfl rfl (by unfold rg; omega) (by unfold rg; omega) (fun w34 => ?_) (fun w35 => ?_)
        · exfalso; omega
        · refine y_aload_n rfl rfl ?_
          refine y_gfr rfl rfl rfl rfl rfl (hHU2.r 904 95 963 rfl) ?_
          refine y_iload_n rfl rfl ?_
          refine y_ialoadP (n := 1700) rfl rfl (by unfold rg; omega) (fun w36 w37 => ?_)
          have w38 : (Xi U2 963 ((i).toNat)) = (Xi S 963 ((i).toNat)) := (show Xi U2 963 ((i).toNat) = Xi U1 963 ((i).toNat) from by rw [eU2]; exact Xi_ne (by omega)).trans ((show Xi U1 963 ((i).toNat) = Xi S 963 ((i).toNat) from by rw [eU1]; exact Xi_ne (by omega)))
          rw [w38]
          refine y_iconst rfl ?_
          refine y_icmp_ne rfl rfl (by unfold rg; omega) (by unfold rg; omega) (fun w39 => ?_) (fun w40 => ?_)
          · refine y_aload_n rfl rfl ?_
            refine y_gfr rfl rfl rfl rfl rfl (hHU2.r 904 95 963 rfl) ?_
            refine y_iload_n rfl rfl ?_
            refine y_ialoadP (n := 1700) rfl rfl (by unfold rg; omega) (fun w41 w42 => ?_)
            have w43 : (Xi U2 963 ((i).toNat)) = (Xi S 963 ((i).toNat)) := (show Xi U2 963 ((i).toNat) = Xi U1 963 ((i).toNat) from by rw [eU2]; exact Xi_ne (by omega)).trans ((show Xi U1 963 ((i).toNat) = Xi S 963 ((i).toNat) from by rw [eU1]; exact Xi_ne (by omega)))
            rw [w43]
            refine y_iconst rfl ?_
            refine y_icmp_ne rfl rfl (by unfold rg; omega) (by unfold rg; omega) (fun w44 => ?_) (fun w45 => ?_)
            · exfalso; omega
            · refine y_aload_n rfl rfl ?_
              refine y_gfr rfl rfl rfl rfl rfl (hHU2.r 904 86 956 rfl) ?_
              refine y_iload rfl rfl ?_
              refine y_ialoadP (n := 1700) rfl rfl (by unfold rg; omega) (fun w46 w47 => ?_)
              have w48 : -2147483648 ≤ (Xi U2 956 (((Xi S 964 ((i).toNat))).toNat)) ∧ (Xi U2 956 (((Xi S 964 ((i).toNat))).toNat)) ≤ 2147483647 := Xi_rgI
              have a353 : (Xi U2 956 (((Xi S 964 ((i).toNat))).toNat)) = Xi S 956 (pTS S i).toNat := (hFU2.cx 956 rfl _).1
              refine y_istore rfl rfl rfl ?_
              refine y_aload_n rfl rfl ?_
              refine y_gfr rfl rfl rfl rfl rfl (hHU2.r 904 83 953 rfl) ?_
              refine y_iload rfl rfl ?_
              refine y_baloadP (n := 1700) rfl rfl rfl (by decide) (by unfold rg; omega) (fun w49 w50 => ?_)
              have w51 : -2147483648 ≤ (Xi U2 953 (((Xi S 964 ((i).toNat))).toNat)) ∧ (Xi U2 953 (((Xi S 964 ((i).toNat))).toNat)) ≤ 2147483647 := Xi_rgI
              have a362 : (Xi U2 953 (((Xi S 964 ((i).toNat))).toNat)) = Xi S 953 (pTS S i).toNat := (hFU2.cx 953 rfl _).1
              refine y_if_eq rfl rfl (by unfold rg; omega) (fun w52 => ?_) (fun w53 => ?_)
              · exfalso; omega
              · refine y_aload_n rfl rfl ?_
                refine y_iload rfl rfl ?_
                refine y_bipush rfl rfl ?_
                have w54 : Xi U2 904 115 = Xi S 904 115 := (show Xi U2 904 115 = Xi U1 904 115 from by rw [eU2]; exact Xi_ne (by omega)).trans ((show Xi U1 904 115 = Xi S 904 115 from by rw [eU1]; exact Xi_ne (by omega)))
                have w55 : Xi U2 904 116 = Xi S 904 116 := (show Xi U2 904 116 = Xi U1 904 116 from by rw [eU2]; exact Xi_ne (by omega)).trans ((show Xi U1 904 116 = Xi S 904 116 from by rw [eU1]; exact Xi_ne (by omega)))
                have w56 : Xi U2 904 15 = Xi S 904 15 := (show Xi U2 904 15 = Xi U1 904 15 from by rw [eU2]; exact Xi_ne (by omega)).trans ((show Xi U1 904 15 = Xi S 904 15 from by rw [eU1]; exact Xi_ne (by omega)))
                refine y_callV rfl rfl rfl (t_mo_meansRun__p hHU2 (Xi U2 956 (((Xi S 964 ((i).toNat))).toNat)) 11 ⟨by omega, by omega⟩ ⟨by omega, by omega⟩ (by first | assumption | exact (LSP_FR hFU2 rfl rfl (by assumption : LSP S))) (by first | assumption | omega) (by first | assumption | exact (RBD_FR hFU2 rfl (by assumption : RBD S))) _) ?_
                rintro _ _ ⟨rfl, z57, rfl, w57, f371⟩
                show Pl _ _ _ _ _ _ [iv z57] _ _
                have a371 : z57 = rnR S (Xi S 956 (pTS S i).toNat) 11 := by have u := f371; rw [rnR_sm (SMR_FR hFU2 rfl rfl), a353] at u; exact u
                refine y_istore rfl rfl rfl ?_
                refine y_aload_n rfl rfl ?_
                refine y_iload rfl rfl ?_
                refine y_iconst rfl ?_
                refine y_icmp_eq rfl rfl (by unfold rg; omega) (by unfold rg; omega) (fun w58 => ?_) (fun w59 => ?_)
                · refine y_iconst rfl ?_
                  have G397 : ¬ (z57 ≠ -1 ∧ 0 ≤ Xi S 942 (z57).toNat) := by omega
                  refine y_iconst rfl ?_
                  refine y_aload_n rfl rfl ?_
                  refine y_gfr rfl rfl rfl rfl rfl (hHU2.r 904 67 950 rfl) ?_
                  refine y_iload rfl rfl ?_
                  refine y_ialoadP (n := 2600) rfl rfl (by unfold rg; omega) (fun w60 w61 => ?_)
                  have w62 : -2147483648 ≤ (Xi U2 950 (((Xi U2 956 (((Xi S 964 ((i).toNat))).toNat))).toNat)) ∧ (Xi U2 950 (((Xi U2 956 (((Xi S 964 ((i).toNat))).toNat))).toNat)) ≤ 2147483647 := Xi_rgI
                  have v405 : (Xi U2 950 (((Xi U2 956 (((Xi S 964 ((i).toNat))).toNat))).toNat)) = Xi S 950 (Xi S 956 (pTS S i).toNat).toNat := by rw [(hFU2.cx 950 rfl _).1, a353]
                  have p405 : Xi U2 908 ((Xi U2 950 (((Xi U2 956 (((Xi S 964 ((i).toNat))).toNat))).toNat))).toNat = pR S (Xi S 956 (pTS S i).toNat) := by unfold pR; rw [(hFU2.cx 908 rfl _).1, v405]
                  refine y_callV rfl rfl rfl (t_mo_need__p hHU2 0 4 (Xi U2 950 (((Xi U2 956 (((Xi S 964 ((i).toNat))).toNat))).toNat)) ⟨by omega, by omega⟩ ⟨by omega, by omega⟩ ⟨by omega, by omega⟩ _) ?_
                  rintro _ T3 ⟨hHT3, w67, rfl, nt406⟩
                  have hFT3 : FR md_mo_phraseMeant__5 S T3 := FR.tr hFU2 w67 rfl
                  show Pl _ _ _ _ _ _ [] _ _
                  have F406 := (by assumption : FR md_mo_need__p U2 T3)
                  refine y_aload_n rfl rfl ?_
                  refine y_gfr rfl rfl rfl rfl rfl (hHT3.r 904 121 972 rfl) ?_
                  refine y_iload_n rfl rfl ?_
                  refine y_iload rfl rfl ?_
                  refine y_iastoreP (n := 2400) rfl rfl (by unfold rg; omega) (fun w68 w69 => ?_)
                  obtain ⟨U4, eU4⟩ : ∃ T : sS, T = uI T3 972 ((q).toNat) (Int32.ofInt z57) := ⟨_, rfl⟩
                  rw [← eU4]
                  have hHU4 : RI U4 := by rw [eU4]; exact RI_w hHT3
                  have hFU4 : FR md_mo_phraseMeant__5 S U4 := by rw [eU4]; exact FR.wI hFT3 (mdf_i (r := (972, 973, 0, 100000)) (List.mem_of_getElem? (i := 15) rfl) (inR_i (by omega) (by omega) (by omega) (by omega)))
                  have w70 : Xi U4 972 ((q).toNat) = z57 := by rw [eU4]; exact Xi_same (by unfold rg; omega)
                  have e416 := eU4
                  refine y_aload_n rfl rfl ?_
                  refine y_gfr rfl rfl rfl rfl rfl (hHU4.r 904 120 971 rfl) ?_
                  refine y_iload_n rfl rfl ?_
                  refine y_aload_n rfl rfl ?_
                  refine y_aload_n rfl rfl ?_
                  refine y_gfr rfl rfl rfl rfl rfl (hHU4.r 904 84 954 rfl) ?_
                  refine y_iload rfl rfl ?_
                  refine y_ialoadP (n := 1700) rfl rfl (by unfold rg; omega) (fun w71 w72 => ?_)
                  have w73 : -2147483648 ≤ (Xi U4 954 (((Xi S 964 ((i).toNat))).toNat)) ∧ (Xi U4 954 (((Xi S 964 ((i).toNat))).toNat)) ≤ 2147483647 := Xi_rgI
                  have a429 : (Xi U4 954 (((Xi S 964 ((i).toNat))).toNat)) = Xi S 954 (pTS S i).toNat := (hFU4.cx 954 rfl _).1
                  refine y_aload_n rfl rfl ?_
                  refine y_gfr rfl rfl rfl rfl rfl (hHU4.r 904 85 955 rfl) ?_
                  refine y_iload rfl rfl ?_
                  refine y_ialoadP (n := 1700) rfl rfl (by unfold rg; omega) (fun w74 w75 => ?_)
                  have w76 : -2147483648 ≤ (Xi U4 955 (((Xi S 964 ((i).toNat))).toNat)) ∧ (Xi U4 955 (((Xi S 964 ((i).toNat))).toNat)) ≤ 2147483647 := Xi_rgI
                  have a436 : (Xi U4 955 (((Xi S 964 ((i).toNat))).toNat)) = Xi S 955 (pTS S i).toNat := (hFU4.cx 955 rfl _).1
                  have w79 : Xi U4 904 15 = Xi S 904 15 := (show Xi U4 904 15 = Xi T3 904 15 from by rw [eU4]; exact Xi_ne (by omega)).trans ( (show Xi T3 904 15 = Xi U2 904 15 from w67.x _ _ rfl).trans ( (show Xi U2 904 15 = Xi U1 904 15 from by rw [eU2]; exact Xi_ne (by omega)).trans ((show Xi U1 904 15 = Xi S 904 15 from by rw [eU1]; exact Xi_ne (by omega)))))
                  refine y_callV rfl rfl rfl (t_mo_meant__p hHU4 (Xi U4 954 (((Xi S 964 ((i).toNat))).toNat)) (Xi U4 955 (((Xi S 964 ((i).toNat))).toNat)) ⟨by omega, by omega⟩ ⟨by omega, by omega⟩ (by first | assumption | exact (LSP_FR hFU4 rfl rfl (by assumption : LSP S))) (by first | assumption | omega) (by first | assumption | exact (RBD_FR hFU4 rfl (by assumption : RBD S))) _) ?_
                  rintro _ T5 ⟨hHT5, w81, z80, rfl, w80, o437⟩
                  have hFT5 : FR md_mo_phraseMeant__5 S T5 := FR.tr hFU4 w81 rfl
                  show Pl _ _ _ _ _ _ [iv z80, iv q, .ref 971] _ _
                  have F437 := (by assumption : FR md_mo_meant__p U4 T5)
                  refine y_iastoreP (n := 2400) rfl rfl (by unfold rg; omega) (fun w82 w83 => ?_)
                  obtain ⟨U6, eU6⟩ : ∃ T : sS, T = uI T5 971 ((q).toNat) (Int32.ofInt z80) := ⟨_, rfl⟩
                  rw [← eU6]
                  have hHU6 : RI U6 := by rw [eU6]; exact RI_w hHT5
                  have hFU6 : FR md_mo_phraseMeant__5 S U6 := by rw [eU6]; exact FR.wI hFT5 (mdf_i (r := (971, 972, 0, 100000)) (List.mem_of_getElem? (i := 14) rfl) (inR_i (by omega) (by omega) (by omega) (by omega)))
                  have w84 : Xi U6 971 ((q).toNat) = z80 := by rw [eU6]; exact Xi_same (by unfold rg; omega)
                  have e440 := eU6
                  refine y_goto rfl rfl ?_
                  refine y_aload_n rfl rfl ?_
                  refine y_gfr rfl rfl rfl rfl rfl (hHU6.r 904 119 970 rfl) ?_
                  refine y_iload_n rfl rfl ?_
                  refine y_aload_n rfl rfl ?_
                  refine y_gfr rfl rfl rfl rfl rfl (hHU6.r 904 120 971 rfl) ?_
                  refine y_iload_n rfl rfl ?_
                  refine y_ialoadP (n := 2400) rfl rfl (by unfold rg; omega) (fun w85 w86 => ?_)
                  refine y_iconst rfl ?_
                  refine y_icmp_ne rfl rfl (by unfold rg; omega) (by unfold rg; omega) (fun w87 => ?_) (fun w88 => ?_)
                  · refine y_iconst rfl ?_
                    refine y_bastoreZP (n := 2400) rfl rfl (by unfold rg; omega) ⟨by omega, by omega⟩ (fun w89 w90 => ?_)
                    obtain ⟨U7, eU7⟩ : ∃ T : sS, T = uI U6 970 ((q).toNat) (Int32.ofInt 0) := ⟨_, rfl⟩
                    rw [← eU7]
                    have hHU7 : RI U7 := by rw [eU7]; exact RI_w hHU6
                    have hFU7 : FR md_mo_phraseMeant__5 S U7 := by rw [eU7]; exact FR.wI hFU6 (mdf_i (r := (970, 971, 0, 100000)) (List.mem_of_getElem? (i := 13) rfl) (inR_i (by omega) (by omega) (by omega) (by omega)))
                    have w91 : Xi U7 970 ((q).toNat) = 0 := by rw [eU7]; exact Xi_same (by unfold rg; omega)
                    have e567 := eU7
                    refine y_return rfl rfl ?_
                    exact ⟨hHU7, hFU7, rfl, (by first | (have u := G393; exact ⟨_, _, _, _, 1, _, _, Or.inr rfl, a371, ⟨fun _ => G393, fun _ => rfl⟩, by rw [← A26, ← p405]; exact nt406, by rw [← A26]; exact F406, e416, by rw [← a429, ← a436]; exact o437, F437, e440, e567⟩) | exact ⟨_, _, _, _, 0, _, _, Or.inl rfl, a371, ⟨fun w => absurd w (by decide), fun w => absurd w G397⟩, by rw [← A26, ← p405]; exact nt406, by rw [← A26]; exact F406, e416, by rw [← a429, ← a436]; exact o437, F437, e440, e567⟩)⟩
                  · refine y_aload_n rfl rfl ?_
                    refine y_gfr rfl rfl rfl rfl rfl (hHU6.r 904 83 953 rfl) ?_
                    refine y_iload rfl rfl ?_
                    refine y_baloadP (n := 1700) rfl rfl rfl (by decide) (by unfold rg; omega) (fun w95 w96 => ?_)
                    have w97 : (Xi U6 953 (((Xi S 964 ((i).toNat))).toNat)) = (Xi U2 953 (((Xi S 964 ((i).toNat))).toNat)) := (show Xi U6 953 (((Xi S 964 ((i).toNat))).toNat) = Xi T5 953 (((Xi S 964 ((i).toNat))).toNat) from by rw [eU6]; exact Xi_ne (by omega)).trans ( (show Xi T5 953 (((Xi S 964 ((i).toNat))).toNat) = Xi U4 953 (((Xi S 964 ((i).toNat))).toNat) from w81.x _ _ rfl).trans ( (show Xi U4 953 (((Xi S 964 ((i).toNat))).toNat) = Xi T3 953 (((Xi S 964 ((i).toNat))).toNat) from by rw [eU4]; exact Xi_ne (by omega)).trans ((show Xi T3 953 (((Xi S 964 ((i).toNat))).toNat) = Xi U2 953 (((Xi S 964 ((i).toNat))).toNat) from w67.x _ _ rfl))))
                    rw [w97]
                    have a558 : (Xi U2 953 (((Xi S 964 ((i).toNat))).toNat)) = Xi S 953 (pTS S i).toNat := (hFU2.cx 953 rfl _).1
                    refine y_if_ne rfl rfl (by unfold rg; omega) (fun w98 => ?_) (fun w99 => ?_)
                    · refine y_iconst rfl ?_
                      refine y_bastoreZP (n := 2400) rfl rfl (by unfold rg; omega) ⟨by omega, by omega⟩ (fun w100 w101 => ?_)
                      obtain ⟨U8, eU8⟩ : ∃ T : sS, T = uI U6 970 ((q).toNat) (Int32.ofInt 0) := ⟨_, rfl⟩
                      rw [← eU8]
                      have hHU8 : RI U8 := by rw [eU8]; exact RI_w hHU6
                      have hFU8 : FR md_mo_phraseMeant__5 S U8 := by rw [eU8]; exact FR.wI hFU6 (mdf_i (r := (970, 971, 0, 100000)) (List.mem_of_getElem? (i := 13) rfl) (inR_i (by omega) (by omega) (by omega) (by omega)))
                      have w102 : Xi U8 970 ((q).toNat) = 0 := by rw [eU8]; exact Xi_same (by unfold rg; omega)
                      have e567 := eU8
                      refine y_return rfl rfl ?_
                      exact ⟨hHU8, hFU8, rfl, (by first | (have u := G393; exact ⟨_, _, _, _, 1, _, _, Or.inr rfl, a371, ⟨fun _ => G393, fun _ => rfl⟩, by rw [← A26, ← p405]; exact nt406, by rw [← A26]; exact F406, e416, by rw [← a429, ← a436]; exact o437, F437, e440, e567⟩) | exact ⟨_, _, _, _, 0, _, _, Or.inl rfl, a371, ⟨fun w => absurd w (by decide), fun w => absurd w G397⟩, by rw [← A26, ← p405]; exact nt406, by rw [← A26]; exact F406, e416, by rw [← a429, ← a436]; exact o437, F437, e440, e567⟩)⟩
                    · exfalso; omega
                · refine y_aload_n rfl rfl ?_
                  refine y_gfr rfl rfl rfl rfl rfl (hHU2.r 904 50 942 rfl) ?_
                  refine y_iload rfl rfl ?_
                  refine y_ialoadP (n := 12) rfl rfl (by unfold rg; omega) (fun w106 w107 => ?_)
                  have w108 : -2147483648 ≤ (Xi U2 942 ((z57).toNat)) ∧ (Xi U2 942 ((z57).toNat)) ≤ 2147483647 := Xi_rgI
                  have k389 : (Xi U2 942 ((z57).toNat)) = Xi S 942 (z57).toNat := (hFU2.cx 942 rfl _).1
                  refine y_if_lt rfl rfl (by unfold rg; omega) (fun w109 => ?_) (fun w110 => ?_)
                  · refine y_iconst rfl ?_
                    have G397 : ¬ (z57 ≠ -1 ∧ 0 ≤ Xi S 942 (z57).toNat) := by omega
                    refine y_iconst rfl ?_
                    refine y_aload_n rfl rfl ?_
                    refine y_gfr rfl rfl rfl rfl rfl (hHU2.r 904 67 950 rfl) ?_
                    refine y_iload rfl rfl ?_
                    refine y_ialoadP (n := 2600) rfl rfl (by unfold rg; omega) (fun w111 w112 => ?_)
                    have w113 : -2147483648 ≤ (Xi U2 950 (((Xi U2 956 (((Xi S 964 ((i).toNat))).toNat))).toNat)) ∧ (Xi U2 950 (((Xi U2 956 (((Xi S 964 ((i).toNat))).toNat))).toNat)) ≤ 2147483647 := Xi_rgI
                    have v405 : (Xi U2 950 (((Xi U2 956 (((Xi S 964 ((i).toNat))).toNat))).toNat)) = Xi S 950 (Xi S 956 (pTS S i).toNat).toNat := by rw [(hFU2.cx 950 rfl _).1, a353]
                    have p405 : Xi U2 908 ((Xi U2 950 (((Xi U2 956 (((Xi S 964 ((i).toNat))).toNat))).toNat))).toNat = pR S (Xi S 956 (pTS S i).toNat) := by unfold pR; rw [(hFU2.cx 908 rfl _).1, v405]
                    refine y_callV rfl rfl rfl (t_mo_need__p hHU2 0 4 (Xi U2 950 (((Xi U2 956 (((Xi S 964 ((i).toNat))).toNat))).toNat)) ⟨by omega, by omega⟩ ⟨by omega, by omega⟩ ⟨by omega, by omega⟩ _) ?_
                    rintro _ T9 ⟨hHT9, w118, rfl, nt406⟩
                    have hFT9 : FR md_mo_phraseMeant__5 S T9 := FR.tr hFU2 w118 rfl
                    show Pl _ _ _ _ _ _ [] _ _
                    have F406 := (by assumption : FR md_mo_need__p U2 T9)
                    refine y_aload_n rfl rfl ?_
                    refine y_gfr rfl rfl rfl rfl rfl (hHT9.r 904 121 972 rfl) ?_
                    refine y_iload_n rfl rfl ?_
                    refine y_iload rfl rfl ?_
                    refine y_iastoreP (n := 2400) rfl rfl (by unfold rg; omega) (fun w119 w120 => ?_)
                    obtain ⟨U10, eU10⟩ : ∃ T : sS, T = uI T9 972 ((q).toNat) (Int32.ofInt z57) := ⟨_, rfl⟩
                    rw [← eU10]
                    have hHU10 : RI U10 := by rw [eU10]; exact RI_w hHT9
                    have hFU10 : FR md_mo_phraseMeant__5 S U10 := by rw [eU10]; exact FR.wI hFT9 (mdf_i (r := (972, 973, 0, 100000)) (List.mem_of_getElem? (i := 15) rfl) (inR_i (by omega) (by omega) (by omega) (by omega)))
                    have w121 : Xi U10 972 ((q).toNat) = z57 := by rw [eU10]; exact Xi_same (by unfold rg; omega)
                    have e416 := eU10
                    refine y_aload_n rfl rfl ?_
                    refine y_gfr rfl rfl rfl rfl rfl (hHU10.r 904 120 971 rfl) ?_
                    refine y_iload_n rfl rfl ?_
                    refine y_aload_n rfl rfl ?_
                    refine y_aload_n rfl rfl ?_
                    refine y_gfr rfl rfl rfl rfl rfl (hHU10.r 904 84 954 rfl) ?_
                    refine y_iload rfl rfl ?_
                    refine y_ialoadP (n := 1700) rfl rfl (by unfold rg; omega) (fun w122 w123 => ?_)
                    have w124 : -2147483648 ≤ (Xi U10 954 (((Xi S 964 ((i).toNat))).toNat)) ∧ (Xi U10 954 (((Xi S 964 ((i).toNat))).toNat)) ≤ 2147483647 := Xi_rgI
                    have a429 : (Xi U10 954 (((Xi S 964 ((i).toNat))).toNat)) = Xi S 954 (pTS S i).toNat := (hFU10.cx 954 rfl _).1
                    refine y_aload_n rfl rfl ?_
                    refine y_gfr rfl rfl rfl rfl rfl (hHU10.r 904 85 955 rfl) ?_
                    refine y_iload rfl rfl ?_
                    refine y_ialoadP (n := 1700) rfl rfl (by unfold rg; omega) (fun w125 w126 => ?_)
                    have w127 : -2147483648 ≤ (Xi U10 955 (((Xi S 964 ((i).toNat))).toNat)) ∧ (Xi U10 955 (((Xi S 964 ((i).toNat))).toNat)) ≤ 2147483647 := Xi_rgI
                    have a436 : (Xi U10 955 (((Xi S 964 ((i).toNat))).toNat)) = Xi S 955 (pTS S i).toNat := (hFU10.cx 955 rfl _).1
                    have w130 : Xi U10 904 15 = Xi S 904 15 := (show Xi U10 904 15 = Xi T9 904 15 from by rw [eU10]; exact Xi_ne (by omega)).trans ( (show Xi T9 904 15 = Xi U2 904 15 from w118.x _ _ rfl).trans ( (show Xi U2 904 15 = Xi U1 904 15 from by rw [eU2]; exact Xi_ne (by omega)).trans ((show Xi U1 904 15 = Xi S 904 15 from by rw [eU1]; exact Xi_ne (by omega)))))
                    refine y_callV rfl rfl rfl (t_mo_meant__p hHU10 (Xi U10 954 (((Xi S 964 ((i).toNat))).toNat)) (Xi U10 955 (((Xi S 964 ((i).toNat))).toNat)) ⟨by omega, by omega⟩ ⟨by omega, by omega⟩ (by first | assumption | exact (LSP_FR hFU10 rfl rfl (by assumption : LSP S))) (by first | assumption | omega) (by first | assumption | exact (RBD_FR hFU10 rfl (by assumption : RBD S))) _) ?_
                    rintro _ T11 ⟨hHT11, w132, z131, rfl, w131, o437⟩
                    have hFT11 : FR md_mo_phraseMeant__5 S T11 := FR.tr hFU10 w132 rfl
                    show Pl _ _ _ _ _ _ [iv z131, iv q, .ref 971] _ _
                    have F437 := (by assumption : FR md_mo_meant__p U10 T11)
                    refine y_iastoreP (n := 2400) rfl rfl (by unfold rg; omega) (fun w133 w134 => ?_)
                    obtain ⟨U12, eU12⟩ : ∃ T : sS, T = uI T11 971 ((q).toNat) (Int32.ofInt z131) := ⟨_, rfl⟩
                    rw [← eU12]
                    have hHU12 : RI U12 := by rw [eU12]; exact RI_w hHT11
                    have hFU12 : FR md_mo_phraseMeant__5 S U12 := by rw [eU12]; exact FR.wI hFT11 (mdf_i (r := (971, 972, 0, 100000)) (List.mem_of_getElem? (i := 14) rfl) (inR_i (by omega) (by omega) (by omega) (by omega)))
                    have w135 : Xi U12 971 ((q).toNat) = z131 := by rw [eU12]; exact Xi_same (by unfold rg; omega)
                    have e440 := eU12
                    refine y_goto rfl rfl ?_
                    refine y_aload_n rfl rfl ?_
                    refine y_gfr rfl rfl rfl rfl rfl (hHU12.r 904 119 970 rfl) ?_
                    refine y_iload_n rfl rfl ?_
                    refine y_aload_n rfl rfl ?_
                    refine y_gfr rfl rfl rfl rfl rfl (hHU12.r 904 120 971 rfl) ?_
                    refine y_iload_n rfl rfl ?_
                    refine y_ialoadP (n := 2400) rfl rfl (by unfold rg; omega) (fun w136 w137 => ?_)
                    refine y_iconst rfl ?_
                    refine y_icmp_ne rfl rfl (by unfold rg; omega) (by unfold rg; omega) (fun w138 => ?_) (fun w139 => ?_)
                    · refine y_iconst rfl ?_
                      refine y_bastoreZP (n := 2400) rfl rfl (by unfold rg; omega) ⟨by omega, by omega⟩ (fun w140 w141 => ?_)
                      obtain ⟨U13, eU13⟩ : ∃ T : sS, T = uI U12 970 ((q).toNat) (Int32.ofInt 0) := ⟨_, rfl⟩
                      rw [← eU13]
                      have hHU13 : RI U13 := by rw [eU13]; exact RI_w hHU12
                      have hFU13 : FR md_mo_phraseMeant__5 S U13 := by rw [eU13]; exact FR.wI hFU12 (mdf_i (r := (970, 971, 0, 100000)) (List.mem_of_getElem? (i := 13) rfl) (inR_i (by omega) (by omega) (by omega) (by omega)))
                      have w142 : Xi U13 970 ((q).toNat) = 0 := by rw [eU13]; exact Xi_same (by unfold rg; omega)
                      have e567 := eU13
                      refine y_return rfl rfl ?_
                      exact ⟨hHU13, hFU13, rfl, (by first | (have u := G393; exact ⟨_, _, _, _, 1, _, _, Or.inr rfl, a371, ⟨fun _ => G393, fun _ => rfl⟩, by rw [← A26, ← p405]; exact nt406, by rw [← A26]; exact F406, e416, by rw [← a429, ← a436]; exact o437, F437, e440, e567⟩) | exact ⟨_, _, _, _, 0, _, _, Or.inl rfl, a371, ⟨fun w => absurd w (by decide), fun w => absurd w G397⟩, by rw [← A26, ← p405]; exact nt406, by rw [← A26]; exact F406, e416, by rw [← a429, ← a436]; exact o437, F437, e440, e567⟩)⟩
                    · refine y_aload_n rfl rfl ?_
                      refine y_gfr rfl rfl rfl rfl rfl (hHU12.r 904 83 953 rfl) ?_
                      refine y_iload rfl rfl ?_
                      refine y_baloadP (n := 1700) rfl rfl rfl (by decide) (by unfold rg; omega) (fun w146 w147 => ?_)
                      have w148 : (Xi U12 953 (((Xi S 964 ((i).toNat))).toNat)) = (Xi U2 953 (((Xi S 964 ((i).toNat))).toNat)) := (show Xi U12 953 (((Xi S 964 ((i).toNat))).toNat) = Xi T11 953 (((Xi S 964 ((i).toNat))).toNat) from by rw [eU12]; exact Xi_ne (by omega)).trans ( (show Xi T11 953 (((Xi S 964 ((i).toNat))).toNat) = Xi U10 953 (((Xi S 964 ((i).toNat))).toNat) from w132.x _ _ rfl).trans ( (show Xi U10 953 (((Xi S 964 ((i).toNat))).toNat) = Xi T9 953 (((Xi S 964 ((i).toNat))).toNat) from by rw [eU10]; exact Xi_ne (by omega)).trans ((show Xi T9 953 (((Xi S 964 ((i).toNat))).toNat) = Xi U2 953 (((Xi S 964 ((i).toNat))).toNat) from w118.x _ _ rfl))))
                      rw [w148]
                      have a558 : (Xi U2 953 (((Xi S 964 ((i).toNat))).toNat)) = Xi S 953 (pTS S i).toNat := (hFU2.cx 953 rfl _).1
                      refine y_if_ne rfl rfl (by unfold rg; omega) (fun w149 => ?_) (fun w150 => ?_)
                      · refine y_iconst rfl ?_
                        refine y_bastoreZP (n := 2400) rfl rfl (by unfold rg; omega) ⟨by omega, by omega⟩ (fun w151 w152 => ?_)
                        obtain ⟨U14, eU14⟩ : ∃ T : sS, T = uI U12 970 ((q).toNat) (Int32.ofInt 0) := ⟨_, rfl⟩
                        rw [← eU14]
                        have hHU14 : RI U14 := by rw [eU14]; exact RI_w hHU12
                        have hFU14 : FR md_mo_phraseMeant__5 S U14 := by rw [eU14]; exact FR.wI hFU12 (mdf_i (r := (970, 971, 0, 100000)) (List.mem_of_getElem? (i := 13) rfl) (inR_i (by omega) (by omega) (by omega) (by omega)))
                        have w153 : Xi U14 970 ((q).toNat) = 0 := by rw [eU14]; exact Xi_same (by unfold rg; omega)
                        have e567 := eU14
                        refine y_return rfl rfl ?_
                        exact ⟨hHU14, hFU14, rfl, (by first | (have u := G393; exact ⟨_, _, _, _, 1, _, _, Or.inr rfl, a371, ⟨fun _ => G393, fun _ => rfl⟩, by rw [← A26, ← p405]; exact nt406, by rw [← A26]; exact F406, e416, by rw [← a429, ← a436]; exact o437, F437, e440, e567⟩) | exact ⟨_, _, _, _, 0, _, _, Or.inl rfl, a371, ⟨fun w => absurd w (by decide), fun w => absurd w G397⟩, by rw [← A26, ← p405]; exact nt406, by rw [← A26]; exact F406, e416, by rw [← a429, ← a436]; exact o437, F437, e440, e567⟩)⟩
                      · exfalso; omega
                  · refine y_iconst rfl ?_
                    have G393 : z57 ≠ -1 ∧ 0 ≤ Xi S 942 (z57).toNat := ⟨by omega, by omega⟩
                    refine y_goto rfl rfl ?_
                    refine y_iconst rfl ?_
                    refine y_aload_n rfl rfl ?_
                    refine y_gfr rfl rfl rfl rfl rfl (hHU2.r 904 67 950 rfl) ?_
                    refine y_iload rfl rfl ?_
                    refine y_ialoadP (n := 2600) rfl rfl (by unfold rg; omega) (fun w157 w158 => ?_)
                    have w159 : -2147483648 ≤ (Xi U2 950 (((Xi U2 956 (((Xi S 964 ((i).toNat))).toNat))).toNat)) ∧ (Xi U2 950 (((Xi U2 956 (((Xi S 964 ((i).toNat))).toNat))).toNat)) ≤ 2147483647 := Xi_rgI
                    have v405 : (Xi U2 950 (((Xi U2 956 (((Xi S 964 ((i).toNat))).toNat))).toNat)) = Xi S 950 (Xi S 956 (pTS S i).toNat).toNat := by rw [(hFU2.cx 950 rfl _).1, a353]
                    have p405 : Xi U2 908 ((Xi U2 950 (((Xi U2 956 (((Xi S 964 ((i).toNat))).toNat))).toNat))).toNat = pR S (Xi S 956 (pTS S i).toNat) := by unfold pR; rw [(hFU2.cx 908 rfl _).1, v405]
                    refine y_callV rfl rfl rfl (t_mo_need__p hHU2 1 4 (Xi U2 950 (((Xi U2 956 (((Xi S 964 ((i).toNat))).toNat))).toNat)) ⟨by omega, by omega⟩ ⟨by omega, by omega⟩ ⟨by omega, by omega⟩ _) ?_
                    rintro _ T15 ⟨hHT15, w164, rfl, nt406⟩
                    have hFT15 : FR md_mo_phraseMeant__5 S T15 := FR.tr hFU2 w164 rfl
                    show Pl _ _ _ _ _ _ [] _ _
                    have F406 := (by assumption : FR md_mo_need__p U2 T15)
                    refine y_aload_n rfl rfl ?_
                    refine y_gfr rfl rfl rfl rfl rfl (hHT15.r 904 121 972 rfl) ?_
                    refine y_iload_n rfl rfl ?_
                    refine y_iload rfl rfl ?_
                    refine y_iastoreP (n := 2400) rfl rfl (by unfold rg; omega) (fun w165 w166 => ?_)
                    obtain ⟨U16, eU16⟩ : ∃ T : sS, T = uI T15 972 ((q).toNat) (Int32.ofInt z57) := ⟨_, rfl⟩
                    rw [← eU16]
                    have hHU16 : RI U16 := by rw [eU16]; exact RI_w hHT15
                    have hFU16 : FR md_mo_phraseMeant__5 S U16 := by rw [eU16]; exact FR.wI hFT15 (mdf_i (r := (972, 973, 0, 100000)) (List.mem_of_getElem? (i := 15) rfl) (inR_i (by omega) (by omega) (by omega) (by omega)))
                    have w167 : Xi U16 972 ((q).toNat) = z57 := by rw [eU16]; exact Xi_same (by unfold rg; omega)
                    have e416 := eU16
                    refine y_aload_n rfl rfl ?_
                    refine y_gfr rfl rfl rfl rfl rfl (hHU16.r 904 120 971 rfl) ?_
                    refine y_iload_n rfl rfl ?_
                    refine y_aload_n rfl rfl ?_
                    refine y_aload_n rfl rfl ?_
                    refine y_gfr rfl rfl rfl rfl rfl (hHU16.r 904 84 954 rfl) ?_
                    refine y_iload rfl rfl ?_
                    refine y_ialoadP (n := 1700) rfl rfl (by unfold rg; omega) (fun w168 w169 => ?_)
                    have w170 : -2147483648 ≤ (Xi U16 954 (((Xi S 964 ((i).toNat))).toNat)) ∧ (Xi U16 954 (((Xi S 964 ((i).toNat))).toNat)) ≤ 2147483647 := Xi_rgI
                    have a429 : (Xi U16 954 (((Xi S 964 ((i).toNat))).toNat)) = Xi S 954 (pTS S i).toNat := (hFU16.cx 954 rfl _).1
                    refine y_aload_n rfl rfl ?_
                    refine y_gfr rfl rfl rfl rfl rfl (hHU16.r 904 85 955 rfl) ?_
                    refine y_iload rfl rfl ?_
                    refine y_ialoadP (n := 1700) rfl rfl (by unfold rg; omega) (fun w171 w172 => ?_)
                    have w173 : -2147483648 ≤ (Xi U16 955 (((Xi S 964 ((i).toNat))).toNat)) ∧ (Xi U16 955 (((Xi S 964 ((i).toNat))).toNat)) ≤ 2147483647 := Xi_rgI
                    have a436 : (Xi U16 955 (((Xi S 964 ((i).toNat))).toNat)) = Xi S 955 (pTS S i).toNat := (hFU16.cx 955 rfl _).1
                    have w176 : Xi U16 904 15 = Xi S 904 15 := (show Xi U16 904 15 = Xi T15 904 15 from by rw [eU16]; exact Xi_ne (by omega)).trans ( (show Xi T15 904 15 = Xi U2 904 15 from w164.x _ _ rfl).trans ( (show Xi U2 904 15 = Xi U1 904 15 from by rw [eU2]; exact Xi_ne (by omega)).trans ((show Xi U1 904 15 = Xi S 904 15 from by rw [eU1]; exact Xi_ne (by omega)))))
                    refine y_callV rfl rfl rfl (t_mo_meant__p hHU16 (Xi U16 954 (((Xi S 964 ((i).toNat))).toNat)) (Xi U16 955 (((Xi S 964 ((i).toNat))).toNat)) ⟨by omega, by omega⟩ ⟨by omega, by omega⟩ (by first | assumption | exact (LSP_FR hFU16 rfl rfl (by assumption : LSP S))) (by first | assumption | omega) (by first | assumption | exact (RBD_FR hFU16 rfl (by assumption : RBD S))) _) ?_
                    rintro _ T17 ⟨hHT17, w178, z177, rfl, w177, o437⟩
                    have hFT17 : FR md_mo_phraseMeant__5 S T17 := FR.tr hFU16 w178 rfl
                    show Pl _ _ _ _ _ _ [iv z177, iv q, .ref 971] _ _
                    have F437 := (by assumption : FR md_mo_meant__p U16 T17)
                    refine y_iastoreP (n := 2400) rfl rfl (by unfold rg; omega) (fun w179 w180 => ?_)
                    obtain ⟨U18, eU18⟩ : ∃ T : sS, T = uI T17 971 ((q).toNat) (Int32.ofInt z177) := ⟨_, rfl⟩
                    rw [← eU18]
                    have hHU18 : RI U18 := by rw [eU18]; exact RI_w hHT17
                    have hFU18 : FR md_mo_phraseMeant__5 S U18 := by rw [eU18]; exact FR.wI hFT17 (mdf_i (r := (971, 972, 0, 100000)) (List.mem_of_getElem? (i := 14) rfl) (inR_i (by omega) (by omega) (by omega) (by omega)))
                    have w181 : Xi U18 971 ((q).toNat) = z177 := by rw [eU18]; exact Xi_same (by unfold rg; omega)
                    have e440 := eU18
                    refine y_goto rfl rfl ?_
                    refine y_aload_n rfl rfl ?_
                    refine y_gfr rfl rfl rfl rfl rfl (hHU18.r 904 119 970 rfl) ?_
                    refine y_iload_n rfl rfl ?_
                    refine y_aload_n rfl rfl ?_
                    refine y_gfr rfl rfl rfl rfl rfl (hHU18.r 904 120 971 rfl) ?_
                    refine y_iload_n rfl rfl ?_
                    refine y_ialoadP (n := 2400) rfl rfl (by unfold rg; omega) (fun w182 w183 => ?_)
                    refine y_iconst rfl ?_
                    refine y_icmp_ne rfl rfl (by unfold rg; omega) (by unfold rg; omega) (fun w184 => ?_) (fun w185 => ?_)
                    · refine y_iconst rfl ?_
                      refine y_bastoreZP (n := 2400) rfl rfl (by unfold rg; omega) ⟨by omega, by omega⟩ (fun w186 w187 => ?_)
                      obtain ⟨U19, eU19⟩ : ∃ T : sS, T = uI U18 970 ((q).toNat) (Int32.ofInt 0) := ⟨_, rfl⟩
                      rw [← eU19]
                      have hHU19 : RI U19 := by rw [eU19]; exact RI_w hHU18
                      have hFU19 : FR md_mo_phraseMeant__5 S U19 := by rw [eU19]; exact FR.wI hFU18 (mdf_i (r := (970, 971, 0, 100000)) (List.mem_of_getElem? (i := 13) rfl) (inR_i (by omega) (by omega) (by omega) (by omega)))
                      have w188 : Xi U19 970 ((q).toNat) = 0 := by rw [eU19]; exact Xi_same (by unfold rg; omega)
                      have e567 := eU19
                      refine y_return rfl rfl ?_
                      exact ⟨hHU19, hFU19, rfl, (by first | (have u := G393; exact ⟨_, _, _, _, 1, _, _, Or.inr rfl, a371, ⟨fun _ => G393, fun _ => rfl⟩, by rw [← A26, ← p405]; exact nt406, by rw [← A26]; exact F406, e416, by rw [← a429, ← a436]; exact o437, F437, e440, e567⟩) | exact ⟨_, _, _, _, 0, _, _, Or.inl rfl, a371, ⟨fun w => absurd w (by decide), fun w => absurd w G397⟩, by rw [← A26, ← p405]; exact nt406, by rw [← A26]; exact F406, e416, by rw [← a429, ← a436]; exact o437, F437, e440, e567⟩)⟩
                    · refine y_aload_n rfl rfl ?_
                      refine y_gfr rfl rfl rfl rfl rfl (hHU18.r 904 83 953 rfl) ?_
                      refine y_iload rfl rfl ?_
                      refine y_baloadP (n := 1700) rfl rfl rfl (by decide) (by unfold rg; omega) (fun w192 w193 => ?_)
                      have w194 : (Xi U18 953 (((Xi S 964 ((i).toNat))).toNat)) = (Xi U2 953 (((Xi S 964 ((i).toNat))).toNat)) := (show Xi U18 953 (((Xi S 964 ((i).toNat))).toNat) = Xi T17 953 (((Xi S 964 ((i).toNat))).toNat) from by rw [eU18]; exact Xi_ne (by omega)).trans ( (show Xi T17 953 (((Xi S 964 ((i).toNat))).toNat) = Xi U16 953 (((Xi S 964 ((i).toNat))).toNat) from w178.x _ _ rfl).trans ( (show Xi U16 953 (((Xi S 964 ((i).toNat))).toNat) = Xi T15 953 (((Xi S 964 ((i).toNat))).toNat) from by rw [eU16]; exact Xi_ne (by omega)).trans ((show Xi T15 953 (((Xi S 964 ((i).toNat))).toNat) = Xi U2 953 (((Xi S 964 ((i).toNat))).toNat) from w164.x _ _ rfl))))
                      rw [w194]
                      have a558 : (Xi U2 953 (((Xi S 964 ((i).toNat))).toNat)) = Xi S 953 (pTS S i).toNat := (hFU2.cx 953 rfl _).1
                      refine y_if_ne rfl rfl (by unfold rg; omega) (fun w195 => ?_) (fun w196 => ?_)
                      · refine y_iconst rfl ?_
                        refine y_bastoreZP (n := 2400) rfl rfl (by unfold rg; omega) ⟨by omega, by omega⟩ (fun w197 w198 => ?_)
                        obtain ⟨U20, eU20⟩ : ∃ T : sS, T = uI U18 970 ((q).toNat) (Int32.ofInt 0) := ⟨_, rfl⟩
                        rw [← eU20]
                        have hHU20 : RI U20 := by rw [eU20]; exact RI_w hHU18
                        have hFU20 : FR md_mo_phraseMeant__5 S U20 := by rw [eU20]; exact FR.wI hFU18 (mdf_i (r := (970, 971, 0, 100000)) (List.mem_of_getElem? (i := 13) rfl) (inR_i (by omega) (by omega) (by omega) (by omega)))
                        have w199 : Xi U20 970 ((q).toNat) = 0 := by rw [eU20]; exact Xi_same (by unfold rg; omega)
                        have e567 := eU20
                        refine y_return rfl rfl ?_
                        exact ⟨hHU20, hFU20, rfl, (by first | (have u := G393; exact ⟨_, _, _, _, 1, _, _, Or.inr rfl, a371, ⟨fun _ => G393, fun _ => rfl⟩, by rw [← A26, ← p405]; exact nt406, by rw [← A26]; exact F406, e416, by rw [← a429, ← a436]; exact o437, F437, e440, e567⟩) | exact ⟨_, _, _, _, 0, _, _, Or.inl rfl, a371, ⟨fun w => absurd w (by decide), fun w => absurd w G397⟩, by rw [← A26, ← p405]; exact nt406, by rw [← A26]; exact F406, e416, by rw [← a429, ← a436]; exact o437, F437, e440, e567⟩)⟩
                      · exfalso; omega
          · exfalso; omega
      · exfalso; omega
    · exfalso; omega
  · exfalso; omega
def md_mo_phraseMeant__6 : List rec := [(904, 905, 64, 65), (904, 905, 104, 105), (904, 905, 105, 106), (904, 905, 106, 107), (904, 905, 113, 114), (904, 905, 128, 129), (904, 905, 129, 130), (904, 905, 154, 155), (904, 905, 156, 157), (904, 905, 157, 158), (904, 905, 158, 159), (904, 905, 160, 161), (969, 970, 0, 100000), (970, 971, 0, 100000), (971, 972, 0, 100000), (972, 973, 0, 100000), (973, 974, 0, 100000), (974, 975, 0, 100000), (975, 976, 0, 100000), (976, 977, 0, 100000), (977, 978, 0, 100000), (993, 994, 0, 100000), (994, 995, 0, 100000), (1000, 1001, 0, 1)]
abbrev Q_mo_phraseMeant__6 (S : sS) (i : Int) (q : Int) (p : Int) : pst := fun r S1 => RI S1 ∧ FR md_mo_phraseMeant__6 S S1 ∧ (r = none ∧ (PM6 S S1 i q p))
set_option maxRecDepth 100000 in
theorem t_mo_phraseMeant__6 {S : sS} (hH : RI S) (i : Int) (q : Int) (p : Int) (hi : 0 ≤ i ∧ i ≤ 1699) (hq : 0 ≤ q ∧ q ≤ 2399) (hp : 0 ≤ p ∧ p ≤ 1999) (hLS : LSP S) (h15 : 0 ≤ Xi S 904 15) (hB : ABV S) (hkx : Hid (∀ j : Nat, -1 ≤ Xi S 918 j ∧ Xi S 918 j ≤ 15)) (htq : 0 ≤ Xi S 964 i.toNat ∧ Xi S 964 i.toNat ≤ 1699) (hpw : Xi S 963 i.toNat = 5) (hnt : Xi S 953 (pTS S i).toNat = 0) (hrn : (0 ≤ Xi S 956 (pTS S i).toNat ∧ Xi S 956 (pTS S i).toNat ≤ 2599) ∧ 0 ≤ Xi S 950 (Xi S 956 (pTS S i).toNat).toNat ∧ Xi S 950 (Xi S 956 (pTS S i).toNat).toNat ≤ 6000 ∧ 0 ≤ Xi S 951 (Xi S 956 (pTS S i).toNat).toNat ∧ Xi S 951 (Xi S 956 (pTS S i).toNat).toNat ≤ 6000) (d : Nat) : Mp lay0 (d + 8) m_mo_phraseMeant [.ref 904, iv i, iv q, iv p] S (Q_mo_phraseMeant__6 S i q p) := by
  refine Mp_R rfl rfl (fun fu => ?_)
  have hF : FR md_mo_phraseMeant__6 S S := FR.rf
  have w1 : -2147483648 ≤ Xi S 904 115 ∧ Xi S 904 115 ≤ 2147483647 := Xi_rgI
  have w2 : -2147483648 ≤ Xi S 904 116 ∧ Xi S 904 116 ≤ 2147483647 := Xi_rgI
  have w3 : -2147483648 ≤ Xi S 904 128 ∧ Xi S 904 128 ≤ 2147483647 := Xi_rgI
  have w4 : -2147483648 ≤ Xi S 904 129 ∧ Xi S 904 129 ≤ 2147483647 := Xi_rgI
  have w5 : -2147483648 ≤ Xi S 904 15 ∧ Xi S 904 15 ≤ 2147483647 := Xi_rgI
  refine y_aload_n rfl rfl ?_
  refine y_gfr rfl rfl rfl rfl rfl (hH.r 904 96 964 rfl) ?_
  refine y_iload_n rfl rfl ?_
  refine y_ialoadP (n := 1700) rfl rfl (by unfold rg; omega) (fun w6 w7 => ?_)
  have w8 : -2147483648 ≤ (Xi S 964 ((i).toNat)) ∧ (Xi S 964 ((i).toNat)) ≤ 2147483647 := Xi_rgI
  refine y_istore rfl rfl rfl ?_
  refine y_aload_n rfl rfl ?_
  refine y_gfr rfl rfl rfl rfl rfl (hH.r 904 126 976 rfl) ?_
  refine y_iload_n rfl rfl ?_
  refine y_aload_n rfl rfl ?_
  refine y_gfr rfl rfl rfl rfl rfl (hH.r 904 95 963 rfl) ?_
  refine y_iload_n rfl rfl ?_
  refine y_ialoadP (n := 1700) rfl rfl (by unfold rg; omega) (fun w9 w10 => ?_)
  have w11 : -2147483648 ≤ (Xi S 963 ((i).toNat)) ∧ (Xi S 963 ((i).toNat)) ≤ 2147483647 := Xi_rgI
  refine y_iastoreP (n := 2000) rfl rfl (by unfold rg; omega) (fun w12 w13 => ?_)
  obtain ⟨U1, eU1⟩ : ∃ T : sS, T = uI S 976 ((p).toNat) (Int32.ofInt (Xi S 963 ((i).toNat))) := ⟨_, rfl⟩
  rw [← eU1]
  have hHU1 : RI U1 := by rw [eU1]; exact RI_w hH
  have hFU1 : FR md_mo_phraseMeant__6 S U1 := by rw [eU1]; exact FR.wI hF (mdf_i (r := (976, 977, 0, 100000)) (List.mem_of_getElem? (i := 19) rfl) (inR_i (by omega) (by omega) (by omega) (by omega)))
  have w14 : Xi U1 976 ((p).toNat) = (Xi S 963 ((i).toNat)) := by rw [eU1]; exact Xi_same (by unfold rg; omega)
  have e19 := eU1
  refine y_aload_n rfl rfl ?_
  refine y_gfr rfl rfl rfl rfl rfl (hHU1.r 904 127 977 rfl) ?_
  refine y_iload_n rfl rfl ?_
  refine y_iload_n rfl rfl ?_
  refine y_iastoreP (n := 2000) rfl rfl (by unfold rg; omega) (fun w15 w16 => ?_)
  obtain ⟨U2, eU2⟩ : ∃ T : sS, T = uI U1 977 ((p).toNat) (Int32.ofInt q) := ⟨_, rfl⟩
  rw [← eU2]
  have hHU2 : RI U2 := by rw [eU2]; exact RI_w hHU1
  have hFU2 : FR md_mo_phraseMeant__6 S U2 := by rw [eU2]; exact FR.wI hFU1 (mdf_i (r := (977, 978, 0, 100000)) (List.mem_of_getElem? (i := 20) rfl) (inR_i (by omega) (by omega) (by omega) (by omega)))
  have w17 : Xi U2 977 ((p).toNat) = q := by rw [eU2]; exact Xi_same (by unfold rg; omega)
  have e26 := eU2
  have A26 : U2 = phA S i q p := phA_of e19 rfl e26
  have w26 : Xi U2 963 i.toNat = Xi S 963 i.toNat := (hFU2.cx 963 rfl _).1
  refine y_aload_n rfl rfl ?_
  refine y_gfr rfl rfl rfl rfl rfl (hHU2.r 904 95 963 rfl) ?_
  refine y_iload_n rfl rfl ?_
  refine y_ialoadP (n := 1700) rfl rfl (by unfold rg; omega) (fun w18 w19 => ?_)
  have w20 : (Xi U2 963 ((i).toNat)) = (Xi S 963 ((i).toNat)) := (show Xi U2 963 ((i).toNat) = Xi U1 963 ((i).toNat) from by rw [eU2]; exact Xi_ne (by omega)).trans ((show Xi U1 963 ((i).toNat) = Xi S 963 ((i).toNat) from by rw [eU1]; exact Xi_ne (by omega)))
  rw [w20]
  refine y_if_ne rfl rfl (by unfold rg; omega) (fun w21 => ?_) (fun w22 => ?_)
  · refine y_aload_n rfl rfl ?_
    refine y_gfr rfl rfl rfl rfl rfl (hHU2.r 904 95 963 rfl) ?_
    refine y_iload_n rfl rfl ?_
    refine y_ialoadP (n := 1700) rfl rfl (by unfold rg; omega) (fun w23 w24 => ?_)
    have w25 : (Xi U2 963 ((i).toNat)) = (Xi S 963 ((i).toNat)) := (show Xi U2 963 ((i).toNat) = Xi U1 963 ((i).toNat) from by rw [eU2]; exact Xi_ne (by omega)).trans ((show Xi U1 963 ((i).toNat) = Xi S 963 ((i).toNat) from by rw [eU1]; exact Xi_ne (by omega)))
    rw [w25]
    refine y_iconst rfl ?_
    refine y_icmp_ne rfl rfl (by unfold rg; omega) (by unfold rg; omega) (fun w26 => ?_) (fun w27 => ?_)
    · refine y_aload_n rfl rfl ?_
      refine y_gfr rfl rfl rfl rfl rfl (hHU2.r 904 95 963 rfl) ?_
      refine y_iload_n rfl rfl ?_
      refine y_ialoadP (n := 1700) rfl rfl (by unfold rg; omega) (fun w28 w29 => ?_)
      have w30 : (Xi U2 963 ((i).toNat)) = (Xi S 963 ((i).toNat)) := (show Xi U2 963 ((i).toNat) = Xi U1 963 ((i).toNat) from by rw [eU2]; exact Xi_ne (by omega)).trans ((show Xi U1 963 ((i).toNat) = Xi S 963 ((i).toNat) from by rw [eU1]; exact Xi_ne (by omega)))
      rw [w30]
      refine y_iconst rfl ?_
      refine y_icmp_ne rfl rfl (by unfold rg; omega) (by unfold rg; omega) (fun w31 => ?_) (fun w32 => ?_)
      · refine y_aload_n rfl rfl ?_
        refine y_gfr rfl rfl rfl rfl rfl (hHU2.r 904 95 963 rfl) ?_
        refine y_iload_n rfl rfl ?_
        refine y_ialoadP (n := 1700) rfl rfl (by unfold rg; omega) (fun w33 w34 => ?_)
        have w35 : (Xi U2 963 ((i).toNat)) = (Xi S 963 ((i).toNat)) := (show Xi U2 963 ((i).toNat) = Xi U1 963 ((i).toNat) from by rw [eU2]; exact Xi_ne (by omega)).trans ((show Xi U1 963 ((i).toNat) = Xi S 963 ((i).toNat) from by rw [eU1]; exact Xi_ne (by omega)))
        rw [w35]
        refine y_iconst rfl ?_
        refine y_icmp_eq rfl rfl (by unfold rg; omega) (by unfold rg; omega) (fun w36 => ?_) (fun w37 => ?_)
        · exfalso; omega
        · refine y_aload_n rfl rfl ?_
          refine y_gfr rfl rfl rfl rfl rfl (hHU2.r 904 95 963 rfl) ?_
          refine y_iload_n rfl rfl ?_
          refine y_ialoadP (n := 1700) rfl rfl (by unfold rg; omega) (fun w38 w39 => ?_)
          have w40 : (Xi U2 963 ((i).toNat)) = (Xi S 963 ((i).toNat)) := (show Xi U2 963 ((i).toNat) = Xi U1 963 ((i).toNat) from by rw [eU2]; exact Xi_ne (by omega)).trans ((show Xi U1 963 ((i).toNat) = Xi S 963 ((i).toNat) from by rw [eU1]; exact Xi_ne (by omega)))
          rw [w40]
          refine y_iconst rfl ?_
          refine y_icmp_ne rfl rfl (by unfold rg; omega) (by unfold rg; omega) (fun w41 => ?_) (fun w42 => ?_)
          · refine y_aload_n rfl rfl ?_
            refine y_gfr rfl rfl rfl rfl rfl (hHU2.r 904 95 963 rfl) ?_
            refine y_iload_n rfl rfl ?_
            refine y_ialoadP (n := 1700) rfl rfl (by unfold rg; omega) (fun w43 w44 => ?_)
            have w45 : (Xi U2 963 ((i).toNat)) = (Xi S 963 ((i).toNat)) := (show Xi U2 963 ((i).toNat) = Xi U1 963 ((i).toNat) from by rw [eU2]; exact Xi_ne (by omega)).trans ((show Xi U1 963 ((i).toNat) = Xi S 963 ((i).toNat) from by rw [eU1]; exact Xi_ne (by omega)))
            rw [w45]
            refine y_iconst rfl ?_
            refine y_icmp_ne rfl rfl (by unfold rg; omega) (by unfold rg; omega) (fun w46 => ?_) (fun w47 => ?_)
            · exfalso; omega
            · refine y_aload_n rfl rfl ?_
              refine y_gfr rfl rfl rfl rfl rfl (hHU2.r 904 86 956 rfl) ?_
              refine y_iload rfl rfl ?_
              refine y_ialoadP (n := 1700) rfl rfl (by unfold rg; omega) (fun w48 w49 => ?_)
              have w50 : -2147483648 ≤ (Xi U2 956 (((Xi S 964 ((i).toNat))).toNat)) ∧ (Xi U2 956 (((Xi S 964 ((i).toNat))).toNat)) ≤ 2147483647 := Xi_rgI
              have a353 : (Xi U2 956 (((Xi S 964 ((i).toNat))).toNat)) = Xi S 956 (pTS S i).toNat := (hFU2.cx 956 rfl _).1
              refine y_istore rfl rfl rfl ?_
              refine y_aload_n rfl rfl ?_
              refine y_gfr rfl rfl rfl rfl rfl (hHU2.r 904 83 953 rfl) ?_
              refine y_iload rfl rfl ?_
              refine y_baloadP (n := 1700) rfl rfl rfl (by decide) (by unfold rg; omega) (fun w51 w52 => ?_)
              have w53 : -2147483648 ≤ (Xi U2 953 (((Xi S 964 ((i).toNat))).toNat)) ∧ (Xi U2 953 (((Xi S 964 ((i).toNat))).toNat)) ≤ 2147483647 := Xi_rgI
              have a362 : (Xi U2 953 (((Xi S 964 ((i).toNat))).toNat)) = Xi S 953 (pTS S i).toNat := (hFU2.cx 953 rfl _).1
              refine y_if_eq rfl rfl (by unfold rg; omega) (fun w54 => ?_) (fun w55 => ?_)
              · refine y_aload_n rfl rfl ?_
                refine y_iload rfl rfl ?_
                refine y_iconst rfl ?_
                have w56 : Xi U2 904 115 = Xi S 904 115 := (show Xi U2 904 115 = Xi U1 904 115 from by rw [eU2]; exact Xi_ne (by omega)).trans ((show Xi U1 904 115 = Xi S 904 115 from by rw [eU1]; exact Xi_ne (by omega)))
                have w57 : Xi U2 904 116 = Xi S 904 116 := (show Xi U2 904 116 = Xi U1 904 116 from by rw [eU2]; exact Xi_ne (by omega)).trans ((show Xi U1 904 116 = Xi S 904 116 from by rw [eU1]; exact Xi_ne (by omega)))
                have w58 : Xi U2 904 128 = Xi S 904 128 := (show Xi U2 904 128 = Xi U1 904 128 from by rw [eU2]; exact Xi_ne (by omega)).trans ((show Xi U1 904 128 = Xi S 904 128 from by rw [eU1]; exact Xi_ne (by omega)))
                have w59 : Xi U2 904 129 = Xi S 904 129 := (show Xi U2 904 129 = Xi U1 904 129 from by rw [eU2]; exact Xi_ne (by omega)).trans ((show Xi U1 904 129 = Xi S 904 129 from by rw [eU1]; exact Xi_ne (by omega)))
                have w60 : Xi U2 904 15 = Xi S 904 15 := (show Xi U2 904 15 = Xi U1 904 15 from by rw [eU2]; exact Xi_ne (by omega)).trans ((show Xi U1 904 15 = Xi S 904 15 from by rw [eU1]; exact Xi_ne (by omega)))
                refine y_callV rfl rfl rfl (t_mo_actings__p hHU2 (Xi U2 956 (((Xi S 964 ((i).toNat))).toNat)) 1 ⟨by omega, by omega⟩ ⟨by omega, by omega⟩ (by first | assumption | exact (LSP_FR hFU2 rfl rfl (by assumption : LSP S))) (by first | assumption | omega) (by first | assumption | exact (ABV_FR hFU2 rfl (by assumption : ABV S))) (fun j => by rw [(hFU2.cx 918 rfl _).1]; exact hkx.o j) (by rw [(hFU2.cx 950 rfl _).1, (hFU2.cx 951 rfl _).1, a353]; exact hrn.2) _) ?_
                rintro _ T3 ⟨hHT3, w62, z61, rfl, w61, o448⟩
                have hFT3 : FR md_mo_phraseMeant__6 S T3 := FR.tr hFU2 w62 rfl
                show Pl _ _ _ _ _ _ [iv z61] _ _
                have F448 := (by assumption : FR md_mo_actings__p U2 T3)
                refine y_istore rfl rfl rfl ?_
                refine y_aload_n rfl rfl ?_
                refine y_iload rfl rfl ?_
                refine y_if_le rfl rfl (by unfold rg; omega) (fun w63 => ?_) (fun w64 => ?_)
                · refine y_iconst rfl ?_
                  refine y_iconst rfl ?_
                  refine y_aload_n rfl rfl ?_
                  refine y_gfr rfl rfl rfl rfl rfl (hHT3.r 904 67 950 rfl) ?_
                  refine y_iload rfl rfl ?_
                  refine y_ialoadP (n := 2600) rfl rfl (by unfold rg; omega) (fun w65 w66 => ?_)
                  have w67 : -2147483648 ≤ (Xi T3 950 (((Xi U2 956 (((Xi S 964 ((i).toNat))).toNat))).toNat)) ∧ (Xi T3 950 (((Xi U2 956 (((Xi S 964 ((i).toNat))).toNat))).toNat)) ≤ 2147483647 := Xi_rgI
                  have v471 : (Xi T3 950 (((Xi U2 956 (((Xi S 964 ((i).toNat))).toNat))).toNat)) = Xi S 950 (Xi S 956 (pTS S i).toNat).toNat := by rw [(hFT3.cx 950 rfl _).1, a353]
                  have p471 : Xi T3 908 ((Xi T3 950 (((Xi U2 956 (((Xi S 964 ((i).toNat))).toNat))).toNat))).toNat = pR S (Xi S 956 (pTS S i).toNat) := by unfold pR; rw [(hFT3.cx 908 rfl _).1, v471]
                  have w68 : Xi T3 904 115 = Xi S 904 115 := (show Xi T3 904 115 = Xi U2 904 115 from w62.x _ _ rfl).trans ( (show Xi U2 904 115 = Xi U1 904 115 from by rw [eU2]; exact Xi_ne (by omega)).trans ((show Xi U1 904 115 = Xi S 904 115 from by rw [eU1]; exact Xi_ne (by omega))))
                  have w69 : Xi T3 904 116 = Xi S 904 116 := (show Xi T3 904 116 = Xi U2 904 116 from w62.x _ _ rfl).trans ( (show Xi U2 904 116 = Xi U1 904 116 from by rw [eU2]; exact Xi_ne (by omega)).trans ((show Xi U1 904 116 = Xi S 904 116 from by rw [eU1]; exact Xi_ne (by omega))))
                  have w70 : Xi T3 904 15 = Xi S 904 15 := (show Xi T3 904 15 = Xi U2 904 15 from w62.x _ _ rfl).trans ( (show Xi U2 904 15 = Xi U1 904 15 from by rw [eU2]; exact Xi_ne (by omega)).trans ((show Xi U1 904 15 = Xi S 904 15 from by rw [eU1]; exact Xi_ne (by omega))))
                  refine y_callV rfl rfl rfl (t_mo_need__p hHT3 0 4 (Xi T3 950 (((Xi U2 956 (((Xi S 964 ((i).toNat))).toNat))).toNat)) ⟨by omega, by omega⟩ ⟨by omega, by omega⟩ ⟨by omega, by omega⟩ _) ?_
                  rintro _ T4 ⟨hHT4, w72, rfl, nt472⟩
                  have hFT4 : FR md_mo_phraseMeant__6 S T4 := FR.tr hFT3 w72 rfl
                  show Pl _ _ _ _ _ _ [] _ _
                  have F472 := (by assumption : FR md_mo_need__p T3 T4)
                  have N472 : NT3 T4 = (if 0 < z61 then NT3 T3 else ntF (NT3 T3) 4 (pR S (Xi S 956 (pTS S i).toNat))) := by rw [← p471]; first | (rw [if_pos (by omega)]; exact nt472.trans (if_neg (by decide))) | (rw [if_neg (by omega)]; exact nt472.trans (if_pos rfl))
                  refine y_aload_n rfl rfl ?_
                  refine y_iload rfl rfl ?_
                  refine y_iconst rfl ?_
                  refine y_icmp_ge rfl rfl (by unfold rg; omega) (by unfold rg; omega) (fun w73 => ?_) (fun w74 => ?_)
                  · refine y_iconst rfl ?_
                    refine y_bipush rfl rfl ?_
                    refine y_aload_n rfl rfl ?_
                    refine y_gfr rfl rfl rfl rfl rfl (hHT4.r 904 67 950 rfl) ?_
                    refine y_iload rfl rfl ?_
                    refine y_ialoadP (n := 2600) rfl rfl (by unfold rg; omega) (fun w75 w76 => ?_)
                    have w77 : (Xi T4 950 (((Xi U2 956 (((Xi S 964 ((i).toNat))).toNat))).toNat)) = (Xi T3 950 (((Xi U2 956 (((Xi S 964 ((i).toNat))).toNat))).toNat)) := (show Xi T4 950 (((Xi U2 956 (((Xi S 964 ((i).toNat))).toNat))).toNat) = Xi T3 950 (((Xi U2 956 (((Xi S 964 ((i).toNat))).toNat))).toNat) from w72.x _ _ rfl)
                    rw [w77]
                    have v495 : (Xi T3 950 (((Xi U2 956 (((Xi S 964 ((i).toNat))).toNat))).toNat)) = Xi S 950 (Xi S 956 (pTS S i).toNat).toNat := by rw [(hFT3.cx 950 rfl _).1, a353]
                    have p495 : Xi T4 908 ((Xi T3 950 (((Xi U2 956 (((Xi S 964 ((i).toNat))).toNat))).toNat))).toNat = pR S (Xi S 956 (pTS S i).toNat) := by unfold pR; rw [(hFT4.cx 908 rfl _).1, v495]
                    have w78 : Xi T4 904 115 = Xi S 904 115 := (show Xi T4 904 115 = Xi T3 904 115 from w72.x _ _ rfl).trans ( (show Xi T3 904 115 = Xi U2 904 115 from w62.x _ _ rfl).trans ( (show Xi U2 904 115 = Xi U1 904 115 from by rw [eU2]; exact Xi_ne (by omega)).trans ((show Xi U1 904 115 = Xi S 904 115 from by rw [eU1]; exact Xi_ne (by omega)))))
                    have w79 : Xi T4 904 116 = Xi S 904 116 := (show Xi T4 904 116 = Xi T3 904 116 from w72.x _ _ rfl).trans ( (show Xi T3 904 116 = Xi U2 904 116 from w62.x _ _ rfl).trans ( (show Xi U2 904 116 = Xi U1 904 116 from by rw [eU2]; exact Xi_ne (by omega)).trans ((show Xi U1 904 116 = Xi S 904 116 from by rw [eU1]; exact Xi_ne (by omega)))))
                    have w80 : Xi T4 904 128 = Xi T3 904 128 := (show Xi T4 904 128 = Xi T3 904 128 from w72.x _ _ rfl)
                    have w81 : Xi T4 904 129 = Xi T3 904 129 := (show Xi T4 904 129 = Xi T3 904 129 from w72.x _ _ rfl)
                    have w82 : Xi T4 904 15 = Xi S 904 15 := (show Xi T4 904 15 = Xi T3 904 15 from w72.x _ _ rfl).trans ( (show Xi T3 904 15 = Xi U2 904 15 from w62.x _ _ rfl).trans ( (show Xi U2 904 15 = Xi U1 904 15 from by rw [eU2]; exact Xi_ne (by omega)).trans ((show Xi U1 904 15 = Xi S 904 15 from by rw [eU1]; exact Xi_ne (by omega)))))
                    refine y_callV rfl rfl rfl (t_mo_need__p hHT4 0 7 (Xi T3 950 (((Xi U2 956 (((Xi S 964 ((i).toNat))).toNat))).toNat)) ⟨by omega, by omega⟩ ⟨by omega, by omega⟩ ⟨by omega, by omega⟩ _) ?_
                    rintro _ T5 ⟨hHT5, w84, rfl, nt496⟩
                    have hFT5 : FR md_mo_phraseMeant__6 S T5 := FR.tr hFT4 w84 rfl
                    show Pl _ _ _ _ _ _ [] _ _
                    have F496 := (by assumption : FR md_mo_need__p T4 T5)
                    have N496 : NT3 T5 = (if z61 < 2 then NT3 T4 else ntF (NT3 T4) 7 (pR S (Xi S 956 (pTS S i).toNat))) := by rw [← p495]; first | (rw [if_pos (by omega)]; exact nt496.trans (if_neg (by decide))) | (rw [if_neg (by omega)]; exact nt496.trans (if_pos rfl))
                    refine y_aload_n rfl rfl ?_
                    refine y_gfr rfl rfl rfl rfl rfl (hHT5.r 904 121 972 rfl) ?_
                    refine y_iload_n rfl rfl ?_
                    refine y_iload rfl rfl ?_
                    refine y_if_le rfl rfl (by unfold rg; omega) (fun w85 => ?_) (fun w86 => ?_)
                    · refine y_iconst rfl ?_
                      refine y_iastoreP (n := 2400) rfl rfl (by unfold rg; omega) (fun w87 w88 => ?_)
                      obtain ⟨U6, eU6⟩ : ∃ T : sS, T = uI T5 972 ((q).toNat) (Int32.ofInt 0) := ⟨_, rfl⟩
                      rw [← eU6]
                      have hHU6 : RI U6 := by rw [eU6]; exact RI_w hHT5
                      have hFU6 : FR md_mo_phraseMeant__6 S U6 := by rw [eU6]; exact FR.wI hFT5 (mdf_i (r := (972, 973, 0, 100000)) (List.mem_of_getElem? (i := 15) rfl) (inR_i (by omega) (by omega) (by omega) (by omega)))
                      have w89 : Xi U6 972 ((q).toNat) = 0 := by rw [eU6]; exact Xi_same (by unfold rg; omega)
                      have e517 := eU6
                      refine y_aload_n rfl rfl ?_
                      refine y_gfr rfl rfl rfl rfl rfl (hHU6.r 904 120 971 rfl) ?_
                      refine y_iload_n rfl rfl ?_
                      refine y_iload rfl rfl ?_
                      refine y_if_le rfl rfl (by unfold rg; omega) (fun w90 => ?_) (fun w91 => ?_)
                      · refine y_iconst rfl ?_
                        refine y_iastoreP (n := 2400) rfl rfl (by unfold rg; omega) (fun w92 w93 => ?_)
                        obtain ⟨U7, eU7⟩ : ∃ T : sS, T = uI U6 971 ((q).toNat) (Int32.ofInt (-1)) := ⟨_, rfl⟩
                        rw [← eU7]
                        have hHU7 : RI U7 := by rw [eU7]; exact RI_w hHU6
                        have hFU7 : FR md_mo_phraseMeant__6 S U7 := by rw [eU7]; exact FR.wI hFU6 (mdf_i (r := (971, 972, 0, 100000)) (List.mem_of_getElem? (i := 14) rfl) (inR_i (by omega) (by omega) (by omega) (by omega)))
                        have w94 : Xi U7 971 ((q).toNat) = (-1) := by rw [eU7]; exact Xi_same (by unfold rg; omega)
                        have e536 := eU7
                        refine y_aload_n rfl rfl ?_
                        refine y_gfr rfl rfl rfl rfl rfl (hHU7.r 904 119 970 rfl) ?_
                        refine y_iload_n rfl rfl ?_
                        refine y_aload_n rfl rfl ?_
                        refine y_gfr rfl rfl rfl rfl rfl (hHU7.r 904 120 971 rfl) ?_
                        refine y_iload_n rfl rfl ?_
                        refine y_ialoadP (n := 2400) rfl rfl (by unfold rg; omega) (fun w95 w96 => ?_)
                        have h547 := xi_of e536 (by unfold rg; omega)
                        refine y_iconst rfl ?_
                        refine y_icmp_ne rfl rfl (by unfold rg; omega) (by unfold rg; omega) (fun w97 => ?_) (fun w98 => ?_)
                        · refine y_iconst rfl ?_
                          refine y_bastoreZP (n := 2400) rfl rfl (by unfold rg; omega) ⟨by omega, by omega⟩ (fun w99 w100 => ?_)
                          obtain ⟨U8, eU8⟩ : ∃ T : sS, T = uI U7 970 ((q).toNat) (Int32.ofInt 0) := ⟨_, rfl⟩
                          rw [← eU8]
                          have hHU8 : RI U8 := by rw [eU8]; exact RI_w hHU7
                          have hFU8 : FR md_mo_phraseMeant__6 S U8 := by rw [eU8]; exact FR.wI hFU7 (mdf_i (r := (970, 971, 0, 100000)) (List.mem_of_getElem? (i := 13) rfl) (inR_i (by omega) (by omega) (by omega) (by omega)))
                          have w101 : Xi U8 970 ((q).toNat) = 0 := by rw [eU8]; exact Xi_same (by unfold rg; omega)
                          have e567 := eU8
                          refine y_return rfl rfl ?_
                          have w102 : Xi U8 904 115 = Xi S 904 115 := (show Xi U8 904 115 = Xi U7 904 115 from by rw [eU8]; exact Xi_ne (by omega)).trans ( (show Xi U7 904 115 = Xi U6 904 115 from by rw [eU7]; exact Xi_ne (by omega)).trans ( (show Xi U6 904 115 = Xi T5 904 115 from by rw [eU6]; exact Xi_ne (by omega)).trans ( (show Xi T5 904 115 = Xi T4 904 115 from w84.x _ _ rfl).trans ( (show Xi T4 904 115 = Xi T3 904 115 from w72.x _ _ rfl).trans ( (show Xi T3 904 115 = Xi U2 904 115 from w62.x _ _ rfl).trans ( (show Xi U2 904 115 = Xi U1 904 115 from by rw [eU2]; exact Xi_ne (by omega)).trans ((show Xi U1 904 115 = Xi S 904 115 from by rw [eU1]; exact Xi_ne (by omega)))))))))
                          have w103 : Xi U8 904 116 = Xi S 904 116 := (show Xi U8 904 116 = Xi U7 904 116 from by rw [eU8]; exact Xi_ne (by omega)).trans ( (show Xi U7 904 116 = Xi U6 904 116 from by rw [eU7]; exact Xi_ne (by omega)).trans ( (show Xi U6 904 116 = Xi T5 904 116 from by rw [eU6]; exact Xi_ne (by omega)).trans ( (show Xi T5 904 116 = Xi T4 904 116 from w84.x _ _ rfl).trans ( (show Xi T4 904 116 = Xi T3 904 116 from w72.x _ _ rfl).trans ( (show Xi T3 904 116 = Xi U2 904 116 from w62.x _ _ rfl).trans ( (show Xi U2 904 116 = Xi U1 904 116 from by rw [eU2]; exact Xi_ne (by omega)).trans ((show Xi U1 904 116 = Xi S 904 116 from by rw [eU1]; exact Xi_ne (by omega)))))))))
                          have w104 : Xi U8 904 128 = Xi T3 904 128 := (show Xi U8 904 128 = Xi U7 904 128 from by rw [eU8]; exact Xi_ne (by omega)).trans ( (show Xi U7 904 128 = Xi U6 904 128 from by rw [eU7]; exact Xi_ne (by omega)).trans ( (show Xi U6 904 128 = Xi T5 904 128 from by rw [eU6]; exact Xi_ne (by omega)).trans ( (show Xi T5 904 128 = Xi T4 904 128 from w84.x _ _ rfl).trans ((show Xi T4 904 128 = Xi T3 904 128 from w72.x _ _ rfl)))))
                          have w105 : Xi U8 904 129 = Xi T3 904 129 := (show Xi U8 904 129 = Xi U7 904 129 from by rw [eU8]; exact Xi_ne (by omega)).trans ( (show Xi U7 904 129 = Xi U6 904 129 from by rw [eU7]; exact Xi_ne (by omega)).trans ( (show Xi U6 904 129 = Xi T5 904 129 from by rw [eU6]; exact Xi_ne (by omega)).trans ( (show Xi T5 904 129 = Xi T4 904 129 from w84.x _ _ rfl).trans ((show Xi T4 904 129 = Xi T3 904 129 from w72.x _ _ rfl)))))
                          have w106 : Xi U8 904 15 = Xi S 904 15 := (show Xi U8 904 15 = Xi U7 904 15 from by rw [eU8]; exact Xi_ne (by omega)).trans ( (show Xi U7 904 15 = Xi U6 904 15 from by rw [eU7]; exact Xi_ne (by omega)).trans ( (show Xi U6 904 15 = Xi T5 904 15 from by rw [eU6]; exact Xi_ne (by omega)).trans ( (show Xi T5 904 15 = Xi T4 904 15 from w84.x _ _ rfl).trans ( (show Xi T4 904 15 = Xi T3 904 15 from w72.x _ _ rfl).trans ( (show Xi T3 904 15 = Xi U2 904 15 from w62.x _ _ rfl).trans ( (show Xi U2 904 15 = Xi U1 904 15 from by rw [eU2]; exact Xi_ne (by omega)).trans ((show Xi U1 904 15 = Xi S 904 15 from by rw [eU1]; exact Xi_ne (by omega)))))))))
                          exact ⟨hHU8, hFU8, rfl, (⟨_, _, _, _, _, _, _, _, by rw [← A26, ← a353]; exact o448, by rw [← A26]; exact F448, N472, F472, N496, F496, (by first | (have u := t510; rw [if_pos (by omega)]; exact t510) | (rw [if_neg (by omega)])), (by first | (have u := t529; rw [if_pos (by omega)]; exact t529) | (rw [if_neg (by omega)])), e517, e536, (by first | (rw [if_pos (by omega)]; exact e567) | (rw [if_neg (by omega)]; exact e567))⟩)⟩
                        · refine y_aload_n rfl rfl ?_
                          refine y_gfr rfl rfl rfl rfl rfl (hHU7.r 904 83 953 rfl) ?_
                          refine y_iload rfl rfl ?_
                          refine y_baloadP (n := 1700) rfl rfl rfl (by decide) (by unfold rg; omega) (fun w107 w108 => ?_)
                          have w109 : (Xi U7 953 (((Xi S 964 ((i).toNat))).toNat)) = (Xi U2 953 (((Xi S 964 ((i).toNat))).toNat)) := (show Xi U7 953 (((Xi S 964 ((i).toNat))).toNat) = Xi U6 953 (((Xi S 964 ((i).toNat))).toNat) from by rw [eU7]; exact Xi_ne (by omega)).trans ( (show Xi U6 953 (((Xi S 964 ((i).toNat))).toNat) = Xi T5 953 (((Xi S 964 ((i).toNat))).toNat) from by rw [eU6]; exact Xi_ne (by omega)).trans ( (show Xi T5 953 (((Xi S 964 ((i).toNat))).toNat) = Xi T4 953 (((Xi S 964 ((i).toNat))).toNat) from w84.x _ _ rfl).trans ( (show Xi T4 953 (((Xi S 964 ((i).toNat))).toNat) = Xi T3 953 (((Xi S 964 ((i).toNat))).toNat) from w72.x _ _ rfl).trans ((show Xi T3 953 (((Xi S 964 ((i).toNat))).toNat) = Xi U2 953 (((Xi S 964 ((i).toNat))).toNat) from w62.x _ _ rfl)))))
                          rw [w109]
                          have a558 : (Xi U2 953 (((Xi S 964 ((i).toNat))).toNat)) = Xi S 953 (pTS S i).toNat := (hFU2.cx 953 rfl _).1
                          refine y_if_ne rfl rfl (by unfold rg; omega) (fun w110 => ?_) (fun w111 => ?_)
                          · refine y_iconst rfl ?_
                            refine y_bastoreZP (n := 2400) rfl rfl (by unfold rg; omega) ⟨by omega, by omega⟩ (fun w112 w113 => ?_)
                            obtain ⟨U9, eU9⟩ : ∃ T : sS, T = uI U7 970 ((q).toNat) (Int32.ofInt 0) := ⟨_, rfl⟩
                            rw [← eU9]
                            have hHU9 : RI U9 := by rw [eU9]; exact RI_w hHU7
                            have hFU9 : FR md_mo_phraseMeant__6 S U9 := by rw [eU9]; exact FR.wI hFU7 (mdf_i (r := (970, 971, 0, 100000)) (List.mem_of_getElem? (i := 13) rfl) (inR_i (by omega) (by omega) (by omega) (by omega)))
                            have w114 : Xi U9 970 ((q).toNat) = 0 := by rw [eU9]; exact Xi_same (by unfold rg; omega)
                            have e567 := eU9
                            refine y_return rfl rfl ?_
                            have w115 : Xi U9 904 115 = Xi S 904 115 := (show Xi U9 904 115 = Xi U7 904 115 from by rw [eU9]; exact Xi_ne (by omega)).trans ( (show Xi U7 904 115 = Xi U6 904 115 from by rw [eU7]; exact Xi_ne (by omega)).trans ( (show Xi U6 904 115 = Xi T5 904 115 from by rw [eU6]; exact Xi_ne (by omega)).trans ( (show Xi T5 904 115 = Xi T4 904 115 from w84.x _ _ rfl).trans ( (show Xi T4 904 115 = Xi T3 904 115 from w72.x _ _ rfl).trans ( (show Xi T3 904 115 = Xi U2 904 115 from w62.x _ _ rfl).trans ( (show Xi U2 904 115 = Xi U1 904 115 from by rw [eU2]; exact Xi_ne (by omega)).trans ((show Xi U1 904 115 = Xi S 904 115 from by rw [eU1]; exact Xi_ne (by omega)))))))))
                            have w116 : Xi U9 904 116 = Xi S 904 116 := (show Xi U9 904 116 = Xi U7 904 116 from by rw [eU9]; exact Xi_ne (by omega)).trans ( (show Xi U7 904 116 = Xi U6 904 116 from by rw [eU7]; exact Xi_ne (by omega)).trans ( (show Xi U6 904 116 = Xi T5 904 116 from by rw [eU6]; exact Xi_ne (by omega)).trans ( (show Xi T5 904 116 = Xi T4 904 116 from w84.x _ _ rfl).trans ( (show Xi T4 904 116 = Xi T3 904 116 from w72.x _ _ rfl).trans ( (show Xi T3 904 116 = Xi U2 904 116 from w62.x _ _ rfl).trans ( (show Xi U2 904 116 = Xi U1 904 116 from by rw [eU2]; exact Xi_ne (by omega)).trans ((show Xi U1 904 116 = Xi S 904 116 from by rw [eU1]; exact Xi_ne (by omega)))))))))
                            have w117 : Xi U9 904 128 = Xi T3 904 128 := (show Xi U9 904 128 = Xi U7 904 128 from by rw [eU9]; exact Xi_ne (by omega)).trans ( (show Xi U7 904 128 = Xi U6 904 128 from by rw [eU7]; exact Xi_ne (by omega)).trans ( (show Xi U6 904 128 = Xi T5 904 128 from by rw [eU6]; exact Xi_ne (by omega)).trans ( (show Xi T5 904 128 = Xi T4 904 128 from w84.x _ _ rfl).trans ((show Xi T4 904 128 = Xi T3 904 128 from w72.x _ _ rfl)))))
                            have w118 : Xi U9 904 129 = Xi T3 904 129 := (show Xi U9 904 129 = Xi U7 904 129 from by rw [eU9]; exact Xi_ne (by omega)).trans ( (show Xi U7 904 129 = Xi U6 904 129 from by rw [eU7]; exact Xi_ne (by omega)).trans ( (show Xi U6 904 129 = Xi T5 904 129 from by rw [eU6]; exact Xi_ne (by omega)).trans ( (show Xi T5 904 129 = Xi T4 904 129 from w84.x _ _ rfl).trans ((show Xi T4 904 129 = Xi T3 904 129 from w72.x _ _ rfl)))))
                            have w119 : Xi U9 904 15 = Xi S 904 15 := (show Xi U9 904 15 = Xi U7 904 15 from by rw [eU9]; exact Xi_ne (by omega)).trans ( (show Xi U7 904 15 = Xi U6 904 15 from by rw [eU7]; exact Xi_ne (by omega)).trans ( (show Xi U6 904 15 = Xi T5 904 15 from by rw [eU6]; exact Xi_ne (by omega)).trans ( (show Xi T5 904 15 = Xi T4 904 15 from w84.x _ _ rfl).trans ( (show Xi T4 904 15 = Xi T3 904 15 from w72.x _ _ rfl).trans ( (show Xi T3 904 15 = Xi U2 904 15 from w62.x _ _ rfl).trans ( (show Xi U2 904 15 = Xi U1 904 15 from by rw [eU2]; exact Xi_ne (by omega)).trans ((show Xi U1 904 15 = Xi S 904 15 from by rw [eU1]; exact Xi_ne (by omega)))))))))
                            exact ⟨hHU9, hFU9, rfl, (⟨_, _, _, _, _, _, _, _, by rw [← A26, ← a353]; exact o448, by rw [← A26]; exact F448, N472, F472, N496, F496, (by first | (have u := t510; rw [if_pos (by omega)]; exact t510) | (rw [if_neg (by omega)])), (by first | (have u := t529; rw [if_pos (by omega)]; exact t529) | (rw [if_neg (by omega)])), e517, e536, (by first | (rw [if_pos (by omega)]; exact e567) | (rw [if_neg (by omega)]; exact e567))⟩)⟩
                          · refine y_iconst rfl ?_
                            refine y_goto rfl rfl ?_
                            refine y_bastoreZP (n := 2400) rfl rfl (by unfold rg; omega) ⟨by omega, by omega⟩ (fun w120 w121 => ?_)
                            obtain ⟨U10, eU10⟩ : ∃ T : sS, T = uI U7 970 ((q).toNat) (Int32.ofInt 1) := ⟨_, rfl⟩
                            rw [← eU10]
                            have hHU10 : RI U10 := by rw [eU10]; exact RI_w hHU7
                            have hFU10 : FR md_mo_phraseMeant__6 S U10 := by rw [eU10]; exact FR.wI hFU7 (mdf_i (r := (970, 971, 0, 100000)) (List.mem_of_getElem? (i := 13) rfl) (inR_i (by omega) (by omega) (by omega) (by omega)))
                            have w122 : Xi U10 970 ((q).toNat) = 1 := by rw [eU10]; exact Xi_same (by unfold rg; omega)
                            have e567 := eU10
                            refine y_return rfl rfl ?_
                            have w123 : Xi U10 904 115 = Xi S 904 115 := (show Xi U10 904 115 = Xi U7 904 115 from by rw [eU10]; exact Xi_ne (by omega)).trans ( (show Xi U7 904 115 = Xi U6 904 115 from by rw [eU7]; exact Xi_ne (by omega)).trans ( (show Xi U6 904 115 = Xi T5 904 115 from by rw [eU6]; exact Xi_ne (by omega)).trans ( (show Xi T5 904 115 = Xi T4 904 115 from w84.x _ _ rfl).trans ( (show Xi T4 904 115 = Xi T3 904 115 from w72.x _ _ rfl).trans ( (show Xi T3 904 115 = Xi U2 904 115 from w62.x _ _ rfl).trans ( (show Xi U2 904 115 = Xi U1 904 115 from by rw [eU2]; exact Xi_ne (by omega)).trans ((show Xi U1 904 115 = Xi S 904 115 from by rw [eU1]; exact Xi_ne (by omega)))))))))
                            have w124 : Xi U10 904 116 = Xi S 904 116 := (show Xi U10 904 116 = Xi U7 904 116 from by rw [eU10]; exact Xi_ne (by omega)).trans ( (show Xi U7 904 116 = Xi U6 904 116 from by rw [eU7]; exact Xi_ne (by omega)).trans ( (show Xi U6 904 116 = Xi T5 904 116 from by rw [eU6]; exact Xi_ne (by omega)).trans ( (show Xi T5 904 116 = Xi T4 904 116 from w84.x _ _ rfl).trans ( (show Xi T4 904 116 = Xi T3 904 116 from w72.x _ _ rfl).trans ( (show Xi T3 904 116 = Xi U2 904 116 from w62.x _ _ rfl).trans ( (show Xi U2 904 116 = Xi U1 904 116 from by rw [eU2]; exact Xi_ne (by omega)).trans ((show Xi U1 904 116 = Xi S 904 116 from by rw [eU1]; exact Xi_ne (by omega)))))))))
                            have w125 : Xi U10 904 128 = Xi T3 904 128 := (show Xi U10 904 128 = Xi U7 904 128 from by rw [eU10]; exact Xi_ne (by omega)).trans ( (show Xi U7 904 128 = Xi U6 904 128 from by rw [eU7]; exact Xi_ne (by omega)).trans ( (show Xi U6 904 128 = Xi T5 904 128 from by rw [eU6]; exact Xi_ne (by omega)).trans ( (show Xi T5 904 128 = Xi T4 904 128 from w84.x _ _ rfl).trans ((show Xi T4 904 128 = Xi T3 904 128 from w72.x _ _ rfl)))))
                            have w126 : Xi U10 904 129 = Xi T3 904 129 := (show Xi U10 904 129 = Xi U7 904 129 from by rw [eU10]; exact Xi_ne (by omega)).trans ( (show Xi U7 904 129 = Xi U6 904 129 from by rw [eU7]; exact Xi_ne (by omega)).trans ( (show Xi U6 904 129 = Xi T5 904 129 from by rw [eU6]; exact Xi_ne (by omega)).trans ( (show Xi T5 904 129 = Xi T4 904 129 from w84.x _ _ rfl).trans ((show Xi T4 904 129 = Xi T3 904 129 from w72.x _ _ rfl)))))
                            have w127 : Xi U10 904 15 = Xi S 904 15 := (show Xi U10 904 15 = Xi U7 904 15 from by rw [eU10]; exact Xi_ne (by omega)).trans ( (show Xi U7 904 15 = Xi U6 904 15 from by rw [eU7]; exact Xi_ne (by omega)).trans ( (show Xi U6 904 15 = Xi T5 904 15 from by rw [eU6]; exact Xi_ne (by omega)).trans ( (show Xi T5 904 15 = Xi T4 904 15 from w84.x _ _ rfl).trans ( (show Xi T4 904 15 = Xi T3 904 15 from w72.x _ _ rfl).trans ( (show Xi T3 904 15 = Xi U2 904 15 from w62.x _ _ rfl).trans ( (show Xi U2 904 15 = Xi U1 904 15 from by rw [eU2]; exact Xi_ne (by omega)).trans ((show Xi U1 904 15 = Xi S 904 15 from by rw [eU1]; exact Xi_ne (by omega)))))))))
                            exact ⟨hHU10, hFU10, rfl, (⟨_, _, _, _, _, _, _, _, by rw [← A26, ← a353]; exact o448, by rw [← A26]; exact F448, N472, F472, N496, F496, (by first | (have u := t510; rw [if_pos (by omega)]; exact t510) | (rw [if_neg (by omega)])), (by first | (have u := t529; rw [if_pos (by omega)]; exact t529) | (rw [if_neg (by omega)])), e517, e536, (by first | (rw [if_pos (by omega)]; exact e567) | (rw [if_neg (by omega)]; exact e567))⟩)⟩
                      · exfalso; omega
                    · exfalso; omega
                  · refine y_iconst rfl ?_
                    refine y_goto rfl rfl ?_
                    refine y_bipush rfl rfl ?_
                    refine y_aload_n rfl rfl ?_
                    refine y_gfr rfl rfl rfl rfl rfl (hHT4.r 904 67 950 rfl) ?_
                    refine y_iload rfl rfl ?_
                    refine y_ialoadP (n := 2600) rfl rfl (by unfold rg; omega) (fun w128 w129 => ?_)
                    have w130 : (Xi T4 950 (((Xi U2 956 (((Xi S 964 ((i).toNat))).toNat))).toNat)) = (Xi T3 950 (((Xi U2 956 (((Xi S 964 ((i).toNat))).toNat))).toNat)) := (show Xi T4 950 (((Xi U2 956 (((Xi S 964 ((i).toNat))).toNat))).toNat) = Xi T3 950 (((Xi U2 956 (((Xi S 964 ((i).toNat))).toNat))).toNat) from w72.x _ _ rfl)
                    rw [w130]
                    have v495 : (Xi T3 950 (((Xi U2 956 (((Xi S 964 ((i).toNat))).toNat))).toNat)) = Xi S 950 (Xi S 956 (pTS S i).toNat).toNat := by rw [(hFT3.cx 950 rfl _).1, a353]
                    have p495 : Xi T4 908 ((Xi T3 950 (((Xi U2 956 (((Xi S 964 ((i).toNat))).toNat))).toNat))).toNat = pR S (Xi S 956 (pTS S i).toNat) := by unfold pR; rw [(hFT4.cx 908 rfl _).1, v495]
                    have w131 : Xi T4 904 115 = Xi S 904 115 := (show Xi T4 904 115 = Xi T3 904 115 from w72.x _ _ rfl).trans ( (show Xi T3 904 115 = Xi U2 904 115 from w62.x _ _ rfl).trans ( (show Xi U2 904 115 = Xi U1 904 115 from by rw [eU2]; exact Xi_ne (by omega)).trans ((show Xi U1 904 115 = Xi S 904 115 from by rw [eU1]; exact Xi_ne (by omega)))))
                    have w132 : Xi T4 904 116 = Xi S 904 116 := (show Xi T4 904 116 = Xi T3 904 116 from w72.x _ _ rfl).trans ( (show Xi T3 904 116 = Xi U2 904 116 from w62.x _ _ rfl).trans ( (show Xi U2 904 116 = Xi U1 904 116 from by rw [eU2]; exact Xi_ne (by omega)).trans ((show Xi U1 904 116 = Xi S 904 116 from by rw [eU1]; exact Xi_ne (by omega)))))
                    have w133 : Xi T4 904 128 = Xi T3 904 128 := (show Xi T4 904 128 = Xi T3 904 128 from w72.x _ _ rfl)
                    have w134 : Xi T4 904 129 = Xi T3 904 129 := (show Xi T4 904 129 = Xi T3 904 129 from w72.x _ _ rfl)
                    have w135 : Xi T4 904 15 = Xi S 904 15 := (show Xi T4 904 15 = Xi T3 904 15 from w72.x _ _ rfl).trans ( (show Xi T3 904 15 = Xi U2 904 15 from w62.x _ _ rfl).trans ( (show Xi U2 904 15 = Xi U1 904 15 from by rw [eU2]; exact Xi_ne (by omega)).trans ((show Xi U1 904 15 = Xi S 904 15 from by rw [eU1]; exact Xi_ne (by omega)))))
                    refine y_callV rfl rfl rfl (t_mo_need__p hHT4 1 7 (Xi T3 950 (((Xi U2 956 (((Xi S 964 ((i).toNat))).toNat))).toNat)) ⟨by omega, by omega⟩ ⟨by omega, by omega⟩ ⟨by omega, by omega⟩ _) ?_
                    rintro _ T11 ⟨hHT11, w137, rfl, nt496⟩
                    have hFT11 : FR md_mo_phraseMeant__6 S T11 := FR.tr hFT4 w137 rfl
                    show Pl _ _ _ _ _ _ [] _ _
                    have F496 := (by assumption : FR md_mo_need__p T4 T11)
                    have N496 : NT3 T11 = (if z61 < 2 then NT3 T4 else ntF (NT3 T4) 7 (pR S (Xi S 956 (pTS S i).toNat))) := by rw [← p495]; first | (rw [if_pos (by omega)]; exact nt496.trans (if_neg (by decide))) | (rw [if_neg (by omega)]; exact nt496.trans (if_pos rfl))
                    refine y_aload_n rfl rfl ?_
                    refine y_gfr rfl rfl rfl rfl rfl (hHT11.r 904 121 972 rfl) ?_
                    refine y_iload_n rfl rfl ?_
                    refine y_iload rfl rfl ?_
                    refine y_if_le rfl rfl (by unfold rg; omega) (fun w138 => ?_) (fun w139 => ?_)
                    · refine y_iconst rfl ?_
                      refine y_iastoreP (n := 2400) rfl rfl (by unfold rg; omega) (fun w140 w141 => ?_)
                      obtain ⟨U12, eU12⟩ : ∃ T : sS, T = uI T11 972 ((q).toNat) (Int32.ofInt 0) := ⟨_, rfl⟩
                      rw [← eU12]
                      have hHU12 : RI U12 := by rw [eU12]; exact RI_w hHT11
                      have hFU12 : FR md_mo_phraseMeant__6 S U12 := by rw [eU12]; exact FR.wI hFT11 (mdf_i (r := (972, 973, 0, 100000)) (List.mem_of_getElem? (i := 15) rfl) (inR_i (by omega) (by omega) (by omega) (by omega)))
                      have w142 : Xi U12 972 ((q).toNat) = 0 := by rw [eU12]; exact Xi_same (by unfold rg; omega)
                      have e517 := eU12
                      refine y_aload_n rfl rfl ?_
                      refine y_gfr rfl rfl rfl rfl rfl (hHU12.r 904 120 971 rfl) ?_
                      refine y_iload_n rfl rfl ?_
                      refine y_iload rfl rfl ?_
                      refine y_if_le rfl rfl (by unfold rg; omega) (fun w143 => ?_) (fun w144 => ?_)
                      · refine y_iconst rfl ?_
                        refine y_iastoreP (n := 2400) rfl rfl (by unfold rg; omega) (fun w145 w146 => ?_)
                        obtain ⟨U13, eU13⟩ : ∃ T : sS, T = uI U12 971 ((q).toNat) (Int32.ofInt (-1)) := ⟨_, rfl⟩
                        rw [← eU13]
                        have hHU13 : RI U13 := by rw [eU13]; exact RI_w hHU12
                        have hFU13 : FR md_mo_phraseMeant__6 S U13 := by rw [eU13]; exact FR.wI hFU12 (mdf_i (r := (971, 972, 0, 100000)) (List.mem_of_getElem? (i := 14) rfl) (inR_i (by omega) (by omega) (by omega) (by omega)))
                        have w147 : Xi U13 971 ((q).toNat) = (-1) := by rw [eU13]; exact Xi_same (by unfold rg; omega)
                        have e536 := eU13
                        refine y_aload_n rfl rfl ?_
                        refine y_gfr rfl rfl rfl rfl rfl (hHU13.r 904 119 970 rfl) ?_
                        refine y_iload_n rfl rfl ?_
                        refine y_aload_n rfl rfl ?_
                        refine y_gfr rfl rfl rfl rfl rfl (hHU13.r 904 120 971 rfl) ?_
                        refine y_iload_n rfl rfl ?_
                        refine y_ialoadP (n := 2400) rfl rfl (by unfold rg; omega) (fun w148 w149 => ?_)
                        have h547 := xi_of e536 (by unfold rg; omega)
                        refine y_iconst rfl ?_
                        refine y_icmp_ne rfl rfl (by unfold rg; omega) (by unfold rg; omega) (fun w150 => ?_) (fun w151 => ?_)
                        · refine y_iconst rfl ?_
                          refine y_bastoreZP (n := 2400) rfl rfl (by unfold rg; omega) ⟨by omega, by omega⟩ (fun w152 w153 => ?_)
                          obtain ⟨U14, eU14⟩ : ∃ T : sS, T = uI U13 970 ((q).toNat) (Int32.ofInt 0) := ⟨_, rfl⟩
                          rw [← eU14]
                          have hHU14 : RI U14 := by rw [eU14]; exact RI_w hHU13
                          have hFU14 : FR md_mo_phraseMeant__6 S U14 := by rw [eU14]; exact FR.wI hFU13 (mdf_i (r := (970, 971, 0, 100000)) (List.mem_of_getElem? (i := 13) rfl) (inR_i (by omega) (by omega) (by omega) (by omega)))
                          have w154 : Xi U14 970 ((q).toNat) = 0 := by rw [eU14]; exact Xi_same (by unfold rg; omega)
                          have e567 := eU14
                          refine y_return rfl rfl ?_
                          have w155 : Xi U14 904 115 = Xi S 904 115 := (show Xi U14 904 115 = Xi U13 904 115 from by rw [eU14]; exact Xi_ne (by omega)).trans ( (show Xi U13 904 115 = Xi U12 904 115 from by rw [eU13]; exact Xi_ne (by omega)).trans ( (show Xi U12 904 115 = Xi T11 904 115 from by rw [eU12]; exact Xi_ne (by omega)).trans ( (show Xi T11 904 115 = Xi T4 904 115 from w137.x _ _ rfl).trans ( (show Xi T4 904 115 = Xi T3 904 115 from w72.x _ _ rfl).trans ( (show Xi T3 904 115 = Xi U2 904 115 from w62.x _ _ rfl).trans ( (show Xi U2 904 115 = Xi U1 904 115 from by rw [eU2]; exact Xi_ne (by omega)).trans ((show Xi U1 904 115 = Xi S 904 115 from by rw [eU1]; exact Xi_ne (by omega)))))))))
                          have w156 : Xi U14 904 116 = Xi S 904 116 := (show Xi U14 904 116 = Xi U13 904 116 from by rw [eU14]; exact Xi_ne (by omega)).trans ( (show Xi U13 904 116 = Xi U12 904 116 from by rw [eU13]; exact Xi_ne (by omega)).trans ( (show Xi U12 904 116 = Xi T11 904 116 from by rw [eU12]; exact Xi_ne (by omega)).trans ( (show Xi T11 904 116 = Xi T4 904 116 from w137.x _ _ rfl).trans ( (show Xi T4 904 116 = Xi T3 904 116 from w72.x _ _ rfl).trans ( (show Xi T3 904 116 = Xi U2 904 116 from w62.x _ _ rfl).trans ( (show Xi U2 904 116 = Xi U1 904 116 from by rw [eU2]; exact Xi_ne (by omega)).trans ((show Xi U1 904 116 = Xi S 904 116 from by rw [eU1]; exact Xi_ne (by omega)))))))))
                          have w157 : Xi U14 904 128 = Xi T3 904 128 := (show Xi U14 904 128 = Xi U13 904 128 from by rw [eU14]; exact Xi_ne (by omega)).trans ( (show Xi U13 904 128 = Xi U12 904 128 from by rw [eU13]; exact Xi_ne (by omega)).trans ( (show Xi U12 904 128 = Xi T11 904 128 from by rw [eU12]; exact Xi_ne (by omega)).trans ( (show Xi T11 904 128 = Xi T4 904 128 from w137.x _ _ rfl).trans ((show Xi T4 904 128 = Xi T3 904 128 from w72.x _ _ rfl)))))
                          have w158 : Xi U14 904 129 = Xi T3 904 129 := (show Xi U14 904 129 = Xi U13 904 129 from by rw [eU14]; exact Xi_ne (by omega)).trans ( (show Xi U13 904 129 = Xi U12 904 129 from by rw [eU13]; exact Xi_ne (by omega)).trans ( (show Xi U12 904 129 = Xi T11 904 129 from by rw [eU12]; exact Xi_ne (by omega)).trans ( (show Xi T11 904 129 = Xi T4 904 129 from w137.x _ _ rfl).trans ((show Xi T4 904 129 = Xi T3 904 129 from w72.x _ _ rfl)))))
                          have w159 : Xi U14 904 15 = Xi S 904 15 := (show Xi U14 904 15 = Xi U13 904 15 from by rw [eU14]; exact Xi_ne (by omega)).trans ( (show Xi U13 904 15 = Xi U12 904 15 from by rw [eU13]; exact Xi_ne (by omega)).trans ( (show Xi U12 904 15 = Xi T11 904 15 from by rw [eU12]; exact Xi_ne (by omega)).trans ( (show Xi T11 904 15 = Xi T4 904 15 from w137.x _ _ rfl).trans ( (show Xi T4 904 15 = Xi T3 904 15 from w72.x _ _ rfl).trans ( (show Xi T3 904 15 = Xi U2 904 15 from w62.x _ _ rfl).trans ( (show Xi U2 904 15 = Xi U1 904 15 from by rw [eU2]; exact Xi_ne (by omega)).trans ((show Xi U1 904 15 = Xi S 904 15 from by rw [eU1]; exact Xi_ne (by omega)))))))))
                          exact ⟨hHU14, hFU14, rfl, (⟨_, _, _, _, _, _, _, _, by rw [← A26, ← a353]; exact o448, by rw [← A26]; exact F448, N472, F472, N496, F496, (by first | (have u := t510; rw [if_pos (by omega)]; exact t510) | (rw [if_neg (by omega)])), (by first | (have u := t529; rw [if_pos (by omega)]; exact t529) | (rw [if_neg (by omega)])), e517, e536, (by first | (rw [if_pos (by omega)]; exact e567) | (rw [if_neg (by omega)]; exact e567))⟩)⟩
                        · refine y_aload_n rfl rfl ?_
                          refine y_gfr rfl rfl rfl rfl rfl (hHU13.r 904 83 953 rfl) ?_
                          refine y_iload rfl rfl ?_
                          refine y_baloadP (n := 1700) rfl rfl rfl (by decide) (by unfold rg; omega) (fun w160 w161 => ?_)
                          have w162 : (Xi U13 953 (((Xi S 964 ((i).toNat))).toNat)) = (Xi U2 953 (((Xi S 964 ((i).toNat))).toNat)) := (show Xi U13 953 (((Xi S 964 ((i).toNat))).toNat) = Xi U12 953 (((Xi S 964 ((i).toNat))).toNat) from by rw [eU13]; exact Xi_ne (by omega)).trans ( (show Xi U12 953 (((Xi S 964 ((i).toNat))).toNat) = Xi T11 953 (((Xi S 964 ((i).toNat))).toNat) from by rw [eU12]; exact Xi_ne (by omega)).trans ( (show Xi T11 953 (((Xi S 964 ((i).toNat))).toNat) = Xi T4 953 (((Xi S 964 ((i).toNat))).toNat) from w137.x _ _ rfl).trans ( (show Xi T4 953 (((Xi S 964 ((i).toNat))).toNat) = Xi T3 953 (((Xi S 964 ((i).toNat))).toNat) from w72.x _ _ rfl).trans ((show Xi T3 953 (((Xi S 964 ((i).toNat))).toNat) = Xi U2 953 (((Xi S 964 ((i).toNat))).toNat) from w62.x _ _ rfl)))))
                          rw [w162]
                          have a558 : (Xi U2 953 (((Xi S 964 ((i).toNat))).toNat)) = Xi S 953 (pTS S i).toNat := (hFU2.cx 953 rfl _).1
                          refine y_if_ne rfl rfl (by unfold rg; omega) (fun w163 => ?_) (fun w164 => ?_)
                          · refine y_iconst rfl ?_
                            refine y_bastoreZP (n := 2400) rfl rfl (by unfold rg; omega) ⟨by omega, by omega⟩ (fun w165 w166 => ?_)
                            obtain ⟨U15, eU15⟩ : ∃ T : sS, T = uI U13 970 ((q).toNat) (Int32.ofInt 0) := ⟨_, rfl⟩
                            rw [← eU15]
                            have hHU15 : RI U15 := by rw [eU15]; exact RI_w hHU13
                            have hFU15 : FR md_mo_phraseMeant__6 S U15 := by rw [eU15]; exact FR.wI hFU13 (mdf_i (r := (970, 971, 0, 100000)) (List.mem_of_getElem? (i := 13) rfl) (inR_i (by omega) (by omega) (by omega) (by omega)))
                            have w167 : Xi U15 970 ((q).toNat) = 0 := by rw [eU15]; exact Xi_same (by unfold rg; omega)
                            have e567 := eU15
                            refine y_return rfl rfl ?_
                            have w168 : Xi U15 904 115 = Xi S 904 115 := (show Xi U15 904 115 = Xi U13 904 115 from by rw [eU15]; exact Xi_ne (by omega)).trans ( (show Xi U13 904 115 = Xi U12 904 115 from by rw [eU13]; exact Xi_ne (by omega)).trans ( (show Xi U12 904 115 = Xi T11 904 115 from by rw [eU12]; exact Xi_ne (by omega)).trans ( (show Xi T11 904 115 = Xi T4 904 115 from w137.x _ _ rfl).trans ( (show Xi T4 904 115 = Xi T3 904 115 from w72.x _ _ rfl).trans ( (show Xi T3 904 115 = Xi U2 904 115 from w62.x _ _ rfl).trans ( (show Xi U2 904 115 = Xi U1 904 115 from by rw [eU2]; exact Xi_ne (by omega)).trans ((show Xi U1 904 115 = Xi S 904 115 from by rw [eU1]; exact Xi_ne (by omega)))))))))
                            have w169 : Xi U15 904 116 = Xi S 904 116 := (show Xi U15 904 116 = Xi U13 904 116 from by rw [eU15]; exact Xi_ne (by omega)).trans ( (show Xi U13 904 116 = Xi U12 904 116 from by rw [eU13]; exact Xi_ne (by omega)).trans ( (show Xi U12 904 116 = Xi T11 904 116 from by rw [eU12]; exact Xi_ne (by omega)).trans ( (show Xi T11 904 116 = Xi T4 904 116 from w137.x _ _ rfl).trans ( (show Xi T4 904 116 = Xi T3 904 116 from w72.x _ _ rfl).trans ( (show Xi T3 904 116 = Xi U2 904 116 from w62.x _ _ rfl).trans ( (show Xi U2 904 116 = Xi U1 904 116 from by rw [eU2]; exact Xi_ne (by omega)).trans ((show Xi U1 904 116 = Xi S 904 116 from by rw [eU1]; exact Xi_ne (by omega)))))))))
                            have w170 : Xi U15 904 128 = Xi T3 904 128 := (show Xi U15 904 128 = Xi U13 904 128 from by rw [eU15]; exact Xi_ne (by omega)).trans ( (show Xi U13 904 128 = Xi U12 904 128 from by rw [eU13]; exact Xi_ne (by omega)).trans ( (show Xi U12 904 128 = Xi T11 904 128 from by rw [eU12]; exact Xi_ne (by omega)).trans ( (show Xi T11 904 128 = Xi T4 904 128 from w137.x _ _ rfl).trans ((show Xi T4 904 128 = Xi T3 904 128 from w72.x _ _ rfl)))))
                            have w171 : Xi U15 904 129 = Xi T3 904 129 := (show Xi U15 904 129 = Xi U13 904 129 from by rw [eU15]; exact Xi_ne (by omega)).trans ( (show Xi U13 904 129 = Xi U12 904 129 from by rw [eU13]; exact Xi_ne (by omega)).trans ( (show Xi U12 904 129 = Xi T11 904 129 from by rw [eU12]; exact Xi_ne (by omega)).trans ( (show Xi T11 904 129 = Xi T4 904 129 from w137.x _ _ rfl).trans ((show Xi T4 904 129 = Xi T3 904 129 from w72.x _ _ rfl)))))
                            have w172 : Xi U15 904 15 = Xi S 904 15 := (show Xi U15 904 15 = Xi U13 904 15 from by rw [eU15]; exact Xi_ne (by omega)).trans ( (show Xi U13 904 15 = Xi U12 904 15 from by rw [eU13]; exact Xi_ne (by omega)).trans ( (show Xi U12 904 15 = Xi T11 904 15 from by rw [eU12]; exact Xi_ne (by omega)).trans ( (show Xi T11 904 15 = Xi T4 904 15 from w137.x _ _ rfl).trans ( (show Xi T4 904 15 = Xi T3 904 15 from w72.x _ _ rfl).trans ( (show Xi T3 904 15 = Xi U2 904 15 from w62.x _ _ rfl).trans ( (show Xi U2 904 15 = Xi U1 904 15 from by rw [eU2]; exact Xi_ne (by omega)).trans ((show Xi U1 904 15 = Xi S 904 15 from by rw [eU1]; exact Xi_ne (by omega)))))))))
                            exact ⟨hHU15, hFU15, rfl, (⟨_, _, _, _, _, _, _, _, by rw [← A26, ← a353]; exact o448, by rw [← A26]; exact F448, N472, F472, N496, F496, (by first | (have u := t510; rw [if_pos (by omega)]; exact t510) | (rw [if_neg (by omega)])), (by first | (have u := t529; rw [if_pos (by omega)]; exact t529) | (rw [if_neg (by omega)])), e517, e536, (by first | (rw [if_pos (by omega)]; exact e567) | (rw [if_neg (by omega)]; exact e567))⟩)⟩
                          · refine y_iconst rfl ?_
                            refine y_goto rfl rfl ?_
                            refine y_bastoreZP (n := 2400) rfl rfl (by unfold rg; omega) ⟨by omega, by omega⟩ (fun w173 w174 => ?_)
                            obtain ⟨U16, eU16⟩ : ∃ T : sS, T = uI U13 970 ((q).toNat) (Int32.ofInt 1) := ⟨_, rfl⟩
                            rw [← eU16]
                            have hHU16 : RI U16 := by rw [eU16]; exact RI_w hHU13
                            have hFU16 : FR md_mo_phraseMeant__6 S U16 := by rw [eU16]; exact FR.wI hFU13 (mdf_i (r := (970, 971, 0, 100000)) (List.mem_of_getElem? (i := 13) rfl) (inR_i (by omega) (by omega) (by omega) (by omega)))
                            have w175 : Xi U16 970 ((q).toNat) = 1 := by rw [eU16]; exact Xi_same (by unfold rg; omega)
                            have e567 := eU16
                            refine y_return rfl rfl ?_
                            have w176 : Xi U16 904 115 = Xi S 904 115 := (show Xi U16 904 115 = Xi U13 904 115 from by rw [eU16]; exact Xi_ne (by omega)).trans ( (show Xi U13 904 115 = Xi U12 904 115 from by rw [eU13]; exact Xi_ne (by omega)).trans ( (show Xi U12 904 115 = Xi T11 904 115 from by rw [eU12]; exact Xi_ne (by omega)).trans ( (show Xi T11 904 115 = Xi T4 904 115 from w137.x _ _ rfl).trans ( (show Xi T4 904 115 = Xi T3 904 115 from w72.x _ _ rfl).trans ( (show Xi T3 904 115 = Xi U2 904 115 from w62.x _ _ rfl).trans ( (show Xi U2 904 115 = Xi U1 904 115 from by rw [eU2]; exact Xi_ne (by omega)).trans ((show Xi U1 904 115 = Xi S 904 115 from by rw [eU1]; exact Xi_ne (by omega)))))))))
                            have w177 : Xi U16 904 116 = Xi S 904 116 := (show Xi U16 904 116 = Xi U13 904 116 from by rw [eU16]; exact Xi_ne (by omega)).trans ( (show Xi U13 904 116 = Xi U12 904 116 from by rw [eU13]; exact Xi_ne (by omega)).trans ( (show Xi U12 904 116 = Xi T11 904 116 from by rw [eU12]; exact Xi_ne (by omega)).trans ( (show Xi T11 904 116 = Xi T4 904 116 from w137.x _ _ rfl).trans ( (show Xi T4 904 116 = Xi T3 904 116 from w72.x _ _ rfl).trans ( (show Xi T3 904 116 = Xi U2 904 116 from w62.x _ _ rfl).trans ( (show Xi U2 904 116 = Xi U1 904 116 from by rw [eU2]; exact Xi_ne (by omega)).trans ((show Xi U1 904 116 = Xi S 904 116 from by rw [eU1]; exact Xi_ne (by omega)))))))))
                            have w178 : Xi U16 904 128 = Xi T3 904 128 := (show Xi U16 904 128 = Xi U13 904 128 from by rw [eU16]; exact Xi_ne (by omega)).trans ( (show Xi U13 904 128 = Xi U12 904 128 from by rw [eU13]; exact Xi_ne (by omega)).trans ( (show Xi U12 904 128 = Xi T11 904 128 from by rw [eU12]; exact Xi_ne (by omega)).trans ( (show Xi T11 904 128 = Xi T4 904 128 from w137.x _ _ rfl).trans ((show Xi T4 904 128 = Xi T3 904 128 from w72.x _ _ rfl)))))
                            have w179 : Xi U16 904 129 = Xi T3 904 129 := (show Xi U16 904 129 = Xi U13 904 129 from by rw [eU16]; exact Xi_ne (by omega)).trans ( (show Xi U13 904 129 = Xi U12 904 129 from by rw [eU13]; exact Xi_ne (by omega)).trans ( (show Xi U12 904 129 = Xi T11 904 129 from by rw [eU12]; exact Xi_ne (by omega)).trans ( (show Xi T11 904 129 = Xi T4 904 129 from w137.x _ _ rfl).trans ((show Xi T4 904 129 = Xi T3 904 129 from w72.x _ _ rfl)))))
                            have w180 : Xi U16 904 15 = Xi S 904 15 := (show Xi U16 904 15 = Xi U13 904 15 from by rw [eU16]; exact Xi_ne (by omega)).trans ( (show Xi U13 904 15 = Xi U12 904 15 from by rw [eU13]; exact Xi_ne (by omega)).trans ( (show Xi U12 904 15 = Xi T11 904 15 from by rw [eU12]; exact Xi_ne (by omega)).trans ( (show Xi T11 904 15 = Xi T4 904 15 from w137.x _ _ rfl).trans ( (show Xi T4 904 15 = Xi T3 904 15 from w72.x _ _ rfl).trans ( (show Xi T3 904 15 = Xi U2 904 15 from w62.x _ _ rfl).trans ( (show Xi U2 904 15 = Xi U1 904 15 from by rw [eU2]; exact Xi_ne (by omega)).trans ((show Xi U1 904 15 = Xi S 904 15 from by rw [eU1]; exact Xi_ne (by omega)))))))))
                            exact ⟨hHU16, hFU16, rfl, (⟨_, _, _, _, _, _, _, _, by rw [← A26, ← a353]; exact o448, by rw [← A26]; exact F448, N472, F472, N496, F496, (by first | (have u := t510; rw [if_pos (by omega)]; exact t510) | (rw [if_neg (by omega)])), (by first | (have u := t529; rw [if_pos (by omega)]; exact t529) | (rw [if_neg (by omega)])), e517, e536, (by first | (rw [if_pos (by omega)]; exact e567) | (rw [if_neg (by omega)]; exact e567))⟩)⟩
                      · exfalso; omega
                    · exfalso; omega
                · refine y_iconst rfl ?_
                  refine y_goto rfl rfl ?_
                  refine y_iconst rfl ?_
                  refine y_aload_n rfl rfl ?_
                  refine y_gfr rfl rfl rfl rfl rfl (hHT3.r 904 67 950 rfl) ?_
                  refine y_iload rfl rfl ?_
                  refine y_ialoadP (n := 2600) rfl rfl (by unfold rg; omega) (fun w181 w182 => ?_)
                  have w183 : -2147483648 ≤ (Xi T3 950 (((Xi U2 956 (((Xi S 964 ((i).toNat))).toNat))).toNat)) ∧ (Xi T3 950 (((Xi U2 956 (((Xi S 964 ((i).toNat))).toNat))).toNat)) ≤ 2147483647 := Xi_rgI
                  have v471 : (Xi T3 950 (((Xi U2 956 (((Xi S 964 ((i).toNat))).toNat))).toNat)) = Xi S 950 (Xi S 956 (pTS S i).toNat).toNat := by rw [(hFT3.cx 950 rfl _).1, a353]
                  have p471 : Xi T3 908 ((Xi T3 950 (((Xi U2 956 (((Xi S 964 ((i).toNat))).toNat))).toNat))).toNat = pR S (Xi S 956 (pTS S i).toNat) := by unfold pR; rw [(hFT3.cx 908 rfl _).1, v471]
                  have w184 : Xi T3 904 115 = Xi S 904 115 := (show Xi T3 904 115 = Xi U2 904 115 from w62.x _ _ rfl).trans ( (show Xi U2 904 115 = Xi U1 904 115 from by rw [eU2]; exact Xi_ne (by omega)).trans ((show Xi U1 904 115 = Xi S 904 115 from by rw [eU1]; exact Xi_ne (by omega))))
                  have w185 : Xi T3 904 116 = Xi S 904 116 := (show Xi T3 904 116 = Xi U2 904 116 from w62.x _ _ rfl).trans ( (show Xi U2 904 116 = Xi U1 904 116 from by rw [eU2]; exact Xi_ne (by omega)).trans ((show Xi U1 904 116 = Xi S 904 116 from by rw [eU1]; exact Xi_ne (by omega))))
                  have w186 : Xi T3 904 15 = Xi S 904 15 := (show Xi T3 904 15 = Xi U2 904 15 from w62.x _ _ rfl).trans ( (show Xi U2 904 15 = Xi U1 904 15 from by rw [eU2]; exact Xi_ne (by omega)).trans ((show Xi U1 904 15 = Xi S 904 15 from by rw [eU1]; exact Xi_ne (by omega))))
                  refine y_callV rfl rfl rfl (t_mo_need__p hHT3 1 4 (Xi T3 950 (((Xi U2 956 (((Xi S 964 ((i).toNat))).toNat))).toNat)) ⟨by omega, by omega⟩ ⟨by omega, by omega⟩ ⟨by omega, by omega⟩ _) ?_
                  rintro _ T17 ⟨hHT17, w188, rfl, nt472⟩
                  have hFT17 : FR md_mo_phraseMeant__6 S T17 := FR.tr hFT3 w188 rfl
                  show Pl _ _ _ _ _ _ [] _ _
                  have F472 := (by assumption : FR md_mo_need__p T3 T17)
                  have N472 : NT3 T17 = (if 0 < z61 then NT3 T3 else ntF (NT3 T3) 4 (pR S (Xi S 956 (pTS S i).toNat))) := by rw [← p471]; first | (rw [if_pos (by omega)]; exact nt472.trans (if_neg (by decide))) | (rw [if_neg (by omega)]; exact nt472.trans (if_pos rfl))
                  refine y_aload_n rfl rfl ?_
                  refine y_iload rfl rfl ?_
                  refine y_iconst rfl ?_
                  refine y_icmp_ge rfl rfl (by unfold rg; omega) (by unfold rg; omega) (fun w189 => ?_) (fun w190 => ?_)
                  · refine y_iconst rfl ?_
                    refine y_bipush rfl rfl ?_
                    refine y_aload_n rfl rfl ?_
                    refine y_gfr rfl rfl rfl rfl rfl (hHT17.r 904 67 950 rfl) ?_
                    refine y_iload rfl rfl ?_
                    refine y_ialoadP (n := 2600) rfl rfl (by unfold rg; omega) (fun w191 w192 => ?_)
                    have w193 : (Xi T17 950 (((Xi U2 956 (((Xi S 964 ((i).toNat))).toNat))).toNat)) = (Xi T3 950 (((Xi U2 956 (((Xi S 964 ((i).toNat))).toNat))).toNat)) := (show Xi T17 950 (((Xi U2 956 (((Xi S 964 ((i).toNat))).toNat))).toNat) = Xi T3 950 (((Xi U2 956 (((Xi S 964 ((i).toNat))).toNat))).toNat) from w188.x _ _ rfl)
                    rw [w193]
                    have v495 : (Xi T3 950 (((Xi U2 956 (((Xi S 964 ((i).toNat))).toNat))).toNat)) = Xi S 950 (Xi S 956 (pTS S i).toNat).toNat := by rw [(hFT3.cx 950 rfl _).1, a353]
                    have p495 : Xi T17 908 ((Xi T3 950 (((Xi U2 956 (((Xi S 964 ((i).toNat))).toNat))).toNat))).toNat = pR S (Xi S 956 (pTS S i).toNat) := by unfold pR; rw [(hFT17.cx 908 rfl _).1, v495]
                    have w194 : Xi T17 904 115 = Xi S 904 115 := (show Xi T17 904 115 = Xi T3 904 115 from w188.x _ _ rfl).trans ( (show Xi T3 904 115 = Xi U2 904 115 from w62.x _ _ rfl).trans ( (show Xi U2 904 115 = Xi U1 904 115 from by rw [eU2]; exact Xi_ne (by omega)).trans ((show Xi U1 904 115 = Xi S 904 115 from by rw [eU1]; exact Xi_ne (by omega)))))
                    have w195 : Xi T17 904 116 = Xi S 904 116 := (show Xi T17 904 116 = Xi T3 904 116 from w188.x _ _ rfl).trans ( (show Xi T3 904 116 = Xi U2 904 116 from w62.x _ _ rfl).trans ( (show Xi U2 904 116 = Xi U1 904 116 from by rw [eU2]; exact Xi_ne (by omega)).trans ((show Xi U1 904 116 = Xi S 904 116 from by rw [eU1]; exact Xi_ne (by omega)))))
                    have w196 : Xi T17 904 128 = Xi T3 904 128 := (show Xi T17 904 128 = Xi T3 904 128 from w188.x _ _ rfl)
                    have w197 : Xi T17 904 129 = Xi T3 904 129 := (show Xi T17 904 129 = Xi T3 904 129 from w188.x _ _ rfl)
                    have w198 : Xi T17 904 15 = Xi S 904 15 := (show Xi T17 904 15 = Xi T3 904 15 from w188.x _ _ rfl).trans ( (show Xi T3 904 15 = Xi U2 904 15 from w62.x _ _ rfl).trans ( (show Xi U2 904 15 = Xi U1 904 15 from by rw [eU2]; exact Xi_ne (by omega)).trans ((show Xi U1 904 15 = Xi S 904 15 from by rw [eU1]; exact Xi_ne (by omega)))))
                    refine y_callV rfl rfl rfl (t_mo_need__p hHT17 0 7 (Xi T3 950 (((Xi U2 956 (((Xi S 964 ((i).toNat))).toNat))).toNat)) ⟨by omega, by omega⟩ ⟨by omega, by omega⟩ ⟨by omega, by omega⟩ _) ?_
                    rintro _ T18 ⟨hHT18, w200, rfl, nt496⟩
                    have hFT18 : FR md_mo_phraseMeant__6 S T18 := FR.tr hFT17 w200 rfl
                    show Pl _ _ _ _ _ _ [] _ _
                    have F496 := (by assumption : FR md_mo_need__p T17 T18)
                    have N496 : NT3 T18 = (if z61 < 2 then NT3 T17 else ntF (NT3 T17) 7 (pR S (Xi S 956 (pTS S i).toNat))) := by rw [← p495]; first | (rw [if_pos (by omega)]; exact nt496.trans (if_neg (by decide))) | (rw [if_neg (by omega)]; exact nt496.trans (if_pos rfl))
                    refine y_aload_n rfl rfl ?_
                    refine y_gfr rfl rfl rfl rfl rfl (hHT18.r 904 121 972 rfl) ?_
                    refine y_iload_n rfl rfl ?_
                    refine y_iload rfl rfl ?_
                    refine y_if_le rfl rfl (by unfold rg; omega) (fun w201 => ?_) (fun w202 => ?_)
                    · exfalso; omega
                    · refine y_aload_n rfl rfl ?_
                      refine y_gfi rfl rfl rfl rfl rfl ?_
                      have w203 : -2147483648 ≤ (Xi T18 904 128) ∧ (Xi T18 904 128) ≤ 2147483647 := Xi_rgI
                      have t510 : (Xi T18 904 128) = Xi T3 904 128 := by rw [F496.x 904 128 rfl, F472.x 904 128 rfl]
                      refine y_goto rfl rfl ?_
                      refine y_iastoreP (n := 2400) rfl rfl (by unfold rg; omega) (fun w204 w205 => ?_)
                      obtain ⟨U19, eU19⟩ : ∃ T : sS, T = uI T18 972 ((q).toNat) (Int32.ofInt (Xi T18 904 128)) := ⟨_, rfl⟩
                      rw [← eU19]
                      have hHU19 : RI U19 := by rw [eU19]; exact RI_w hHT18
                      have hFU19 : FR md_mo_phraseMeant__6 S U19 := by rw [eU19]; exact FR.wI hFT18 (mdf_i (r := (972, 973, 0, 100000)) (List.mem_of_getElem? (i := 15) rfl) (inR_i (by omega) (by omega) (by omega) (by omega)))
                      have w206 : Xi U19 972 ((q).toNat) = (Xi T18 904 128) := by rw [eU19]; exact Xi_same (by unfold rg; omega)
                      have e517 := eU19
                      refine y_aload_n rfl rfl ?_
                      refine y_gfr rfl rfl rfl rfl rfl (hHU19.r 904 120 971 rfl) ?_
                      refine y_iload_n rfl rfl ?_
                      refine y_iload rfl rfl ?_
                      refine y_if_le rfl rfl (by unfold rg; omega) (fun w207 => ?_) (fun w208 => ?_)
                      · exfalso; omega
                      · refine y_aload_n rfl rfl ?_
                        refine y_gfi rfl rfl rfl rfl rfl ?_
                        have w209 : -2147483648 ≤ (Xi U19 904 129) ∧ (Xi U19 904 129) ≤ 2147483647 := Xi_rgI
                        have t529 : (Xi U19 904 129) = Xi T3 904 129 := by rw [e517, Xi_ne (by omega), F496.x 904 129 rfl, F472.x 904 129 rfl]
                        refine y_goto rfl rfl ?_
                        refine y_iastoreP (n := 2400) rfl rfl (by unfold rg; omega) (fun w210 w211 => ?_)
                        obtain ⟨U20, eU20⟩ : ∃ T : sS, T = uI U19 971 ((q).toNat) (Int32.ofInt (Xi U19 904 129)) := ⟨_, rfl⟩
                        rw [← eU20]
                        have hHU20 : RI U20 := by rw [eU20]; exact RI_w hHU19
                        have hFU20 : FR md_mo_phraseMeant__6 S U20 := by rw [eU20]; exact FR.wI hFU19 (mdf_i (r := (971, 972, 0, 100000)) (List.mem_of_getElem? (i := 14) rfl) (inR_i (by omega) (by omega) (by omega) (by omega)))
                        have w212 : Xi U20 971 ((q).toNat) = (Xi U19 904 129) := by rw [eU20]; exact Xi_same (by unfold rg; omega)
                        have e536 := eU20
                        refine y_aload_n rfl rfl ?_
                        refine y_gfr rfl rfl rfl rfl rfl (hHU20.r 904 119 970 rfl) ?_
                        refine y_iload_n rfl rfl ?_
                        refine y_aload_n rfl rfl ?_
                        refine y_gfr rfl rfl rfl rfl rfl (hHU20.r 904 120 971 rfl) ?_
                        refine y_iload_n rfl rfl ?_
                        refine y_ialoadP (n := 2400) rfl rfl (by unfold rg; omega) (fun w213 w214 => ?_)
                        have h547 := xi_of e536 (by unfold rg; omega)
                        refine y_iconst rfl ?_
                        refine y_icmp_ne rfl rfl (by unfold rg; omega) (by unfold rg; omega) (fun w215 => ?_) (fun w216 => ?_)
                        · refine y_iconst rfl ?_
                          refine y_bastoreZP (n := 2400) rfl rfl (by unfold rg; omega) ⟨by omega, by omega⟩ (fun w217 w218 => ?_)
                          obtain ⟨U21, eU21⟩ : ∃ T : sS, T = uI U20 970 ((q).toNat) (Int32.ofInt 0) := ⟨_, rfl⟩
                          rw [← eU21]
                          have hHU21 : RI U21 := by rw [eU21]; exact RI_w hHU20
                          have hFU21 : FR md_mo_phraseMeant__6 S U21 := by rw [eU21]; exact FR.wI hFU20 (mdf_i (r := (970, 971, 0, 100000)) (List.mem_of_getElem? (i := 13) rfl) (inR_i (by omega) (by omega) (by omega) (by omega)))
                          have w219 : Xi U21 970 ((q).toNat) = 0 := by rw [eU21]; exact Xi_same (by unfold rg; omega)
                          have e567 := eU21
                          refine y_return rfl rfl ?_
                          have w220 : Xi U21 904 115 = Xi S 904 115 := (show Xi U21 904 115 = Xi U20 904 115 from by rw [eU21]; exact Xi_ne (by omega)).trans ( (show Xi U20 904 115 = Xi U19 904 115 from by rw [eU20]; exact Xi_ne (by omega)).trans ( (show Xi U19 904 115 = Xi T18 904 115 from by rw [eU19]; exact Xi_ne (by omega)).trans ( (show Xi T18 904 115 = Xi T17 904 115 from w200.x _ _ rfl).trans ( (show Xi T17 904 115 = Xi T3 904 115 from w188.x _ _ rfl).trans ( (show Xi T3 904 115 = Xi U2 904 115 from w62.x _ _ rfl).trans ( (show Xi U2 904 115 = Xi U1 904 115 from by rw [eU2]; exact Xi_ne (by omega)).trans ((show Xi U1 904 115 = Xi S 904 115 from by rw [eU1]; exact Xi_ne (by omega)))))))))
                          have w221 : Xi U21 904 116 = Xi S 904 116 := (show Xi U21 904 116 = Xi U20 904 116 from by rw [eU21]; exact Xi_ne (by omega)).trans ( (show Xi U20 904 116 = Xi U19 904 116 from by rw [eU20]; exact Xi_ne (by omega)).trans ( (show Xi U19 904 116 = Xi T18 904 116 from by rw [eU19]; exact Xi_ne (by omega)).trans ( (show Xi T18 904 116 = Xi T17 904 116 from w200.x _ _ rfl).trans ( (show Xi T17 904 116 = Xi T3 904 116 from w188.x _ _ rfl).trans ( (show Xi T3 904 116 = Xi U2 904 116 from w62.x _ _ rfl).trans ( (show Xi U2 904 116 = Xi U1 904 116 from by rw [eU2]; exact Xi_ne (by omega)).trans ((show Xi U1 904 116 = Xi S 904 116 from by rw [eU1]; exact Xi_ne (by omega)))))))))
                          have w222 : Xi U21 904 128 = Xi T3 904 128 := (show Xi U21 904 128 = Xi U20 904 128 from by rw [eU21]; exact Xi_ne (by omega)).trans ( (show Xi U20 904 128 = Xi U19 904 128 from by rw [eU20]; exact Xi_ne (by omega)).trans ( (show Xi U19 904 128 = Xi T18 904 128 from by rw [eU19]; exact Xi_ne (by omega)).trans ( (show Xi T18 904 128 = Xi T17 904 128 from w200.x _ _ rfl).trans ((show Xi T17 904 128 = Xi T3 904 128 from w188.x _ _ rfl)))))
                          have w223 : Xi U21 904 129 = Xi T3 904 129 := (show Xi U21 904 129 = Xi U20 904 129 from by rw [eU21]; exact Xi_ne (by omega)).trans ( (show Xi U20 904 129 = Xi U19 904 129 from by rw [eU20]; exact Xi_ne (by omega)).trans ( (show Xi U19 904 129 = Xi T18 904 129 from by rw [eU19]; exact Xi_ne (by omega)).trans ( (show Xi T18 904 129 = Xi T17 904 129 from w200.x _ _ rfl).trans ((show Xi T17 904 129 = Xi T3 904 129 from w188.x _ _ rfl)))))
                          have w224 : Xi U21 904 15 = Xi S 904 15 := (show Xi U21 904 15 = Xi U20 904 15 from by rw [eU21]; exact Xi_ne (by omega)).trans ( (show Xi U20 904 15 = Xi U19 904 15 from by rw [eU20]; exact Xi_ne (by omega)).trans ( (show Xi U19 904 15 = Xi T18 904 15 from by rw [eU19]; exact Xi_ne (by omega)).trans ( (show Xi T18 904 15 = Xi T17 904 15 from w200.x _ _ rfl).trans ( (show Xi T17 904 15 = Xi T3 904 15 from w188.x _ _ rfl).trans ( (show Xi T3 904 15 = Xi U2 904 15 from w62.x _ _ rfl).trans ( (show Xi U2 904 15 = Xi U1 904 15 from by rw [eU2]; exact Xi_ne (by omega)).trans ((show Xi U1 904 15 = Xi S 904 15 from by rw [eU1]; exact Xi_ne (by omega)))))))))
                          exact ⟨hHU21, hFU21, rfl, (⟨_, _, _, _, _, _, _, _, by rw [← A26, ← a353]; exact o448, by rw [← A26]; exact F448, N472, F472, N496, F496, (by first | (have u := t510; rw [if_pos (by omega)]; exact t510) | (rw [if_neg (by omega)])), (by first | (have u := t529; rw [if_pos (by omega)]; exact t529) | (rw [if_neg (by omega)])), e517, e536, (by first | (rw [if_pos (by omega)]; exact e567) | (rw [if_neg (by omega)]; exact e567))⟩)⟩
                        · refine y_aload_n rfl rfl ?_
                          refine y_gfr rfl rfl rfl rfl rfl (hHU20.r 904 83 953 rfl) ?_
                          refine y_iload rfl rfl ?_
                          refine y_baloadP (n := 1700) rfl rfl rfl (by decide) (by unfold rg; omega) (fun w225 w226 => ?_)
                          have w227 : (Xi U20 953 (((Xi S 964 ((i).toNat))).toNat)) = (Xi U2 953 (((Xi S 964 ((i).toNat))).toNat)) := (show Xi U20 953 (((Xi S 964 ((i).toNat))).toNat) = Xi U19 953 (((Xi S 964 ((i).toNat))).toNat) from by rw [eU20]; exact Xi_ne (by omega)).trans ( (show Xi U19 953 (((Xi S 964 ((i).toNat))).toNat) = Xi T18 953 (((Xi S 964 ((i).toNat))).toNat) from by rw [eU19]; exact Xi_ne (by omega)).trans ( (show Xi T18 953 (((Xi S 964 ((i).toNat))).toNat) = Xi T17 953 (((Xi S 964 ((i).toNat))).toNat) from w200.x _ _ rfl).trans ( (show Xi T17 953 (((Xi S 964 ((i).toNat))).toNat) = Xi T3 953 (((Xi S 964 ((i).toNat))).toNat) from w188.x _ _ rfl).trans ((show Xi T3 953 (((Xi S 964 ((i).toNat))).toNat) = Xi U2 953 (((Xi S 964 ((i).toNat))).toNat) from w62.x _ _ rfl)))))
                          rw [w227]
                          have a558 : (Xi U2 953 (((Xi S 964 ((i).toNat))).toNat)) = Xi S 953 (pTS S i).toNat := (hFU2.cx 953 rfl _).1
                          refine y_if_ne rfl rfl (by unfold rg; omega) (fun w228 => ?_) (fun w229 => ?_)
                          · refine y_iconst rfl ?_
                            refine y_bastoreZP (n := 2400) rfl rfl (by unfold rg; omega) ⟨by omega, by omega⟩ (fun w230 w231 => ?_)
                            obtain ⟨U22, eU22⟩ : ∃ T : sS, T = uI U20 970 ((q).toNat) (Int32.ofInt 0) := ⟨_, rfl⟩
                            rw [← eU22]
                            have hHU22 : RI U22 := by rw [eU22]; exact RI_w hHU20
                            have hFU22 : FR md_mo_phraseMeant__6 S U22 := by rw [eU22]; exact FR.wI hFU20 (mdf_i (r := (970, 971, 0, 100000)) (List.mem_of_getElem? (i := 13) rfl) (inR_i (by omega) (by omega) (by omega) (by omega)))
                            have w232 : Xi U22 970 ((q).toNat) = 0 := by rw [eU22]; exact Xi_same (by unfold rg; omega)
                            have e567 := eU22
                            refine y_return rfl rfl ?_
                            have w233 : Xi U22 904 115 = Xi S 904 115 := (show Xi U22 904 115 = Xi U20 904 115 from by rw [eU22]; exact Xi_ne (by omega)).trans ( (show Xi U20 904 115 = Xi U19 904 115 from by rw [eU20]; exact Xi_ne (by omega)).trans ( (show Xi U19 904 115 = Xi T18 904 115 from by rw [eU19]; exact Xi_ne (by omega)).trans ( (show Xi T18 904 115 = Xi T17 904 115 from w200.x _ _ rfl).trans ( (show Xi T17 904 115 = Xi T3 904 115 from w188.x _ _ rfl).trans ( (show Xi T3 904 115 = Xi U2 904 115 from w62.x _ _ rfl).trans ( (show Xi U2 904 115 = Xi U1 904 115 from by rw [eU2]; exact Xi_ne (by omega)).trans ((show Xi U1 904 115 = Xi S 904 115 from by rw [eU1]; exact Xi_ne (by omega)))))))))
                            have w234 : Xi U22 904 116 = Xi S 904 116 := (show Xi U22 904 116 = Xi U20 904 116 from by rw [eU22]; exact Xi_ne (by omega)).trans ( (show Xi U20 904 116 = Xi U19 904 116 from by rw [eU20]; exact Xi_ne (by omega)).trans ( (show Xi U19 904 116 = Xi T18 904 116 from by rw [eU19]; exact Xi_ne (by omega)).trans ( (show Xi T18 904 116 = Xi T17 904 116 from w200.x _ _ rfl).trans ( (show Xi T17 904 116 = Xi T3 904 116 from w188.x _ _ rfl).trans ( (show Xi T3 904 116 = Xi U2 904 116 from w62.x _ _ rfl).trans ( (show Xi U2 904 116 = Xi U1 904 116 from by rw [eU2]; exact Xi_ne (by omega)).trans ((show Xi U1 904 116 = Xi S 904 116 from by rw [eU1]; exact Xi_ne (by omega)))))))))
                            have w235 : Xi U22 904 128 = Xi T3 904 128 := (show Xi U22 904 128 = Xi U20 904 128 from by rw [eU22]; exact Xi_ne (by omega)).trans ( (show Xi U20 904 128 = Xi U19 904 128 from by rw [eU20]; exact Xi_ne (by omega)).trans ( (show Xi U19 904 128 = Xi T18 904 128 from by rw [eU19]; exact Xi_ne (by omega)).trans ( (show Xi T18 904 128 = Xi T17 904 128 from w200.x _ _ rfl).trans ((show Xi T17 904 128 = Xi T3 904 128 from w188.x _ _ rfl)))))
                            have w236 : Xi U22 904 129 = Xi T3 904 129 := (show Xi U22 904 129 = Xi U20 904 129 from by rw [eU22]; exact Xi_ne (by omega)).trans ( (show Xi U20 904 129 = Xi U19 904 129 from by rw [eU20]; exact Xi_ne (by omega)).trans ( (show Xi U19 904 129 = Xi T18 904 129 from by rw [eU19]; exact Xi_ne (by omega)).trans ( (show Xi T18 904 129 = Xi T17 904 129 from w200.x _ _ rfl).trans ((show Xi T17 904 129 = Xi T3 904 129 from w188.x _ _ rfl)))))
                            have w237 : Xi U22 904 15 = Xi S 904 15 := (show Xi U22 904 15 = Xi U20 904 15 from by rw [eU22]; exact Xi_ne (by omega)).trans ( (show Xi U20 904 15 = Xi U19 904 15 from by rw [eU20]; exact Xi_ne (by omega)).trans ( (show Xi U19 904 15 = Xi T18 904 15 from by rw [eU19]; exact Xi_ne (by omega)).trans ( (show Xi T18 904 15 = Xi T17 904 15 from w200.x _ _ rfl).trans ( (show Xi T17 904 15 = Xi T3 904 15 from w188.x _ _ rfl).trans ( (show Xi T3 904 15 = Xi U2 904 15 from w62.x _ _ rfl).trans ( (show Xi U2 904 15 = Xi U1 904 15 from by rw [eU2]; exact Xi_ne (by omega)).trans ((show Xi U1 904 15 = Xi S 904 15 from by rw [eU1]; exact Xi_ne (by omega)))))))))
                            exact ⟨hHU22, hFU22, rfl, (⟨_, _, _, _, _, _, _, _, by rw [← A26, ← a353]; exact o448, by rw [← A26]; exact F448, N472, F472, N496, F496, (by first | (have u := t510; rw [if_pos (by omega)]; exact t510) | (rw [if_neg (by omega)])), (by first | (have u := t529; rw [if_pos (by omega)]; exact t529) | (rw [if_neg (by omega)])), e517, e536, (by first | (rw [if_pos (by omega)]; exact e567) | (rw [if_neg (by omega)]; exact e567))⟩)⟩
                          · refine y_iconst rfl ?_
                            refine y_goto rfl rfl ?_
                            refine y_bastoreZP (n := 2400) rfl rfl (by unfold rg; omega) ⟨by omega, by omega⟩ (fun w238 w239 => ?_)
                            obtain ⟨U23, eU23⟩ : ∃ T : sS, T = uI U20 970 ((q).toNat) (Int32.ofInt 1) := ⟨_, rfl⟩
                            rw [← eU23]
                            have hHU23 : RI U23 := by rw [eU23]; exact RI_w hHU20
                            have hFU23 : FR md_mo_phraseMeant__6 S U23 := by rw [eU23]; exact FR.wI hFU20 (mdf_i (r := (970, 971, 0, 100000)) (List.mem_of_getElem? (i := 13) rfl) (inR_i (by omega) (by omega) (by omega) (by omega)))
                            have w240 : Xi U23 970 ((q).toNat) = 1 := by rw [eU23]; exact Xi_same (by unfold rg; omega)
                            have e567 := eU23
                            refine y_return rfl rfl ?_
                            have w241 : Xi U23 904 115 = Xi S 904 115 := (show Xi U23 904 115 = Xi U20 904 115 from by rw [eU23]; exact Xi_ne (by omega)).trans ( (show Xi U20 904 115 = Xi U19 904 115 from by rw [eU20]; exact Xi_ne (by omega)).trans ( (show Xi U19 904 115 = Xi T18 904 115 from by rw [eU19]; exact Xi_ne (by omega)).trans ( (show Xi T18 904 115 = Xi T17 904 115 from w200.x _ _ rfl).trans ( (show Xi T17 904 115 = Xi T3 904 115 from w188.x _ _ rfl).trans ( (show Xi T3 904 115 = Xi U2 904 115 from w62.x _ _ rfl).trans ( (show Xi U2 904 115 = Xi U1 904 115 from by rw [eU2]; exact Xi_ne (by omega)).trans ((show Xi U1 904 115 = Xi S 904 115 from by rw [eU1]; exact Xi_ne (by omega)))))))))
                            have w242 : Xi U23 904 116 = Xi S 904 116 := (show Xi U23 904 116 = Xi U20 904 116 from by rw [eU23]; exact Xi_ne (by omega)).trans ( (show Xi U20 904 116 = Xi U19 904 116 from by rw [eU20]; exact Xi_ne (by omega)).trans ( (show Xi U19 904 116 = Xi T18 904 116 from by rw [eU19]; exact Xi_ne (by omega)).trans ( (show Xi T18 904 116 = Xi T17 904 116 from w200.x _ _ rfl).trans ( (show Xi T17 904 116 = Xi T3 904 116 from w188.x _ _ rfl).trans ( (show Xi T3 904 116 = Xi U2 904 116 from w62.x _ _ rfl).trans ( (show Xi U2 904 116 = Xi U1 904 116 from by rw [eU2]; exact Xi_ne (by omega)).trans ((show Xi U1 904 116 = Xi S 904 116 from by rw [eU1]; exact Xi_ne (by omega)))))))))
                            have w243 : Xi U23 904 128 = Xi T3 904 128 := (show Xi U23 904 128 = Xi U20 904 128 from by rw [eU23]; exact Xi_ne (by omega)).trans ( (show Xi U20 904 128 = Xi U19 904 128 from by rw [eU20]; exact Xi_ne (by omega)).trans ( (show Xi U19 904 128 = Xi T18 904 128 from by rw [eU19]; exact Xi_ne (by omega)).trans ( (show Xi T18 904 128 = Xi T17 904 128 from w200.x _ _ rfl).trans ((show Xi T17 904 128 = Xi T3 904 128 from w188.x _ _ rfl)))))
                            have w244 : Xi U23 904 129 = Xi T3 904 129 := (show Xi U23 904 129 = Xi U20 904 129 from by rw [eU23]; exact Xi_ne (by omega)).trans ( (show Xi U20 904 129 = Xi U19 904 129 from by rw [eU20]; exact Xi_ne (by omega)).trans ( (show Xi U19 904 129 = Xi T18 904 129 from by rw [eU19]; exact Xi_ne (by omega)).trans ( (show Xi T18 904 129 = Xi T17 904 129 from w200.x _ _ rfl).trans ((show Xi T17 904 129 = Xi T3 904 129 from w188.x _ _ rfl)))))
                            have w245 : Xi U23 904 15 = Xi S 904 15 := (show Xi U23 904 15 = Xi U20 904 15 from by rw [eU23]; exact Xi_ne (by omega)).trans ( (show Xi U20 904 15 = Xi U19 904 15 from by rw [eU20]; exact Xi_ne (by omega)).trans ( (show Xi U19 904 15 = Xi T18 904 15 from by rw [eU19]; exact Xi_ne (by omega)).trans ( (show Xi T18 904 15 = Xi T17 904 15 from w200.x _ _ rfl).trans ( (show Xi T17 904 15 = Xi T3 904 15 from w188.x _ _ rfl).trans ( (show Xi T3 904 15 = Xi U2 904 15 from w62.x _ _ rfl).trans ( (show Xi U2 904 15 = Xi U1 904 15 from by rw [eU2]; exact Xi_ne (by omega)).trans ((show Xi U1 904 15 = Xi S 904 15 from by rw [eU1]; exact Xi_ne (by omega)))))))))
                            exact ⟨hHU23, hFU23, rfl, (⟨_, _, _, _, _, _, _, _, by rw [← A26, ← a353]; exact o448, by rw [← A26]; exact F448, N472, F472, N496, F496, (by first | (have u := t510; rw [if_pos (by omega)]; exact t510) | (rw [if_neg (by omega)])), (by first | (have u := t529; rw [if_pos (by omega)]; exact t529) | (rw [if_neg (by omega)])), e517, e536, (by first | (rw [if_pos (by omega)]; exact e567) | (rw [if_neg (by omega)]; exact e567))⟩)⟩
                  · refine y_iconst rfl ?_
                    refine y_goto rfl rfl ?_
                    refine y_bipush rfl rfl ?_
                    refine y_aload_n rfl rfl ?_
                    refine y_gfr rfl rfl rfl rfl rfl (hHT17.r 904 67 950 rfl) ?_
                    refine y_iload rfl rfl ?_
                    refine y_ialoadP (n := 2600) rfl rfl (by unfold rg; omega) (fun w246 w247 => ?_)
                    have w248 : (Xi T17 950 (((Xi U2 956 (((Xi S 964 ((i).toNat))).toNat))).toNat)) = (Xi T3 950 (((Xi U2 956 (((Xi S 964 ((i).toNat))).toNat))).toNat)) := (show Xi T17 950 (((Xi U2 956 (((Xi S 964 ((i).toNat))).toNat))).toNat) = Xi T3 950 (((Xi U2 956 (((Xi S 964 ((i).toNat))).toNat))).toNat) from w188.x _ _ rfl)
                    rw [w248]
                    have v495 : (Xi T3 950 (((Xi U2 956 (((Xi S 964 ((i).toNat))).toNat))).toNat)) = Xi S 950 (Xi S 956 (pTS S i).toNat).toNat := by rw [(hFT3.cx 950 rfl _).1, a353]
                    have p495 : Xi T17 908 ((Xi T3 950 (((Xi U2 956 (((Xi S 964 ((i).toNat))).toNat))).toNat))).toNat = pR S (Xi S 956 (pTS S i).toNat) := by unfold pR; rw [(hFT17.cx 908 rfl _).1, v495]
                    have w249 : Xi T17 904 115 = Xi S 904 115 := (show Xi T17 904 115 = Xi T3 904 115 from w188.x _ _ rfl).trans ( (show Xi T3 904 115 = Xi U2 904 115 from w62.x _ _ rfl).trans ( (show Xi U2 904 115 = Xi U1 904 115 from by rw [eU2]; exact Xi_ne (by omega)).trans ((show Xi U1 904 115 = Xi S 904 115 from by rw [eU1]; exact Xi_ne (by omega)))))
                    have w250 : Xi T17 904 116 = Xi S 904 116 := (show Xi T17 904 116 = Xi T3 904 116 from w188.x _ _ rfl).trans ( (show Xi T3 904 116 = Xi U2 904 116 from w62.x _ _ rfl).trans ( (show Xi U2 904 116 = Xi U1 904 116 from by rw [eU2]; exact Xi_ne (by omega)).trans ((show Xi U1 904 116 = Xi S 904 116 from by rw [eU1]; exact Xi_ne (by omega)))))
                    have w251 : Xi T17 904 128 = Xi T3 904 128 := (show Xi T17 904 128 = Xi T3 904 128 from w188.x _ _ rfl)
                    have w252 : Xi T17 904 129 = Xi T3 904 129 := (show Xi T17 904 129 = Xi T3 904 129 from w188.x _ _ rfl)
                    have w253 : Xi T17 904 15 = Xi S 904 15 := (show Xi T17 904 15 = Xi T3 904 15 from w188.x _ _ rfl).trans ( (show Xi T3 904 15 = Xi U2 904 15 from w62.x _ _ rfl).trans ( (show Xi U2 904 15 = Xi U1 904 15 from by rw [eU2]; exact Xi_ne (by omega)).trans ((show Xi U1 904 15 = Xi S 904 15 from by rw [eU1]; exact Xi_ne (by omega)))))
                    refine y_callV rfl rfl rfl (t_mo_need__p hHT17 1 7 (Xi T3 950 (((Xi U2 956 (((Xi S 964 ((i).toNat))).toNat))).toNat)) ⟨by omega, by omega⟩ ⟨by omega, by omega⟩ ⟨by omega, by omega⟩ _) ?_
                    rintro _ T24 ⟨hHT24, w255, rfl, nt496⟩
                    have hFT24 : FR md_mo_phraseMeant__6 S T24 := FR.tr hFT17 w255 rfl
                    show Pl _ _ _ _ _ _ [] _ _
                    have F496 := (by assumption : FR md_mo_need__p T17 T24)
                    have N496 : NT3 T24 = (if z61 < 2 then NT3 T17 else ntF (NT3 T17) 7 (pR S (Xi S 956 (pTS S i).toNat))) := by rw [← p495]; first | (rw [if_pos (by omega)]; exact nt496.trans (if_neg (by decide))) | (rw [if_neg (by omega)]; exact nt496.trans (if_pos rfl))
                    refine y_aload_n rfl rfl ?_
                    refine y_gfr rfl rfl rfl rfl rfl (hHT24.r 904 121 972 rfl) ?_
                    refine y_iload_n rfl rfl ?_
                    refine y_iload rfl rfl ?_
                    refine y_if_le rfl rfl (by unfold rg; omega) (fun w256 => ?_) (fun w257 => ?_)
                    · exfalso; omega
                    · refine y_aload_n rfl rfl ?_
                      refine y_gfi rfl rfl rfl rfl rfl ?_
                      have w258 : -2147483648 ≤ (Xi T24 904 128) ∧ (Xi T24 904 128) ≤ 2147483647 := Xi_rgI
                      have t510 : (Xi T24 904 128) = Xi T3 904 128 := by rw [F496.x 904 128 rfl, F472.x 904 128 rfl]
                      refine y_goto rfl rfl ?_
                      refine y_iastoreP (n := 2400) rfl rfl (by unfold rg; omega) (fun w259 w260 => ?_)
                      obtain ⟨U25, eU25⟩ : ∃ T : sS, T = uI T24 972 ((q).toNat) (Int32.ofInt (Xi T24 904 128)) := ⟨_, rfl⟩
                      rw [← eU25]
                      have hHU25 : RI U25 := by rw [eU25]; exact RI_w hHT24
                      have hFU25 : FR md_mo_phraseMeant__6 S U25 := by rw [eU25]; exact FR.wI hFT24 (mdf_i (r := (972, 973, 0, 100000)) (List.mem_of_getElem? (i := 15) rfl) (inR_i (by omega) (by omega) (by omega) (by omega)))
                      have w261 : Xi U25 972 ((q).toNat) = (Xi T24 904 128) := by rw [eU25]; exact Xi_same (by unfold rg; omega)
                      have e517 := eU25
                      refine y_aload_n rfl rfl ?_
                      refine y_gfr rfl rfl rfl rfl rfl (hHU25.r 904 120 971 rfl) ?_
                      refine y_iload_n rfl rfl ?_
                      refine y_iload rfl rfl ?_
                      refine y_if_le rfl rfl (by unfold rg; omega) (fun w262 => ?_) (fun w263 => ?_)
                      · exfalso; omega
                      · refine y_aload_n rfl rfl ?_
                        refine y_gfi rfl rfl rfl rfl rfl ?_
                        have w264 : -2147483648 ≤ (Xi U25 904 129) ∧ (Xi U25 904 129) ≤ 2147483647 := Xi_rgI
                        have t529 : (Xi U25 904 129) = Xi T3 904 129 := by rw [e517, Xi_ne (by omega), F496.x 904 129 rfl, F472.x 904 129 rfl]
                        refine y_goto rfl rfl ?_
                        refine y_iastoreP (n := 2400) rfl rfl (by unfold rg; omega) (fun w265 w266 => ?_)
                        obtain ⟨U26, eU26⟩ : ∃ T : sS, T = uI U25 971 ((q).toNat) (Int32.ofInt (Xi U25 904 129)) := ⟨_, rfl⟩
                        rw [← eU26]
                        have hHU26 : RI U26 := by rw [eU26]; exact RI_w hHU25
                        have hFU26 : FR md_mo_phraseMeant__6 S U26 := by rw [eU26]; exact FR.wI hFU25 (mdf_i (r := (971, 972, 0, 100000)) (List.mem_of_getElem? (i := 14) rfl) (inR_i (by omega) (by omega) (by omega) (by omega)))
                        have w267 : Xi U26 971 ((q).toNat) = (Xi U25 904 129) := by rw [eU26]; exact Xi_same (by unfold rg; omega)
                        have e536 := eU26
                        refine y_aload_n rfl rfl ?_
                        refine y_gfr rfl rfl rfl rfl rfl (hHU26.r 904 119 970 rfl) ?_
                        refine y_iload_n rfl rfl ?_
                        refine y_aload_n rfl rfl ?_
                        refine y_gfr rfl rfl rfl rfl rfl (hHU26.r 904 120 971 rfl) ?_
                        refine y_iload_n rfl rfl ?_
                        refine y_ialoadP (n := 2400) rfl rfl (by unfold rg; omega) (fun w268 w269 => ?_)
                        have h547 := xi_of e536 (by unfold rg; omega)
                        refine y_iconst rfl ?_
                        refine y_icmp_ne rfl rfl (by unfold rg; omega) (by unfold rg; omega) (fun w270 => ?_) (fun w271 => ?_)
                        · refine y_iconst rfl ?_
                          refine y_bastoreZP (n := 2400) rfl rfl (by unfold rg; omega) ⟨by omega, by omega⟩ (fun w272 w273 => ?_)
                          obtain ⟨U27, eU27⟩ : ∃ T : sS, T = uI U26 970 ((q).toNat) (Int32.ofInt 0) := ⟨_, rfl⟩
                          rw [← eU27]
                          have hHU27 : RI U27 := by rw [eU27]; exact RI_w hHU26
                          have hFU27 : FR md_mo_phraseMeant__6 S U27 := by rw [eU27]; exact FR.wI hFU26 (mdf_i (r := (970, 971, 0, 100000)) (List.mem_of_getElem? (i := 13) rfl) (inR_i (by omega) (by omega) (by omega) (by omega)))
                          have w274 : Xi U27 970 ((q).toNat) = 0 := by rw [eU27]; exact Xi_same (by unfold rg; omega)
                          have e567 := eU27
                          refine y_return rfl rfl ?_
                          have w275 : Xi U27 904 115 = Xi S 904 115 := (show Xi U27 904 115 = Xi U26 904 115 from by rw [eU27]; exact Xi_ne (by omega)).trans ( (show Xi U26 904 115 = Xi U25 904 115 from by rw [eU26]; exact Xi_ne (by omega)).trans ( (show Xi U25 904 115 = Xi T24 904 115 from by rw [eU25]; exact Xi_ne (by omega)).trans ( (show Xi T24 904 115 = Xi T17 904 115 from w255.x _ _ rfl).trans ( (show Xi T17 904 115 = Xi T3 904 115 from w188.x _ _ rfl).trans ( (show Xi T3 904 115 = Xi U2 904 115 from w62.x _ _ rfl).trans ( (show Xi U2 904 115 = Xi U1 904 115 from by rw [eU2]; exact Xi_ne (by omega)).trans ((show Xi U1 904 115 = Xi S 904 115 from by rw [eU1]; exact Xi_ne (by omega)))))))))
                          have w276 : Xi U27 904 116 = Xi S 904 116 := (show Xi U27 904 116 = Xi U26 904 116 from by rw [eU27]; exact Xi_ne (by omega)).trans ( (show Xi U26 904 116 = Xi U25 904 116 from by rw [eU26]; exact Xi_ne (by omega)).trans ( (show Xi U25 904 116 = Xi T24 904 116 from by rw [eU25]; exact Xi_ne (by omega)).trans ( (show Xi T24 904 116 = Xi T17 904 116 from w255.x _ _ rfl).trans ( (show Xi T17 904 116 = Xi T3 904 116 from w188.x _ _ rfl).trans ( (show Xi T3 904 116 = Xi U2 904 116 from w62.x _ _ rfl).trans ( (show Xi U2 904 116 = Xi U1 904 116 from by rw [eU2]; exact Xi_ne (by omega)).trans ((show Xi U1 904 116 = Xi S 904 116 from by rw [eU1]; exact Xi_ne (by omega)))))))))
                          have w277 : Xi U27 904 128 = Xi T3 904 128 := (show Xi U27 904 128 = Xi U26 904 128 from by rw [eU27]; exact Xi_ne (by omega)).trans ( (show Xi U26 904 128 = Xi U25 904 128 from by rw [eU26]; exact Xi_ne (by omega)).trans ( (show Xi U25 904 128 = Xi T24 904 128 from by rw [eU25]; exact Xi_ne (by omega)).trans ( (show Xi T24 904 128 = Xi T17 904 128 from w255.x _ _ rfl).trans ((show Xi T17 904 128 = Xi T3 904 128 from w188.x _ _ rfl)))))
                          have w278 : Xi U27 904 129 = Xi T3 904 129 := (show Xi U27 904 129 = Xi U26 904 129 from by rw [eU27]; exact Xi_ne (by omega)).trans ( (show Xi U26 904 129 = Xi U25 904 129 from by rw [eU26]; exact Xi_ne (by omega)).trans ( (show Xi U25 904 129 = Xi T24 904 129 from by rw [eU25]; exact Xi_ne (by omega)).trans ( (show Xi T24 904 129 = Xi T17 904 129 from w255.x _ _ rfl).trans ((show Xi T17 904 129 = Xi T3 904 129 from w188.x _ _ rfl)))))
                          have w279 : Xi U27 904 15 = Xi S 904 15 := (show Xi U27 904 15 = Xi U26 904 15 from by rw [eU27]; exact Xi_ne (by omega)).trans ( (show Xi U26 904 15 = Xi U25 904 15 from by rw [eU26]; exact Xi_ne (by omega)).trans ( (show Xi U25 904 15 = Xi T24 904 15 from by rw [eU25]; exact Xi_ne (by omega)).trans ( (show Xi T24 904 15 = Xi T17 904 15 from w255.x _ _ rfl).trans ( (show Xi T17 904 15 = Xi T3 904 15 from w188.x _ _ rfl).trans ( (show Xi T3 904 15 = Xi U2 904 15 from w62.x _ _ rfl).trans ( (show Xi U2 904 15 = Xi U1 904 15 from by rw [eU2]; exact Xi_ne (by omega)).trans ((show Xi U1 904 15 = Xi S 904 15 from by rw [eU1]; exact Xi_ne (by omega)))))))))
                          exact ⟨hHU27, hFU27, rfl, (⟨_, _, _, _, _, _, _, _, by rw [← A26, ← a353]; exact o448, by rw [← A26]; exact F448, N472, F472, N496, F496, (by first | (have u := t510; rw [if_pos (by omega)]; exact t510) | (rw [if_neg (by omega)])), (by first | (have u := t529; rw [if_pos (by omega)]; exact t529) | (rw [if_neg (by omega)])), e517, e536, (by first | (rw [if_pos (by omega)]; exact e567) | (rw [if_neg (by omega)]; exact e567))⟩)⟩
                        · refine y_aload_n rfl rfl ?_
                          refine y_gfr rfl rfl rfl rfl rfl (hHU26.r 904 83 953 rfl) ?_
                          refine y_iload rfl rfl ?_
                          refine y_baloadP (n := 1700) rfl rfl rfl (by decide) (by unfold rg; omega) (fun w280 w281 => ?_)
                          have w282 : (Xi U26 953 (((Xi S 964 ((i).toNat))).toNat)) = (Xi U2 953 (((Xi S 964 ((i).toNat))).toNat)) := (show Xi U26 953 (((Xi S 964 ((i).toNat))).toNat) = Xi U25 953 (((Xi S 964 ((i).toNat))).toNat) from by rw [eU26]; exact Xi_ne (by omega)).trans ( (show Xi U25 953 (((Xi S 964 ((i).toNat))).toNat) = Xi T24 953 (((Xi S 964 ((i).toNat))).toNat) from by rw [eU25]; exact Xi_ne (by omega)).trans ( (show Xi T24 953 (((Xi S 964 ((i).toNat))).toNat) = Xi T17 953 (((Xi S 964 ((i).toNat))).toNat) from w255.x _ _ rfl).trans ( (show Xi T17 953 (((Xi S 964 ((i).toNat))).toNat) = Xi T3 953 (((Xi S 964 ((i).toNat))).toNat) from w188.x _ _ rfl).trans ((show Xi T3 953 (((Xi S 964 ((i).toNat))).toNat) = Xi U2 953 (((Xi S 964 ((i).toNat))).toNat) from w62.x _ _ rfl)))))
                          rw [w282]
                          have a558 : (Xi U2 953 (((Xi S 964 ((i).toNat))).toNat)) = Xi S 953 (pTS S i).toNat := (hFU2.cx 953 rfl _).1
                          refine y_if_ne rfl rfl (by unfold rg; omega) (fun w283 => ?_) (fun w284 => ?_)
                          · refine y_iconst rfl ?_
                            refine y_bastoreZP (n := 2400) rfl rfl (by unfold rg; omega) ⟨by omega, by omega⟩ (fun w285 w286 => ?_)
                            obtain ⟨U28, eU28⟩ : ∃ T : sS, T = uI U26 970 ((q).toNat) (Int32.ofInt 0) := ⟨_, rfl⟩
                            rw [← eU28]
                            have hHU28 : RI U28 := by rw [eU28]; exact RI_w hHU26
                            have hFU28 : FR md_mo_phraseMeant__6 S U28 := by rw [eU28]; exact FR.wI hFU26 (mdf_i (r := (970, 971, 0, 100000)) (List.mem_of_getElem? (i := 13) rfl) (inR_i (by omega) (by omega) (by omega) (by omega)))
                            have w287 : Xi U28 970 ((q).toNat) = 0 := by rw [eU28]; exact Xi_same (by unfold rg; omega)
                            have e567 := eU28
                            refine y_return rfl rfl ?_
                            have w288 : Xi U28 904 115 = Xi S 904 115 := (show Xi U28 904 115 = Xi U26 904 115 from by rw [eU28]; exact Xi_ne (by omega)).trans ( (show Xi U26 904 115 = Xi U25 904 115 from by rw [eU26]; exact Xi_ne (by omega)).trans ( (show Xi U25 904 115 = Xi T24 904 115 from by rw [eU25]; exact Xi_ne (by omega)).trans ( (show Xi T24 904 115 = Xi T17 904 115 from w255.x _ _ rfl).trans ( (show Xi T17 904 115 = Xi T3 904 115 from w188.x _ _ rfl).trans ( (show Xi T3 904 115 = Xi U2 904 115 from w62.x _ _ rfl).trans ( (show Xi U2 904 115 = Xi U1 904 115 from by rw [eU2]; exact Xi_ne (by omega)).trans ((show Xi U1 904 115 = Xi S 904 115 from by rw [eU1]; exact Xi_ne (by omega)))))))))
                            have w289 : Xi U28 904 116 = Xi S 904 116 := (show Xi U28 904 116 = Xi U26 904 116 from by rw [eU28]; exact Xi_ne (by omega)).trans ( (show Xi U26 904 116 = Xi U25 904 116 from by rw [eU26]; exact Xi_ne (by omega)).trans ( (show Xi U25 904 116 = Xi T24 904 116 from by rw [eU25]; exact Xi_ne (by omega)).trans ( (show Xi T24 904 116 = Xi T17 904 116 from w255.x _ _ rfl).trans ( (show Xi T17 904 116 = Xi T3 904 116 from w188.x _ _ rfl).trans ( (show Xi T3 904 116 = Xi U2 904 116 from w62.x _ _ rfl).trans ( (show Xi U2 904 116 = Xi U1 904 116 from by rw [eU2]; exact Xi_ne (by omega)).trans ((show Xi U1 904 116 = Xi S 904 116 from by rw [eU1]; exact Xi_ne (by omega)))))))))
                            have w290 : Xi U28 904 128 = Xi T3 904 128 := (show Xi U28 904 128 = Xi U26 904 128 from by rw [eU28]; exact Xi_ne (by omega)).trans ( (show Xi U26 904 128 = Xi U25 904 128 from by rw [eU26]; exact Xi_ne (by omega)).trans ( (show Xi U25 904 128 = Xi T24 904 128 from by rw [eU25]; exact Xi_ne (by omega)).trans ( (show Xi T24 904 128 = Xi T17 904 128 from w255.x _ _ rfl).trans ((show Xi T17 904 128 = Xi T3 904 128 from w188.x _ _ rfl)))))
                            have w291 : Xi U28 904 129 = Xi T3 904 129 := (show Xi U28 904 129 = Xi U26 904 129 from by rw [eU28]; exact Xi_ne (by omega)).trans ( (show Xi U26 904 129 = Xi U25 904 129 from by rw [eU26]; exact Xi_ne (by omega)).trans ( (show Xi U25 904 129 = Xi T24 904 129 from by rw [eU25]; exact Xi_ne (by omega)).trans ( (show Xi T24 904 129 = Xi T17 904 129 from w255.x _ _ rfl).trans ((show Xi T17 904 129 = Xi T3 904 129 from w188.x _ _ rfl)))))
                            have w292 : Xi U28 904 15 = Xi S 904 15 := (show Xi U28 904 15 = Xi U26 904 15 from by rw [eU28]; exact Xi_ne (by omega)).trans ( (show Xi U26 904 15 = Xi U25 904 15 from by rw [eU26]; exact Xi_ne (by omega)).trans ( (show Xi U25 904 15 = Xi T24 904 15 from by rw [eU25]; exact Xi_ne (by omega)).trans ( (show Xi T24 904 15 = Xi T17 904 15 from w255.x _ _ rfl).trans ( (show Xi T17 904 15 = Xi T3 904 15 from w188.x _ _ rfl).trans ( (show Xi T3 904 15 = Xi U2 904 15 from w62.x _ _ rfl).trans ( (show Xi U2 904 15 = Xi U1 904 15 from by rw [eU2]; exact Xi_ne (by omega)).trans ((show Xi U1 904 15 = Xi S 904 15 from by rw [eU1]; exact Xi_ne (by omega)))))))))
                            exact ⟨hHU28, hFU28, rfl, (⟨_, _, _, _, _, _, _, _, by rw [← A26, ← a353]; exact o448, by rw [← A26]; exact F448, N472, F472, N496, F496, (by first | (have u := t510; rw [if_pos (by omega)]; exact t510) | (rw [if_neg (by omega)])), (by first | (have u := t529; rw [if_pos (by omega)]; exact t529) | (rw [if_neg (by omega)])), e517, e536, (by first | (rw [if_pos (by omega)]; exact e567) | (rw [if_neg (by omega)]; exact e567))⟩)⟩
                          · refine y_iconst rfl ?_
                            refine y_goto rfl rfl ?_
                            refine y_bastoreZP (n := 2400) rfl rfl (by unfold rg; omega) ⟨by omega, by omega⟩ (fun w293 w294 => ?_)
                            obtain ⟨U29, eU29⟩ : ∃ T : sS, T = uI U26 970 ((q).toNat) (Int32.ofInt 1) := ⟨_, rfl⟩
                            rw [← eU29]
                            have hHU29 : RI U29 := by rw [eU29]; exact RI_w hHU26
                            have hFU29 : FR md_mo_phraseMeant__6 S U29 := by rw [eU29]; exact FR.wI hFU26 (mdf_i (r := (970, 971, 0, 100000)) (List.mem_of_getElem? (i := 13) rfl) (inR_i (by omega) (by omega) (by omega) (by omega)))
                            have w295 : Xi U29 970 ((q).toNat) = 1 := by rw [eU29]; exact Xi_same (by unfold rg; omega)
                            have e567 := eU29
                            refine y_return rfl rfl ?_
                            have w296 : Xi U29 904 115 = Xi S 904 115 := (show Xi U29 904 115 = Xi U26 904 115 from by rw [eU29]; exact Xi_ne (by omega)).trans ( (show Xi U26 904 115 = Xi U25 904 115 from by rw [eU26]; exact Xi_ne (by omega)).trans ( (show Xi U25 904 115 = Xi T24 904 115 from by rw [eU25]; exact Xi_ne (by omega)).trans ( (show Xi T24 904 115 = Xi T17 904 115 from w255.x _ _ rfl).trans ( (show Xi T17 904 115 = Xi T3 904 115 from w188.x _ _ rfl).trans ( (show Xi T3 904 115 = Xi U2 904 115 from w62.x _ _ rfl).trans ( (show Xi U2 904 115 = Xi U1 904 115 from by rw [eU2]; exact Xi_ne (by omega)).trans ((show Xi U1 904 115 = Xi S 904 115 from by rw [eU1]; exact Xi_ne (by omega)))))))))
                            have w297 : Xi U29 904 116 = Xi S 904 116 := (show Xi U29 904 116 = Xi U26 904 116 from by rw [eU29]; exact Xi_ne (by omega)).trans ( (show Xi U26 904 116 = Xi U25 904 116 from by rw [eU26]; exact Xi_ne (by omega)).trans ( (show Xi U25 904 116 = Xi T24 904 116 from by rw [eU25]; exact Xi_ne (by omega)).trans ( (show Xi T24 904 116 = Xi T17 904 116 from w255.x _ _ rfl).trans ( (show Xi T17 904 116 = Xi T3 904 116 from w188.x _ _ rfl).trans ( (show Xi T3 904 116 = Xi U2 904 116 from w62.x _ _ rfl).trans ( (show Xi U2 904 116 = Xi U1 904 116 from by rw [eU2]; exact Xi_ne (by omega)).trans ((show Xi U1 904 116 = Xi S 904 116 from by rw [eU1]; exact Xi_ne (by omega)))))))))
                            have w298 : Xi U29 904 128 = Xi T3 904 128 := (show Xi U29 904 128 = Xi U26 904 128 from by rw [eU29]; exact Xi_ne (by omega)).trans ( (show Xi U26 904 128 = Xi U25 904 128 from by rw [eU26]; exact Xi_ne (by omega)).trans ( (show Xi U25 904 128 = Xi T24 904 128 from by rw [eU25]; exact Xi_ne (by omega)).trans ( (show Xi T24 904 128 = Xi T17 904 128 from w255.x _ _ rfl).trans ((show Xi T17 904 128 = Xi T3 904 128 from w188.x _ _ rfl)))))
                            have w299 : Xi U29 904 129 = Xi T3 904 129 := (show Xi U29 904 129 = Xi U26 904 129 from by rw [eU29]; exact Xi_ne (by omega)).trans ( (show Xi U26 904 129 = Xi U25 904 129 from by rw [eU26]; exact Xi_ne (by omega)).trans ( (show Xi U25 904 129 = Xi T24 904 129 from by rw [eU25]; exact Xi_ne (by omega)).trans ( (show Xi T24 904 129 = Xi T17 904 129 from w255.x _ _ rfl).trans ((show Xi T17 904 129 = Xi T3 904 129 from w188.x _ _ rfl)))))
                            have w300 : Xi U29 904 15 = Xi S 904 15 := (show Xi U29 904 15 = Xi U26 904 15 from by rw [eU29]; exact Xi_ne (by omega)).trans ( (show Xi U26 904 15 = Xi U25 904 15 from by rw [eU26]; exact Xi_ne (by omega)).trans ( (show Xi U25 904 15 = Xi T24 904 15 from by rw [eU25]; exact Xi_ne (by omega)).trans ( (show Xi T24 904 15 = Xi T17 904 15 from w255.x _ _ rfl).trans ( (show Xi T17 904 15 = Xi T3 904 15 from w188.x _ _ rfl).trans ( (show Xi T3 904 15 = Xi U2 904 15 from w62.x _ _ rfl).trans ( (show Xi U2 904 15 = Xi U1 904 15 from by rw [eU2]; exact Xi_ne (by omega)).trans ((show Xi U1 904 15 = Xi S 904 15 from by rw [eU1]; exact Xi_ne (by omega)))))))))
                            exact ⟨hHU29, hFU29, rfl, (⟨_, _, _, _, _, _, _, _, by rw [← A26, ← a353]; exact o448, by rw [← A26]; exact F448, N472, F472, N496, F496, (by first | (have u := t510; rw [if_pos (by omega)]; exact t510) | (rw [if_neg (by omega)])), (by first | (have u := t529; rw [if_pos (by omega)]; exact t529) | (rw [if_neg (by omega)])), e517, e536, (by first | (rw [if_pos (by omega)]; exact e567) | (rw [if_neg (by omega)]; exact e567))⟩)⟩
              · exfalso; omega
          · exfalso; omega
      · exfalso; omega
    · exfalso; omega
  · exfalso; omega
def md_mo_phraseMeant__7 : List rec := [(904, 905, 64, 65), (904, 905, 104, 105), (904, 905, 105, 106), (904, 905, 106, 107), (904, 905, 113, 114), (904, 905, 128, 129), (904, 905, 129, 130), (904, 905, 154, 155), (904, 905, 156, 157), (904, 905, 157, 158), (904, 905, 158, 159), (904, 905, 160, 161), (969, 970, 0, 100000), (970, 971, 0, 100000), (971, 972, 0, 100000), (972, 973, 0, 100000), (973, 974, 0, 100000), (974, 975, 0, 100000), (975, 976, 0, 100000), (976, 977, 0, 100000), (977, 978, 0, 100000), (993, 994, 0, 100000), (994, 995, 0, 100000), (1000, 1001, 0, 1)]
abbrev Q_mo_phraseMeant__7 (S : sS) (i : Int) (q : Int) (p : Int) : pst := fun r S1 => RI S1 ∧ FR md_mo_phraseMeant__7 S S1 ∧ (r = none ∧ (S1 = phA S i q p))
set_option maxRecDepth 100000 in
theorem t_mo_phraseMeant__7 {S : sS} (hH : RI S) (i : Int) (q : Int) (p : Int) (hi : 0 ≤ i ∧ i ≤ 1699) (hq : 0 ≤ q ∧ q ≤ 2399) (hp : 0 ≤ p ∧ p ≤ 1999) (hpw : Xi S 963 i.toNat = 6) (d : Nat) : Mp lay0 (d + 8) m_mo_phraseMeant [.ref 904, iv i, iv q, iv p] S (Q_mo_phraseMeant__7 S i q p) := by
  refine Mp_R rfl rfl (fun fu => ?_)
  have hF : FR md_mo_phraseMeant__7 S S := FR.rf
  refine y_aload_n rfl rfl ?_
  refine y_gfr rfl rfl rfl rfl rfl (hH.r 904 96 964 rfl) ?_
  refine y_iload_n rfl rfl ?_
  refine y_ialoadP (n := 1700) rfl rfl (by unfold rg; omega) (fun w1 w2 => ?_)
  have w3 : -2147483648 ≤ (Xi S 964 ((i).toNat)) ∧ (Xi S 964 ((i).toNat)) ≤ 2147483647 := Xi_rgI
  refine y_istore rfl rfl rfl ?_
  refine y_aload_n rfl rfl ?_
  refine y_gfr rfl rfl rfl rfl rfl (hH.r 904 126 976 rfl) ?_
  refine y_iload_n rfl rfl ?_
  refine y_aload_n rfl rfl ?_
  refine y_gfr rfl rfl rfl rfl rfl (hH.r 904 95 963 rfl) ?_
  refine y_iload_n rfl rfl ?_
  refine y_ialoadP (n := 1700) rfl rfl (by unfold rg; omega) (fun w4 w5 => ?_)
  have w6 : -2147483648 ≤ (Xi S 963 ((i).toNat)) ∧ (Xi S 963 ((i).toNat)) ≤ 2147483647 := Xi_rgI
  refine y_iastoreP (n := 2000) rfl rfl (by unfold rg; omega) (fun w7 w8 => ?_)
  obtain ⟨U1, eU1⟩ : ∃ T : sS, T = uI S 976 ((p).toNat) (Int32.ofInt (Xi S 963 ((i).toNat))) := ⟨_, rfl⟩
  rw [← eU1]
  have hHU1 : RI U1 := by rw [eU1]; exact RI_w hH
  have hFU1 : FR md_mo_phraseMeant__7 S U1 := by rw [eU1]; exact FR.wI hF (mdf_i (r := (976, 977, 0, 100000)) (List.mem_of_getElem? (i := 19) rfl) (inR_i (by omega) (by omega) (by omega) (by omega)))
  have w9 : Xi U1 976 ((p).toNat) = (Xi S 963 ((i).toNat)) := by rw [eU1]; exact Xi_same (by unfold rg; omega)
  have e19 := eU1
  refine y_aload_n rfl rfl ?_
  refine y_gfr rfl rfl rfl rfl rfl (hHU1.r 904 127 977 rfl) ?_
  refine y_iload_n rfl rfl ?_
  refine y_iload_n rfl rfl ?_
  refine y_iastoreP (n := 2000) rfl rfl (by unfold rg; omega) (fun w10 w11 => ?_)
  obtain ⟨U2, eU2⟩ : ∃ T : sS, T = uI U1 977 ((p).toNat) (Int32.ofInt q) := ⟨_, rfl⟩
  rw [← eU2]
  have hHU2 : RI U2 := by rw [eU2]; exact RI_w hHU1
  have hFU2 : FR md_mo_phraseMeant__7 S U2 := by rw [eU2]; exact FR.wI hFU1 (mdf_i (r := (977, 978, 0, 100000)) (List.mem_of_getElem? (i := 20) rfl) (inR_i (by omega) (by omega) (by omega) (by omega)))
  have w12 : Xi U2 977 ((p).toNat) = q := by rw [eU2]; exact Xi_same (by unfold rg; omega)
  have e26 := eU2
  have A26 : U2 = phA S i q p := phA_of e19 rfl e26
  have w26 : Xi U2 963 i.toNat = Xi S 963 i.toNat := (hFU2.cx 963 rfl _).1
  refine y_aload_n rfl rfl ?_
  refine y_gfr rfl rfl rfl rfl rfl (hHU2.r 904 95 963 rfl) ?_
  refine y_iload_n rfl rfl ?_
  refine y_ialoadP (n := 1700) rfl rfl (by unfold rg; omega) (fun w13 w14 => ?_)
  have w15 : (Xi U2 963 ((i).toNat)) = (Xi S 963 ((i).toNat)) := (show Xi U2 963 ((i).toNat) = Xi U1 963 ((i).toNat) from by rw [eU2]; exact Xi_ne (by omega)).trans ((show Xi U1 963 ((i).toNat) = Xi S 963 ((i).toNat) from by rw [eU1]; exact Xi_ne (by omega)))
  rw [w15]
  refine y_if_ne rfl rfl (by unfold rg; omega) (fun w16 => ?_) (fun w17 => ?_)
  · refine y_aload_n rfl rfl ?_
    refine y_gfr rfl rfl rfl rfl rfl (hHU2.r 904 95 963 rfl) ?_
    refine y_iload_n rfl rfl ?_
    refine y_ialoadP (n := 1700) rfl rfl (by unfold rg; omega) (fun w18 w19 => ?_)
    have w20 : (Xi U2 963 ((i).toNat)) = (Xi S 963 ((i).toNat)) := (show Xi U2 963 ((i).toNat) = Xi U1 963 ((i).toNat) from by rw [eU2]; exact Xi_ne (by omega)).trans ((show Xi U1 963 ((i).toNat) = Xi S 963 ((i).toNat) from by rw [eU1]; exact Xi_ne (by omega)))
    rw [w20]
    refine y_iconst rfl ?_
    refine y_icmp_ne rfl rfl (by unfold rg; omega) (by unfold rg; omega) (fun w21 => ?_) (fun w22 => ?_)
    · refine y_aload_n rfl rfl ?_
      refine y_gfr rfl rfl rfl rfl rfl (hHU2.r 904 95 963 rfl) ?_
      refine y_iload_n rfl rfl ?_
      refine y_ialoadP (n := 1700) rfl rfl (by unfold rg; omega) (fun w23 w24 => ?_)
      have w25 : (Xi U2 963 ((i).toNat)) = (Xi S 963 ((i).toNat)) := (show Xi U2 963 ((i).toNat) = Xi U1 963 ((i).toNat) from by rw [eU2]; exact Xi_ne (by omega)).trans ((show Xi U1 963 ((i).toNat) = Xi S 963 ((i).toNat) from by rw [eU1]; exact Xi_ne (by omega)))
      rw [w25]
      refine y_iconst rfl ?_
      refine y_icmp_ne rfl rfl (by unfold rg; omega) (by unfold rg; omega) (fun w26 => ?_) (fun w27 => ?_)
      · refine y_aload_n rfl rfl ?_
        refine y_gfr rfl rfl rfl rfl rfl (hHU2.r 904 95 963 rfl) ?_
        refine y_iload_n rfl rfl ?_
        refine y_ialoadP (n := 1700) rfl rfl (by unfold rg; omega) (fun w28 w29 => ?_)
        have w30 : (Xi U2 963 ((i).toNat)) = (Xi S 963 ((i).toNat)) := (show Xi U2 963 ((i).toNat) = Xi U1 963 ((i).toNat) from by rw [eU2]; exact Xi_ne (by omega)).trans ((show Xi U1 963 ((i).toNat) = Xi S 963 ((i).toNat) from by rw [eU1]; exact Xi_ne (by omega)))
        rw [w30]
        refine y_iconst rfl ?_
        refine y_icmp_eq rfl rfl (by unfold rg; omega) (by unfold rg; omega) (fun w31 => ?_) (fun w32 => ?_)
        · exfalso; omega
        · refine y_aload_n rfl rfl ?_
          refine y_gfr rfl rfl rfl rfl rfl (hHU2.r 904 95 963 rfl) ?_
          refine y_iload_n rfl rfl ?_
          refine y_ialoadP (n := 1700) rfl rfl (by unfold rg; omega) (fun w33 w34 => ?_)
          have w35 : (Xi U2 963 ((i).toNat)) = (Xi S 963 ((i).toNat)) := (show Xi U2 963 ((i).toNat) = Xi U1 963 ((i).toNat) from by rw [eU2]; exact Xi_ne (by omega)).trans ((show Xi U1 963 ((i).toNat) = Xi S 963 ((i).toNat) from by rw [eU1]; exact Xi_ne (by omega)))
          rw [w35]
          refine y_iconst rfl ?_
          refine y_icmp_ne rfl rfl (by unfold rg; omega) (by unfold rg; omega) (fun w36 => ?_) (fun w37 => ?_)
          · refine y_aload_n rfl rfl ?_
            refine y_gfr rfl rfl rfl rfl rfl (hHU2.r 904 95 963 rfl) ?_
            refine y_iload_n rfl rfl ?_
            refine y_ialoadP (n := 1700) rfl rfl (by unfold rg; omega) (fun w38 w39 => ?_)
            have w40 : (Xi U2 963 ((i).toNat)) = (Xi S 963 ((i).toNat)) := (show Xi U2 963 ((i).toNat) = Xi U1 963 ((i).toNat) from by rw [eU2]; exact Xi_ne (by omega)).trans ((show Xi U1 963 ((i).toNat) = Xi S 963 ((i).toNat) from by rw [eU1]; exact Xi_ne (by omega)))
            rw [w40]
            refine y_iconst rfl ?_
            refine y_icmp_ne rfl rfl (by unfold rg; omega) (by unfold rg; omega) (fun w41 => ?_) (fun w42 => ?_)
            · refine y_return rfl rfl ?_
              exact ⟨hHU2, hFU2, rfl, (A26)⟩
            · exfalso; omega
          · exfalso; omega
      · exfalso; omega
    · exfalso; omega
  · exfalso; omega
end
