section
/-! rules of the reference: the head with ART RUN -/
theorem amb_1 {S B : sS} {l a : Int} (h : AMB S B l a) (e : a = -1) : AMB S B l (-1) := e ▸ h
theorem dcR_up {S : sS} {f n pl d al m : Int} (h : 0 ≤ Xi S 904 32 ∧ Xi S 904 32 ≤ 12) (hn : n - m ≤ 6) : dcR S f n pl d al m ≤ 4449744 := by
  unfold dcR
  split
  · exact cpf_up h (by omega)
  · omega
theorem dcT_up {S : sS} {f n pl d al v : Int} (h : 0 ≤ Xi S 904 32 ∧ Xi S 904 32 ≤ 12) (hn : n ≤ 6) : dcT S f n pl d al v ≤ 13349232 := by
  have q : ∀ (c : Prop) [Decidable c] (m : Int), 1 ≤ m → (if c then dcR S f n pl d al m else 0) ≤ 4449744 := fun c _ m hm => by
    split
    · exact dcR_up h (by omega)
    · omega
  have a := q (1 < v ∧ 1 ≤ n) 1 (by omega)
  have b := q (2 < v ∧ 2 ≤ n) 2 (by omega)
  have c := q (3 < v ∧ 3 ≤ n) 3 (by omega)
  unfold dcT
  omega
theorem kds_b {D E : sS} {f n pl d al v : Int} (o : (n ≤ 6 → KDS D E f n pl d al v) ∧ (6 < n → E = D)) (z : Xi D 904 109 = 0) (h : 0 ≤ Xi D 904 32 ∧ Xi D 904 32 ≤ 12) : 0 ≤ Xi E 904 109 ∧ Xi E 904 109 ≤ 13349232 := by
  by_cases q : n ≤ 6
  · have t := (o.1 q).1
    have a := dcT_nn (S := D) (f := f) (n := n) (pl := pl) (d := d) (al := al) (v := v) h
    have b := dcT_up (S := D) (f := f) (n := n) (pl := pl) (d := d) (al := al) (v := v) h q
    omega
  · rw [o.2 (by omega), z]; omega

def md_mo_actingMeant__2 : List rec := [(904, 905, 64, 65), (904, 905, 104, 105), (904, 905, 105, 106), (904, 905, 106, 107), (904, 905, 109, 110), (904, 905, 110, 111), (904, 905, 112, 113), (904, 905, 113, 114), (904, 905, 116, 117), (904, 905, 128, 129), (904, 905, 129, 130), (967, 968, 0, 100000), (968, 969, 0, 100000), (979, 980, 0, 100000), (980, 981, 0, 100000), (981, 982, 0, 100000), (982, 983, 0, 100000), (983, 984, 0, 100000)]
abbrev Q_mo_actingMeant__2 (S : sS) (l : Int) : pst := fun r S1 => RI S1 ∧ FR md_mo_actingMeant__2 S S1 ∧ (r = none ∧ (AMO S S1 l))
set_option maxRecDepth 100000 in
theorem t_mo_actingMeant__2 {S : sS} (hH : RI S) (l : Int) (hl : 0 ≤ l ∧ l ≤ 23) (hLS : LSP S) (h15 : 0 ≤ Xi S 904 15) (hRB : RBD S) (hB : ABV S) (hkx : Hid (∀ j : Nat, -1 ≤ Xi S 918 j ∧ Xi S 918 j ≤ 15)) (hLX : LXR S) (hp32 : 0 ≤ Xi S 904 32 ∧ Xi S 904 32 ≤ 12) (hkk : Hid (∀ k : Nat, (k : Int) < Xi S 904 15 → Xi S 914 k ≤ 1 → Xi S 915 k ≤ 15)) (hak : Hid (∀ j : Nat, -2 ≤ Xi S 942 j ∧ Xi S 942 j ≤ 15)) (hs6 : Xi S 904 70 ≠ 6) (ho : Xi S 904 103 ≠ -1) (hr3 : 0 ≤ Xi S 904 103 ∧ Xi S 904 103 ≤ 2599) (hrg : 0 ≤ (Xi S 950 (Xi S 904 103).toNat) ∧ (Xi S 950 (Xi S 904 103).toNat) ≤ 5900 ∧ 0 ≤ (Xi S 951 (Xi S 904 103).toNat) ∧ (Xi S 951 (Xi S 904 103).toNat) ≤ 6000) (d : Nat) : Mp lay0 (d + 11) m_mo_actingMeant [.ref 904, iv l] S (Q_mo_actingMeant__2 S l) := by
  refine Mp_R rfl rfl (fun fu => ?_)
  have hF : FR md_mo_actingMeant__2 S S := FR.rf
  have w1 : -2147483648 ≤ Xi S 904 102 ∧ Xi S 904 102 ≤ 2147483647 := Xi_rgI
  have w2 : -2147483648 ≤ Xi S 904 103 ∧ Xi S 904 103 ≤ 2147483647 := Xi_rgI
  have w3 : -2147483648 ≤ Xi S 904 109 ∧ Xi S 904 109 ≤ 2147483647 := Xi_rgI
  have w4 : -2147483648 ≤ Xi S 904 110 ∧ Xi S 904 110 ≤ 2147483647 := Xi_rgI
  have w5 : -2147483648 ≤ Xi S 904 112 ∧ Xi S 904 112 ≤ 2147483647 := Xi_rgI
  have w6 : -2147483648 ≤ Xi S 904 116 ∧ Xi S 904 116 ≤ 2147483647 := Xi_rgI
  have w7 : -2147483648 ≤ Xi S 904 15 ∧ Xi S 904 15 ≤ 2147483647 := Xi_rgI
  have w8 : -2147483648 ≤ Xi S 904 32 ∧ Xi S 904 32 ≤ 2147483647 := Xi_rgI
  have w9 : -2147483648 ≤ Xi S 904 70 ∧ Xi S 904 70 ≤ 2147483647 := Xi_rgI
  have C287 : ∀  (T1 : sS) (_ : RI T1) (_ : FR md_mo_actingMeant__2 S T1) (v3 : Int) (v4 : Int) (v5 : Int), (-2147483648 ≤ v3 ∧ v3 ≤ 2147483647) → (-2147483648 ≤ v4 ∧ v4 ≤ 2147483647) → (-2147483648 ≤ v5 ∧ v5 ≤ 2147483647) → (v4 = Xi S 904 103) → (v5 = amo S v3) → (0 ≤ Xi S 942 (v3).toNat) → (Hid (AMC S T1 l v3)) → Pl fu lay0 (d + 10) m_mo_actingMeant 287 [(0, .ref 904), (1, iv l), (3, iv v3), (4, iv v4), (5, iv v5)] [] T1 (Q_mo_actingMeant__2 S l) := by
    intro T1 hHT1 hFT1 v3 v4 v5 w10 w11 w12 s288 o288 g288 Q287
    have w13 : Xi T1 904 103 = Xi S 904 103 := hFT1.x _ _ rfl
    have w14 : Xi T1 904 15 = Xi S 904 15 := hFT1.x _ _ rfl
    have w15 : Xi T1 904 19 = Xi S 904 19 := hFT1.x _ _ rfl
    have w16 : Xi T1 904 32 = Xi S 904 32 := hFT1.x _ _ rfl
    have w17 : Xi T1 904 49 = Xi S 904 49 := hFT1.x _ _ rfl
    have w18 : Xi T1 904 69 = Xi S 904 69 := hFT1.x _ _ rfl
    have w19 : Xi T1 904 70 = Xi S 904 70 := hFT1.x _ _ rfl
    have w20 : -2147483648 ≤ Xi T1 904 102 ∧ Xi T1 904 102 ≤ 2147483647 := Xi_rgI
    have w21 : -2147483648 ≤ Xi T1 904 103 ∧ Xi T1 904 103 ≤ 2147483647 := Xi_rgI
    have w22 : -2147483648 ≤ Xi T1 904 109 ∧ Xi T1 904 109 ≤ 2147483647 := Xi_rgI
    have w23 : -2147483648 ≤ Xi T1 904 110 ∧ Xi T1 904 110 ≤ 2147483647 := Xi_rgI
    have w24 : -2147483648 ≤ Xi T1 904 112 ∧ Xi T1 904 112 ≤ 2147483647 := Xi_rgI
    have w25 : -2147483648 ≤ Xi T1 904 116 ∧ Xi T1 904 116 ≤ 2147483647 := Xi_rgI
    have w26 : -2147483648 ≤ Xi T1 904 15 ∧ Xi T1 904 15 ≤ 2147483647 := Xi_rgI
    have w27 : -2147483648 ≤ Xi T1 904 32 ∧ Xi T1 904 32 ≤ 2147483647 := Xi_rgI
    have w28 : -2147483648 ≤ Xi T1 904 70 ∧ Xi T1 904 70 ≤ 2147483647 := Xi_rgI
    refine y_aload_n rfl rfl ?_
    refine y_iconst rfl ?_
    refine y_pfi rfl rfl rfl rfl ?_
    obtain ⟨U2, eU2⟩ : ∃ T : sS, T = uI T1 904 109 (Int32.ofInt 0) := ⟨_, rfl⟩
    rw [← eU2]
    have hHU2 : RI U2 := by rw [eU2]; exact RI_w hHT1
    have hFU2 : FR md_mo_actingMeant__2 S U2 := by rw [eU2]; exact FR.wI hFT1 (mdf_i (r := (904, 905, 109, 110)) (List.mem_of_getElem? (i := 4) rfl) (inR_i (by omega) (by omega) (by omega) (by omega)))
    have w29 : Xi U2 904 109 = 0 := by rw [eU2]; exact Xi_same (by unfold rg; omega)
    have e289 := eU2
    refine y_aload_n rfl rfl ?_
    refine y_aload_n rfl rfl ?_
    refine y_gfr rfl rfl rfl rfl rfl (hHU2.r 904 67 950 rfl) ?_
    refine y_iload rfl rfl ?_
    refine y_ialoadP (n := 2600) rfl rfl (by unfold rg; omega) (fun w30 w31 => ?_)
    have w32 : -2147483648 ≤ (Xi U2 950 ((v4).toNat)) ∧ (Xi U2 950 ((v4).toNat)) ≤ 2147483647 := Xi_rgI
    have v299 : (Xi U2 950 ((v4).toNat)) = Xi S 950 (Xi S 904 103).toNat := by rw [(hFU2.cx 950 rfl _).1, s288]
    refine y_aload_n rfl rfl ?_
    refine y_gfr rfl rfl rfl rfl rfl (hHU2.r 904 68 951 rfl) ?_
    refine y_iload rfl rfl ?_
    refine y_ialoadP (n := 2600) rfl rfl (by unfold rg; omega) (fun w33 w34 => ?_)
    have w35 : -2147483648 ≤ (Xi U2 951 ((v4).toNat)) ∧ (Xi U2 951 ((v4).toNat)) ≤ 2147483647 := Xi_rgI
    have v306 : (Xi U2 951 ((v4).toNat)) = Xi S 951 (Xi S 904 103).toNat := by rw [(hFU2.cx 951 rfl _).1, s288]
    refine y_iconst rfl ?_
    refine y_iconst rfl ?_
    refine y_aload_n rfl rfl ?_
    refine y_gfr rfl rfl rfl rfl rfl (hHU2.r 904 50 942 rfl) ?_
    refine y_iload_n rfl rfl ?_
    refine y_ialoadP (n := 12) rfl rfl (by unfold rg; omega) (fun w36 w37 => ?_)
    have w38 : -2147483648 ≤ (Xi U2 942 ((v3).toNat)) ∧ (Xi U2 942 ((v3).toNat)) ≤ 2147483647 := Xi_rgI
    have k314 : (Xi U2 942 ((v3).toNat)) = Xi S 942 (v3).toNat := (hFU2.cx 942 rfl _).1
    have g314 := hak.o (v3).toNat
    have w39 : Xi U2 904 102 = Xi T1 904 102 := (show Xi U2 904 102 = Xi T1 904 102 from by rw [eU2]; exact Xi_ne (by omega))
    have w40 : Xi U2 904 103 = Xi T1 904 103 := (show Xi U2 904 103 = Xi T1 904 103 from by rw [eU2]; exact Xi_ne (by omega))
    have w41 : Xi U2 904 110 = Xi T1 904 110 := (show Xi U2 904 110 = Xi T1 904 110 from by rw [eU2]; exact Xi_ne (by omega))
    have w42 : Xi U2 904 112 = Xi T1 904 112 := (show Xi U2 904 112 = Xi T1 904 112 from by rw [eU2]; exact Xi_ne (by omega))
    have w43 : Xi U2 904 116 = Xi T1 904 116 := (show Xi U2 904 116 = Xi T1 904 116 from by rw [eU2]; exact Xi_ne (by omega))
    have w44 : Xi U2 904 15 = Xi T1 904 15 := (show Xi U2 904 15 = Xi T1 904 15 from by rw [eU2]; exact Xi_ne (by omega))
    have w45 : Xi U2 904 32 = Xi T1 904 32 := (show Xi U2 904 32 = Xi T1 904 32 from by rw [eU2]; exact Xi_ne (by omega))
    have w46 : Xi U2 904 70 = Xi T1 904 70 := (show Xi U2 904 70 = Xi T1 904 70 from by rw [eU2]; exact Xi_ne (by omega))
    refine y_callV rfl rfl rfl (t_mo_describe__p hHU2 (Xi U2 950 ((v4).toNat)) (Xi U2 951 ((v4).toNat)) 0 1 (Xi U2 942 ((v3).toNat)) ⟨by omega, by omega⟩ ⟨by omega, by omega⟩ ⟨by omega, by omega⟩ ⟨by omega, by omega⟩ ⟨by omega, by omega⟩ (by first | assumption | exact (LSP_FR hFU2 rfl rfl (by assumption : LSP S))) (by first | assumption | omega) (LXR_FR hFU2 rfl rfl hLX) (by first | assumption | exact (ABV_FR hFU2 rfl (by assumption : ABV S))) (by first | assumption | omega) (fun k a b => by rw [(hFU2.cx 914 rfl _).1] at b; rw [(hFU2.cx 915 rfl _).1]; exact hkk.o k (by omega) b) (by first | assumption | omega) _) ?_
    rintro _ T3 ⟨hHT3, w48, rfl, o315⟩
    have hFT3 : FR md_mo_actingMeant__2 S T3 := FR.tr hFU2 w48 rfl
    show Pl _ _ _ _ _ _ [] _ _
    have F315 := (by assumption : FR md_mo_describe__p U2 T3)
    have O315 : Hid (((Xi S 951 (Xi S 904 103).toNat) ≤ 6 → KDS U2 T3 (Xi S 950 (Xi S 904 103).toNat) (Xi S 951 (Xi S 904 103).toNat) 0 1 (Xi S 942 (v3).toNat) 4) ∧ (6 < (Xi S 951 (Xi S 904 103).toNat) → T3 = U2)) := by have t := o315; rw [v299, v306, k314] at t; exact t
    clear o315
    have y315 := kds_b O315.o (by rw [e289]; exact Xi_same (by unfold rg; omega)) (by omega)
    refine y_aload_n rfl rfl ?_
    refine y_gfi rfl rfl rfl rfl rfl ?_
    have w49 : -2147483648 ≤ (Xi T3 904 109) ∧ (Xi T3 904 109) ≤ 2147483647 := Xi_rgI
    refine y_if_le rfl rfl (by unfold rg; omega) (fun w50 => ?_) (fun w51 => ?_)
    · refine y_iconst rfl ?_
      refine y_istore rfl rfl rfl ?_
      refine y_aload_n rfl rfl ?_
      refine y_dup rfl rfl ?_
      refine y_gfi rfl rfl rfl rfl rfl ?_
      refine y_iload rfl rfl ?_
      refine y_iconst rfl ?_
      refine y_icmp_eq rfl rfl (by unfold rg; omega) (by unfold rg; omega) (fun w52 => ?_) (fun w53 => ?_)
      · refine y_iconst rfl ?_
        refine y_iadd rfl ?_
        refine y_pfi rfl rfl rfl rfl ?_
        obtain ⟨U4, eU4⟩ : ∃ T : sS, T = uI T3 904 109 (Int32.ofInt ((Xi T3 904 109) + 0)) := ⟨_, rfl⟩
        rw [← eU4]
        have hHU4 : RI U4 := by rw [eU4]; exact RI_w hHT3
        have hFU4 : FR md_mo_actingMeant__2 S U4 := by rw [eU4]; exact FR.wI hFT3 (mdf_i (r := (904, 905, 109, 110)) (List.mem_of_getElem? (i := 4) rfl) (inR_i (by omega) (by omega) (by omega) (by omega)))
        have w54 : Xi U4 904 109 = ((Xi T3 904 109) + 0) := by rw [eU4]; exact Xi_same (by unfold rg; omega)
        have e349 := eU4
        have F349 : U4 = uI T3 904 109 (Int32.ofInt (Xi T3 904 109 + (if amo S v3 ≠ -1 then 1 else 0))) := by first | (rw [if_pos (by rw [← o288]; omega)]; exact e349) | (rw [if_neg (by rw [← o288]; omega)]; exact e349)
        refine y_aload_n rfl rfl ?_
        refine y_aload_n rfl rfl ?_
        refine y_gfr rfl rfl rfl rfl rfl (hHU4.r 904 67 950 rfl) ?_
        refine y_iload rfl rfl ?_
        refine y_ialoadP (n := 2600) rfl rfl (by unfold rg; omega) (fun w55 w56 => ?_)
        have w57 : (Xi U4 950 ((v4).toNat)) = (Xi U2 950 ((v4).toNat)) := (show Xi U4 950 ((v4).toNat) = Xi T3 950 ((v4).toNat) from by rw [eU4]; exact Xi_ne (by omega)).trans ((show Xi T3 950 ((v4).toNat) = Xi U2 950 ((v4).toNat) from w48.x _ _ rfl))
        rw [w57]
        have v359 : (Xi U2 950 ((v4).toNat)) = Xi S 950 (Xi S 904 103).toNat := by first | exact v299 | (rw [(hFU2.cx 950 rfl _).1, s288])
        have p359 : Xi U4 908 ((Xi U2 950 ((v4).toNat))).toNat = pR S (Xi S 904 103) := by unfold pR; rw [(hFU4.cx 908 rfl _).1, v359]
        have w58 : Xi U4 904 102 = Xi T1 904 102 := (show Xi U4 904 102 = Xi T3 904 102 from by rw [eU4]; exact Xi_ne (by omega)).trans ( (show Xi T3 904 102 = Xi U2 904 102 from w48.x _ _ rfl).trans ((show Xi U2 904 102 = Xi T1 904 102 from by rw [eU2]; exact Xi_ne (by omega))))
        have w59 : Xi U4 904 103 = Xi T1 904 103 := (show Xi U4 904 103 = Xi T3 904 103 from by rw [eU4]; exact Xi_ne (by omega)).trans ( (show Xi T3 904 103 = Xi U2 904 103 from w48.x _ _ rfl).trans ((show Xi U2 904 103 = Xi T1 904 103 from by rw [eU2]; exact Xi_ne (by omega))))
        have w60 : Xi U4 904 110 = Xi T3 904 110 := (show Xi U4 904 110 = Xi T3 904 110 from by rw [eU4]; exact Xi_ne (by omega))
        have w61 : Xi U4 904 112 = Xi T3 904 112 := (show Xi U4 904 112 = Xi T3 904 112 from by rw [eU4]; exact Xi_ne (by omega))
        have w62 : Xi U4 904 116 = Xi T1 904 116 := (show Xi U4 904 116 = Xi T3 904 116 from by rw [eU4]; exact Xi_ne (by omega)).trans ( (show Xi T3 904 116 = Xi U2 904 116 from w48.x _ _ rfl).trans ((show Xi U2 904 116 = Xi T1 904 116 from by rw [eU2]; exact Xi_ne (by omega))))
        have w63 : Xi U4 904 15 = Xi T1 904 15 := (show Xi U4 904 15 = Xi T3 904 15 from by rw [eU4]; exact Xi_ne (by omega)).trans ( (show Xi T3 904 15 = Xi U2 904 15 from w48.x _ _ rfl).trans ((show Xi U2 904 15 = Xi T1 904 15 from by rw [eU2]; exact Xi_ne (by omega))))
        have w64 : Xi U4 904 32 = Xi T1 904 32 := (show Xi U4 904 32 = Xi T3 904 32 from by rw [eU4]; exact Xi_ne (by omega)).trans ( (show Xi T3 904 32 = Xi U2 904 32 from w48.x _ _ rfl).trans ((show Xi U2 904 32 = Xi T1 904 32 from by rw [eU2]; exact Xi_ne (by omega))))
        have w65 : Xi U4 904 70 = Xi T1 904 70 := (show Xi U4 904 70 = Xi T3 904 70 from by rw [eU4]; exact Xi_ne (by omega)).trans ( (show Xi T3 904 70 = Xi U2 904 70 from w48.x _ _ rfl).trans ((show Xi U2 904 70 = Xi T1 904 70 from by rw [eU2]; exact Xi_ne (by omega))))
        refine y_callV rfl rfl rfl (t_mo_oneReading__p hHU4 (Xi U2 950 ((v4).toNat)) ⟨by omega, by omega⟩ _) ?_
        rintro _ T5 ⟨hHT5, w67, rfl, nt360⟩
        have hFT5 : FR md_mo_actingMeant__2 S T5 := FR.tr hFU4 w67 rfl
        show Pl _ _ _ _ _ _ [] _ _
        have F360 := (by assumption : FR md_mo_oneReading__p U4 T5)
        have N360 : NT3 T5 = (if Xi U4 904 109 ≤ 0 then ntF (NT3 U4) 4 (pR S (Xi S 904 103)) else if 2 ≤ Xi U4 904 109 then ntF (NT3 U4) 7 (pR S (Xi S 904 103)) else NT3 U4) := by rw [← p359]; exact nt360
        refine y_aload_n rfl rfl ?_
        refine y_gfr rfl rfl rfl rfl rfl (hHT5.r 904 132 979 rfl) ?_
        refine y_iload_n rfl rfl ?_
        refine y_iload_n rfl rfl ?_
        refine y_iastoreP (n := 24) rfl rfl (by unfold rg; omega) (fun w68 w69 => ?_)
        obtain ⟨U6, eU6⟩ : ∃ T : sS, T = uI T5 979 ((l).toNat) (Int32.ofInt v3) := ⟨_, rfl⟩
        rw [← eU6]
        have hHU6 : RI U6 := by rw [eU6]; exact RI_w hHT5
        have hFU6 : FR md_mo_actingMeant__2 S U6 := by rw [eU6]; exact FR.wI hFT5 (mdf_i (r := (979, 980, 0, 100000)) (List.mem_of_getElem? (i := 13) rfl) (inR_i (by omega) (by omega) (by omega) (by omega)))
        have w70 : Xi U6 979 ((l).toNat) = v3 := by rw [eU6]; exact Xi_same (by unfold rg; omega)
        have e369 := eU6
        refine y_aload_n rfl rfl ?_
        refine y_gfr rfl rfl rfl rfl rfl (hHU6.r 904 133 980 rfl) ?_
        refine y_iload_n rfl rfl ?_
        refine y_iload rfl rfl ?_
        refine y_iastoreP (n := 24) rfl rfl (by unfold rg; omega) (fun w71 w72 => ?_)
        obtain ⟨U7, eU7⟩ : ∃ T : sS, T = uI U6 980 ((l).toNat) (Int32.ofInt v5) := ⟨_, rfl⟩
        rw [← eU7]
        have hHU7 : RI U7 := by rw [eU7]; exact RI_w hHU6
        have hFU7 : FR md_mo_actingMeant__2 S U7 := by rw [eU7]; exact FR.wI hFU6 (mdf_i (r := (980, 981, 0, 100000)) (List.mem_of_getElem? (i := 14) rfl) (inR_i (by omega) (by omega) (by omega) (by omega)))
        have w73 : Xi U7 980 ((l).toNat) = v5 := by rw [eU7]; exact Xi_same (by unfold rg; omega)
        have e377 := eU7
        refine y_aload_n rfl rfl ?_
        refine y_iload rfl rfl ?_
        refine y_iconst rfl ?_
        refine y_icmp_eq rfl rfl (by unfold rg; omega) (by unfold rg; omega) (fun w74 => ?_) (fun w75 => ?_)
        · refine y_iload rfl rfl ?_
          refine y_if_eq rfl rfl (by unfold rg; omega) (fun w76 => ?_) (fun w77 => absurd w77 (by omega))
          · refine y_iconst rfl ?_
            have K408 : nkO S T3 v3 = (-1) := by unfold nkO; rw [← o288, if_neg (by omega), if_neg (by omega)]
            refine y_pfi rfl rfl rfl rfl ?_
            obtain ⟨U8, eU8⟩ : ∃ T : sS, T = uI U7 904 116 (Int32.ofInt (-1)) := ⟨_, rfl⟩
            rw [← eU8]
            have hHU8 : RI U8 := by rw [eU8]; exact RI_w hHU7
            have hFU8 : FR md_mo_actingMeant__2 S U8 := by rw [eU8]; exact FR.wI hFU7 (mdf_i (r := (904, 905, 116, 117)) (List.mem_of_getElem? (i := 8) rfl) (inR_i (by omega) (by omega) (by omega) (by omega)))
            have w78 : Xi U8 904 116 = (-1) := by rw [eU8]; exact Xi_same (by unfold rg; omega)
            have e408 := eU8
            have H408 : U8 = amH S T3 T5 l v3 := by unfold amH; rw [K408, ← o288, ← e369, ← e377]; exact e408
            refine y_iload rfl rfl ?_
            refine y_if_eq rfl rfl (by unfold rg; omega) (fun w79 => ?_) (fun w80 => absurd w80 (by omega))
            · refine y_return rfl rfl ?_
              have w81 : Xi U8 904 102 = Xi T1 904 102 := (show Xi U8 904 102 = Xi U7 904 102 from by rw [eU8]; exact Xi_ne (by omega)).trans ( (show Xi U7 904 102 = Xi U6 904 102 from by rw [eU7]; exact Xi_ne (by omega)).trans ( (show Xi U6 904 102 = Xi T5 904 102 from by rw [eU6]; exact Xi_ne (by omega)).trans ( (show Xi T5 904 102 = Xi U4 904 102 from w67.x _ _ rfl).trans ( (show Xi U4 904 102 = Xi T3 904 102 from by rw [eU4]; exact Xi_ne (by omega)).trans ( (show Xi T3 904 102 = Xi U2 904 102 from w48.x _ _ rfl).trans ((show Xi U2 904 102 = Xi T1 904 102 from by rw [eU2]; exact Xi_ne (by omega))))))))
              have w82 : Xi U8 904 103 = Xi T1 904 103 := (show Xi U8 904 103 = Xi U7 904 103 from by rw [eU8]; exact Xi_ne (by omega)).trans ( (show Xi U7 904 103 = Xi U6 904 103 from by rw [eU7]; exact Xi_ne (by omega)).trans ( (show Xi U6 904 103 = Xi T5 904 103 from by rw [eU6]; exact Xi_ne (by omega)).trans ( (show Xi T5 904 103 = Xi U4 904 103 from w67.x _ _ rfl).trans ( (show Xi U4 904 103 = Xi T3 904 103 from by rw [eU4]; exact Xi_ne (by omega)).trans ( (show Xi T3 904 103 = Xi U2 904 103 from w48.x _ _ rfl).trans ((show Xi U2 904 103 = Xi T1 904 103 from by rw [eU2]; exact Xi_ne (by omega))))))))
              have w83 : Xi U8 904 109 = Xi U4 904 109 := (show Xi U8 904 109 = Xi U7 904 109 from by rw [eU8]; exact Xi_ne (by omega)).trans ( (show Xi U7 904 109 = Xi U6 904 109 from by rw [eU7]; exact Xi_ne (by omega)).trans ( (show Xi U6 904 109 = Xi T5 904 109 from by rw [eU6]; exact Xi_ne (by omega)).trans ((show Xi T5 904 109 = Xi U4 904 109 from w67.x _ _ rfl))))
              have w84 : Xi U8 904 110 = Xi T3 904 110 := (show Xi U8 904 110 = Xi U7 904 110 from by rw [eU8]; exact Xi_ne (by omega)).trans ( (show Xi U7 904 110 = Xi U6 904 110 from by rw [eU7]; exact Xi_ne (by omega)).trans ( (show Xi U6 904 110 = Xi T5 904 110 from by rw [eU6]; exact Xi_ne (by omega)).trans ( (show Xi T5 904 110 = Xi U4 904 110 from w67.x _ _ rfl).trans ((show Xi U4 904 110 = Xi T3 904 110 from by rw [eU4]; exact Xi_ne (by omega))))))
              have w85 : Xi U8 904 112 = Xi T3 904 112 := (show Xi U8 904 112 = Xi U7 904 112 from by rw [eU8]; exact Xi_ne (by omega)).trans ( (show Xi U7 904 112 = Xi U6 904 112 from by rw [eU7]; exact Xi_ne (by omega)).trans ( (show Xi U6 904 112 = Xi T5 904 112 from by rw [eU6]; exact Xi_ne (by omega)).trans ( (show Xi T5 904 112 = Xi U4 904 112 from w67.x _ _ rfl).trans ((show Xi U4 904 112 = Xi T3 904 112 from by rw [eU4]; exact Xi_ne (by omega))))))
              have w86 : Xi U8 904 15 = Xi T1 904 15 := (show Xi U8 904 15 = Xi U7 904 15 from by rw [eU8]; exact Xi_ne (by omega)).trans ( (show Xi U7 904 15 = Xi U6 904 15 from by rw [eU7]; exact Xi_ne (by omega)).trans ( (show Xi U6 904 15 = Xi T5 904 15 from by rw [eU6]; exact Xi_ne (by omega)).trans ( (show Xi T5 904 15 = Xi U4 904 15 from w67.x _ _ rfl).trans ( (show Xi U4 904 15 = Xi T3 904 15 from by rw [eU4]; exact Xi_ne (by omega)).trans ( (show Xi T3 904 15 = Xi U2 904 15 from w48.x _ _ rfl).trans ((show Xi U2 904 15 = Xi T1 904 15 from by rw [eU2]; exact Xi_ne (by omega))))))))
              have w87 : Xi U8 904 32 = Xi T1 904 32 := (show Xi U8 904 32 = Xi U7 904 32 from by rw [eU8]; exact Xi_ne (by omega)).trans ( (show Xi U7 904 32 = Xi U6 904 32 from by rw [eU7]; exact Xi_ne (by omega)).trans ( (show Xi U6 904 32 = Xi T5 904 32 from by rw [eU6]; exact Xi_ne (by omega)).trans ( (show Xi T5 904 32 = Xi U4 904 32 from w67.x _ _ rfl).trans ( (show Xi U4 904 32 = Xi T3 904 32 from by rw [eU4]; exact Xi_ne (by omega)).trans ( (show Xi T3 904 32 = Xi U2 904 32 from w48.x _ _ rfl).trans ((show Xi U2 904 32 = Xi T1 904 32 from by rw [eU2]; exact Xi_ne (by omega))))))))
              have w88 : Xi U8 904 70 = Xi T1 904 70 := (show Xi U8 904 70 = Xi U7 904 70 from by rw [eU8]; exact Xi_ne (by omega)).trans ( (show Xi U7 904 70 = Xi U6 904 70 from by rw [eU7]; exact Xi_ne (by omega)).trans ( (show Xi U6 904 70 = Xi T5 904 70 from by rw [eU6]; exact Xi_ne (by omega)).trans ( (show Xi T5 904 70 = Xi U4 904 70 from w67.x _ _ rfl).trans ( (show Xi U4 904 70 = Xi T3 904 70 from by rw [eU4]; exact Xi_ne (by omega)).trans ( (show Xi T3 904 70 = Xi U2 904 70 from w48.x _ _ rfl).trans ((show Xi U2 904 70 = Xi T1 904 70 from by rw [eU2]; exact Xi_ne (by omega))))))))
              exact ⟨hHU8, hFU8, rfl, (by first | (have u := e457; exact Or.inr (Or.inr ⟨_, _, g288, Q287.o, _, _, _, _, e289, O315.o, F315, F349, F360, N360, fun w => absurd ⟨by omega, by rw [← o288]; omega⟩ w, fun _ => by rw [← H408, ← k428, ← k438, ← e431, ← e441]; exact e457⟩)) | (have u := H408; exact Or.inr (Or.inr ⟨_, _, g288, Q287.o, _, _, _, _, e289, O315.o, F315, F349, F360, N360, fun _ => H408, fun w => absurd w (by rw [← o288]; omega)⟩)) | (have u := C231; exact Or.inr (Or.inl ⟨_, by omega, C231.o⟩)) | exact Or.inl (amb_1 B199.o (by omega)))⟩
        · exfalso; omega
      · refine y_iconst rfl ?_
        refine y_goto rfl rfl ?_
        refine y_iadd rfl ?_
        refine y_pfi rfl rfl rfl rfl ?_
        obtain ⟨U9, eU9⟩ : ∃ T : sS, T = uI T3 904 109 (Int32.ofInt ((Xi T3 904 109) + 1)) := ⟨_, rfl⟩
        rw [← eU9]
        have hHU9 : RI U9 := by rw [eU9]; exact RI_w hHT3
        have hFU9 : FR md_mo_actingMeant__2 S U9 := by rw [eU9]; exact FR.wI hFT3 (mdf_i (r := (904, 905, 109, 110)) (List.mem_of_getElem? (i := 4) rfl) (inR_i (by omega) (by omega) (by omega) (by omega)))
        have w89 : Xi U9 904 109 = ((Xi T3 904 109) + 1) := by rw [eU9]; exact Xi_same (by unfold rg; omega)
        have e349 := eU9
        have F349 : U9 = uI T3 904 109 (Int32.ofInt (Xi T3 904 109 + (if amo S v3 ≠ -1 then 1 else 0))) := by first | (rw [if_pos (by rw [← o288]; omega)]; exact e349) | (rw [if_neg (by rw [← o288]; omega)]; exact e349)
        refine y_aload_n rfl rfl ?_
        refine y_aload_n rfl rfl ?_
        refine y_gfr rfl rfl rfl rfl rfl (hHU9.r 904 67 950 rfl) ?_
        refine y_iload rfl rfl ?_
        refine y_ialoadP (n := 2600) rfl rfl (by unfold rg; omega) (fun w90 w91 => ?_)
        have w92 : (Xi U9 950 ((v4).toNat)) = (Xi U2 950 ((v4).toNat)) := (show Xi U9 950 ((v4).toNat) = Xi T3 950 ((v4).toNat) from by rw [eU9]; exact Xi_ne (by omega)).trans ((show Xi T3 950 ((v4).toNat) = Xi U2 950 ((v4).toNat) from w48.x _ _ rfl))
        rw [w92]
        have v359 : (Xi U2 950 ((v4).toNat)) = Xi S 950 (Xi S 904 103).toNat := by first | exact v299 | (rw [(hFU2.cx 950 rfl _).1, s288])
        have p359 : Xi U9 908 ((Xi U2 950 ((v4).toNat))).toNat = pR S (Xi S 904 103) := by unfold pR; rw [(hFU9.cx 908 rfl _).1, v359]
        have w93 : Xi U9 904 102 = Xi T1 904 102 := (show Xi U9 904 102 = Xi T3 904 102 from by rw [eU9]; exact Xi_ne (by omega)).trans ( (show Xi T3 904 102 = Xi U2 904 102 from w48.x _ _ rfl).trans ((show Xi U2 904 102 = Xi T1 904 102 from by rw [eU2]; exact Xi_ne (by omega))))
        have w94 : Xi U9 904 103 = Xi T1 904 103 := (show Xi U9 904 103 = Xi T3 904 103 from by rw [eU9]; exact Xi_ne (by omega)).trans ( (show Xi T3 904 103 = Xi U2 904 103 from w48.x _ _ rfl).trans ((show Xi U2 904 103 = Xi T1 904 103 from by rw [eU2]; exact Xi_ne (by omega))))
        have w95 : Xi U9 904 110 = Xi T3 904 110 := (show Xi U9 904 110 = Xi T3 904 110 from by rw [eU9]; exact Xi_ne (by omega))
        have w96 : Xi U9 904 112 = Xi T3 904 112 := (show Xi U9 904 112 = Xi T3 904 112 from by rw [eU9]; exact Xi_ne (by omega))
        have w97 : Xi U9 904 116 = Xi T1 904 116 := (show Xi U9 904 116 = Xi T3 904 116 from by rw [eU9]; exact Xi_ne (by omega)).trans ( (show Xi T3 904 116 = Xi U2 904 116 from w48.x _ _ rfl).trans ((show Xi U2 904 116 = Xi T1 904 116 from by rw [eU2]; exact Xi_ne (by omega))))
        have w98 : Xi U9 904 15 = Xi T1 904 15 := (show Xi U9 904 15 = Xi T3 904 15 from by rw [eU9]; exact Xi_ne (by omega)).trans ( (show Xi T3 904 15 = Xi U2 904 15 from w48.x _ _ rfl).trans ((show Xi U2 904 15 = Xi T1 904 15 from by rw [eU2]; exact Xi_ne (by omega))))
        have w99 : Xi U9 904 32 = Xi T1 904 32 := (show Xi U9 904 32 = Xi T3 904 32 from by rw [eU9]; exact Xi_ne (by omega)).trans ( (show Xi T3 904 32 = Xi U2 904 32 from w48.x _ _ rfl).trans ((show Xi U2 904 32 = Xi T1 904 32 from by rw [eU2]; exact Xi_ne (by omega))))
        have w100 : Xi U9 904 70 = Xi T1 904 70 := (show Xi U9 904 70 = Xi T3 904 70 from by rw [eU9]; exact Xi_ne (by omega)).trans ( (show Xi T3 904 70 = Xi U2 904 70 from w48.x _ _ rfl).trans ((show Xi U2 904 70 = Xi T1 904 70 from by rw [eU2]; exact Xi_ne (by omega))))
        refine y_callV rfl rfl rfl (t_mo_oneReading__p hHU9 (Xi U2 950 ((v4).toNat)) ⟨by omega, by omega⟩ _) ?_
        rintro _ T10 ⟨hHT10, w102, rfl, nt360⟩
        have hFT10 : FR md_mo_actingMeant__2 S T10 := FR.tr hFU9 w102 rfl
        show Pl _ _ _ _ _ _ [] _ _
        have F360 := (by assumption : FR md_mo_oneReading__p U9 T10)
        have N360 : NT3 T10 = (if Xi U9 904 109 ≤ 0 then ntF (NT3 U9) 4 (pR S (Xi S 904 103)) else if 2 ≤ Xi U9 904 109 then ntF (NT3 U9) 7 (pR S (Xi S 904 103)) else NT3 U9) := by rw [← p359]; exact nt360
        refine y_aload_n rfl rfl ?_
        refine y_gfr rfl rfl rfl rfl rfl (hHT10.r 904 132 979 rfl) ?_
        refine y_iload_n rfl rfl ?_
        refine y_iload_n rfl rfl ?_
        refine y_iastoreP (n := 24) rfl rfl (by unfold rg; omega) (fun w103 w104 => ?_)
        obtain ⟨U11, eU11⟩ : ∃ T : sS, T = uI T10 979 ((l).toNat) (Int32.ofInt v3) := ⟨_, rfl⟩
        rw [← eU11]
        have hHU11 : RI U11 := by rw [eU11]; exact RI_w hHT10
        have hFU11 : FR md_mo_actingMeant__2 S U11 := by rw [eU11]; exact FR.wI hFT10 (mdf_i (r := (979, 980, 0, 100000)) (List.mem_of_getElem? (i := 13) rfl) (inR_i (by omega) (by omega) (by omega) (by omega)))
        have w105 : Xi U11 979 ((l).toNat) = v3 := by rw [eU11]; exact Xi_same (by unfold rg; omega)
        have e369 := eU11
        refine y_aload_n rfl rfl ?_
        refine y_gfr rfl rfl rfl rfl rfl (hHU11.r 904 133 980 rfl) ?_
        refine y_iload_n rfl rfl ?_
        refine y_iload rfl rfl ?_
        refine y_iastoreP (n := 24) rfl rfl (by unfold rg; omega) (fun w106 w107 => ?_)
        obtain ⟨U12, eU12⟩ : ∃ T : sS, T = uI U11 980 ((l).toNat) (Int32.ofInt v5) := ⟨_, rfl⟩
        rw [← eU12]
        have hHU12 : RI U12 := by rw [eU12]; exact RI_w hHU11
        have hFU12 : FR md_mo_actingMeant__2 S U12 := by rw [eU12]; exact FR.wI hFU11 (mdf_i (r := (980, 981, 0, 100000)) (List.mem_of_getElem? (i := 14) rfl) (inR_i (by omega) (by omega) (by omega) (by omega)))
        have w108 : Xi U12 980 ((l).toNat) = v5 := by rw [eU12]; exact Xi_same (by unfold rg; omega)
        have e377 := eU12
        refine y_aload_n rfl rfl ?_
        refine y_iload rfl rfl ?_
        refine y_iconst rfl ?_
        refine y_icmp_eq rfl rfl (by unfold rg; omega) (by unfold rg; omega) (fun w109 => ?_) (fun w110 => ?_)
        · exfalso; omega
        · refine y_aload_n rfl rfl ?_
          refine y_gfr rfl rfl rfl rfl rfl (hHU12.r 904 20 918 rfl) ?_
          refine y_iload rfl rfl ?_
          refine y_ialoadP (n := 24) rfl rfl (by unfold rg; omega) (fun w111 w112 => ?_)
          have w113 : -2147483648 ≤ (Xi U12 918 ((v5).toNat)) ∧ (Xi U12 918 ((v5).toNat)) ≤ 2147483647 := Xi_rgI
          have k391 : (Xi U12 918 ((v5).toNat)) = Xi S 918 (v5).toNat := (hFU12.cx 918 rfl _).1
          have K408 : nkO S T3 v3 = (Xi U12 918 ((v5).toNat)) := by unfold nkO; rw [← o288, if_pos (by omega)]; exact k391.symm
          refine y_goto rfl rfl ?_
          refine y_pfi rfl rfl rfl rfl ?_
          obtain ⟨U13, eU13⟩ : ∃ T : sS, T = uI U12 904 116 (Int32.ofInt (Xi U12 918 ((v5).toNat))) := ⟨_, rfl⟩
          rw [← eU13]
          have hHU13 : RI U13 := by rw [eU13]; exact RI_w hHU12
          have hFU13 : FR md_mo_actingMeant__2 S U13 := by rw [eU13]; exact FR.wI hFU12 (mdf_i (r := (904, 905, 116, 117)) (List.mem_of_getElem? (i := 8) rfl) (inR_i (by omega) (by omega) (by omega) (by omega)))
          have w114 : Xi U13 904 116 = (Xi U12 918 ((v5).toNat)) := by rw [eU13]; exact Xi_same (by unfold rg; omega)
          have e408 := eU13
          have H408 : U13 = amH S T3 T10 l v3 := by unfold amH; rw [K408, ← o288, ← e369, ← e377]; exact e408
          refine y_iload rfl rfl ?_
          refine y_if_eq rfl rfl (by unfold rg; omega) (fun w115 => ?_) (fun w116 => absurd w116 (by omega))
          · refine y_return rfl rfl ?_
            have w117 : Xi U13 904 102 = Xi T1 904 102 := (show Xi U13 904 102 = Xi U12 904 102 from by rw [eU13]; exact Xi_ne (by omega)).trans ( (show Xi U12 904 102 = Xi U11 904 102 from by rw [eU12]; exact Xi_ne (by omega)).trans ( (show Xi U11 904 102 = Xi T10 904 102 from by rw [eU11]; exact Xi_ne (by omega)).trans ( (show Xi T10 904 102 = Xi U9 904 102 from w102.x _ _ rfl).trans ( (show Xi U9 904 102 = Xi T3 904 102 from by rw [eU9]; exact Xi_ne (by omega)).trans ( (show Xi T3 904 102 = Xi U2 904 102 from w48.x _ _ rfl).trans ((show Xi U2 904 102 = Xi T1 904 102 from by rw [eU2]; exact Xi_ne (by omega))))))))
            have w118 : Xi U13 904 103 = Xi T1 904 103 := (show Xi U13 904 103 = Xi U12 904 103 from by rw [eU13]; exact Xi_ne (by omega)).trans ( (show Xi U12 904 103 = Xi U11 904 103 from by rw [eU12]; exact Xi_ne (by omega)).trans ( (show Xi U11 904 103 = Xi T10 904 103 from by rw [eU11]; exact Xi_ne (by omega)).trans ( (show Xi T10 904 103 = Xi U9 904 103 from w102.x _ _ rfl).trans ( (show Xi U9 904 103 = Xi T3 904 103 from by rw [eU9]; exact Xi_ne (by omega)).trans ( (show Xi T3 904 103 = Xi U2 904 103 from w48.x _ _ rfl).trans ((show Xi U2 904 103 = Xi T1 904 103 from by rw [eU2]; exact Xi_ne (by omega))))))))
            have w119 : Xi U13 904 109 = Xi U9 904 109 := (show Xi U13 904 109 = Xi U12 904 109 from by rw [eU13]; exact Xi_ne (by omega)).trans ( (show Xi U12 904 109 = Xi U11 904 109 from by rw [eU12]; exact Xi_ne (by omega)).trans ( (show Xi U11 904 109 = Xi T10 904 109 from by rw [eU11]; exact Xi_ne (by omega)).trans ((show Xi T10 904 109 = Xi U9 904 109 from w102.x _ _ rfl))))
            have w120 : Xi U13 904 110 = Xi T3 904 110 := (show Xi U13 904 110 = Xi U12 904 110 from by rw [eU13]; exact Xi_ne (by omega)).trans ( (show Xi U12 904 110 = Xi U11 904 110 from by rw [eU12]; exact Xi_ne (by omega)).trans ( (show Xi U11 904 110 = Xi T10 904 110 from by rw [eU11]; exact Xi_ne (by omega)).trans ( (show Xi T10 904 110 = Xi U9 904 110 from w102.x _ _ rfl).trans ((show Xi U9 904 110 = Xi T3 904 110 from by rw [eU9]; exact Xi_ne (by omega))))))
            have w121 : Xi U13 904 112 = Xi T3 904 112 := (show Xi U13 904 112 = Xi U12 904 112 from by rw [eU13]; exact Xi_ne (by omega)).trans ( (show Xi U12 904 112 = Xi U11 904 112 from by rw [eU12]; exact Xi_ne (by omega)).trans ( (show Xi U11 904 112 = Xi T10 904 112 from by rw [eU11]; exact Xi_ne (by omega)).trans ( (show Xi T10 904 112 = Xi U9 904 112 from w102.x _ _ rfl).trans ((show Xi U9 904 112 = Xi T3 904 112 from by rw [eU9]; exact Xi_ne (by omega))))))
            have w122 : Xi U13 904 15 = Xi T1 904 15 := (show Xi U13 904 15 = Xi U12 904 15 from by rw [eU13]; exact Xi_ne (by omega)).trans ( (show Xi U12 904 15 = Xi U11 904 15 from by rw [eU12]; exact Xi_ne (by omega)).trans ( (show Xi U11 904 15 = Xi T10 904 15 from by rw [eU11]; exact Xi_ne (by omega)).trans ( (show Xi T10 904 15 = Xi U9 904 15 from w102.x _ _ rfl).trans ( (show Xi U9 904 15 = Xi T3 904 15 from by rw [eU9]; exact Xi_ne (by omega)).trans ( (show Xi T3 904 15 = Xi U2 904 15 from w48.x _ _ rfl).trans ((show Xi U2 904 15 = Xi T1 904 15 from by rw [eU2]; exact Xi_ne (by omega))))))))
            have w123 : Xi U13 904 32 = Xi T1 904 32 := (show Xi U13 904 32 = Xi U12 904 32 from by rw [eU13]; exact Xi_ne (by omega)).trans ( (show Xi U12 904 32 = Xi U11 904 32 from by rw [eU12]; exact Xi_ne (by omega)).trans ( (show Xi U11 904 32 = Xi T10 904 32 from by rw [eU11]; exact Xi_ne (by omega)).trans ( (show Xi T10 904 32 = Xi U9 904 32 from w102.x _ _ rfl).trans ( (show Xi U9 904 32 = Xi T3 904 32 from by rw [eU9]; exact Xi_ne (by omega)).trans ( (show Xi T3 904 32 = Xi U2 904 32 from w48.x _ _ rfl).trans ((show Xi U2 904 32 = Xi T1 904 32 from by rw [eU2]; exact Xi_ne (by omega))))))))
            have w124 : Xi U13 904 70 = Xi T1 904 70 := (show Xi U13 904 70 = Xi U12 904 70 from by rw [eU13]; exact Xi_ne (by omega)).trans ( (show Xi U12 904 70 = Xi U11 904 70 from by rw [eU12]; exact Xi_ne (by omega)).trans ( (show Xi U11 904 70 = Xi T10 904 70 from by rw [eU11]; exact Xi_ne (by omega)).trans ( (show Xi T10 904 70 = Xi U9 904 70 from w102.x _ _ rfl).trans ( (show Xi U9 904 70 = Xi T3 904 70 from by rw [eU9]; exact Xi_ne (by omega)).trans ( (show Xi T3 904 70 = Xi U2 904 70 from w48.x _ _ rfl).trans ((show Xi U2 904 70 = Xi T1 904 70 from by rw [eU2]; exact Xi_ne (by omega))))))))
            exact ⟨hHU13, hFU13, rfl, (by first | (have u := e457; exact Or.inr (Or.inr ⟨_, _, g288, Q287.o, _, _, _, _, e289, O315.o, F315, F349, F360, N360, fun w => absurd ⟨by omega, by rw [← o288]; omega⟩ w, fun _ => by rw [← H408, ← k428, ← k438, ← e431, ← e441]; exact e457⟩)) | (have u := H408; exact Or.inr (Or.inr ⟨_, _, g288, Q287.o, _, _, _, _, e289, O315.o, F315, F349, F360, N360, fun _ => H408, fun w => absurd w (by rw [← o288]; omega)⟩)) | (have u := C231; exact Or.inr (Or.inl ⟨_, by omega, C231.o⟩)) | exact Or.inl (amb_1 B199.o (by omega)))⟩
    · refine y_iconst rfl ?_
      refine y_goto rfl rfl ?_
      refine y_istore rfl rfl rfl ?_
      refine y_aload_n rfl rfl ?_
      refine y_dup rfl rfl ?_
      refine y_gfi rfl rfl rfl rfl rfl ?_
      refine y_iload rfl rfl ?_
      refine y_iconst rfl ?_
      refine y_icmp_eq rfl rfl (by unfold rg; omega) (by unfold rg; omega) (fun w125 => ?_) (fun w126 => ?_)
      · refine y_iconst rfl ?_
        refine y_iadd rfl ?_
        refine y_pfi rfl rfl rfl rfl ?_
        obtain ⟨U14, eU14⟩ : ∃ T : sS, T = uI T3 904 109 (Int32.ofInt ((Xi T3 904 109) + 0)) := ⟨_, rfl⟩
        rw [← eU14]
        have hHU14 : RI U14 := by rw [eU14]; exact RI_w hHT3
        have hFU14 : FR md_mo_actingMeant__2 S U14 := by rw [eU14]; exact FR.wI hFT3 (mdf_i (r := (904, 905, 109, 110)) (List.mem_of_getElem? (i := 4) rfl) (inR_i (by omega) (by omega) (by omega) (by omega)))
        have w127 : Xi U14 904 109 = ((Xi T3 904 109) + 0) := by rw [eU14]; exact Xi_same (by unfold rg; omega)
        have e349 := eU14
        have F349 : U14 = uI T3 904 109 (Int32.ofInt (Xi T3 904 109 + (if amo S v3 ≠ -1 then 1 else 0))) := by first | (rw [if_pos (by rw [← o288]; omega)]; exact e349) | (rw [if_neg (by rw [← o288]; omega)]; exact e349)
        refine y_aload_n rfl rfl ?_
        refine y_aload_n rfl rfl ?_
        refine y_gfr rfl rfl rfl rfl rfl (hHU14.r 904 67 950 rfl) ?_
        refine y_iload rfl rfl ?_
        refine y_ialoadP (n := 2600) rfl rfl (by unfold rg; omega) (fun w128 w129 => ?_)
        have w130 : (Xi U14 950 ((v4).toNat)) = (Xi U2 950 ((v4).toNat)) := (show Xi U14 950 ((v4).toNat) = Xi T3 950 ((v4).toNat) from by rw [eU14]; exact Xi_ne (by omega)).trans ((show Xi T3 950 ((v4).toNat) = Xi U2 950 ((v4).toNat) from w48.x _ _ rfl))
        rw [w130]
        have v359 : (Xi U2 950 ((v4).toNat)) = Xi S 950 (Xi S 904 103).toNat := by first | exact v299 | (rw [(hFU2.cx 950 rfl _).1, s288])
        have p359 : Xi U14 908 ((Xi U2 950 ((v4).toNat))).toNat = pR S (Xi S 904 103) := by unfold pR; rw [(hFU14.cx 908 rfl _).1, v359]
        have w131 : Xi U14 904 102 = Xi T1 904 102 := (show Xi U14 904 102 = Xi T3 904 102 from by rw [eU14]; exact Xi_ne (by omega)).trans ( (show Xi T3 904 102 = Xi U2 904 102 from w48.x _ _ rfl).trans ((show Xi U2 904 102 = Xi T1 904 102 from by rw [eU2]; exact Xi_ne (by omega))))
        have w132 : Xi U14 904 103 = Xi T1 904 103 := (show Xi U14 904 103 = Xi T3 904 103 from by rw [eU14]; exact Xi_ne (by omega)).trans ( (show Xi T3 904 103 = Xi U2 904 103 from w48.x _ _ rfl).trans ((show Xi U2 904 103 = Xi T1 904 103 from by rw [eU2]; exact Xi_ne (by omega))))
        have w133 : Xi U14 904 110 = Xi T3 904 110 := (show Xi U14 904 110 = Xi T3 904 110 from by rw [eU14]; exact Xi_ne (by omega))
        have w134 : Xi U14 904 112 = Xi T3 904 112 := (show Xi U14 904 112 = Xi T3 904 112 from by rw [eU14]; exact Xi_ne (by omega))
        have w135 : Xi U14 904 116 = Xi T1 904 116 := (show Xi U14 904 116 = Xi T3 904 116 from by rw [eU14]; exact Xi_ne (by omega)).trans ( (show Xi T3 904 116 = Xi U2 904 116 from w48.x _ _ rfl).trans ((show Xi U2 904 116 = Xi T1 904 116 from by rw [eU2]; exact Xi_ne (by omega))))
        have w136 : Xi U14 904 15 = Xi T1 904 15 := (show Xi U14 904 15 = Xi T3 904 15 from by rw [eU14]; exact Xi_ne (by omega)).trans ( (show Xi T3 904 15 = Xi U2 904 15 from w48.x _ _ rfl).trans ((show Xi U2 904 15 = Xi T1 904 15 from by rw [eU2]; exact Xi_ne (by omega))))
        have w137 : Xi U14 904 32 = Xi T1 904 32 := (show Xi U14 904 32 = Xi T3 904 32 from by rw [eU14]; exact Xi_ne (by omega)).trans ( (show Xi T3 904 32 = Xi U2 904 32 from w48.x _ _ rfl).trans ((show Xi U2 904 32 = Xi T1 904 32 from by rw [eU2]; exact Xi_ne (by omega))))
        have w138 : Xi U14 904 70 = Xi T1 904 70 := (show Xi U14 904 70 = Xi T3 904 70 from by rw [eU14]; exact Xi_ne (by omega)).trans ( (show Xi T3 904 70 = Xi U2 904 70 from w48.x _ _ rfl).trans ((show Xi U2 904 70 = Xi T1 904 70 from by rw [eU2]; exact Xi_ne (by omega))))
        refine y_callV rfl rfl rfl (t_mo_oneReading__p hHU14 (Xi U2 950 ((v4).toNat)) ⟨by omega, by omega⟩ _) ?_
        rintro _ T15 ⟨hHT15, w140, rfl, nt360⟩
        have hFT15 : FR md_mo_actingMeant__2 S T15 := FR.tr hFU14 w140 rfl
        show Pl _ _ _ _ _ _ [] _ _
        have F360 := (by assumption : FR md_mo_oneReading__p U14 T15)
        have N360 : NT3 T15 = (if Xi U14 904 109 ≤ 0 then ntF (NT3 U14) 4 (pR S (Xi S 904 103)) else if 2 ≤ Xi U14 904 109 then ntF (NT3 U14) 7 (pR S (Xi S 904 103)) else NT3 U14) := by rw [← p359]; exact nt360
        refine y_aload_n rfl rfl ?_
        refine y_gfr rfl rfl rfl rfl rfl (hHT15.r 904 132 979 rfl) ?_
        refine y_iload_n rfl rfl ?_
        refine y_iload_n rfl rfl ?_
        refine y_iastoreP (n := 24) rfl rfl (by unfold rg; omega) (fun w141 w142 => ?_)
        obtain ⟨U16, eU16⟩ : ∃ T : sS, T = uI T15 979 ((l).toNat) (Int32.ofInt v3) := ⟨_, rfl⟩
        rw [← eU16]
        have hHU16 : RI U16 := by rw [eU16]; exact RI_w hHT15
        have hFU16 : FR md_mo_actingMeant__2 S U16 := by rw [eU16]; exact FR.wI hFT15 (mdf_i (r := (979, 980, 0, 100000)) (List.mem_of_getElem? (i := 13) rfl) (inR_i (by omega) (by omega) (by omega) (by omega)))
        have w143 : Xi U16 979 ((l).toNat) = v3 := by rw [eU16]; exact Xi_same (by unfold rg; omega)
        have e369 := eU16
        refine y_aload_n rfl rfl ?_
        refine y_gfr rfl rfl rfl rfl rfl (hHU16.r 904 133 980 rfl) ?_
        refine y_iload_n rfl rfl ?_
        refine y_iload rfl rfl ?_
        refine y_iastoreP (n := 24) rfl rfl (by unfold rg; omega) (fun w144 w145 => ?_)
        obtain ⟨U17, eU17⟩ : ∃ T : sS, T = uI U16 980 ((l).toNat) (Int32.ofInt v5) := ⟨_, rfl⟩
        rw [← eU17]
        have hHU17 : RI U17 := by rw [eU17]; exact RI_w hHU16
        have hFU17 : FR md_mo_actingMeant__2 S U17 := by rw [eU17]; exact FR.wI hFU16 (mdf_i (r := (980, 981, 0, 100000)) (List.mem_of_getElem? (i := 14) rfl) (inR_i (by omega) (by omega) (by omega) (by omega)))
        have w146 : Xi U17 980 ((l).toNat) = v5 := by rw [eU17]; exact Xi_same (by unfold rg; omega)
        have e377 := eU17
        refine y_aload_n rfl rfl ?_
        refine y_iload rfl rfl ?_
        refine y_iconst rfl ?_
        refine y_icmp_eq rfl rfl (by unfold rg; omega) (by unfold rg; omega) (fun w147 => ?_) (fun w148 => ?_)
        · refine y_iload rfl rfl ?_
          refine y_if_eq rfl rfl (by unfold rg; omega) (fun w149 => absurd w149 (by omega)) (fun w150 => ?_)
          · refine y_aload_n rfl rfl ?_
            refine y_gfi rfl rfl rfl rfl rfl ?_
            have w151 : -2147483648 ≤ (Xi U17 904 110) ∧ (Xi U17 904 110) ≤ 2147483647 := Xi_rgI
            have k401 : (Xi U17 904 110) = Xi T3 904 110 := by first | rfl | (rw [e377, Xi_ne (by omega), e369, Xi_ne (by omega), F360.x 904 110 rfl, e349, Xi_ne (by omega)]) | (rw [F360.x 904 110 rfl, e349, Xi_ne (by omega)])
            have K408 : nkO S T3 v3 = (Xi U17 904 110) := by unfold nkO; rw [← o288, if_neg (by omega), if_pos (by omega)]; exact k401.symm
            refine y_goto rfl rfl ?_
            refine y_pfi rfl rfl rfl rfl ?_
            obtain ⟨U18, eU18⟩ : ∃ T : sS, T = uI U17 904 116 (Int32.ofInt (Xi U17 904 110)) := ⟨_, rfl⟩
            rw [← eU18]
            have hHU18 : RI U18 := by rw [eU18]; exact RI_w hHU17
            have hFU18 : FR md_mo_actingMeant__2 S U18 := by rw [eU18]; exact FR.wI hFU17 (mdf_i (r := (904, 905, 116, 117)) (List.mem_of_getElem? (i := 8) rfl) (inR_i (by omega) (by omega) (by omega) (by omega)))
            have w152 : Xi U18 904 116 = (Xi U17 904 110) := by rw [eU18]; exact Xi_same (by unfold rg; omega)
            have e408 := eU18
            have H408 : U18 = amH S T3 T15 l v3 := by unfold amH; rw [K408, ← o288, ← e369, ← e377]; exact e408
            refine y_iload rfl rfl ?_
            refine y_if_eq rfl rfl (by unfold rg; omega) (fun w153 => absurd w153 (by omega)) (fun w154 => ?_)
            · refine y_iload rfl rfl ?_
              refine y_iconst rfl ?_
              refine y_icmp_ne rfl rfl (by unfold rg; omega) (by unfold rg; omega) (fun w155 => ?_) (fun w156 => ?_)
              · exfalso; omega
              · refine y_aload_n rfl rfl ?_
                refine y_gfr rfl rfl rfl rfl rfl (hHU18.r 904 134 981 rfl) ?_
                refine y_iload_n rfl rfl ?_
                refine y_aload_n rfl rfl ?_
                refine y_gfi rfl rfl rfl rfl rfl ?_
                have w157 : (Xi U18 904 110) = (Xi U17 904 110) := (show Xi U18 904 110 = Xi U17 904 110 from by rw [eU18]; exact Xi_ne (by omega))
                rw [w157]
                have k428 : (Xi U17 904 110) = Xi T3 904 110 := by first | exact k401 | rfl | (rw [F360.x 904 110 rfl, e349, Xi_ne (by omega)]) | (rw [e408, Xi_ne (by omega), e377, Xi_ne (by omega), e369, Xi_ne (by omega), F360.x 904 110 rfl, e349, Xi_ne (by omega)])
                refine y_iastoreP (n := 24) rfl rfl (by unfold rg; omega) (fun w158 w159 => ?_)
                obtain ⟨U19, eU19⟩ : ∃ T : sS, T = uI U18 981 ((l).toNat) (Int32.ofInt (Xi U17 904 110)) := ⟨_, rfl⟩
                rw [← eU19]
                have hHU19 : RI U19 := by rw [eU19]; exact RI_w hHU18
                have hFU19 : FR md_mo_actingMeant__2 S U19 := by rw [eU19]; exact FR.wI hFU18 (mdf_i (r := (981, 982, 0, 100000)) (List.mem_of_getElem? (i := 15) rfl) (inR_i (by omega) (by omega) (by omega) (by omega)))
                have w160 : Xi U19 981 ((l).toNat) = (Xi U17 904 110) := by rw [eU19]; exact Xi_same (by unfold rg; omega)
                have e431 := eU19
                refine y_aload_n rfl rfl ?_
                refine y_gfr rfl rfl rfl rfl rfl (hHU19.r 904 135 982 rfl) ?_
                refine y_iload_n rfl rfl ?_
                refine y_aload_n rfl rfl ?_
                refine y_gfi rfl rfl rfl rfl rfl ?_
                have w161 : -2147483648 ≤ (Xi U19 904 112) ∧ (Xi U19 904 112) ≤ 2147483647 := Xi_rgI
                have k438 : (Xi U19 904 112) = Xi T3 904 112 := by first | rfl | (rw [F360.x 904 112 rfl, e349, Xi_ne (by omega)]) | (rw [e431, Xi_ne (by omega), e408, Xi_ne (by omega), e377, Xi_ne (by omega), e369, Xi_ne (by omega), F360.x 904 112 rfl, e349, Xi_ne (by omega)])
                refine y_iastoreP (n := 24) rfl rfl (by unfold rg; omega) (fun w162 w163 => ?_)
                obtain ⟨U20, eU20⟩ : ∃ T : sS, T = uI U19 982 ((l).toNat) (Int32.ofInt (Xi U19 904 112)) := ⟨_, rfl⟩
                rw [← eU20]
                have hHU20 : RI U20 := by rw [eU20]; exact RI_w hHU19
                have hFU20 : FR md_mo_actingMeant__2 S U20 := by rw [eU20]; exact FR.wI hFU19 (mdf_i (r := (982, 983, 0, 100000)) (List.mem_of_getElem? (i := 16) rfl) (inR_i (by omega) (by omega) (by omega) (by omega)))
                have w164 : Xi U20 982 ((l).toNat) = (Xi U19 904 112) := by rw [eU20]; exact Xi_same (by unfold rg; omega)
                have e441 := eU20
                refine y_aload_n rfl rfl ?_
                refine y_gfr rfl rfl rfl rfl rfl (hHU20.r 904 111 967 rfl) ?_
                refine y_iconst rfl ?_
                refine y_aload_n rfl rfl ?_
                refine y_gfr rfl rfl rfl rfl rfl (hHU20.r 904 136 983 rfl) ?_
                refine y_bipush rfl rfl ?_
                refine y_iload_n rfl rfl ?_
                refine y_imul rfl ?_
                refine y_bipush rfl rfl ?_
                refine y_acp rfl rfl rfl (acpI (A := 6) (B := 144) rfl rfl (by omega) (by omega) (by omega) (by omega) (by omega) (by omega) (by omega)) ?_
                obtain ⟨T21, eT21⟩ : ∃ T : sS, T = cpI U20 967 983 (0 : Int).toNat ((6 * l) : Int).toNat (6 : Int).toNat := ⟨_, rfl⟩
                rw [← eT21]
                have hHT21 : RI T21 := by rw [eT21]; exact RI_cpI hHU20
                have w165 : FR [(983, 984, 0, 100000)] U20 T21 := by rw [eT21]; exact FR_cpI (by omega)
                have hFT21 : FR md_mo_actingMeant__2 S T21 := FR.tr hFU20 w165 rfl
                have e457 := eT21
                refine y_return rfl rfl ?_
                have w166 : Xi T21 904 102 = Xi T1 904 102 := (show Xi T21 904 102 = Xi U20 904 102 from w165.x _ _ rfl).trans ( (show Xi U20 904 102 = Xi U19 904 102 from by rw [eU20]; exact Xi_ne (by omega)).trans ( (show Xi U19 904 102 = Xi U18 904 102 from by rw [eU19]; exact Xi_ne (by omega)).trans ( (show Xi U18 904 102 = Xi U17 904 102 from by rw [eU18]; exact Xi_ne (by omega)).trans ( (show Xi U17 904 102 = Xi U16 904 102 from by rw [eU17]; exact Xi_ne (by omega)).trans ( (show Xi U16 904 102 = Xi T15 904 102 from by rw [eU16]; exact Xi_ne (by omega)).trans ( (show Xi T15 904 102 = Xi U14 904 102 from w140.x _ _ rfl).trans ( (show Xi U14 904 102 = Xi T3 904 102 from by rw [eU14]; exact Xi_ne (by omega)).trans ( (show Xi T3 904 102 = Xi U2 904 102 from w48.x _ _ rfl).trans ((show Xi U2 904 102 = Xi T1 904 102 from by rw [eU2]; exact Xi_ne (by omega)))))))))))
                have w167 : Xi T21 904 103 = Xi T1 904 103 := (show Xi T21 904 103 = Xi U20 904 103 from w165.x _ _ rfl).trans ( (show Xi U20 904 103 = Xi U19 904 103 from by rw [eU20]; exact Xi_ne (by omega)).trans ( (show Xi U19 904 103 = Xi U18 904 103 from by rw [eU19]; exact Xi_ne (by omega)).trans ( (show Xi U18 904 103 = Xi U17 904 103 from by rw [eU18]; exact Xi_ne (by omega)).trans ( (show Xi U17 904 103 = Xi U16 904 103 from by rw [eU17]; exact Xi_ne (by omega)).trans ( (show Xi U16 904 103 = Xi T15 904 103 from by rw [eU16]; exact Xi_ne (by omega)).trans ( (show Xi T15 904 103 = Xi U14 904 103 from w140.x _ _ rfl).trans ( (show Xi U14 904 103 = Xi T3 904 103 from by rw [eU14]; exact Xi_ne (by omega)).trans ( (show Xi T3 904 103 = Xi U2 904 103 from w48.x _ _ rfl).trans ((show Xi U2 904 103 = Xi T1 904 103 from by rw [eU2]; exact Xi_ne (by omega)))))))))))
                have w168 : Xi T21 904 109 = Xi U14 904 109 := (show Xi T21 904 109 = Xi U20 904 109 from w165.x _ _ rfl).trans ( (show Xi U20 904 109 = Xi U19 904 109 from by rw [eU20]; exact Xi_ne (by omega)).trans ( (show Xi U19 904 109 = Xi U18 904 109 from by rw [eU19]; exact Xi_ne (by omega)).trans ( (show Xi U18 904 109 = Xi U17 904 109 from by rw [eU18]; exact Xi_ne (by omega)).trans ( (show Xi U17 904 109 = Xi U16 904 109 from by rw [eU17]; exact Xi_ne (by omega)).trans ( (show Xi U16 904 109 = Xi T15 904 109 from by rw [eU16]; exact Xi_ne (by omega)).trans ((show Xi T15 904 109 = Xi U14 904 109 from w140.x _ _ rfl)))))))
                have w169 : Xi T21 904 110 = Xi T3 904 110 := (show Xi T21 904 110 = Xi U20 904 110 from w165.x _ _ rfl).trans ( (show Xi U20 904 110 = Xi U19 904 110 from by rw [eU20]; exact Xi_ne (by omega)).trans ( (show Xi U19 904 110 = Xi U18 904 110 from by rw [eU19]; exact Xi_ne (by omega)).trans ( (show Xi U18 904 110 = Xi U17 904 110 from by rw [eU18]; exact Xi_ne (by omega)).trans ( (show Xi U17 904 110 = Xi U16 904 110 from by rw [eU17]; exact Xi_ne (by omega)).trans ( (show Xi U16 904 110 = Xi T15 904 110 from by rw [eU16]; exact Xi_ne (by omega)).trans ( (show Xi T15 904 110 = Xi U14 904 110 from w140.x _ _ rfl).trans ((show Xi U14 904 110 = Xi T3 904 110 from by rw [eU14]; exact Xi_ne (by omega)))))))))
                have w170 : Xi T21 904 112 = Xi T3 904 112 := (show Xi T21 904 112 = Xi U20 904 112 from w165.x _ _ rfl).trans ( (show Xi U20 904 112 = Xi U19 904 112 from by rw [eU20]; exact Xi_ne (by omega)).trans ( (show Xi U19 904 112 = Xi U18 904 112 from by rw [eU19]; exact Xi_ne (by omega)).trans ( (show Xi U18 904 112 = Xi U17 904 112 from by rw [eU18]; exact Xi_ne (by omega)).trans ( (show Xi U17 904 112 = Xi U16 904 112 from by rw [eU17]; exact Xi_ne (by omega)).trans ( (show Xi U16 904 112 = Xi T15 904 112 from by rw [eU16]; exact Xi_ne (by omega)).trans ( (show Xi T15 904 112 = Xi U14 904 112 from w140.x _ _ rfl).trans ((show Xi U14 904 112 = Xi T3 904 112 from by rw [eU14]; exact Xi_ne (by omega)))))))))
                have w171 : Xi T21 904 116 = Xi U18 904 116 := (show Xi T21 904 116 = Xi U20 904 116 from w165.x _ _ rfl).trans ( (show Xi U20 904 116 = Xi U19 904 116 from by rw [eU20]; exact Xi_ne (by omega)).trans ((show Xi U19 904 116 = Xi U18 904 116 from by rw [eU19]; exact Xi_ne (by omega))))
                have w172 : Xi T21 904 15 = Xi T1 904 15 := (show Xi T21 904 15 = Xi U20 904 15 from w165.x _ _ rfl).trans ( (show Xi U20 904 15 = Xi U19 904 15 from by rw [eU20]; exact Xi_ne (by omega)).trans ( (show Xi U19 904 15 = Xi U18 904 15 from by rw [eU19]; exact Xi_ne (by omega)).trans ( (show Xi U18 904 15 = Xi U17 904 15 from by rw [eU18]; exact Xi_ne (by omega)).trans ( (show Xi U17 904 15 = Xi U16 904 15 from by rw [eU17]; exact Xi_ne (by omega)).trans ( (show Xi U16 904 15 = Xi T15 904 15 from by rw [eU16]; exact Xi_ne (by omega)).trans ( (show Xi T15 904 15 = Xi U14 904 15 from w140.x _ _ rfl).trans ( (show Xi U14 904 15 = Xi T3 904 15 from by rw [eU14]; exact Xi_ne (by omega)).trans ( (show Xi T3 904 15 = Xi U2 904 15 from w48.x _ _ rfl).trans ((show Xi U2 904 15 = Xi T1 904 15 from by rw [eU2]; exact Xi_ne (by omega)))))))))))
                have w173 : Xi T21 904 32 = Xi T1 904 32 := (show Xi T21 904 32 = Xi U20 904 32 from w165.x _ _ rfl).trans ( (show Xi U20 904 32 = Xi U19 904 32 from by rw [eU20]; exact Xi_ne (by omega)).trans ( (show Xi U19 904 32 = Xi U18 904 32 from by rw [eU19]; exact Xi_ne (by omega)).trans ( (show Xi U18 904 32 = Xi U17 904 32 from by rw [eU18]; exact Xi_ne (by omega)).trans ( (show Xi U17 904 32 = Xi U16 904 32 from by rw [eU17]; exact Xi_ne (by omega)).trans ( (show Xi U16 904 32 = Xi T15 904 32 from by rw [eU16]; exact Xi_ne (by omega)).trans ( (show Xi T15 904 32 = Xi U14 904 32 from w140.x _ _ rfl).trans ( (show Xi U14 904 32 = Xi T3 904 32 from by rw [eU14]; exact Xi_ne (by omega)).trans ( (show Xi T3 904 32 = Xi U2 904 32 from w48.x _ _ rfl).trans ((show Xi U2 904 32 = Xi T1 904 32 from by rw [eU2]; exact Xi_ne (by omega)))))))))))
                have w174 : Xi T21 904 70 = Xi T1 904 70 := (show Xi T21 904 70 = Xi U20 904 70 from w165.x _ _ rfl).trans ( (show Xi U20 904 70 = Xi U19 904 70 from by rw [eU20]; exact Xi_ne (by omega)).trans ( (show Xi U19 904 70 = Xi U18 904 70 from by rw [eU19]; exact Xi_ne (by omega)).trans ( (show Xi U18 904 70 = Xi U17 904 70 from by rw [eU18]; exact Xi_ne (by omega)).trans ( (show Xi U17 904 70 = Xi U16 904 70 from by rw [eU17]; exact Xi_ne (by omega)).trans ( (show Xi U16 904 70 = Xi T15 904 70 from by rw [eU16]; exact Xi_ne (by omega)).trans ( (show Xi T15 904 70 = Xi U14 904 70 from w140.x _ _ rfl).trans ( (show Xi U14 904 70 = Xi T3 904 70 from by rw [eU14]; exact Xi_ne (by omega)).trans ( (show Xi T3 904 70 = Xi U2 904 70 from w48.x _ _ rfl).trans ((show Xi U2 904 70 = Xi T1 904 70 from by rw [eU2]; exact Xi_ne (by omega)))))))))))
                exact ⟨hHT21, hFT21, rfl, (by first | (have u := e457; exact Or.inr (Or.inr ⟨_, _, g288, Q287.o, _, _, _, _, e289, O315.o, F315, F349, F360, N360, fun w => absurd ⟨by omega, by rw [← o288]; omega⟩ w, fun _ => by rw [← H408, ← k428, ← k438, ← e431, ← e441]; exact e457⟩)) | (have u := H408; exact Or.inr (Or.inr ⟨_, _, g288, Q287.o, _, _, _, _, e289, O315.o, F315, F349, F360, N360, fun _ => H408, fun w => absurd w (by rw [← o288]; omega)⟩)) | (have u := C231; exact Or.inr (Or.inl ⟨_, by omega, C231.o⟩)) | exact Or.inl (amb_1 B199.o (by omega)))⟩
        · exfalso; omega
      · refine y_iconst rfl ?_
        refine y_goto rfl rfl ?_
        refine y_iadd rfl ?_
        refine y_pfi rfl rfl rfl rfl ?_
        obtain ⟨U22, eU22⟩ : ∃ T : sS, T = uI T3 904 109 (Int32.ofInt ((Xi T3 904 109) + 1)) := ⟨_, rfl⟩
        rw [← eU22]
        have hHU22 : RI U22 := by rw [eU22]; exact RI_w hHT3
        have hFU22 : FR md_mo_actingMeant__2 S U22 := by rw [eU22]; exact FR.wI hFT3 (mdf_i (r := (904, 905, 109, 110)) (List.mem_of_getElem? (i := 4) rfl) (inR_i (by omega) (by omega) (by omega) (by omega)))
        have w175 : Xi U22 904 109 = ((Xi T3 904 109) + 1) := by rw [eU22]; exact Xi_same (by unfold rg; omega)
        have e349 := eU22
        have F349 : U22 = uI T3 904 109 (Int32.ofInt (Xi T3 904 109 + (if amo S v3 ≠ -1 then 1 else 0))) := by first | (rw [if_pos (by rw [← o288]; omega)]; exact e349) | (rw [if_neg (by rw [← o288]; omega)]; exact e349)
        refine y_aload_n rfl rfl ?_
        refine y_aload_n rfl rfl ?_
        refine y_gfr rfl rfl rfl rfl rfl (hHU22.r 904 67 950 rfl) ?_
        refine y_iload rfl rfl ?_
        refine y_ialoadP (n := 2600) rfl rfl (by unfold rg; omega) (fun w176 w177 => ?_)
        have w178 : (Xi U22 950 ((v4).toNat)) = (Xi U2 950 ((v4).toNat)) := (show Xi U22 950 ((v4).toNat) = Xi T3 950 ((v4).toNat) from by rw [eU22]; exact Xi_ne (by omega)).trans ((show Xi T3 950 ((v4).toNat) = Xi U2 950 ((v4).toNat) from w48.x _ _ rfl))
        rw [w178]
        have v359 : (Xi U2 950 ((v4).toNat)) = Xi S 950 (Xi S 904 103).toNat := by first | exact v299 | (rw [(hFU2.cx 950 rfl _).1, s288])
        have p359 : Xi U22 908 ((Xi U2 950 ((v4).toNat))).toNat = pR S (Xi S 904 103) := by unfold pR; rw [(hFU22.cx 908 rfl _).1, v359]
        have w179 : Xi U22 904 102 = Xi T1 904 102 := (show Xi U22 904 102 = Xi T3 904 102 from by rw [eU22]; exact Xi_ne (by omega)).trans ( (show Xi T3 904 102 = Xi U2 904 102 from w48.x _ _ rfl).trans ((show Xi U2 904 102 = Xi T1 904 102 from by rw [eU2]; exact Xi_ne (by omega))))
        have w180 : Xi U22 904 103 = Xi T1 904 103 := (show Xi U22 904 103 = Xi T3 904 103 from by rw [eU22]; exact Xi_ne (by omega)).trans ( (show Xi T3 904 103 = Xi U2 904 103 from w48.x _ _ rfl).trans ((show Xi U2 904 103 = Xi T1 904 103 from by rw [eU2]; exact Xi_ne (by omega))))
        have w181 : Xi U22 904 110 = Xi T3 904 110 := (show Xi U22 904 110 = Xi T3 904 110 from by rw [eU22]; exact Xi_ne (by omega))
        have w182 : Xi U22 904 112 = Xi T3 904 112 := (show Xi U22 904 112 = Xi T3 904 112 from by rw [eU22]; exact Xi_ne (by omega))
        have w183 : Xi U22 904 116 = Xi T1 904 116 := (show Xi U22 904 116 = Xi T3 904 116 from by rw [eU22]; exact Xi_ne (by omega)).trans ( (show Xi T3 904 116 = Xi U2 904 116 from w48.x _ _ rfl).trans ((show Xi U2 904 116 = Xi T1 904 116 from by rw [eU2]; exact Xi_ne (by omega))))
        have w184 : Xi U22 904 15 = Xi T1 904 15 := (show Xi U22 904 15 = Xi T3 904 15 from by rw [eU22]; exact Xi_ne (by omega)).trans ( (show Xi T3 904 15 = Xi U2 904 15 from w48.x _ _ rfl).trans ((show Xi U2 904 15 = Xi T1 904 15 from by rw [eU2]; exact Xi_ne (by omega))))
        have w185 : Xi U22 904 32 = Xi T1 904 32 := (show Xi U22 904 32 = Xi T3 904 32 from by rw [eU22]; exact Xi_ne (by omega)).trans ( (show Xi T3 904 32 = Xi U2 904 32 from w48.x _ _ rfl).trans ((show Xi U2 904 32 = Xi T1 904 32 from by rw [eU2]; exact Xi_ne (by omega))))
        have w186 : Xi U22 904 70 = Xi T1 904 70 := (show Xi U22 904 70 = Xi T3 904 70 from by rw [eU22]; exact Xi_ne (by omega)).trans ( (show Xi T3 904 70 = Xi U2 904 70 from w48.x _ _ rfl).trans ((show Xi U2 904 70 = Xi T1 904 70 from by rw [eU2]; exact Xi_ne (by omega))))
        refine y_callV rfl rfl rfl (t_mo_oneReading__p hHU22 (Xi U2 950 ((v4).toNat)) ⟨by omega, by omega⟩ _) ?_
        rintro _ T23 ⟨hHT23, w188, rfl, nt360⟩
        have hFT23 : FR md_mo_actingMeant__2 S T23 := FR.tr hFU22 w188 rfl
        show Pl _ _ _ _ _ _ [] _ _
        have F360 := (by assumption : FR md_mo_oneReading__p U22 T23)
        have N360 : NT3 T23 = (if Xi U22 904 109 ≤ 0 then ntF (NT3 U22) 4 (pR S (Xi S 904 103)) else if 2 ≤ Xi U22 904 109 then ntF (NT3 U22) 7 (pR S (Xi S 904 103)) else NT3 U22) := by rw [← p359]; exact nt360
        refine y_aload_n rfl rfl ?_
        refine y_gfr rfl rfl rfl rfl rfl (hHT23.r 904 132 979 rfl) ?_
        refine y_iload_n rfl rfl ?_
        refine y_iload_n rfl rfl ?_
        refine y_iastoreP (n := 24) rfl rfl (by unfold rg; omega) (fun w189 w190 => ?_)
        obtain ⟨U24, eU24⟩ : ∃ T : sS, T = uI T23 979 ((l).toNat) (Int32.ofInt v3) := ⟨_, rfl⟩
        rw [← eU24]
        have hHU24 : RI U24 := by rw [eU24]; exact RI_w hHT23
        have hFU24 : FR md_mo_actingMeant__2 S U24 := by rw [eU24]; exact FR.wI hFT23 (mdf_i (r := (979, 980, 0, 100000)) (List.mem_of_getElem? (i := 13) rfl) (inR_i (by omega) (by omega) (by omega) (by omega)))
        have w191 : Xi U24 979 ((l).toNat) = v3 := by rw [eU24]; exact Xi_same (by unfold rg; omega)
        have e369 := eU24
        refine y_aload_n rfl rfl ?_
        refine y_gfr rfl rfl rfl rfl rfl (hHU24.r 904 133 980 rfl) ?_
        refine y_iload_n rfl rfl ?_
        refine y_iload rfl rfl ?_
        refine y_iastoreP (n := 24) rfl rfl (by unfold rg; omega) (fun w192 w193 => ?_)
        obtain ⟨U25, eU25⟩ : ∃ T : sS, T = uI U24 980 ((l).toNat) (Int32.ofInt v5) := ⟨_, rfl⟩
        rw [← eU25]
        have hHU25 : RI U25 := by rw [eU25]; exact RI_w hHU24
        have hFU25 : FR md_mo_actingMeant__2 S U25 := by rw [eU25]; exact FR.wI hFU24 (mdf_i (r := (980, 981, 0, 100000)) (List.mem_of_getElem? (i := 14) rfl) (inR_i (by omega) (by omega) (by omega) (by omega)))
        have w194 : Xi U25 980 ((l).toNat) = v5 := by rw [eU25]; exact Xi_same (by unfold rg; omega)
        have e377 := eU25
        refine y_aload_n rfl rfl ?_
        refine y_iload rfl rfl ?_
        refine y_iconst rfl ?_
        refine y_icmp_eq rfl rfl (by unfold rg; omega) (by unfold rg; omega) (fun w195 => ?_) (fun w196 => ?_)
        · exfalso; omega
        · refine y_aload_n rfl rfl ?_
          refine y_gfr rfl rfl rfl rfl rfl (hHU25.r 904 20 918 rfl) ?_
          refine y_iload rfl rfl ?_
          refine y_ialoadP (n := 24) rfl rfl (by unfold rg; omega) (fun w197 w198 => ?_)
          have w199 : -2147483648 ≤ (Xi U25 918 ((v5).toNat)) ∧ (Xi U25 918 ((v5).toNat)) ≤ 2147483647 := Xi_rgI
          have k391 : (Xi U25 918 ((v5).toNat)) = Xi S 918 (v5).toNat := (hFU25.cx 918 rfl _).1
          have K408 : nkO S T3 v3 = (Xi U25 918 ((v5).toNat)) := by unfold nkO; rw [← o288, if_pos (by omega)]; exact k391.symm
          refine y_goto rfl rfl ?_
          refine y_pfi rfl rfl rfl rfl ?_
          obtain ⟨U26, eU26⟩ : ∃ T : sS, T = uI U25 904 116 (Int32.ofInt (Xi U25 918 ((v5).toNat))) := ⟨_, rfl⟩
          rw [← eU26]
          have hHU26 : RI U26 := by rw [eU26]; exact RI_w hHU25
          have hFU26 : FR md_mo_actingMeant__2 S U26 := by rw [eU26]; exact FR.wI hFU25 (mdf_i (r := (904, 905, 116, 117)) (List.mem_of_getElem? (i := 8) rfl) (inR_i (by omega) (by omega) (by omega) (by omega)))
          have w200 : Xi U26 904 116 = (Xi U25 918 ((v5).toNat)) := by rw [eU26]; exact Xi_same (by unfold rg; omega)
          have e408 := eU26
          have H408 : U26 = amH S T3 T23 l v3 := by unfold amH; rw [K408, ← o288, ← e369, ← e377]; exact e408
          refine y_iload rfl rfl ?_
          refine y_if_eq rfl rfl (by unfold rg; omega) (fun w201 => absurd w201 (by omega)) (fun w202 => ?_)
          · refine y_iload rfl rfl ?_
            refine y_iconst rfl ?_
            refine y_icmp_ne rfl rfl (by unfold rg; omega) (by unfold rg; omega) (fun w203 => ?_) (fun w204 => ?_)
            · refine y_return rfl rfl ?_
              have w205 : Xi U26 904 102 = Xi T1 904 102 := (show Xi U26 904 102 = Xi U25 904 102 from by rw [eU26]; exact Xi_ne (by omega)).trans ( (show Xi U25 904 102 = Xi U24 904 102 from by rw [eU25]; exact Xi_ne (by omega)).trans ( (show Xi U24 904 102 = Xi T23 904 102 from by rw [eU24]; exact Xi_ne (by omega)).trans ( (show Xi T23 904 102 = Xi U22 904 102 from w188.x _ _ rfl).trans ( (show Xi U22 904 102 = Xi T3 904 102 from by rw [eU22]; exact Xi_ne (by omega)).trans ( (show Xi T3 904 102 = Xi U2 904 102 from w48.x _ _ rfl).trans ((show Xi U2 904 102 = Xi T1 904 102 from by rw [eU2]; exact Xi_ne (by omega))))))))
              have w206 : Xi U26 904 103 = Xi T1 904 103 := (show Xi U26 904 103 = Xi U25 904 103 from by rw [eU26]; exact Xi_ne (by omega)).trans ( (show Xi U25 904 103 = Xi U24 904 103 from by rw [eU25]; exact Xi_ne (by omega)).trans ( (show Xi U24 904 103 = Xi T23 904 103 from by rw [eU24]; exact Xi_ne (by omega)).trans ( (show Xi T23 904 103 = Xi U22 904 103 from w188.x _ _ rfl).trans ( (show Xi U22 904 103 = Xi T3 904 103 from by rw [eU22]; exact Xi_ne (by omega)).trans ( (show Xi T3 904 103 = Xi U2 904 103 from w48.x _ _ rfl).trans ((show Xi U2 904 103 = Xi T1 904 103 from by rw [eU2]; exact Xi_ne (by omega))))))))
              have w207 : Xi U26 904 109 = Xi U22 904 109 := (show Xi U26 904 109 = Xi U25 904 109 from by rw [eU26]; exact Xi_ne (by omega)).trans ( (show Xi U25 904 109 = Xi U24 904 109 from by rw [eU25]; exact Xi_ne (by omega)).trans ( (show Xi U24 904 109 = Xi T23 904 109 from by rw [eU24]; exact Xi_ne (by omega)).trans ((show Xi T23 904 109 = Xi U22 904 109 from w188.x _ _ rfl))))
              have w208 : Xi U26 904 110 = Xi T3 904 110 := (show Xi U26 904 110 = Xi U25 904 110 from by rw [eU26]; exact Xi_ne (by omega)).trans ( (show Xi U25 904 110 = Xi U24 904 110 from by rw [eU25]; exact Xi_ne (by omega)).trans ( (show Xi U24 904 110 = Xi T23 904 110 from by rw [eU24]; exact Xi_ne (by omega)).trans ( (show Xi T23 904 110 = Xi U22 904 110 from w188.x _ _ rfl).trans ((show Xi U22 904 110 = Xi T3 904 110 from by rw [eU22]; exact Xi_ne (by omega))))))
              have w209 : Xi U26 904 112 = Xi T3 904 112 := (show Xi U26 904 112 = Xi U25 904 112 from by rw [eU26]; exact Xi_ne (by omega)).trans ( (show Xi U25 904 112 = Xi U24 904 112 from by rw [eU25]; exact Xi_ne (by omega)).trans ( (show Xi U24 904 112 = Xi T23 904 112 from by rw [eU24]; exact Xi_ne (by omega)).trans ( (show Xi T23 904 112 = Xi U22 904 112 from w188.x _ _ rfl).trans ((show Xi U22 904 112 = Xi T3 904 112 from by rw [eU22]; exact Xi_ne (by omega))))))
              have w210 : Xi U26 904 15 = Xi T1 904 15 := (show Xi U26 904 15 = Xi U25 904 15 from by rw [eU26]; exact Xi_ne (by omega)).trans ( (show Xi U25 904 15 = Xi U24 904 15 from by rw [eU25]; exact Xi_ne (by omega)).trans ( (show Xi U24 904 15 = Xi T23 904 15 from by rw [eU24]; exact Xi_ne (by omega)).trans ( (show Xi T23 904 15 = Xi U22 904 15 from w188.x _ _ rfl).trans ( (show Xi U22 904 15 = Xi T3 904 15 from by rw [eU22]; exact Xi_ne (by omega)).trans ( (show Xi T3 904 15 = Xi U2 904 15 from w48.x _ _ rfl).trans ((show Xi U2 904 15 = Xi T1 904 15 from by rw [eU2]; exact Xi_ne (by omega))))))))
              have w211 : Xi U26 904 32 = Xi T1 904 32 := (show Xi U26 904 32 = Xi U25 904 32 from by rw [eU26]; exact Xi_ne (by omega)).trans ( (show Xi U25 904 32 = Xi U24 904 32 from by rw [eU25]; exact Xi_ne (by omega)).trans ( (show Xi U24 904 32 = Xi T23 904 32 from by rw [eU24]; exact Xi_ne (by omega)).trans ( (show Xi T23 904 32 = Xi U22 904 32 from w188.x _ _ rfl).trans ( (show Xi U22 904 32 = Xi T3 904 32 from by rw [eU22]; exact Xi_ne (by omega)).trans ( (show Xi T3 904 32 = Xi U2 904 32 from w48.x _ _ rfl).trans ((show Xi U2 904 32 = Xi T1 904 32 from by rw [eU2]; exact Xi_ne (by omega))))))))
              have w212 : Xi U26 904 70 = Xi T1 904 70 := (show Xi U26 904 70 = Xi U25 904 70 from by rw [eU26]; exact Xi_ne (by omega)).trans ( (show Xi U25 904 70 = Xi U24 904 70 from by rw [eU25]; exact Xi_ne (by omega)).trans ( (show Xi U24 904 70 = Xi T23 904 70 from by rw [eU24]; exact Xi_ne (by omega)).trans ( (show Xi T23 904 70 = Xi U22 904 70 from w188.x _ _ rfl).trans ( (show Xi U22 904 70 = Xi T3 904 70 from by rw [eU22]; exact Xi_ne (by omega)).trans ( (show Xi T3 904 70 = Xi U2 904 70 from w48.x _ _ rfl).trans ((show Xi U2 904 70 = Xi T1 904 70 from by rw [eU2]; exact Xi_ne (by omega))))))))
              exact ⟨hHU26, hFU26, rfl, (by first | (have u := e457; exact Or.inr (Or.inr ⟨_, _, g288, Q287.o, _, _, _, _, e289, O315.o, F315, F349, F360, N360, fun w => absurd ⟨by omega, by rw [← o288]; omega⟩ w, fun _ => by rw [← H408, ← k428, ← k438, ← e431, ← e441]; exact e457⟩)) | (have u := H408; exact Or.inr (Or.inr ⟨_, _, g288, Q287.o, _, _, _, _, e289, O315.o, F315, F349, F360, N360, fun _ => H408, fun w => absurd w (by rw [← o288]; omega)⟩)) | (have u := C231; exact Or.inr (Or.inl ⟨_, by omega, C231.o⟩)) | exact Or.inl (amb_1 B199.o (by omega)))⟩
            · exfalso; omega
  refine y_aload_n rfl rfl ?_
  refine y_gfr rfl rfl rfl rfl rfl (hH.r 904 132 979 rfl) ?_
  refine y_iload_n rfl rfl ?_
  refine y_iconst rfl ?_
  refine y_iastoreP (n := 24) rfl rfl (by unfold rg; omega) (fun w213 w214 => ?_)
  obtain ⟨U27, eU27⟩ : ∃ T : sS, T = uI S 979 ((l).toNat) (Int32.ofInt (-1)) := ⟨_, rfl⟩
  rw [← eU27]
  have hHU27 : RI U27 := by rw [eU27]; exact RI_w hH
  have hFU27 : FR md_mo_actingMeant__2 S U27 := by rw [eU27]; exact FR.wI hF (mdf_i (r := (979, 980, 0, 100000)) (List.mem_of_getElem? (i := 13) rfl) (inR_i (by omega) (by omega) (by omega) (by omega)))
  have w215 : Xi U27 979 ((l).toNat) = (-1) := by rw [eU27]; exact Xi_same (by unfold rg; omega)
  have e6 := eU27
  refine y_aload_n rfl rfl ?_
  refine y_gfr rfl rfl rfl rfl rfl (hHU27.r 904 133 980 rfl) ?_
  refine y_iload_n rfl rfl ?_
  refine y_iconst rfl ?_
  refine y_iastoreP (n := 24) rfl rfl (by unfold rg; omega) (fun w216 w217 => ?_)
  obtain ⟨U28, eU28⟩ : ∃ T : sS, T = uI U27 980 ((l).toNat) (Int32.ofInt (-1)) := ⟨_, rfl⟩
  rw [← eU28]
  have hHU28 : RI U28 := by rw [eU28]; exact RI_w hHU27
  have hFU28 : FR md_mo_actingMeant__2 S U28 := by rw [eU28]; exact FR.wI hFU27 (mdf_i (r := (980, 981, 0, 100000)) (List.mem_of_getElem? (i := 14) rfl) (inR_i (by omega) (by omega) (by omega) (by omega)))
  have w218 : Xi U28 980 ((l).toNat) = (-1) := by rw [eU28]; exact Xi_same (by unfold rg; omega)
  have e13 := eU28
  refine y_aload_n rfl rfl ?_
  refine y_gfr rfl rfl rfl rfl rfl (hHU28.r 904 134 981 rfl) ?_
  refine y_iload_n rfl rfl ?_
  refine y_iconst rfl ?_
  refine y_iastoreP (n := 24) rfl rfl (by unfold rg; omega) (fun w219 w220 => ?_)
  obtain ⟨U29, eU29⟩ : ∃ T : sS, T = uI U28 981 ((l).toNat) (Int32.ofInt (-1)) := ⟨_, rfl⟩
  rw [← eU29]
  have hHU29 : RI U29 := by rw [eU29]; exact RI_w hHU28
  have hFU29 : FR md_mo_actingMeant__2 S U29 := by rw [eU29]; exact FR.wI hFU28 (mdf_i (r := (981, 982, 0, 100000)) (List.mem_of_getElem? (i := 15) rfl) (inR_i (by omega) (by omega) (by omega) (by omega)))
  have w221 : Xi U29 981 ((l).toNat) = (-1) := by rw [eU29]; exact Xi_same (by unfold rg; omega)
  have e20 := eU29
  refine y_aload_n rfl rfl ?_
  refine y_gfr rfl rfl rfl rfl rfl (hHU29.r 904 135 982 rfl) ?_
  refine y_iload_n rfl rfl ?_
  refine y_iconst rfl ?_
  refine y_iastoreP (n := 24) rfl rfl (by unfold rg; omega) (fun w222 w223 => ?_)
  obtain ⟨U30, eU30⟩ : ∃ T : sS, T = uI U29 982 ((l).toNat) (Int32.ofInt 0) := ⟨_, rfl⟩
  rw [← eU30]
  have hHU30 : RI U30 := by rw [eU30]; exact RI_w hHU29
  have hFU30 : FR md_mo_actingMeant__2 S U30 := by rw [eU30]; exact FR.wI hFU29 (mdf_i (r := (982, 983, 0, 100000)) (List.mem_of_getElem? (i := 16) rfl) (inR_i (by omega) (by omega) (by omega) (by omega)))
  have w224 : Xi U30 982 ((l).toNat) = 0 := by rw [eU30]; exact Xi_same (by unfold rg; omega)
  have e27 := eU30
  refine y_aload_n rfl rfl ?_
  refine y_iconst rfl ?_
  refine y_pfi rfl rfl rfl rfl ?_
  obtain ⟨U31, eU31⟩ : ∃ T : sS, T = uI U30 904 116 (Int32.ofInt (-1)) := ⟨_, rfl⟩
  rw [← eU31]
  have hHU31 : RI U31 := by rw [eU31]; exact RI_w hHU30
  have hFU31 : FR md_mo_actingMeant__2 S U31 := by rw [eU31]; exact FR.wI hFU30 (mdf_i (r := (904, 905, 116, 117)) (List.mem_of_getElem? (i := 8) rfl) (inR_i (by omega) (by omega) (by omega) (by omega)))
  have w225 : Xi U31 904 116 = (-1) := by rw [eU31]; exact Xi_same (by unfold rg; omega)
  have e30 := eU31
  have A30 : U31 = acA S l := acA_of e6 e13 e20 e27 e30
  refine y_aload_n rfl rfl ?_
  refine y_gfi rfl rfl rfl rfl rfl ?_
  have w226 : (Xi U31 904 70) = (Xi S 904 70) := (show Xi U31 904 70 = Xi U30 904 70 from by rw [eU31]; exact Xi_ne (by omega)).trans ( (show Xi U30 904 70 = Xi U29 904 70 from by rw [eU30]; exact Xi_ne (by omega)).trans ( (show Xi U29 904 70 = Xi U28 904 70 from by rw [eU29]; exact Xi_ne (by omega)).trans ( (show Xi U28 904 70 = Xi U27 904 70 from by rw [eU28]; exact Xi_ne (by omega)).trans ((show Xi U27 904 70 = Xi S 904 70 from by rw [eU27]; exact Xi_ne (by omega))))))
  rw [w226]
  refine y_bipush rfl rfl ?_
  refine y_icmp_ne rfl rfl (by unfold rg; omega) (by unfold rg; omega) (fun w227 => ?_) (fun w228 => ?_)
  · refine y_aload_n rfl rfl ?_
    refine y_gfi rfl rfl rfl rfl rfl ?_
    have w229 : (Xi U31 904 102) = (Xi S 904 102) := (show Xi U31 904 102 = Xi U30 904 102 from by rw [eU31]; exact Xi_ne (by omega)).trans ( (show Xi U30 904 102 = Xi U29 904 102 from by rw [eU30]; exact Xi_ne (by omega)).trans ( (show Xi U29 904 102 = Xi U28 904 102 from by rw [eU29]; exact Xi_ne (by omega)).trans ( (show Xi U28 904 102 = Xi U27 904 102 from by rw [eU28]; exact Xi_ne (by omega)).trans ((show Xi U27 904 102 = Xi S 904 102 from by rw [eU27]; exact Xi_ne (by omega))))))
    rw [w229]
    have a44 : (Xi S 904 102) = Xi S 904 102 := by first | exact hF.x 904 102 rfl | rfl
    refine y_istore_n rfl rfl rfl ?_
    refine y_aload_n rfl rfl ?_
    refine y_gfi rfl rfl rfl rfl rfl ?_
    have w230 : (Xi U31 904 103) = (Xi S 904 103) := (show Xi U31 904 103 = Xi U30 904 103 from by rw [eU31]; exact Xi_ne (by omega)).trans ( (show Xi U30 904 103 = Xi U29 904 103 from by rw [eU30]; exact Xi_ne (by omega)).trans ( (show Xi U29 904 103 = Xi U28 904 103 from by rw [eU29]; exact Xi_ne (by omega)).trans ( (show Xi U28 904 103 = Xi U27 904 103 from by rw [eU28]; exact Xi_ne (by omega)).trans ((show Xi U27 904 103 = Xi S 904 103 from by rw [eU27]; exact Xi_ne (by omega))))))
    rw [w230]
    refine y_iconst rfl ?_
    refine y_icmp_ne rfl rfl (by unfold rg; omega) (by unfold rg; omega) (fun w231 => ?_) (fun w232 => ?_)
    · refine y_aload_n rfl rfl ?_
      refine y_iload_n rfl rfl ?_
      refine y_bipush rfl rfl ?_
      have w233 : Xi U31 904 102 = Xi S 904 102 := (show Xi U31 904 102 = Xi U30 904 102 from by rw [eU31]; exact Xi_ne (by omega)).trans ( (show Xi U30 904 102 = Xi U29 904 102 from by rw [eU30]; exact Xi_ne (by omega)).trans ( (show Xi U29 904 102 = Xi U28 904 102 from by rw [eU29]; exact Xi_ne (by omega)).trans ( (show Xi U28 904 102 = Xi U27 904 102 from by rw [eU28]; exact Xi_ne (by omega)).trans ((show Xi U27 904 102 = Xi S 904 102 from by rw [eU27]; exact Xi_ne (by omega))))))
      have w234 : Xi U31 904 103 = Xi S 904 103 := (show Xi U31 904 103 = Xi U30 904 103 from by rw [eU31]; exact Xi_ne (by omega)).trans ( (show Xi U30 904 103 = Xi U29 904 103 from by rw [eU30]; exact Xi_ne (by omega)).trans ( (show Xi U29 904 103 = Xi U28 904 103 from by rw [eU29]; exact Xi_ne (by omega)).trans ( (show Xi U28 904 103 = Xi U27 904 103 from by rw [eU28]; exact Xi_ne (by omega)).trans ((show Xi U27 904 103 = Xi S 904 103 from by rw [eU27]; exact Xi_ne (by omega))))))
      have w235 : Xi U31 904 109 = Xi S 904 109 := (show Xi U31 904 109 = Xi U30 904 109 from by rw [eU31]; exact Xi_ne (by omega)).trans ( (show Xi U30 904 109 = Xi U29 904 109 from by rw [eU30]; exact Xi_ne (by omega)).trans ( (show Xi U29 904 109 = Xi U28 904 109 from by rw [eU29]; exact Xi_ne (by omega)).trans ( (show Xi U28 904 109 = Xi U27 904 109 from by rw [eU28]; exact Xi_ne (by omega)).trans ((show Xi U27 904 109 = Xi S 904 109 from by rw [eU27]; exact Xi_ne (by omega))))))
      have w236 : Xi U31 904 110 = Xi S 904 110 := (show Xi U31 904 110 = Xi U30 904 110 from by rw [eU31]; exact Xi_ne (by omega)).trans ( (show Xi U30 904 110 = Xi U29 904 110 from by rw [eU30]; exact Xi_ne (by omega)).trans ( (show Xi U29 904 110 = Xi U28 904 110 from by rw [eU29]; exact Xi_ne (by omega)).trans ( (show Xi U28 904 110 = Xi U27 904 110 from by rw [eU28]; exact Xi_ne (by omega)).trans ((show Xi U27 904 110 = Xi S 904 110 from by rw [eU27]; exact Xi_ne (by omega))))))
      have w237 : Xi U31 904 112 = Xi S 904 112 := (show Xi U31 904 112 = Xi U30 904 112 from by rw [eU31]; exact Xi_ne (by omega)).trans ( (show Xi U30 904 112 = Xi U29 904 112 from by rw [eU30]; exact Xi_ne (by omega)).trans ( (show Xi U29 904 112 = Xi U28 904 112 from by rw [eU29]; exact Xi_ne (by omega)).trans ( (show Xi U28 904 112 = Xi U27 904 112 from by rw [eU28]; exact Xi_ne (by omega)).trans ((show Xi U27 904 112 = Xi S 904 112 from by rw [eU27]; exact Xi_ne (by omega))))))
      have w238 : Xi U31 904 15 = Xi S 904 15 := (show Xi U31 904 15 = Xi U30 904 15 from by rw [eU31]; exact Xi_ne (by omega)).trans ( (show Xi U30 904 15 = Xi U29 904 15 from by rw [eU30]; exact Xi_ne (by omega)).trans ( (show Xi U29 904 15 = Xi U28 904 15 from by rw [eU29]; exact Xi_ne (by omega)).trans ( (show Xi U28 904 15 = Xi U27 904 15 from by rw [eU28]; exact Xi_ne (by omega)).trans ((show Xi U27 904 15 = Xi S 904 15 from by rw [eU27]; exact Xi_ne (by omega))))))
      have w239 : Xi U31 904 32 = Xi S 904 32 := (show Xi U31 904 32 = Xi U30 904 32 from by rw [eU31]; exact Xi_ne (by omega)).trans ( (show Xi U30 904 32 = Xi U29 904 32 from by rw [eU30]; exact Xi_ne (by omega)).trans ( (show Xi U29 904 32 = Xi U28 904 32 from by rw [eU29]; exact Xi_ne (by omega)).trans ( (show Xi U28 904 32 = Xi U27 904 32 from by rw [eU28]; exact Xi_ne (by omega)).trans ((show Xi U27 904 32 = Xi S 904 32 from by rw [eU27]; exact Xi_ne (by omega))))))
      have w240 : Xi U31 904 70 = Xi S 904 70 := (show Xi U31 904 70 = Xi U30 904 70 from by rw [eU31]; exact Xi_ne (by omega)).trans ( (show Xi U30 904 70 = Xi U29 904 70 from by rw [eU30]; exact Xi_ne (by omega)).trans ( (show Xi U29 904 70 = Xi U28 904 70 from by rw [eU29]; exact Xi_ne (by omega)).trans ( (show Xi U28 904 70 = Xi U27 904 70 from by rw [eU28]; exact Xi_ne (by omega)).trans ((show Xi U27 904 70 = Xi S 904 70 from by rw [eU27]; exact Xi_ne (by omega))))))
      refine y_callV rfl rfl rfl (t_mo_meansRun__p hHU31 (Xi S 904 102) 11 ⟨by omega, by omega⟩ ⟨by omega, by omega⟩ (by first | assumption | exact (LSP_FR hFU31 rfl rfl (by assumption : LSP S))) (by first | assumption | omega) (by first | assumption | exact (RBD_FR hFU31 rfl (by assumption : RBD S))) _) ?_
      rintro _ _ ⟨rfl, z241, rfl, w241, f171⟩
      show Pl _ _ _ _ _ _ [iv z241] _ _
      have m171 : z241 = rnR S (Xi S 904 102) 11 := by have u := f171; rw [rnR_sm (SMR_FR hFU31 rfl rfl), a44] at u; exact u
      refine y_istore_n rfl rfl rfl ?_
      refine y_aload_n rfl rfl ?_
      refine y_gfi rfl rfl rfl rfl rfl ?_
      have w242 : (Xi U31 904 103) = (Xi S 904 103) := (show Xi U31 904 103 = Xi U30 904 103 from by rw [eU31]; exact Xi_ne (by omega)).trans ( (show Xi U30 904 103 = Xi U29 904 103 from by rw [eU30]; exact Xi_ne (by omega)).trans ( (show Xi U29 904 103 = Xi U28 904 103 from by rw [eU29]; exact Xi_ne (by omega)).trans ( (show Xi U28 904 103 = Xi U27 904 103 from by rw [eU28]; exact Xi_ne (by omega)).trans ((show Xi U27 904 103 = Xi S 904 103 from by rw [eU27]; exact Xi_ne (by omega))))))
      rw [w242]
      have a176 : (Xi S 904 103) = Xi S 904 103 := by first | exact hF.x 904 103 rfl | rfl
      refine y_istore rfl rfl rfl ?_
      refine y_aload_n rfl rfl ?_
      refine y_iload_n rfl rfl ?_
      refine y_iconst rfl ?_
      refine y_icmp_eq rfl rfl (by unfold rg; omega) (by unfold rg; omega) (fun w243 => ?_) (fun w244 => ?_)
      · refine y_iconst rfl ?_
        refine y_iconst rfl ?_
        refine y_aload_n rfl rfl ?_
        refine y_gfr rfl rfl rfl rfl rfl (hHU31.r 904 67 950 rfl) ?_
        refine y_iload_n rfl rfl ?_
        refine y_ialoadP (n := 2600) rfl rfl (by unfold rg; omega) (fun w245 w246 => ?_)
        have w247 : -2147483648 ≤ (Xi U31 950 (((Xi S 904 102)).toNat)) ∧ (Xi U31 950 (((Xi S 904 102)).toNat)) ≤ 2147483647 := Xi_rgI
        have v198 : (Xi U31 950 (((Xi S 904 102)).toNat)) = Xi S 950 (Xi S 904 102).toNat := by rw [(hFU31.cx 950 rfl _).1, a44]
        have p198 : Xi U31 908 ((Xi U31 950 (((Xi S 904 102)).toNat))).toNat = pR S (Xi S 904 102) := by unfold pR; rw [(hFU31.cx 908 rfl _).1, v198]
        refine y_callV rfl rfl rfl (t_mo_need__p hHU31 0 4 (Xi U31 950 (((Xi S 904 102)).toNat)) ⟨by omega, by omega⟩ ⟨by omega, by omega⟩ ⟨by omega, by omega⟩ _) ?_
        rintro _ T32 ⟨hHT32, w257, rfl, nt199⟩
        have hFT32 : FR md_mo_actingMeant__2 S T32 := FR.tr hFU31 w257 rfl
        show Pl _ _ _ _ _ _ [] _ _
        have F199 := (by assumption : FR md_mo_need__p U31 T32)
        have B199 : Hid (AMB S T32 l z241) := ⟨m171, by rw [← A30]; exact F199, by rw [← p198, ← A30]; first | (rw [if_pos (by omega)]; exact nt199.trans (if_neg (by decide))) | (rw [if_neg (by omega)]; exact nt199.trans (if_pos rfl))⟩
        refine y_iload_n rfl rfl ?_
        refine y_iconst rfl ?_
        refine y_icmp_ne rfl rfl (by unfold rg; omega) (by unfold rg; omega) (fun w258 => ?_) (fun w259 => ?_)
        · exfalso; omega
        · refine y_return rfl rfl ?_
          have w260 : Xi T32 904 102 = Xi S 904 102 := (show Xi T32 904 102 = Xi U31 904 102 from w257.x _ _ rfl).trans ( (show Xi U31 904 102 = Xi U30 904 102 from by rw [eU31]; exact Xi_ne (by omega)).trans ( (show Xi U30 904 102 = Xi U29 904 102 from by rw [eU30]; exact Xi_ne (by omega)).trans ( (show Xi U29 904 102 = Xi U28 904 102 from by rw [eU29]; exact Xi_ne (by omega)).trans ( (show Xi U28 904 102 = Xi U27 904 102 from by rw [eU28]; exact Xi_ne (by omega)).trans ((show Xi U27 904 102 = Xi S 904 102 from by rw [eU27]; exact Xi_ne (by omega)))))))
          have w261 : Xi T32 904 103 = Xi S 904 103 := (show Xi T32 904 103 = Xi U31 904 103 from w257.x _ _ rfl).trans ( (show Xi U31 904 103 = Xi U30 904 103 from by rw [eU31]; exact Xi_ne (by omega)).trans ( (show Xi U30 904 103 = Xi U29 904 103 from by rw [eU30]; exact Xi_ne (by omega)).trans ( (show Xi U29 904 103 = Xi U28 904 103 from by rw [eU29]; exact Xi_ne (by omega)).trans ( (show Xi U28 904 103 = Xi U27 904 103 from by rw [eU28]; exact Xi_ne (by omega)).trans ((show Xi U27 904 103 = Xi S 904 103 from by rw [eU27]; exact Xi_ne (by omega)))))))
          have w262 : Xi T32 904 109 = Xi S 904 109 := (show Xi T32 904 109 = Xi U31 904 109 from w257.x _ _ rfl).trans ( (show Xi U31 904 109 = Xi U30 904 109 from by rw [eU31]; exact Xi_ne (by omega)).trans ( (show Xi U30 904 109 = Xi U29 904 109 from by rw [eU30]; exact Xi_ne (by omega)).trans ( (show Xi U29 904 109 = Xi U28 904 109 from by rw [eU29]; exact Xi_ne (by omega)).trans ( (show Xi U28 904 109 = Xi U27 904 109 from by rw [eU28]; exact Xi_ne (by omega)).trans ((show Xi U27 904 109 = Xi S 904 109 from by rw [eU27]; exact Xi_ne (by omega)))))))
          have w263 : Xi T32 904 110 = Xi S 904 110 := (show Xi T32 904 110 = Xi U31 904 110 from w257.x _ _ rfl).trans ( (show Xi U31 904 110 = Xi U30 904 110 from by rw [eU31]; exact Xi_ne (by omega)).trans ( (show Xi U30 904 110 = Xi U29 904 110 from by rw [eU30]; exact Xi_ne (by omega)).trans ( (show Xi U29 904 110 = Xi U28 904 110 from by rw [eU29]; exact Xi_ne (by omega)).trans ( (show Xi U28 904 110 = Xi U27 904 110 from by rw [eU28]; exact Xi_ne (by omega)).trans ((show Xi U27 904 110 = Xi S 904 110 from by rw [eU27]; exact Xi_ne (by omega)))))))
          have w264 : Xi T32 904 112 = Xi S 904 112 := (show Xi T32 904 112 = Xi U31 904 112 from w257.x _ _ rfl).trans ( (show Xi U31 904 112 = Xi U30 904 112 from by rw [eU31]; exact Xi_ne (by omega)).trans ( (show Xi U30 904 112 = Xi U29 904 112 from by rw [eU30]; exact Xi_ne (by omega)).trans ( (show Xi U29 904 112 = Xi U28 904 112 from by rw [eU29]; exact Xi_ne (by omega)).trans ( (show Xi U28 904 112 = Xi U27 904 112 from by rw [eU28]; exact Xi_ne (by omega)).trans ((show Xi U27 904 112 = Xi S 904 112 from by rw [eU27]; exact Xi_ne (by omega)))))))
          have w265 : Xi T32 904 116 = Xi U31 904 116 := (show Xi T32 904 116 = Xi U31 904 116 from w257.x _ _ rfl)
          have w266 : Xi T32 904 15 = Xi S 904 15 := (show Xi T32 904 15 = Xi U31 904 15 from w257.x _ _ rfl).trans ( (show Xi U31 904 15 = Xi U30 904 15 from by rw [eU31]; exact Xi_ne (by omega)).trans ( (show Xi U30 904 15 = Xi U29 904 15 from by rw [eU30]; exact Xi_ne (by omega)).trans ( (show Xi U29 904 15 = Xi U28 904 15 from by rw [eU29]; exact Xi_ne (by omega)).trans ( (show Xi U28 904 15 = Xi U27 904 15 from by rw [eU28]; exact Xi_ne (by omega)).trans ((show Xi U27 904 15 = Xi S 904 15 from by rw [eU27]; exact Xi_ne (by omega)))))))
          have w267 : Xi T32 904 32 = Xi S 904 32 := (show Xi T32 904 32 = Xi U31 904 32 from w257.x _ _ rfl).trans ( (show Xi U31 904 32 = Xi U30 904 32 from by rw [eU31]; exact Xi_ne (by omega)).trans ( (show Xi U30 904 32 = Xi U29 904 32 from by rw [eU30]; exact Xi_ne (by omega)).trans ( (show Xi U29 904 32 = Xi U28 904 32 from by rw [eU29]; exact Xi_ne (by omega)).trans ( (show Xi U28 904 32 = Xi U27 904 32 from by rw [eU28]; exact Xi_ne (by omega)).trans ((show Xi U27 904 32 = Xi S 904 32 from by rw [eU27]; exact Xi_ne (by omega)))))))
          have w268 : Xi T32 904 70 = Xi S 904 70 := (show Xi T32 904 70 = Xi U31 904 70 from w257.x _ _ rfl).trans ( (show Xi U31 904 70 = Xi U30 904 70 from by rw [eU31]; exact Xi_ne (by omega)).trans ( (show Xi U30 904 70 = Xi U29 904 70 from by rw [eU30]; exact Xi_ne (by omega)).trans ( (show Xi U29 904 70 = Xi U28 904 70 from by rw [eU29]; exact Xi_ne (by omega)).trans ( (show Xi U28 904 70 = Xi U27 904 70 from by rw [eU28]; exact Xi_ne (by omega)).trans ((show Xi U27 904 70 = Xi S 904 70 from by rw [eU27]; exact Xi_ne (by omega)))))))
          exact ⟨hHT32, hFT32, rfl, (by first | (have u := e457; exact Or.inr (Or.inr ⟨_, _, g288, Q287.o, _, _, _, _, e289, O315.o, F315, F349, F360, N360, fun w => absurd ⟨by omega, by rw [← o288]; omega⟩ w, fun _ => by rw [← H408, ← k428, ← k438, ← e431, ← e441]; exact e457⟩)) | (have u := H408; exact Or.inr (Or.inr ⟨_, _, g288, Q287.o, _, _, _, _, e289, O315.o, F315, F349, F360, N360, fun _ => H408, fun w => absurd w (by rw [← o288]; omega)⟩)) | (have u := C231; exact Or.inr (Or.inl ⟨_, by omega, C231.o⟩)) | exact Or.inl (amb_1 B199.o (by omega)))⟩
      · refine y_iconst rfl ?_
        refine y_goto rfl rfl ?_
        refine y_iconst rfl ?_
        refine y_aload_n rfl rfl ?_
        refine y_gfr rfl rfl rfl rfl rfl (hHU31.r 904 67 950 rfl) ?_
        refine y_iload_n rfl rfl ?_
        refine y_ialoadP (n := 2600) rfl rfl (by unfold rg; omega) (fun w269 w270 => ?_)
        have w271 : -2147483648 ≤ (Xi U31 950 (((Xi S 904 102)).toNat)) ∧ (Xi U31 950 (((Xi S 904 102)).toNat)) ≤ 2147483647 := Xi_rgI
        have v198 : (Xi U31 950 (((Xi S 904 102)).toNat)) = Xi S 950 (Xi S 904 102).toNat := by rw [(hFU31.cx 950 rfl _).1, a44]
        have p198 : Xi U31 908 ((Xi U31 950 (((Xi S 904 102)).toNat))).toNat = pR S (Xi S 904 102) := by unfold pR; rw [(hFU31.cx 908 rfl _).1, v198]
        refine y_callV rfl rfl rfl (t_mo_need__p hHU31 1 4 (Xi U31 950 (((Xi S 904 102)).toNat)) ⟨by omega, by omega⟩ ⟨by omega, by omega⟩ ⟨by omega, by omega⟩ _) ?_
        rintro _ T33 ⟨hHT33, w281, rfl, nt199⟩
        have hFT33 : FR md_mo_actingMeant__2 S T33 := FR.tr hFU31 w281 rfl
        show Pl _ _ _ _ _ _ [] _ _
        have F199 := (by assumption : FR md_mo_need__p U31 T33)
        have B199 : Hid (AMB S T33 l z241) := ⟨m171, by rw [← A30]; exact F199, by rw [← p198, ← A30]; first | (rw [if_pos (by omega)]; exact nt199.trans (if_neg (by decide))) | (rw [if_neg (by omega)]; exact nt199.trans (if_pos rfl))⟩
        refine y_iload_n rfl rfl ?_
        refine y_iconst rfl ?_
        refine y_icmp_ne rfl rfl (by unfold rg; omega) (by unfold rg; omega) (fun w282 => ?_) (fun w283 => ?_)
        · refine y_aload_n rfl rfl ?_
          refine y_aload_n rfl rfl ?_
          refine y_gfr rfl rfl rfl rfl rfl (hHT33.r 904 50 942 rfl) ?_
          refine y_iload_n rfl rfl ?_
          refine y_ialoadP (n := 12) rfl rfl (by unfold rg; omega) (fun w284 w285 => ?_)
          have w286 : -2147483648 ≤ (Xi T33 942 ((z241).toNat)) ∧ (Xi T33 942 ((z241).toNat)) ≤ 2147483647 := Xi_rgI
          have k214 : (Xi T33 942 ((z241).toNat)) = Xi S 942 (z241).toNat := (hFT33.cx 942 rfl _).1
          refine y_if_lt rfl rfl (by unfold rg; omega) (fun w287 => ?_) (fun w288 => ?_)
          · refine y_iconst rfl ?_
            refine y_iconst rfl ?_
            refine y_aload_n rfl rfl ?_
            refine y_gfr rfl rfl rfl rfl rfl (hHT33.r 904 67 950 rfl) ?_
            refine y_iload rfl rfl ?_
            refine y_ialoadP (n := 2600) rfl rfl (by unfold rg; omega) (fun w289 w290 => ?_)
            have w291 : -2147483648 ≤ (Xi T33 950 (((Xi S 904 103)).toNat)) ∧ (Xi T33 950 (((Xi S 904 103)).toNat)) ≤ 2147483647 := Xi_rgI
            have v230 : (Xi T33 950 (((Xi S 904 103)).toNat)) = Xi S 950 (Xi S 904 103).toNat := by rw [(hFT33.cx 950 rfl _).1, a176]
            have p230 : Xi T33 908 ((Xi T33 950 (((Xi S 904 103)).toNat))).toNat = pR S (Xi S 904 103) := by unfold pR; rw [(hFT33.cx 908 rfl _).1, v230]
            have w292 : Xi T33 904 102 = Xi S 904 102 := (show Xi T33 904 102 = Xi U31 904 102 from w281.x _ _ rfl).trans ( (show Xi U31 904 102 = Xi U30 904 102 from by rw [eU31]; exact Xi_ne (by omega)).trans ( (show Xi U30 904 102 = Xi U29 904 102 from by rw [eU30]; exact Xi_ne (by omega)).trans ( (show Xi U29 904 102 = Xi U28 904 102 from by rw [eU29]; exact Xi_ne (by omega)).trans ( (show Xi U28 904 102 = Xi U27 904 102 from by rw [eU28]; exact Xi_ne (by omega)).trans ((show Xi U27 904 102 = Xi S 904 102 from by rw [eU27]; exact Xi_ne (by omega)))))))
            have w293 : Xi T33 904 103 = Xi S 904 103 := (show Xi T33 904 103 = Xi U31 904 103 from w281.x _ _ rfl).trans ( (show Xi U31 904 103 = Xi U30 904 103 from by rw [eU31]; exact Xi_ne (by omega)).trans ( (show Xi U30 904 103 = Xi U29 904 103 from by rw [eU30]; exact Xi_ne (by omega)).trans ( (show Xi U29 904 103 = Xi U28 904 103 from by rw [eU29]; exact Xi_ne (by omega)).trans ( (show Xi U28 904 103 = Xi U27 904 103 from by rw [eU28]; exact Xi_ne (by omega)).trans ((show Xi U27 904 103 = Xi S 904 103 from by rw [eU27]; exact Xi_ne (by omega)))))))
            have w294 : Xi T33 904 109 = Xi S 904 109 := (show Xi T33 904 109 = Xi U31 904 109 from w281.x _ _ rfl).trans ( (show Xi U31 904 109 = Xi U30 904 109 from by rw [eU31]; exact Xi_ne (by omega)).trans ( (show Xi U30 904 109 = Xi U29 904 109 from by rw [eU30]; exact Xi_ne (by omega)).trans ( (show Xi U29 904 109 = Xi U28 904 109 from by rw [eU29]; exact Xi_ne (by omega)).trans ( (show Xi U28 904 109 = Xi U27 904 109 from by rw [eU28]; exact Xi_ne (by omega)).trans ((show Xi U27 904 109 = Xi S 904 109 from by rw [eU27]; exact Xi_ne (by omega)))))))
            have w295 : Xi T33 904 110 = Xi S 904 110 := (show Xi T33 904 110 = Xi U31 904 110 from w281.x _ _ rfl).trans ( (show Xi U31 904 110 = Xi U30 904 110 from by rw [eU31]; exact Xi_ne (by omega)).trans ( (show Xi U30 904 110 = Xi U29 904 110 from by rw [eU30]; exact Xi_ne (by omega)).trans ( (show Xi U29 904 110 = Xi U28 904 110 from by rw [eU29]; exact Xi_ne (by omega)).trans ( (show Xi U28 904 110 = Xi U27 904 110 from by rw [eU28]; exact Xi_ne (by omega)).trans ((show Xi U27 904 110 = Xi S 904 110 from by rw [eU27]; exact Xi_ne (by omega)))))))
            have w296 : Xi T33 904 112 = Xi S 904 112 := (show Xi T33 904 112 = Xi U31 904 112 from w281.x _ _ rfl).trans ( (show Xi U31 904 112 = Xi U30 904 112 from by rw [eU31]; exact Xi_ne (by omega)).trans ( (show Xi U30 904 112 = Xi U29 904 112 from by rw [eU30]; exact Xi_ne (by omega)).trans ( (show Xi U29 904 112 = Xi U28 904 112 from by rw [eU29]; exact Xi_ne (by omega)).trans ( (show Xi U28 904 112 = Xi U27 904 112 from by rw [eU28]; exact Xi_ne (by omega)).trans ((show Xi U27 904 112 = Xi S 904 112 from by rw [eU27]; exact Xi_ne (by omega)))))))
            have w297 : Xi T33 904 116 = Xi U31 904 116 := (show Xi T33 904 116 = Xi U31 904 116 from w281.x _ _ rfl)
            have w298 : Xi T33 904 15 = Xi S 904 15 := (show Xi T33 904 15 = Xi U31 904 15 from w281.x _ _ rfl).trans ( (show Xi U31 904 15 = Xi U30 904 15 from by rw [eU31]; exact Xi_ne (by omega)).trans ( (show Xi U30 904 15 = Xi U29 904 15 from by rw [eU30]; exact Xi_ne (by omega)).trans ( (show Xi U29 904 15 = Xi U28 904 15 from by rw [eU29]; exact Xi_ne (by omega)).trans ( (show Xi U28 904 15 = Xi U27 904 15 from by rw [eU28]; exact Xi_ne (by omega)).trans ((show Xi U27 904 15 = Xi S 904 15 from by rw [eU27]; exact Xi_ne (by omega)))))))
            have w299 : Xi T33 904 32 = Xi S 904 32 := (show Xi T33 904 32 = Xi U31 904 32 from w281.x _ _ rfl).trans ( (show Xi U31 904 32 = Xi U30 904 32 from by rw [eU31]; exact Xi_ne (by omega)).trans ( (show Xi U30 904 32 = Xi U29 904 32 from by rw [eU30]; exact Xi_ne (by omega)).trans ( (show Xi U29 904 32 = Xi U28 904 32 from by rw [eU29]; exact Xi_ne (by omega)).trans ( (show Xi U28 904 32 = Xi U27 904 32 from by rw [eU28]; exact Xi_ne (by omega)).trans ((show Xi U27 904 32 = Xi S 904 32 from by rw [eU27]; exact Xi_ne (by omega)))))))
            have w300 : Xi T33 904 70 = Xi S 904 70 := (show Xi T33 904 70 = Xi U31 904 70 from w281.x _ _ rfl).trans ( (show Xi U31 904 70 = Xi U30 904 70 from by rw [eU31]; exact Xi_ne (by omega)).trans ( (show Xi U30 904 70 = Xi U29 904 70 from by rw [eU30]; exact Xi_ne (by omega)).trans ( (show Xi U29 904 70 = Xi U28 904 70 from by rw [eU29]; exact Xi_ne (by omega)).trans ( (show Xi U28 904 70 = Xi U27 904 70 from by rw [eU28]; exact Xi_ne (by omega)).trans ((show Xi U27 904 70 = Xi S 904 70 from by rw [eU27]; exact Xi_ne (by omega)))))))
            refine y_callV rfl rfl rfl (t_mo_need__p hHT33 0 4 (Xi T33 950 (((Xi S 904 103)).toNat)) ⟨by omega, by omega⟩ ⟨by omega, by omega⟩ ⟨by omega, by omega⟩ _) ?_
            rintro _ T34 ⟨hHT34, w302, rfl, nt231⟩
            have hFT34 : FR md_mo_actingMeant__2 S T34 := FR.tr hFT33 w302 rfl
            show Pl _ _ _ _ _ _ [] _ _
            have F231 := (by assumption : FR md_mo_need__p T33 T34)
            have C231 : Hid (AMC S T34 l z241) := ⟨by omega, _, B199.o, F231, by rw [← p230]; first | (rw [if_pos (by omega)]; exact nt231.trans (if_neg (by decide))) | (rw [if_neg (by omega)]; exact nt231.trans (if_pos rfl))⟩
            refine y_aload_n rfl rfl ?_
            refine y_gfr rfl rfl rfl rfl rfl (hHT34.r 904 50 942 rfl) ?_
            refine y_iload_n rfl rfl ?_
            refine y_ialoadP (n := 12) rfl rfl (by unfold rg; omega) (fun w303 w304 => ?_)
            have w305 : (Xi T34 942 ((z241).toNat)) = (Xi T33 942 ((z241).toNat)) := (show Xi T34 942 ((z241).toNat) = Xi T33 942 ((z241).toNat) from w302.x _ _ rfl)
            rw [w305]
            have k239 : (Xi T33 942 ((z241).toNat)) = Xi S 942 (z241).toNat := by first | exact k214 | exact (hFT33.cx 942 rfl _).1
            refine y_if_ge rfl rfl (by unfold rg; omega) (fun w306 => ?_) (fun w307 => ?_)
            · exfalso; omega
            · refine y_return rfl rfl ?_
              have w308 : Xi T34 904 102 = Xi S 904 102 := (show Xi T34 904 102 = Xi T33 904 102 from w302.x _ _ rfl).trans ( (show Xi T33 904 102 = Xi U31 904 102 from w281.x _ _ rfl).trans ( (show Xi U31 904 102 = Xi U30 904 102 from by rw [eU31]; exact Xi_ne (by omega)).trans ( (show Xi U30 904 102 = Xi U29 904 102 from by rw [eU30]; exact Xi_ne (by omega)).trans ( (show Xi U29 904 102 = Xi U28 904 102 from by rw [eU29]; exact Xi_ne (by omega)).trans ( (show Xi U28 904 102 = Xi U27 904 102 from by rw [eU28]; exact Xi_ne (by omega)).trans ((show Xi U27 904 102 = Xi S 904 102 from by rw [eU27]; exact Xi_ne (by omega))))))))
              have w309 : Xi T34 904 103 = Xi S 904 103 := (show Xi T34 904 103 = Xi T33 904 103 from w302.x _ _ rfl).trans ( (show Xi T33 904 103 = Xi U31 904 103 from w281.x _ _ rfl).trans ( (show Xi U31 904 103 = Xi U30 904 103 from by rw [eU31]; exact Xi_ne (by omega)).trans ( (show Xi U30 904 103 = Xi U29 904 103 from by rw [eU30]; exact Xi_ne (by omega)).trans ( (show Xi U29 904 103 = Xi U28 904 103 from by rw [eU29]; exact Xi_ne (by omega)).trans ( (show Xi U28 904 103 = Xi U27 904 103 from by rw [eU28]; exact Xi_ne (by omega)).trans ((show Xi U27 904 103 = Xi S 904 103 from by rw [eU27]; exact Xi_ne (by omega))))))))
              have w310 : Xi T34 904 109 = Xi S 904 109 := (show Xi T34 904 109 = Xi T33 904 109 from w302.x _ _ rfl).trans ( (show Xi T33 904 109 = Xi U31 904 109 from w281.x _ _ rfl).trans ( (show Xi U31 904 109 = Xi U30 904 109 from by rw [eU31]; exact Xi_ne (by omega)).trans ( (show Xi U30 904 109 = Xi U29 904 109 from by rw [eU30]; exact Xi_ne (by omega)).trans ( (show Xi U29 904 109 = Xi U28 904 109 from by rw [eU29]; exact Xi_ne (by omega)).trans ( (show Xi U28 904 109 = Xi U27 904 109 from by rw [eU28]; exact Xi_ne (by omega)).trans ((show Xi U27 904 109 = Xi S 904 109 from by rw [eU27]; exact Xi_ne (by omega))))))))
              have w311 : Xi T34 904 110 = Xi S 904 110 := (show Xi T34 904 110 = Xi T33 904 110 from w302.x _ _ rfl).trans ( (show Xi T33 904 110 = Xi U31 904 110 from w281.x _ _ rfl).trans ( (show Xi U31 904 110 = Xi U30 904 110 from by rw [eU31]; exact Xi_ne (by omega)).trans ( (show Xi U30 904 110 = Xi U29 904 110 from by rw [eU30]; exact Xi_ne (by omega)).trans ( (show Xi U29 904 110 = Xi U28 904 110 from by rw [eU29]; exact Xi_ne (by omega)).trans ( (show Xi U28 904 110 = Xi U27 904 110 from by rw [eU28]; exact Xi_ne (by omega)).trans ((show Xi U27 904 110 = Xi S 904 110 from by rw [eU27]; exact Xi_ne (by omega))))))))
              have w312 : Xi T34 904 112 = Xi S 904 112 := (show Xi T34 904 112 = Xi T33 904 112 from w302.x _ _ rfl).trans ( (show Xi T33 904 112 = Xi U31 904 112 from w281.x _ _ rfl).trans ( (show Xi U31 904 112 = Xi U30 904 112 from by rw [eU31]; exact Xi_ne (by omega)).trans ( (show Xi U30 904 112 = Xi U29 904 112 from by rw [eU30]; exact Xi_ne (by omega)).trans ( (show Xi U29 904 112 = Xi U28 904 112 from by rw [eU29]; exact Xi_ne (by omega)).trans ( (show Xi U28 904 112 = Xi U27 904 112 from by rw [eU28]; exact Xi_ne (by omega)).trans ((show Xi U27 904 112 = Xi S 904 112 from by rw [eU27]; exact Xi_ne (by omega))))))))
              have w313 : Xi T34 904 116 = Xi U31 904 116 := (show Xi T34 904 116 = Xi T33 904 116 from w302.x _ _ rfl).trans ((show Xi T33 904 116 = Xi U31 904 116 from w281.x _ _ rfl))
              have w314 : Xi T34 904 15 = Xi S 904 15 := (show Xi T34 904 15 = Xi T33 904 15 from w302.x _ _ rfl).trans ( (show Xi T33 904 15 = Xi U31 904 15 from w281.x _ _ rfl).trans ( (show Xi U31 904 15 = Xi U30 904 15 from by rw [eU31]; exact Xi_ne (by omega)).trans ( (show Xi U30 904 15 = Xi U29 904 15 from by rw [eU30]; exact Xi_ne (by omega)).trans ( (show Xi U29 904 15 = Xi U28 904 15 from by rw [eU29]; exact Xi_ne (by omega)).trans ( (show Xi U28 904 15 = Xi U27 904 15 from by rw [eU28]; exact Xi_ne (by omega)).trans ((show Xi U27 904 15 = Xi S 904 15 from by rw [eU27]; exact Xi_ne (by omega))))))))
              have w315 : Xi T34 904 32 = Xi S 904 32 := (show Xi T34 904 32 = Xi T33 904 32 from w302.x _ _ rfl).trans ( (show Xi T33 904 32 = Xi U31 904 32 from w281.x _ _ rfl).trans ( (show Xi U31 904 32 = Xi U30 904 32 from by rw [eU31]; exact Xi_ne (by omega)).trans ( (show Xi U30 904 32 = Xi U29 904 32 from by rw [eU30]; exact Xi_ne (by omega)).trans ( (show Xi U29 904 32 = Xi U28 904 32 from by rw [eU29]; exact Xi_ne (by omega)).trans ( (show Xi U28 904 32 = Xi U27 904 32 from by rw [eU28]; exact Xi_ne (by omega)).trans ((show Xi U27 904 32 = Xi S 904 32 from by rw [eU27]; exact Xi_ne (by omega))))))))
              have w316 : Xi T34 904 70 = Xi S 904 70 := (show Xi T34 904 70 = Xi T33 904 70 from w302.x _ _ rfl).trans ( (show Xi T33 904 70 = Xi U31 904 70 from w281.x _ _ rfl).trans ( (show Xi U31 904 70 = Xi U30 904 70 from by rw [eU31]; exact Xi_ne (by omega)).trans ( (show Xi U30 904 70 = Xi U29 904 70 from by rw [eU30]; exact Xi_ne (by omega)).trans ( (show Xi U29 904 70 = Xi U28 904 70 from by rw [eU29]; exact Xi_ne (by omega)).trans ( (show Xi U28 904 70 = Xi U27 904 70 from by rw [eU28]; exact Xi_ne (by omega)).trans ((show Xi U27 904 70 = Xi S 904 70 from by rw [eU27]; exact Xi_ne (by omega))))))))
              exact ⟨hHT34, hFT34, rfl, (by first | (have u := e457; exact Or.inr (Or.inr ⟨_, _, g288, Q287.o, _, _, _, _, e289, O315.o, F315, F349, F360, N360, fun w => absurd ⟨by omega, by rw [← o288]; omega⟩ w, fun _ => by rw [← H408, ← k428, ← k438, ← e431, ← e441]; exact e457⟩)) | (have u := H408; exact Or.inr (Or.inr ⟨_, _, g288, Q287.o, _, _, _, _, e289, O315.o, F315, F349, F360, N360, fun _ => H408, fun w => absurd w (by rw [← o288]; omega)⟩)) | (have u := C231; exact Or.inr (Or.inl ⟨_, by omega, C231.o⟩)) | exact Or.inl (amb_1 B199.o (by omega)))⟩
          · refine y_iconst rfl ?_
            refine y_goto rfl rfl ?_
            refine y_iconst rfl ?_
            refine y_aload_n rfl rfl ?_
            refine y_gfr rfl rfl rfl rfl rfl (hHT33.r 904 67 950 rfl) ?_
            refine y_iload rfl rfl ?_
            refine y_ialoadP (n := 2600) rfl rfl (by unfold rg; omega) (fun w317 w318 => ?_)
            have w319 : -2147483648 ≤ (Xi T33 950 (((Xi S 904 103)).toNat)) ∧ (Xi T33 950 (((Xi S 904 103)).toNat)) ≤ 2147483647 := Xi_rgI
            have v230 : (Xi T33 950 (((Xi S 904 103)).toNat)) = Xi S 950 (Xi S 904 103).toNat := by rw [(hFT33.cx 950 rfl _).1, a176]
            have p230 : Xi T33 908 ((Xi T33 950 (((Xi S 904 103)).toNat))).toNat = pR S (Xi S 904 103) := by unfold pR; rw [(hFT33.cx 908 rfl _).1, v230]
            have w320 : Xi T33 904 102 = Xi S 904 102 := (show Xi T33 904 102 = Xi U31 904 102 from w281.x _ _ rfl).trans ( (show Xi U31 904 102 = Xi U30 904 102 from by rw [eU31]; exact Xi_ne (by omega)).trans ( (show Xi U30 904 102 = Xi U29 904 102 from by rw [eU30]; exact Xi_ne (by omega)).trans ( (show Xi U29 904 102 = Xi U28 904 102 from by rw [eU29]; exact Xi_ne (by omega)).trans ( (show Xi U28 904 102 = Xi U27 904 102 from by rw [eU28]; exact Xi_ne (by omega)).trans ((show Xi U27 904 102 = Xi S 904 102 from by rw [eU27]; exact Xi_ne (by omega)))))))
            have w321 : Xi T33 904 103 = Xi S 904 103 := (show Xi T33 904 103 = Xi U31 904 103 from w281.x _ _ rfl).trans ( (show Xi U31 904 103 = Xi U30 904 103 from by rw [eU31]; exact Xi_ne (by omega)).trans ( (show Xi U30 904 103 = Xi U29 904 103 from by rw [eU30]; exact Xi_ne (by omega)).trans ( (show Xi U29 904 103 = Xi U28 904 103 from by rw [eU29]; exact Xi_ne (by omega)).trans ( (show Xi U28 904 103 = Xi U27 904 103 from by rw [eU28]; exact Xi_ne (by omega)).trans ((show Xi U27 904 103 = Xi S 904 103 from by rw [eU27]; exact Xi_ne (by omega)))))))
            have w322 : Xi T33 904 109 = Xi S 904 109 := (show Xi T33 904 109 = Xi U31 904 109 from w281.x _ _ rfl).trans ( (show Xi U31 904 109 = Xi U30 904 109 from by rw [eU31]; exact Xi_ne (by omega)).trans ( (show Xi U30 904 109 = Xi U29 904 109 from by rw [eU30]; exact Xi_ne (by omega)).trans ( (show Xi U29 904 109 = Xi U28 904 109 from by rw [eU29]; exact Xi_ne (by omega)).trans ( (show Xi U28 904 109 = Xi U27 904 109 from by rw [eU28]; exact Xi_ne (by omega)).trans ((show Xi U27 904 109 = Xi S 904 109 from by rw [eU27]; exact Xi_ne (by omega)))))))
            have w323 : Xi T33 904 110 = Xi S 904 110 := (show Xi T33 904 110 = Xi U31 904 110 from w281.x _ _ rfl).trans ( (show Xi U31 904 110 = Xi U30 904 110 from by rw [eU31]; exact Xi_ne (by omega)).trans ( (show Xi U30 904 110 = Xi U29 904 110 from by rw [eU30]; exact Xi_ne (by omega)).trans ( (show Xi U29 904 110 = Xi U28 904 110 from by rw [eU29]; exact Xi_ne (by omega)).trans ( (show Xi U28 904 110 = Xi U27 904 110 from by rw [eU28]; exact Xi_ne (by omega)).trans ((show Xi U27 904 110 = Xi S 904 110 from by rw [eU27]; exact Xi_ne (by omega)))))))
            have w324 : Xi T33 904 112 = Xi S 904 112 := (show Xi T33 904 112 = Xi U31 904 112 from w281.x _ _ rfl).trans ( (show Xi U31 904 112 = Xi U30 904 112 from by rw [eU31]; exact Xi_ne (by omega)).trans ( (show Xi U30 904 112 = Xi U29 904 112 from by rw [eU30]; exact Xi_ne (by omega)).trans ( (show Xi U29 904 112 = Xi U28 904 112 from by rw [eU29]; exact Xi_ne (by omega)).trans ( (show Xi U28 904 112 = Xi U27 904 112 from by rw [eU28]; exact Xi_ne (by omega)).trans ((show Xi U27 904 112 = Xi S 904 112 from by rw [eU27]; exact Xi_ne (by omega)))))))
            have w325 : Xi T33 904 116 = Xi U31 904 116 := (show Xi T33 904 116 = Xi U31 904 116 from w281.x _ _ rfl)
            have w326 : Xi T33 904 15 = Xi S 904 15 := (show Xi T33 904 15 = Xi U31 904 15 from w281.x _ _ rfl).trans ( (show Xi U31 904 15 = Xi U30 904 15 from by rw [eU31]; exact Xi_ne (by omega)).trans ( (show Xi U30 904 15 = Xi U29 904 15 from by rw [eU30]; exact Xi_ne (by omega)).trans ( (show Xi U29 904 15 = Xi U28 904 15 from by rw [eU29]; exact Xi_ne (by omega)).trans ( (show Xi U28 904 15 = Xi U27 904 15 from by rw [eU28]; exact Xi_ne (by omega)).trans ((show Xi U27 904 15 = Xi S 904 15 from by rw [eU27]; exact Xi_ne (by omega)))))))
            have w327 : Xi T33 904 32 = Xi S 904 32 := (show Xi T33 904 32 = Xi U31 904 32 from w281.x _ _ rfl).trans ( (show Xi U31 904 32 = Xi U30 904 32 from by rw [eU31]; exact Xi_ne (by omega)).trans ( (show Xi U30 904 32 = Xi U29 904 32 from by rw [eU30]; exact Xi_ne (by omega)).trans ( (show Xi U29 904 32 = Xi U28 904 32 from by rw [eU29]; exact Xi_ne (by omega)).trans ( (show Xi U28 904 32 = Xi U27 904 32 from by rw [eU28]; exact Xi_ne (by omega)).trans ((show Xi U27 904 32 = Xi S 904 32 from by rw [eU27]; exact Xi_ne (by omega)))))))
            have w328 : Xi T33 904 70 = Xi S 904 70 := (show Xi T33 904 70 = Xi U31 904 70 from w281.x _ _ rfl).trans ( (show Xi U31 904 70 = Xi U30 904 70 from by rw [eU31]; exact Xi_ne (by omega)).trans ( (show Xi U30 904 70 = Xi U29 904 70 from by rw [eU30]; exact Xi_ne (by omega)).trans ( (show Xi U29 904 70 = Xi U28 904 70 from by rw [eU29]; exact Xi_ne (by omega)).trans ( (show Xi U28 904 70 = Xi U27 904 70 from by rw [eU28]; exact Xi_ne (by omega)).trans ((show Xi U27 904 70 = Xi S 904 70 from by rw [eU27]; exact Xi_ne (by omega)))))))
            refine y_callV rfl rfl rfl (t_mo_need__p hHT33 1 4 (Xi T33 950 (((Xi S 904 103)).toNat)) ⟨by omega, by omega⟩ ⟨by omega, by omega⟩ ⟨by omega, by omega⟩ _) ?_
            rintro _ T35 ⟨hHT35, w330, rfl, nt231⟩
            have hFT35 : FR md_mo_actingMeant__2 S T35 := FR.tr hFT33 w330 rfl
            show Pl _ _ _ _ _ _ [] _ _
            have F231 := (by assumption : FR md_mo_need__p T33 T35)
            have C231 : Hid (AMC S T35 l z241) := ⟨by omega, _, B199.o, F231, by rw [← p230]; first | (rw [if_pos (by omega)]; exact nt231.trans (if_neg (by decide))) | (rw [if_neg (by omega)]; exact nt231.trans (if_pos rfl))⟩
            refine y_aload_n rfl rfl ?_
            refine y_gfr rfl rfl rfl rfl rfl (hHT35.r 904 50 942 rfl) ?_
            refine y_iload_n rfl rfl ?_
            refine y_ialoadP (n := 12) rfl rfl (by unfold rg; omega) (fun w331 w332 => ?_)
            have w333 : (Xi T35 942 ((z241).toNat)) = (Xi T33 942 ((z241).toNat)) := (show Xi T35 942 ((z241).toNat) = Xi T33 942 ((z241).toNat) from w330.x _ _ rfl)
            rw [w333]
            have k239 : (Xi T33 942 ((z241).toNat)) = Xi S 942 (z241).toNat := by first | exact k214 | exact (hFT33.cx 942 rfl _).1
            refine y_if_ge rfl rfl (by unfold rg; omega) (fun w334 => ?_) (fun w335 => ?_)
            · refine y_aload_n rfl rfl ?_
              refine y_iload rfl rfl ?_
              refine y_iconst rfl ?_
              have w337 : Xi T35 904 103 = Xi S 904 103 := (show Xi T35 904 103 = Xi T33 904 103 from w330.x _ _ rfl).trans ( (show Xi T33 904 103 = Xi U31 904 103 from w281.x _ _ rfl).trans ( (show Xi U31 904 103 = Xi U30 904 103 from by rw [eU31]; exact Xi_ne (by omega)).trans ( (show Xi U30 904 103 = Xi U29 904 103 from by rw [eU30]; exact Xi_ne (by omega)).trans ( (show Xi U29 904 103 = Xi U28 904 103 from by rw [eU29]; exact Xi_ne (by omega)).trans ( (show Xi U28 904 103 = Xi U27 904 103 from by rw [eU28]; exact Xi_ne (by omega)).trans ((show Xi U27 904 103 = Xi S 904 103 from by rw [eU27]; exact Xi_ne (by omega))))))))
              have w342 : Xi T35 904 15 = Xi S 904 15 := (show Xi T35 904 15 = Xi T33 904 15 from w330.x _ _ rfl).trans ( (show Xi T33 904 15 = Xi U31 904 15 from w281.x _ _ rfl).trans ( (show Xi U31 904 15 = Xi U30 904 15 from by rw [eU31]; exact Xi_ne (by omega)).trans ( (show Xi U30 904 15 = Xi U29 904 15 from by rw [eU30]; exact Xi_ne (by omega)).trans ( (show Xi U29 904 15 = Xi U28 904 15 from by rw [eU29]; exact Xi_ne (by omega)).trans ( (show Xi U28 904 15 = Xi U27 904 15 from by rw [eU28]; exact Xi_ne (by omega)).trans ((show Xi U27 904 15 = Xi S 904 15 from by rw [eU27]; exact Xi_ne (by omega))))))))
              refine y_callV rfl rfl rfl (t_mo_meansRun__p hHT35 (Xi S 904 103) 4 ⟨by omega, by omega⟩ ⟨by omega, by omega⟩ (by first | assumption | exact (LSP_FR hFT35 rfl rfl (by assumption : LSP S))) (by first | assumption | omega) (by first | assumption | exact (RBD_FR hFT35 rfl (by assumption : RBD S))) _) ?_
              rintro _ _ ⟨rfl, z345, rfl, w345, f248⟩
              show Pl _ _ _ _ _ _ [iv z345] _ _
              have m248 : z345 = rnR S (Xi S 904 103) 4 := by have u := f248; rw [rnR_sm (SMR_FR hFT35 rfl rfl), a176] at u; exact u
              refine y_istore rfl rfl rfl ?_
              refine y_iload rfl rfl ?_
              refine y_iconst rfl ?_
              refine y_icmp_eq rfl rfl (by unfold rg; omega) (by unfold rg; omega) (fun w346 => ?_) (fun w347 => ?_)
              · refine y_iconst rfl ?_
                refine y_istore rfl rfl rfl ?_
                have w348 : Xi T35 904 102 = Xi S 904 102 := (show Xi T35 904 102 = Xi T33 904 102 from w330.x _ _ rfl).trans ( (show Xi T33 904 102 = Xi U31 904 102 from w281.x _ _ rfl).trans ( (show Xi U31 904 102 = Xi U30 904 102 from by rw [eU31]; exact Xi_ne (by omega)).trans ( (show Xi U30 904 102 = Xi U29 904 102 from by rw [eU30]; exact Xi_ne (by omega)).trans ( (show Xi U29 904 102 = Xi U28 904 102 from by rw [eU29]; exact Xi_ne (by omega)).trans ( (show Xi U28 904 102 = Xi U27 904 102 from by rw [eU28]; exact Xi_ne (by omega)).trans ((show Xi U27 904 102 = Xi S 904 102 from by rw [eU27]; exact Xi_ne (by omega))))))))
                have w350 : Xi T35 904 109 = Xi S 904 109 := (show Xi T35 904 109 = Xi T33 904 109 from w330.x _ _ rfl).trans ( (show Xi T33 904 109 = Xi U31 904 109 from w281.x _ _ rfl).trans ( (show Xi U31 904 109 = Xi U30 904 109 from by rw [eU31]; exact Xi_ne (by omega)).trans ( (show Xi U30 904 109 = Xi U29 904 109 from by rw [eU30]; exact Xi_ne (by omega)).trans ( (show Xi U29 904 109 = Xi U28 904 109 from by rw [eU29]; exact Xi_ne (by omega)).trans ( (show Xi U28 904 109 = Xi U27 904 109 from by rw [eU28]; exact Xi_ne (by omega)).trans ((show Xi U27 904 109 = Xi S 904 109 from by rw [eU27]; exact Xi_ne (by omega))))))))
                have w351 : Xi T35 904 110 = Xi S 904 110 := (show Xi T35 904 110 = Xi T33 904 110 from w330.x _ _ rfl).trans ( (show Xi T33 904 110 = Xi U31 904 110 from w281.x _ _ rfl).trans ( (show Xi U31 904 110 = Xi U30 904 110 from by rw [eU31]; exact Xi_ne (by omega)).trans ( (show Xi U30 904 110 = Xi U29 904 110 from by rw [eU30]; exact Xi_ne (by omega)).trans ( (show Xi U29 904 110 = Xi U28 904 110 from by rw [eU29]; exact Xi_ne (by omega)).trans ( (show Xi U28 904 110 = Xi U27 904 110 from by rw [eU28]; exact Xi_ne (by omega)).trans ((show Xi U27 904 110 = Xi S 904 110 from by rw [eU27]; exact Xi_ne (by omega))))))))
                have w352 : Xi T35 904 112 = Xi S 904 112 := (show Xi T35 904 112 = Xi T33 904 112 from w330.x _ _ rfl).trans ( (show Xi T33 904 112 = Xi U31 904 112 from w281.x _ _ rfl).trans ( (show Xi U31 904 112 = Xi U30 904 112 from by rw [eU31]; exact Xi_ne (by omega)).trans ( (show Xi U30 904 112 = Xi U29 904 112 from by rw [eU30]; exact Xi_ne (by omega)).trans ( (show Xi U29 904 112 = Xi U28 904 112 from by rw [eU29]; exact Xi_ne (by omega)).trans ( (show Xi U28 904 112 = Xi U27 904 112 from by rw [eU28]; exact Xi_ne (by omega)).trans ((show Xi U27 904 112 = Xi S 904 112 from by rw [eU27]; exact Xi_ne (by omega))))))))
                have w353 : Xi T35 904 116 = Xi U31 904 116 := (show Xi T35 904 116 = Xi T33 904 116 from w330.x _ _ rfl).trans ((show Xi T33 904 116 = Xi U31 904 116 from w281.x _ _ rfl))
                have w355 : Xi T35 904 32 = Xi S 904 32 := (show Xi T35 904 32 = Xi T33 904 32 from w330.x _ _ rfl).trans ( (show Xi T33 904 32 = Xi U31 904 32 from w281.x _ _ rfl).trans ( (show Xi U31 904 32 = Xi U30 904 32 from by rw [eU31]; exact Xi_ne (by omega)).trans ( (show Xi U30 904 32 = Xi U29 904 32 from by rw [eU30]; exact Xi_ne (by omega)).trans ( (show Xi U29 904 32 = Xi U28 904 32 from by rw [eU29]; exact Xi_ne (by omega)).trans ( (show Xi U28 904 32 = Xi U27 904 32 from by rw [eU28]; exact Xi_ne (by omega)).trans ((show Xi U27 904 32 = Xi S 904 32 from by rw [eU27]; exact Xi_ne (by omega))))))))
                have w356 : Xi T35 904 70 = Xi S 904 70 := (show Xi T35 904 70 = Xi T33 904 70 from w330.x _ _ rfl).trans ( (show Xi T33 904 70 = Xi U31 904 70 from w281.x _ _ rfl).trans ( (show Xi U31 904 70 = Xi U30 904 70 from by rw [eU31]; exact Xi_ne (by omega)).trans ( (show Xi U30 904 70 = Xi U29 904 70 from by rw [eU30]; exact Xi_ne (by omega)).trans ( (show Xi U29 904 70 = Xi U28 904 70 from by rw [eU29]; exact Xi_ne (by omega)).trans ( (show Xi U28 904 70 = Xi U27 904 70 from by rw [eU28]; exact Xi_ne (by omega)).trans ((show Xi U27 904 70 = Xi S 904 70 from by rw [eU27]; exact Xi_ne (by omega))))))))
                exact Pl_weak (C287 T35 hHT35 hFT35 (z241) ((Xi S 904 103)) ((-1)) (by omega) (by omega) (by omega) (a176) (by unfold amo; first | (have u := b273; rw [← b273, ← m248]; first | exact (if_pos ⟨by omega, by omega⟩).symm | exact (if_neg (by omega)).symm) | (rw [← m248]; exact (if_neg (by omega)).symm)) (by omega) (C231)) (by omega) (And.intro rfl (And.intro rfl (And.intro rfl (And.intro rfl (And.intro rfl (True.intro))))))
              · refine y_aload_n rfl rfl ?_
                refine y_aload_n rfl rfl ?_
                refine y_gfr rfl rfl rfl rfl rfl (hHT35.r 904 20 918 rfl) ?_
                refine y_iload rfl rfl ?_
                refine y_ialoadP (n := 24) rfl rfl (by unfold rg; omega) (fun w357 w358 => ?_)
                have w359 : -2147483648 ≤ (Xi T35 918 ((z345).toNat)) ∧ (Xi T35 918 ((z345).toNat)) ≤ 2147483647 := Xi_rgI
                have h266 : (Xi T35 918 ((z345).toNat)) = Xi S 918 (rnR S (Xi S 904 103) 4).toNat := by rw [← m248]; exact (hFT35.cx 918 rfl _).1
                have r266 : -1 ≤ (Xi T35 918 ((z345).toNat)) ∧ (Xi T35 918 ((z345).toNat)) ≤ 15 := by rw [h266]; exact hkx.o _
                refine y_aload_n rfl rfl ?_
                refine y_gfr rfl rfl rfl rfl rfl (hHT35.r 904 50 942 rfl) ?_
                refine y_iload_n rfl rfl ?_
                refine y_ialoadP (n := 12) rfl rfl (by unfold rg; omega) (fun w360 w361 => ?_)
                have w362 : (Xi T35 942 ((z241).toNat)) = (Xi T33 942 ((z241).toNat)) := (show Xi T35 942 ((z241).toNat) = Xi T33 942 ((z241).toNat) from w330.x _ _ rfl)
                rw [w362]
                have k272 : (Xi T33 942 ((z241).toNat)) = Xi S 942 (z241).toNat := by first | exact k239 | exact (hFT33.cx 942 rfl _).1
                refine y_callV rfl rfl rfl (t_mo_isBelow__p hHT35 (Xi T35 918 ((z345).toNat)) (Xi T33 942 ((z241).toNat)) ⟨by omega, by omega⟩ ⟨by omega, by omega⟩ (by first | assumption | exact (ABV_FR hFT35 rfl (by assumption : ABV S))) _) ?_
                rintro _ _ ⟨rfl, z372, rfl, w372, f273⟩
                show Pl _ _ _ _ _ _ [iv z372] _ _
                have b273 : z372 = blR S (Xi S 918 (rnR S (Xi S 904 103) 4).toNat) (Xi S 942 (z241).toNat) := by have u := f273; rw [blR_fr hFT35 rfl, h266, k272] at u; exact u
                refine y_if_eq rfl rfl (by unfold rg; omega) (fun w373 => ?_) (fun w374 => ?_)
                · refine y_iconst rfl ?_
                  refine y_istore rfl rfl rfl ?_
                  have w375 : Xi T35 904 102 = Xi S 904 102 := (show Xi T35 904 102 = Xi T33 904 102 from w330.x _ _ rfl).trans ( (show Xi T33 904 102 = Xi U31 904 102 from w281.x _ _ rfl).trans ( (show Xi U31 904 102 = Xi U30 904 102 from by rw [eU31]; exact Xi_ne (by omega)).trans ( (show Xi U30 904 102 = Xi U29 904 102 from by rw [eU30]; exact Xi_ne (by omega)).trans ( (show Xi U29 904 102 = Xi U28 904 102 from by rw [eU29]; exact Xi_ne (by omega)).trans ( (show Xi U28 904 102 = Xi U27 904 102 from by rw [eU28]; exact Xi_ne (by omega)).trans ((show Xi U27 904 102 = Xi S 904 102 from by rw [eU27]; exact Xi_ne (by omega))))))))
                  have w377 : Xi T35 904 109 = Xi S 904 109 := (show Xi T35 904 109 = Xi T33 904 109 from w330.x _ _ rfl).trans ( (show Xi T33 904 109 = Xi U31 904 109 from w281.x _ _ rfl).trans ( (show Xi U31 904 109 = Xi U30 904 109 from by rw [eU31]; exact Xi_ne (by omega)).trans ( (show Xi U30 904 109 = Xi U29 904 109 from by rw [eU30]; exact Xi_ne (by omega)).trans ( (show Xi U29 904 109 = Xi U28 904 109 from by rw [eU29]; exact Xi_ne (by omega)).trans ( (show Xi U28 904 109 = Xi U27 904 109 from by rw [eU28]; exact Xi_ne (by omega)).trans ((show Xi U27 904 109 = Xi S 904 109 from by rw [eU27]; exact Xi_ne (by omega))))))))
                  have w378 : Xi T35 904 110 = Xi S 904 110 := (show Xi T35 904 110 = Xi T33 904 110 from w330.x _ _ rfl).trans ( (show Xi T33 904 110 = Xi U31 904 110 from w281.x _ _ rfl).trans ( (show Xi U31 904 110 = Xi U30 904 110 from by rw [eU31]; exact Xi_ne (by omega)).trans ( (show Xi U30 904 110 = Xi U29 904 110 from by rw [eU30]; exact Xi_ne (by omega)).trans ( (show Xi U29 904 110 = Xi U28 904 110 from by rw [eU29]; exact Xi_ne (by omega)).trans ( (show Xi U28 904 110 = Xi U27 904 110 from by rw [eU28]; exact Xi_ne (by omega)).trans ((show Xi U27 904 110 = Xi S 904 110 from by rw [eU27]; exact Xi_ne (by omega))))))))
                  have w379 : Xi T35 904 112 = Xi S 904 112 := (show Xi T35 904 112 = Xi T33 904 112 from w330.x _ _ rfl).trans ( (show Xi T33 904 112 = Xi U31 904 112 from w281.x _ _ rfl).trans ( (show Xi U31 904 112 = Xi U30 904 112 from by rw [eU31]; exact Xi_ne (by omega)).trans ( (show Xi U30 904 112 = Xi U29 904 112 from by rw [eU30]; exact Xi_ne (by omega)).trans ( (show Xi U29 904 112 = Xi U28 904 112 from by rw [eU29]; exact Xi_ne (by omega)).trans ( (show Xi U28 904 112 = Xi U27 904 112 from by rw [eU28]; exact Xi_ne (by omega)).trans ((show Xi U27 904 112 = Xi S 904 112 from by rw [eU27]; exact Xi_ne (by omega))))))))
                  have w380 : Xi T35 904 116 = Xi U31 904 116 := (show Xi T35 904 116 = Xi T33 904 116 from w330.x _ _ rfl).trans ((show Xi T33 904 116 = Xi U31 904 116 from w281.x _ _ rfl))
                  have w382 : Xi T35 904 32 = Xi S 904 32 := (show Xi T35 904 32 = Xi T33 904 32 from w330.x _ _ rfl).trans ( (show Xi T33 904 32 = Xi U31 904 32 from w281.x _ _ rfl).trans ( (show Xi U31 904 32 = Xi U30 904 32 from by rw [eU31]; exact Xi_ne (by omega)).trans ( (show Xi U30 904 32 = Xi U29 904 32 from by rw [eU30]; exact Xi_ne (by omega)).trans ( (show Xi U29 904 32 = Xi U28 904 32 from by rw [eU29]; exact Xi_ne (by omega)).trans ( (show Xi U28 904 32 = Xi U27 904 32 from by rw [eU28]; exact Xi_ne (by omega)).trans ((show Xi U27 904 32 = Xi S 904 32 from by rw [eU27]; exact Xi_ne (by omega))))))))
                  have w383 : Xi T35 904 70 = Xi S 904 70 := (show Xi T35 904 70 = Xi T33 904 70 from w330.x _ _ rfl).trans ( (show Xi T33 904 70 = Xi U31 904 70 from w281.x _ _ rfl).trans ( (show Xi U31 904 70 = Xi U30 904 70 from by rw [eU31]; exact Xi_ne (by omega)).trans ( (show Xi U30 904 70 = Xi U29 904 70 from by rw [eU30]; exact Xi_ne (by omega)).trans ( (show Xi U29 904 70 = Xi U28 904 70 from by rw [eU29]; exact Xi_ne (by omega)).trans ( (show Xi U28 904 70 = Xi U27 904 70 from by rw [eU28]; exact Xi_ne (by omega)).trans ((show Xi U27 904 70 = Xi S 904 70 from by rw [eU27]; exact Xi_ne (by omega))))))))
                  exact Pl_weak (C287 T35 hHT35 hFT35 (z241) ((Xi S 904 103)) ((-1)) (by omega) (by omega) (by omega) (a176) (by unfold amo; first | (have u := b273; rw [← b273, ← m248]; first | exact (if_pos ⟨by omega, by omega⟩).symm | exact (if_neg (by omega)).symm) | (rw [← m248]; exact (if_neg (by omega)).symm)) (by omega) (C231)) (by omega) (And.intro rfl (And.intro rfl (And.intro rfl (And.intro rfl (And.intro rfl (True.intro))))))
                · refine y_iload rfl rfl ?_
                  refine y_goto rfl rfl ?_
                  refine y_istore rfl rfl rfl ?_
                  have w384 : Xi T35 904 102 = Xi S 904 102 := (show Xi T35 904 102 = Xi T33 904 102 from w330.x _ _ rfl).trans ( (show Xi T33 904 102 = Xi U31 904 102 from w281.x _ _ rfl).trans ( (show Xi U31 904 102 = Xi U30 904 102 from by rw [eU31]; exact Xi_ne (by omega)).trans ( (show Xi U30 904 102 = Xi U29 904 102 from by rw [eU30]; exact Xi_ne (by omega)).trans ( (show Xi U29 904 102 = Xi U28 904 102 from by rw [eU29]; exact Xi_ne (by omega)).trans ( (show Xi U28 904 102 = Xi U27 904 102 from by rw [eU28]; exact Xi_ne (by omega)).trans ((show Xi U27 904 102 = Xi S 904 102 from by rw [eU27]; exact Xi_ne (by omega))))))))
                  have w386 : Xi T35 904 109 = Xi S 904 109 := (show Xi T35 904 109 = Xi T33 904 109 from w330.x _ _ rfl).trans ( (show Xi T33 904 109 = Xi U31 904 109 from w281.x _ _ rfl).trans ( (show Xi U31 904 109 = Xi U30 904 109 from by rw [eU31]; exact Xi_ne (by omega)).trans ( (show Xi U30 904 109 = Xi U29 904 109 from by rw [eU30]; exact Xi_ne (by omega)).trans ( (show Xi U29 904 109 = Xi U28 904 109 from by rw [eU29]; exact Xi_ne (by omega)).trans ( (show Xi U28 904 109 = Xi U27 904 109 from by rw [eU28]; exact Xi_ne (by omega)).trans ((show Xi U27 904 109 = Xi S 904 109 from by rw [eU27]; exact Xi_ne (by omega))))))))
                  have w387 : Xi T35 904 110 = Xi S 904 110 := (show Xi T35 904 110 = Xi T33 904 110 from w330.x _ _ rfl).trans ( (show Xi T33 904 110 = Xi U31 904 110 from w281.x _ _ rfl).trans ( (show Xi U31 904 110 = Xi U30 904 110 from by rw [eU31]; exact Xi_ne (by omega)).trans ( (show Xi U30 904 110 = Xi U29 904 110 from by rw [eU30]; exact Xi_ne (by omega)).trans ( (show Xi U29 904 110 = Xi U28 904 110 from by rw [eU29]; exact Xi_ne (by omega)).trans ( (show Xi U28 904 110 = Xi U27 904 110 from by rw [eU28]; exact Xi_ne (by omega)).trans ((show Xi U27 904 110 = Xi S 904 110 from by rw [eU27]; exact Xi_ne (by omega))))))))
                  have w388 : Xi T35 904 112 = Xi S 904 112 := (show Xi T35 904 112 = Xi T33 904 112 from w330.x _ _ rfl).trans ( (show Xi T33 904 112 = Xi U31 904 112 from w281.x _ _ rfl).trans ( (show Xi U31 904 112 = Xi U30 904 112 from by rw [eU31]; exact Xi_ne (by omega)).trans ( (show Xi U30 904 112 = Xi U29 904 112 from by rw [eU30]; exact Xi_ne (by omega)).trans ( (show Xi U29 904 112 = Xi U28 904 112 from by rw [eU29]; exact Xi_ne (by omega)).trans ( (show Xi U28 904 112 = Xi U27 904 112 from by rw [eU28]; exact Xi_ne (by omega)).trans ((show Xi U27 904 112 = Xi S 904 112 from by rw [eU27]; exact Xi_ne (by omega))))))))
                  have w389 : Xi T35 904 116 = Xi U31 904 116 := (show Xi T35 904 116 = Xi T33 904 116 from w330.x _ _ rfl).trans ((show Xi T33 904 116 = Xi U31 904 116 from w281.x _ _ rfl))
                  have w391 : Xi T35 904 32 = Xi S 904 32 := (show Xi T35 904 32 = Xi T33 904 32 from w330.x _ _ rfl).trans ( (show Xi T33 904 32 = Xi U31 904 32 from w281.x _ _ rfl).trans ( (show Xi U31 904 32 = Xi U30 904 32 from by rw [eU31]; exact Xi_ne (by omega)).trans ( (show Xi U30 904 32 = Xi U29 904 32 from by rw [eU30]; exact Xi_ne (by omega)).trans ( (show Xi U29 904 32 = Xi U28 904 32 from by rw [eU29]; exact Xi_ne (by omega)).trans ( (show Xi U28 904 32 = Xi U27 904 32 from by rw [eU28]; exact Xi_ne (by omega)).trans ((show Xi U27 904 32 = Xi S 904 32 from by rw [eU27]; exact Xi_ne (by omega))))))))
                  have w392 : Xi T35 904 70 = Xi S 904 70 := (show Xi T35 904 70 = Xi T33 904 70 from w330.x _ _ rfl).trans ( (show Xi T33 904 70 = Xi U31 904 70 from w281.x _ _ rfl).trans ( (show Xi U31 904 70 = Xi U30 904 70 from by rw [eU31]; exact Xi_ne (by omega)).trans ( (show Xi U30 904 70 = Xi U29 904 70 from by rw [eU30]; exact Xi_ne (by omega)).trans ( (show Xi U29 904 70 = Xi U28 904 70 from by rw [eU29]; exact Xi_ne (by omega)).trans ( (show Xi U28 904 70 = Xi U27 904 70 from by rw [eU28]; exact Xi_ne (by omega)).trans ((show Xi U27 904 70 = Xi S 904 70 from by rw [eU27]; exact Xi_ne (by omega))))))))
                  exact Pl_weak (C287 T35 hHT35 hFT35 (z241) ((Xi S 904 103)) (z345) (by omega) (by omega) (by omega) (a176) (by unfold amo; first | (have u := b273; rw [← b273, ← m248]; first | exact (if_pos ⟨by omega, by omega⟩).symm | exact (if_neg (by omega)).symm) | (rw [← m248]; exact (if_neg (by omega)).symm)) (by omega) (C231)) (by omega) (And.intro rfl (And.intro rfl (And.intro rfl (And.intro rfl (And.intro rfl (True.intro))))))
            · exfalso; omega
        · exfalso; omega
    · exfalso; omega
  · exfalso; omega
end
section
/-! rules of the reference: the head, whatever it is -/
theorem ms_kr {S : sS} {t n : Int} (h15 : 0 ≤ Xi S 904 15) (hx : LXR S) (hk : ∀ k : Nat, (k : Int) < Xi S 904 15 → Xi S 914 k ≤ 1 → Xi S 915 k ≤ 15) : -1 ≤ msR S t n 0 ∧ msR S t n 0 ≤ 15 := by
  unfold msR
  by_cases q : nmR S t n ≠ -1 ∧ Xi S 914 (nmR S t n).toNat = 0
  · rw [if_pos q]
    have g := nmR_rg (S := S) (t := t) (n := n) h15
    have a := hx (nmR S t n).toNat (by omega)
    have b := hk (nmR S t n).toNat (by omega) (by omega)
    omega
  · rw [if_neg q]; omega
theorem acA_x {S : sS} {l : Int} : Xi (acA S l) 904 116 = -1 := by unfold acA; exact Xi_same ⟨by decide, by decide⟩
theorem acA_sm {S : sS} {l : Int} : SMR S (acA S l) := by
  unfold acA
  exact SMR_w (SMR_w (SMR_w (SMR_w (SMR_w SMR.rf rfl (by omega) (by omega)) rfl (by omega) (by omega)) rfl (by omega) (by omega)) rfl (by omega) (by omega)) rfl (by omega) (by omega)
def AMX (S S1 : sS) (l : Int) : Prop := (Xi S 904 70 = 6 → S1 = acA S l) ∧ (Xi S 904 70 ≠ 6 → Xi S 904 103 = -1 → AMA S S1 l) ∧ (Xi S 904 70 ≠ 6 → Xi S 904 103 ≠ -1 → AMO S S1 l)
theorem nkA_r {S B : sS} (hk : ∀ j : Nat, -1 ≤ Xi S 918 j ∧ Xi S 918 j ≤ 15) (ha : ∀ j : Nat, -2 ≤ Xi S 942 j ∧ Xi S 942 j ≤ 15) : -1 ≤ nkA S B ∧ nkA S B ≤ 15 := by
  unfold nkA
  have a := hk (Xi B 904 129).toNat
  have b := ha (Xi B 904 128).toNat
  split
  · exact a
  · split <;> omega
theorem ama_nk {S S1 : sS} {l : Int} (hk : ∀ j : Nat, -1 ≤ Xi S 918 j ∧ Xi S 918 j ≤ 15) (ha : ∀ j : Nat, -2 ≤ Xi S 942 j ∧ Xi S 942 j ≤ 15) (h : AMA S S1 l) : -1 ≤ Xi S1 904 116 ∧ Xi S1 904 116 ≤ 15 := by
  obtain ⟨B, C, D, n, _, f1, _, f2, _, f3, h0, h1⟩ := h
  by_cases q : 0 < n
  · rw [h1 q, Xi_same (by have := nkA_r (B := B) hk ha; exact ⟨by omega, by omega⟩)]
    exact nkA_r hk ha
  · rw [h0 q, f3.x 904 116 rfl, f2.x 904 116 rfl, f1.x 904 116 rfl, acA_x]
    omega
theorem amc_sm {S C : sS} {l a : Int} (h : AMC S C l a) : SMR S C ∧ Xi C 904 116 = -1 := by
  obtain ⟨_, B, ⟨_, f1, _⟩, f2, _⟩ := h
  exact ⟨acA_sm.tr ((SMR_FR f1 rfl rfl).tr (SMR_FR f2 rfl rfl)), by rw [f2.x 904 116 rfl, f1.x 904 116 rfl, acA_x]⟩
theorem nkO_r {S D E : sS} {a f n al : Int} (hk : ∀ j : Nat, -1 ≤ Xi S 918 j ∧ Xi S 918 j ≤ 15) (h15 : 0 ≤ Xi S 904 15) (hx : LXR S) (hkk : ∀ k : Nat, (k : Int) < Xi S 904 15 → Xi S 914 k ≤ 1 → Xi S 915 k ≤ 15) (sm : SMR S D) (z : Xi D 904 109 = 0) (o : (n ≤ 6 → KDS D E f n 0 1 al 4) ∧ (6 < n → E = D)) : -1 ≤ nkO S E a ∧ nkO S E a ≤ 15 := by
  unfold nkO
  have b := hk (amo S a).toNat
  split
  · exact b
  · by_cases q : 0 < Xi E 904 109
    · rw [if_pos q]
      by_cases w : n ≤ 6
      · obtain ⟨k1, k2, k3⟩ := o.1 w
        obtain ⟨m, _, _, _, r1, _⟩ := k3 z (by omega)
        rw [r1]
        unfold dkR
        rw [if_pos rfl, msR_sm sm]
        exact ms_kr h15 hx hkk
      · rw [o.2 (by omega), z] at q; omega
    · rw [if_neg q]; omega
theorem amo_nk {S S1 : sS} {l : Int} (hk : ∀ j : Nat, -1 ≤ Xi S 918 j ∧ Xi S 918 j ≤ 15) (h15 : 0 ≤ Xi S 904 15) (hx : LXR S) (hkk : ∀ k : Nat, (k : Int) < Xi S 904 15 → Xi S 914 k ≤ 1 → Xi S 915 k ≤ 15) (h : AMO S S1 l) : -1 ≤ Xi S1 904 116 ∧ Xi S1 904 116 ≤ 15 := by
  rcases h with ⟨_, f, _⟩ | ⟨a, _, c⟩ | ⟨a, C, _, c, D, E, F, G, e1, o, f1, e2, f2, _, h1, h2⟩
  · rw [f.x 904 116 rfl, acA_x]; omega
  · rw [(amc_sm c).2]; omega
  · have sm : SMR S D := SMR_w (amc_sm c).1 e1 (by omega) (by omega)
    have z : Xi D 904 109 = 0 := by rw [e1]; exact Xi_same ⟨by decide, by decide⟩
    have r := nkO_r (a := a) hk h15 hx hkk sm z o
    have g : Xi (amH S E G l a) 904 116 = nkO S E a := by unfold amH; exact Xi_same ⟨by omega, by omega⟩
    by_cases q : 0 < Xi E 904 109 ∧ amo S a = -1
    · rw [h2 q, cpI_ne (Or.inl (by decide)), Xi_ne (by omega), Xi_ne (by omega), g]; exact r
    · rw [h1 q, g]; exact r
def AGB (S : sS) : Prop := Xi S 904 70 ≠ 6 → (0 ≤ Xi S 904 102 ∧ Xi S 904 102 ≤ 2599) ∧ (0 ≤ Xi S 950 (Xi S 904 102).toNat ∧ Xi S 950 (Xi S 904 102).toNat ≤ 6000 ∧ 0 ≤ Xi S 951 (Xi S 904 102).toNat ∧ Xi S 951 (Xi S 904 102).toNat ≤ 6000) ∧ (Xi S 904 103 ≠ -1 → (0 ≤ Xi S 904 103 ∧ Xi S 904 103 ≤ 2599) ∧ 0 ≤ Xi S 950 (Xi S 904 103).toNat ∧ Xi S 950 (Xi S 904 103).toNat ≤ 5900 ∧ 0 ≤ Xi S 951 (Xi S 904 103).toNat ∧ Xi S 951 (Xi S 904 103).toNat ≤ 6000)
def md_mo_actingMeant__p : List rec := md_mo_actingMeant__1
abbrev Q_mo_actingMeant__p (S : sS) (l : Int) : pst := fun r S1 => RI S1 ∧ FR md_mo_actingMeant__p S S1 ∧ (r = none ∧ (AMX S S1 l) ∧ (-1 ≤ Xi S1 904 116 ∧ Xi S1 904 116 ≤ 15))
set_option maxRecDepth 100000 in
theorem t_mo_actingMeant__p {S : sS} (hH : RI S) (l : Int) (hl : 0 ≤ l ∧ l ≤ 23) (hLS : LSP S) (h15 : 0 ≤ Xi S 904 15) (hRB : RBD S) (hB : ABV S) (hkx : Hid (∀ j : Nat, -1 ≤ Xi S 918 j ∧ Xi S 918 j ≤ 15)) (hLX : LXR S) (hp32 : 0 ≤ Xi S 904 32 ∧ Xi S 904 32 ≤ 12) (hkk : Hid (∀ k : Nat, (k : Int) < Xi S 904 15 → Xi S 914 k ≤ 1 → Xi S 915 k ≤ 15)) (hak : Hid (∀ j : Nat, -2 ≤ Xi S 942 j ∧ Xi S 942 j ≤ 15)) (hgb : Hid (AGB S)) (d : Nat) : Mp lay0 (d + 11) m_mo_actingMeant [.ref 904, iv l] S (Q_mo_actingMeant__p S l) := by
  by_cases z : Xi S 904 70 = 6
  · exact Mp_w (t_mo_actingMeant__6 hH l hl z d) (fun r S1 o => ⟨o.1, o.2.1, o.2.2.1, ⟨fun _ => o.2.2.2, fun w => absurd z w, fun w => absurd z w⟩, by rw [o.2.2.2, acA_x]; omega⟩)
  · obtain ⟨g1, g2, g3⟩ := hgb.o z
    by_cases y : Xi S 904 103 = -1
    · exact Mp_w (t_mo_actingMeant__1 hH l hl hLS h15 hB hkx z y g1 g2 d) (fun r S1 o => ⟨o.1, o.2.1, o.2.2.1, ⟨fun w => absurd w z, fun _ _ => o.2.2.2, fun _ w => absurd y w⟩, ama_nk hkx.o hak.o o.2.2.2⟩)
    · exact Mp_w (t_mo_actingMeant__2 hH l hl hLS h15 hRB hB hkx hLX hp32 hkk hak z y (g3 y).1 (g3 y).2 d) (fun r S1 o => ⟨o.1, o.2.1, o.2.2.1, ⟨fun w => absurd w z, fun _ w => absurd w y, fun _ _ => o.2.2.2⟩, amo_nk hkx.o h15 hLX hkk.o o.2.2.2⟩)
end
