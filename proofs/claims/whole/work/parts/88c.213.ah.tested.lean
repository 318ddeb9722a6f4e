section
def md_mo_testedWhat__t : List rec := [(904, 905, 8, 9), (904, 905, 65, 66), (904, 905, 66, 67), (904, 905, 69, 70), (904, 905, 78, 79), (950, 951, 0, 100000), (951, 952, 0, 100000), (952, 953, 0, 100000), (953, 954, 0, 100000), (957, 958, 0, 100000), (960, 961, 0, 100000)]
abbrev Q_mo_testedWhat__t (S : sS) (isNow : Int) : pst := fun r S1 => RI S1 ∧ FR md_mo_testedWhat__t S S1 ∧ (r = none ∧ (Xi S1 904 65 = 0 → Xi S 904 65 = 0 ∧ (0 ≤ Xi S 904 8 ∧ Xi S 904 8 ≤ 5001) ∧ TWE (tkR S) S1 isNow (Xi S 904 8) (Xi S1 904 8) (Xi S 953 (Xi S 904 93).toNat) (Xi S1 952 (Xi S 904 93).toNat) (Xi S1 953 (Xi S 904 93).toNat) (Xi S1 957 (Xi S 904 93).toNat) (Xi S1 960 (Xi S 904 93).toNat)) ∧ (RUNK S S1) ∧ (KTE S S1))
set_option maxRecDepth 100000 in
theorem t_mo_testedWhat__t {S : sS} (hH : RI S) (isNow : Int) (hisNow : 0 ≤ isNow ∧ isNow ≤ 1) (h69 : 0 ≤ Xi S 904 69) (d : Nat) : Mp lay0 (d + 4) m_mo_testedWhat [.ref 904, iv isNow] S (Q_mo_testedWhat__t S isNow) := by
  refine Mp_R rfl rfl (fun fu => ?_)
  have hF : FR md_mo_testedWhat__t S S := FR.rf
  have w1 : -2147483648 ≤ Xi S 904 100 ∧ Xi S 904 100 ≤ 2147483647 := Xi_rgI
  have w2 : -2147483648 ≤ Xi S 904 101 ∧ Xi S 904 101 ≤ 2147483647 := Xi_rgI
  have w3 : -2147483648 ≤ Xi S 904 65 ∧ Xi S 904 65 ≤ 2147483647 := Xi_rgI
  have w4 : -2147483648 ≤ Xi S 904 69 ∧ Xi S 904 69 ≤ 2147483647 := Xi_rgI
  have w5 : -2147483648 ≤ Xi S 904 78 ∧ Xi S 904 78 ≤ 2147483647 := Xi_rgI
  have w6 : -2147483648 ≤ Xi S 904 8 ∧ Xi S 904 8 ≤ 2147483647 := Xi_rgI
  have w7 : -2147483648 ≤ Xi S 904 93 ∧ Xi S 904 93 ≤ 2147483647 := Xi_rgI
  have w8 : -2147483648 ≤ Xi S 904 99 ∧ Xi S 904 99 ≤ 2147483647 := Xi_rgI
  refine y_iload_n rfl rfl ?_
  refine y_if_ne rfl rfl (by unfold rg; omega) (fun w9 => ?_) (fun w10 => ?_)
  · refine y_aload_n rfl rfl ?_
    have Y84 : Xi S 904 65 = 0 → ¬ (isNow = 0 ∧ (tkR S (Xi S 904 8) = 151 ∨ tkR S (Xi S 904 8) = 152)) := by first | (have u := t18; have a := t8.2 (by omega); have c := t18.2 (by omega); intro b q; omega) | (intro b q; omega)
    refine y_gfr rfl rfl rfl rfl rfl (hH.r 904 82 952 rfl) ?_
    refine y_aload_n rfl rfl ?_
    refine y_gfi rfl rfl rfl rfl rfl ?_
    refine y_iconst rfl ?_
    refine y_iastoreP (n := 1700) rfl rfl (by unfold rg; omega) (fun w11 w12 => ?_)
    obtain ⟨U1, eU1⟩ : ∃ T : sS, T = uI S 952 (((Xi S 904 93)).toNat) (Int32.ofInt 0) := ⟨_, rfl⟩
    rw [← eU1]
    have hHU1 : RI U1 := by rw [eU1]; exact RI_w hH
    have hFU1 : FR md_mo_testedWhat__t S U1 := by rw [eU1]; exact FR.wI hF (mdf_i (r := (952, 953, 0, 100000)) (List.mem_of_getElem? (i := 7) rfl) (inR_i (by omega) (by omega) (by omega) (by omega)))
    have w13 : Xi U1 952 (((Xi S 904 93)).toNat) = 0 := by rw [eU1]; exact Xi_same (by unfold rg; omega)
    have e93 := eU1
    have a93 : Xi U1 904 8 = Xi S 904 8 := by rw [e93, Xi_ne (by omega)]
    have b93 : Xi U1 904 65 = Xi S 904 65 := by rw [e93, Xi_ne (by omega)]
    have h93 := tkR_F7 hFU1 rfl
    refine y_aload_n rfl rfl ?_
    refine y_gfr rfl rfl rfl rfl rfl (hHU1.r 904 83 953 rfl) ?_
    refine y_aload_n rfl rfl ?_
    refine y_gfi rfl rfl rfl rfl rfl ?_
    have w14 : (Xi U1 904 93) = (Xi S 904 93) := (show Xi U1 904 93 = Xi S 904 93 from by rw [eU1]; exact Xi_ne (by omega))
    rw [w14]
    refine y_iload_n rfl rfl ?_
    refine y_if_ne rfl rfl (by unfold rg; omega) (fun w15 => ?_) (fun w16 => ?_)
    · refine y_iconst rfl ?_
      refine y_bastoreZP (n := 1700) rfl rfl (by unfold rg; omega) ⟨by omega, by omega⟩ (fun w17 w18 => ?_)
      obtain ⟨U2, eU2⟩ : ∃ T : sS, T = uI U1 953 (((Xi S 904 93)).toNat) (Int32.ofInt 0) := ⟨_, rfl⟩
      rw [← eU2]
      have hHU2 : RI U2 := by rw [eU2]; exact RI_w hHU1
      have hFU2 : FR md_mo_testedWhat__t S U2 := by rw [eU2]; exact FR.wI hFU1 (mdf_i (r := (953, 954, 0, 100000)) (List.mem_of_getElem? (i := 8) rfl) (inR_i (by omega) (by omega) (by omega) (by omega)))
      have w19 : Xi U2 953 (((Xi S 904 93)).toNat) = 0 := by rw [eU2]; exact Xi_same (by unfold rg; omega)
      have e120 := eU2
      refine y_aload_n rfl rfl ?_
      refine y_dup rfl rfl ?_
      refine y_gfi rfl rfl rfl rfl rfl ?_
      have w20 : (Xi U2 904 8) = (Xi S 904 8) := (show Xi U2 904 8 = Xi U1 904 8 from by rw [eU2]; exact Xi_ne (by omega)).trans ((show Xi U1 904 8 = Xi S 904 8 from by rw [eU1]; exact Xi_ne (by omega)))
      rw [w20]
      refine y_aload_n rfl rfl ?_
      refine y_gfr rfl rfl rfl rfl rfl (hHU2.r 904 83 953 rfl) ?_
      refine y_aload_n rfl rfl ?_
      refine y_gfi rfl rfl rfl rfl rfl ?_
      have w21 : (Xi U2 904 93) = (Xi S 904 93) := (show Xi U2 904 93 = Xi U1 904 93 from by rw [eU2]; exact Xi_ne (by omega)).trans ((show Xi U1 904 93 = Xi S 904 93 from by rw [eU1]; exact Xi_ne (by omega)))
      rw [w21]
      refine y_baloadP (n := 1700) rfl rfl rfl (by decide) (by unfold rg; omega) (fun w22 w23 => ?_)
      have v134 := xi_of e120 (by unfold rg; omega)
      refine y_if_eq rfl rfl (by unfold rg; omega) (fun w24 => ?_) (fun w25 => ?_)
      · refine y_iconst rfl ?_
        refine y_iadd rfl ?_
        refine y_pfi rfl rfl rfl rfl ?_
        obtain ⟨U3, eU3⟩ : ∃ T : sS, T = uI U2 904 8 (Int32.ofInt ((Xi S 904 8) + 0)) := ⟨_, rfl⟩
        rw [← eU3]
        have hHU3 : RI U3 := by rw [eU3]; exact RI_w hHU2
        have hFU3 : FR md_mo_testedWhat__t S U3 := by rw [eU3]; exact FR.wI hFU2 (mdf_i (r := (904, 905, 8, 9)) (List.mem_of_getElem? (i := 0) rfl) (inR_i (by omega) (by omega) (by omega) (by omega)))
        have w26 : Xi U3 904 8 = ((Xi S 904 8) + 0) := by rw [eU3]; exact Xi_same (by unfold rg; omega)
        have e144 := eU3
        have N144 : Hid (Xi U3 904 65 = 0 → Xi S 904 65 = 0 ∧ ¬ (isNow = 0 ∧ (tkR S (Xi S 904 8) = 151 ∨ tkR S (Xi S 904 8) = 152)) ∧ ((isNow = 0 ∧ tkR S (Xi S 904 8) = 106 ∧ Xi U3 953 (Xi S 904 93).toNat = 1 ∧ Xi U3 904 8 = Xi S 904 8 + 1) ∨ (¬ (isNow = 0 ∧ tkR S (Xi S 904 8) = 106) ∧ Xi U3 953 (Xi S 904 93).toNat = 0 ∧ Xi U3 904 8 = Xi S 904 8))) := fun c => by have c0 : Xi S 904 65 = 0 := (by rw [e144, Xi_ne (by omega), e120, Xi_ne (by omega), e93, Xi_ne (by omega)] at c; exact c); have n := v134; have n1 : Xi U3 953 (Xi S 904 93).toNat = Xi U2 953 (Xi S 904 93).toNat := (by rw [e144, Xi_ne (by omega)]); refine ⟨c0, Y84 c0, ?_⟩; first | (have u := T109.1 (by omega); exact Or.inl ⟨by omega, by omega, by omega, by rw [e144]; refine (Xi_same (by unfold rg; omega)).trans ?_; first | omega | (rw [e120, Xi_ne (by omega)]; omega)⟩) | (have u := T109.2 (by omega); exact Or.inr ⟨by omega, by omega, by rw [e144]; refine (Xi_same (by unfold rg; omega)).trans ?_; first | omega | (rw [e120, Xi_ne (by omega)]; omega)⟩) | exact Or.inr ⟨by omega, by omega, by rw [e144]; refine (Xi_same (by unfold rg; omega)).trans ?_; first | omega | (rw [e120, Xi_ne (by omega)]; omega)⟩
        refine y_aload_n rfl rfl ?_
        have w27 : Xi U3 904 100 = Xi S 904 100 := (show Xi U3 904 100 = Xi U2 904 100 from by rw [eU3]; exact Xi_ne (by omega)).trans ( (show Xi U2 904 100 = Xi U1 904 100 from by rw [eU2]; exact Xi_ne (by omega)).trans ((show Xi U1 904 100 = Xi S 904 100 from by rw [eU1]; exact Xi_ne (by omega))))
        have w28 : Xi U3 904 101 = Xi S 904 101 := (show Xi U3 904 101 = Xi U2 904 101 from by rw [eU3]; exact Xi_ne (by omega)).trans ( (show Xi U2 904 101 = Xi U1 904 101 from by rw [eU2]; exact Xi_ne (by omega)).trans ((show Xi U1 904 101 = Xi S 904 101 from by rw [eU1]; exact Xi_ne (by omega))))
        have w29 : Xi U3 904 65 = Xi S 904 65 := (show Xi U3 904 65 = Xi U2 904 65 from by rw [eU3]; exact Xi_ne (by omega)).trans ( (show Xi U2 904 65 = Xi U1 904 65 from by rw [eU2]; exact Xi_ne (by omega)).trans ((show Xi U1 904 65 = Xi S 904 65 from by rw [eU1]; exact Xi_ne (by omega))))
        have w30 : Xi U3 904 69 = Xi S 904 69 := (show Xi U3 904 69 = Xi U2 904 69 from by rw [eU3]; exact Xi_ne (by omega)).trans ( (show Xi U2 904 69 = Xi U1 904 69 from by rw [eU2]; exact Xi_ne (by omega)).trans ((show Xi U1 904 69 = Xi S 904 69 from by rw [eU1]; exact Xi_ne (by omega))))
        have w31 : Xi U3 904 78 = Xi S 904 78 := (show Xi U3 904 78 = Xi U2 904 78 from by rw [eU3]; exact Xi_ne (by omega)).trans ( (show Xi U2 904 78 = Xi U1 904 78 from by rw [eU2]; exact Xi_ne (by omega)).trans ((show Xi U1 904 78 = Xi S 904 78 from by rw [eU1]; exact Xi_ne (by omega))))
        have w32 : Xi U3 904 93 = Xi S 904 93 := (show Xi U3 904 93 = Xi U2 904 93 from by rw [eU3]; exact Xi_ne (by omega)).trans ( (show Xi U2 904 93 = Xi U1 904 93 from by rw [eU2]; exact Xi_ne (by omega)).trans ((show Xi U1 904 93 = Xi S 904 93 from by rw [eU1]; exact Xi_ne (by omega))))
        have w33 : Xi U3 904 99 = Xi S 904 99 := (show Xi U3 904 99 = Xi U2 904 99 from by rw [eU3]; exact Xi_ne (by omega)).trans ( (show Xi U2 904 99 = Xi U1 904 99 from by rw [eU2]; exact Xi_ne (by omega)).trans ((show Xi U1 904 99 = Xi S 904 99 from by rw [eU1]; exact Xi_ne (by omega))))
        refine y_callV rfl rfl rfl (t_mo_what__t hHU3 _) ?_
        rintro _ T4 ⟨hHT4, w35, rfl, t148, w148, k148⟩
        have hFT4 : FR md_mo_testedWhat__t S T4 := FR.tr hFU3 w35 rfl
        show Pl _ _ _ _ _ _ [] _ _
        have F148 := (by assumption : FR md_mo_what__t U3 T4)
        have k148_ := k148.1
        have T148 := t148
        rw [tkR_F7 hFU3 rfl] at T148
        clear t148
        have r148 : 0 ≤ Xi U3 904 69 := by rw [e144, Xi_ne (by omega), e120, Xi_ne (by omega), e93, Xi_ne (by omega)]; exact h69
        refine y_aload_n rfl rfl ?_
        refine y_gfr rfl rfl rfl rfl rfl (hHT4.r 904 87 957 rfl) ?_
        refine y_aload_n rfl rfl ?_
        refine y_gfi rfl rfl rfl rfl rfl ?_
        have w36 : (Xi T4 904 93) = (Xi S 904 93) := (show Xi T4 904 93 = Xi U3 904 93 from w35.x _ _ rfl).trans ( (show Xi U3 904 93 = Xi U2 904 93 from by rw [eU3]; exact Xi_ne (by omega)).trans ( (show Xi U2 904 93 = Xi U1 904 93 from by rw [eU2]; exact Xi_ne (by omega)).trans ((show Xi U1 904 93 = Xi S 904 93 from by rw [eU1]; exact Xi_ne (by omega)))))
        rw [w36]
        refine y_aload_n rfl rfl ?_
        refine y_gfi rfl rfl rfl rfl rfl ?_
        have w37 : -2147483648 ≤ (Xi T4 904 78) ∧ (Xi T4 904 78) ≤ 2147483647 := Xi_rgI
        refine y_iastoreP (n := 1700) rfl rfl (by unfold rg; omega) (fun w38 w39 => ?_)
        obtain ⟨U5, eU5⟩ : ∃ T : sS, T = uI T4 957 (((Xi S 904 93)).toNat) (Int32.ofInt (Xi T4 904 78)) := ⟨_, rfl⟩
        rw [← eU5]
        have hHU5 : RI U5 := by rw [eU5]; exact RI_w hHT4
        have hFU5 : FR md_mo_testedWhat__t S U5 := by rw [eU5]; exact FR.wI hFT4 (mdf_i (r := (957, 958, 0, 100000)) (List.mem_of_getElem? (i := 9) rfl) (inR_i (by omega) (by omega) (by omega) (by omega)))
        have w40 : Xi U5 957 (((Xi S 904 93)).toNat) = (Xi T4 904 78) := by rw [eU5]; exact Xi_same (by unfold rg; omega)
        have e163 := eU5
        have x163 : Xi U5 904 69 = Xi T4 904 69 := by rw [e163, Xi_ne (by omega)]
        refine y_aload_n rfl rfl ?_
        refine y_gfr rfl rfl rfl rfl rfl (hHU5.r 904 90 960 rfl) ?_
        refine y_aload_n rfl rfl ?_
        refine y_gfi rfl rfl rfl rfl rfl ?_
        have w41 : (Xi U5 904 93) = (Xi S 904 93) := (show Xi U5 904 93 = Xi T4 904 93 from by rw [eU5]; exact Xi_ne (by omega)).trans ( (show Xi T4 904 93 = Xi U3 904 93 from w35.x _ _ rfl).trans ( (show Xi U3 904 93 = Xi U2 904 93 from by rw [eU3]; exact Xi_ne (by omega)).trans ( (show Xi U2 904 93 = Xi U1 904 93 from by rw [eU2]; exact Xi_ne (by omega)).trans ((show Xi U1 904 93 = Xi S 904 93 from by rw [eU1]; exact Xi_ne (by omega))))))
        rw [w41]
        refine y_aload_n rfl rfl ?_
        refine y_gfi rfl rfl rfl rfl rfl ?_
        have w42 : -2147483648 ≤ (Xi U5 904 69) ∧ (Xi U5 904 69) ≤ 2147483647 := Xi_rgI
        refine y_iconst rfl ?_
        refine y_isub rfl ?_
        refine y_iastoreP (n := 1700) rfl rfl (by unfold rg; omega) (fun w43 w44 => ?_)
        obtain ⟨U6, eU6⟩ : ∃ T : sS, T = uI U5 960 (((Xi S 904 93)).toNat) (Int32.ofInt ((Xi U5 904 69) - 1)) := ⟨_, rfl⟩
        rw [← eU6]
        have hHU6 : RI U6 := by rw [eU6]; exact RI_w hHU5
        have hFU6 : FR md_mo_testedWhat__t S U6 := by rw [eU6]; exact FR.wI hFU5 (mdf_i (r := (960, 961, 0, 100000)) (List.mem_of_getElem? (i := 10) rfl) (inR_i (by omega) (by omega) (by omega) (by omega)))
        have w45 : Xi U6 960 (((Xi S 904 93)).toNat) = ((Xi U5 904 69) - 1) := by rw [eU6]; exact Xi_same (by unfold rg; omega)
        have e178 := eU6
        have x178 : Xi U6 904 8 = Xi T4 904 8 := by rw [e178, Xi_ne (by omega), e163, Xi_ne (by omega)]
        have F178 : Xi U6 952 (Xi S 904 93).toNat = 0 ∧ Xi U6 957 (Xi S 904 93).toNat = Xi U3 904 8 ∧ Xi U6 960 (Xi S 904 93).toNat = Xi T4 904 69 - 1 ∧ Xi U6 953 (Xi S 904 93).toNat = Xi U3 953 (Xi S 904 93).toNat := ⟨by rw [e178, Xi_ne (by omega), e163, Xi_ne (by omega), F148.x 952 _ rfl, e144, Xi_ne (by omega), e120, Xi_ne (by omega)]; exact xi_of e93 (by unfold rg; omega), by rw [e178, Xi_ne (by omega)]; refine (xi_of e163 (by unfold rg; omega)).trans ?_; exact w148, by refine (xi_of e178 (by unfold rg; omega)).trans ?_; first | rfl | (rw [e163, Xi_ne (by omega)]), by rw [e178, Xi_ne (by omega), e163, Xi_ne (by omega), F148.x 953 _ rfl]⟩
        refine y_return rfl rfl ?_
        have w46 : Xi U6 904 100 = Xi S 904 100 := (show Xi U6 904 100 = Xi U5 904 100 from by rw [eU6]; exact Xi_ne (by omega)).trans ( (show Xi U5 904 100 = Xi T4 904 100 from by rw [eU5]; exact Xi_ne (by omega)).trans ( (show Xi T4 904 100 = Xi U3 904 100 from w35.x _ _ rfl).trans ( (show Xi U3 904 100 = Xi U2 904 100 from by rw [eU3]; exact Xi_ne (by omega)).trans ( (show Xi U2 904 100 = Xi U1 904 100 from by rw [eU2]; exact Xi_ne (by omega)).trans ((show Xi U1 904 100 = Xi S 904 100 from by rw [eU1]; exact Xi_ne (by omega)))))))
        have w47 : Xi U6 904 101 = Xi S 904 101 := (show Xi U6 904 101 = Xi U5 904 101 from by rw [eU6]; exact Xi_ne (by omega)).trans ( (show Xi U5 904 101 = Xi T4 904 101 from by rw [eU5]; exact Xi_ne (by omega)).trans ( (show Xi T4 904 101 = Xi U3 904 101 from w35.x _ _ rfl).trans ( (show Xi U3 904 101 = Xi U2 904 101 from by rw [eU3]; exact Xi_ne (by omega)).trans ( (show Xi U2 904 101 = Xi U1 904 101 from by rw [eU2]; exact Xi_ne (by omega)).trans ((show Xi U1 904 101 = Xi S 904 101 from by rw [eU1]; exact Xi_ne (by omega)))))))
        have w48 : Xi U6 904 65 = Xi T4 904 65 := (show Xi U6 904 65 = Xi U5 904 65 from by rw [eU6]; exact Xi_ne (by omega)).trans ((show Xi U5 904 65 = Xi T4 904 65 from by rw [eU5]; exact Xi_ne (by omega)))
        have w49 : Xi U6 904 69 = Xi T4 904 69 := (show Xi U6 904 69 = Xi U5 904 69 from by rw [eU6]; exact Xi_ne (by omega)).trans ((show Xi U5 904 69 = Xi T4 904 69 from by rw [eU5]; exact Xi_ne (by omega)))
        have w50 : Xi U6 904 78 = Xi T4 904 78 := (show Xi U6 904 78 = Xi U5 904 78 from by rw [eU6]; exact Xi_ne (by omega)).trans ((show Xi U5 904 78 = Xi T4 904 78 from by rw [eU5]; exact Xi_ne (by omega)))
        have w51 : Xi U6 904 8 = Xi T4 904 8 := (show Xi U6 904 8 = Xi U5 904 8 from by rw [eU6]; exact Xi_ne (by omega)).trans ((show Xi U5 904 8 = Xi T4 904 8 from by rw [eU5]; exact Xi_ne (by omega)))
        have w52 : Xi U6 904 93 = Xi S 904 93 := (show Xi U6 904 93 = Xi U5 904 93 from by rw [eU6]; exact Xi_ne (by omega)).trans ( (show Xi U5 904 93 = Xi T4 904 93 from by rw [eU5]; exact Xi_ne (by omega)).trans ( (show Xi T4 904 93 = Xi U3 904 93 from w35.x _ _ rfl).trans ( (show Xi U3 904 93 = Xi U2 904 93 from by rw [eU3]; exact Xi_ne (by omega)).trans ( (show Xi U2 904 93 = Xi U1 904 93 from by rw [eU2]; exact Xi_ne (by omega)).trans ((show Xi U1 904 93 = Xi S 904 93 from by rw [eU1]; exact Xi_ne (by omega)))))))
        have w53 : Xi U6 904 99 = Xi S 904 99 := (show Xi U6 904 99 = Xi U5 904 99 from by rw [eU6]; exact Xi_ne (by omega)).trans ( (show Xi U5 904 99 = Xi T4 904 99 from by rw [eU5]; exact Xi_ne (by omega)).trans ( (show Xi T4 904 99 = Xi U3 904 99 from w35.x _ _ rfl).trans ( (show Xi U3 904 99 = Xi U2 904 99 from by rw [eU3]; exact Xi_ne (by omega)).trans ( (show Xi U2 904 99 = Xi U1 904 99 from by rw [eU2]; exact Xi_ne (by omega)).trans ((show Xi U1 904 99 = Xi S 904 99 from by rw [eU1]; exact Xi_ne (by omega)))))))
        exact ⟨hHU6, hFU6, rfl, (by first | (have u := F80; intro b; obtain ⟨c1, c2, c3, c4⟩ := T80 b; obtain ⟨d1, d2, d3, d4⟩ := T62 (by omega); rw [x55] at d2; rw [show Xi U5 904 8 = Xi S 904 8 + 2 by omega] at c2; exact ⟨n24.1, n24.2, Or.inl ⟨by omega, by rw [F80.x 952 _ rfl, e77, Xi_ne (by omega), F62.x 952 _ rfl, e55, Xi_ne (by omega), f47]; exact y24, d2, by rw [F80.x 957 _ rfl]; exact (xi_of e77 (by unfold rg; omega)).trans (by omega), c2, by omega, by rw [F80.x 953 _ rfl, e77, Xi_ne (by omega), F62.x 953 _ rfl, e55, Xi_ne (by omega), e47, Xi_ne (by omega)]⟩⟩) | (intro b; obtain ⟨c1, c2, c3⟩ := T148 (by rw [e178, Xi_ne (by omega), e163, Xi_ne (by omega)] at b; exact b); have N := N144.o c1; exact ⟨N.1, by omega, Or.inr ⟨N.2.1, F178.1, _, by rw [F178.2.2.2]; exact N.2.2, F178.2.1, by rw [x178, F178.2.2.1]; exact whe_k c3 (runk_w e178 (by omega) (runk_w e163 (by omega) RUNK.rf))⟩⟩)), (by first | (have u := F80; exact runk_F F80 rfl rfl (runk_w e77 (by omega) (runk_F F62 rfl rfl (runk_w e55 (by omega) (runk_w e47 (by omega) RUNK.rf))))) | exact runk_w e178 (by omega) (runk_w e163 (by omega) (RUNK.tr (runk_w e144 (by omega) (runk_w e120 (by omega) (runk_w e93 (by omega) RUNK.rf))) k148))), (by first | (have u := F80; exact kte_F F80 rfl (kte_w e77 (by omega) (kte_F F62 rfl (kte_w e55 (by omega) (kte_w e47 (by omega) KTE.rf))))) | exact kte_w e178 (by omega) (kte_w e163 (by omega) (kte_F F148 rfl (kte_w e144 (by omega) (kte_w e120 (by omega) (kte_w e93 (by omega) KTE.rf))))))⟩
      · exfalso; omega
    · refine y_aload_n rfl rfl ?_
      refine y_bipush rfl rfl ?_
      have w54 : Xi U1 904 100 = Xi S 904 100 := (show Xi U1 904 100 = Xi S 904 100 from by rw [eU1]; exact Xi_ne (by omega))
      have w55 : Xi U1 904 101 = Xi S 904 101 := (show Xi U1 904 101 = Xi S 904 101 from by rw [eU1]; exact Xi_ne (by omega))
      have w56 : Xi U1 904 65 = Xi S 904 65 := (show Xi U1 904 65 = Xi S 904 65 from by rw [eU1]; exact Xi_ne (by omega))
      have w57 : Xi U1 904 69 = Xi S 904 69 := (show Xi U1 904 69 = Xi S 904 69 from by rw [eU1]; exact Xi_ne (by omega))
      have w58 : Xi U1 904 78 = Xi S 904 78 := (show Xi U1 904 78 = Xi S 904 78 from by rw [eU1]; exact Xi_ne (by omega))
      have w59 : Xi U1 904 8 = Xi S 904 8 := (show Xi U1 904 8 = Xi S 904 8 from by rw [eU1]; exact Xi_ne (by omega))
      have w60 : Xi U1 904 93 = Xi S 904 93 := (show Xi U1 904 93 = Xi S 904 93 from by rw [eU1]; exact Xi_ne (by omega))
      have w61 : Xi U1 904 99 = Xi S 904 99 := (show Xi U1 904 99 = Xi S 904 99 from by rw [eU1]; exact Xi_ne (by omega))
      refine y_callV rfl rfl rfl (t_mo_isNext__t hHU1 106 ⟨by omega, by omega⟩ _) ?_
      rintro _ _ ⟨rfl, z62, rfl, w62, t109⟩
      show Pl _ _ _ _ _ _ [iv z62, iv (Xi S 904 93), .ref 953] _ _
      have T109 := t109
      rw [h93, a93, b93] at T109
      clear t109
      refine y_if_eq rfl rfl (by unfold rg; omega) (fun w63 => ?_) (fun w64 => ?_)
      · refine y_iconst rfl ?_
        refine y_bastoreZP (n := 1700) rfl rfl (by unfold rg; omega) ⟨by omega, by omega⟩ (fun w65 w66 => ?_)
        obtain ⟨U7, eU7⟩ : ∃ T : sS, T = uI U1 953 (((Xi S 904 93)).toNat) (Int32.ofInt 0) := ⟨_, rfl⟩
        rw [← eU7]
        have hHU7 : RI U7 := by rw [eU7]; exact RI_w hHU1
        have hFU7 : FR md_mo_testedWhat__t S U7 := by rw [eU7]; exact FR.wI hFU1 (mdf_i (r := (953, 954, 0, 100000)) (List.mem_of_getElem? (i := 8) rfl) (inR_i (by omega) (by omega) (by omega) (by omega)))
        have w67 : Xi U7 953 (((Xi S 904 93)).toNat) = 0 := by rw [eU7]; exact Xi_same (by unfold rg; omega)
        have e120 := eU7
        refine y_aload_n rfl rfl ?_
        refine y_dup rfl rfl ?_
        refine y_gfi rfl rfl rfl rfl rfl ?_
        have w68 : (Xi U7 904 8) = (Xi S 904 8) := (show Xi U7 904 8 = Xi U1 904 8 from by rw [eU7]; exact Xi_ne (by omega)).trans ((show Xi U1 904 8 = Xi S 904 8 from by rw [eU1]; exact Xi_ne (by omega)))
        rw [w68]
        refine y_aload_n rfl rfl ?_
        refine y_gfr rfl rfl rfl rfl rfl (hHU7.r 904 83 953 rfl) ?_
        refine y_aload_n rfl rfl ?_
        refine y_gfi rfl rfl rfl rfl rfl ?_
        have w69 : (Xi U7 904 93) = (Xi S 904 93) := (show Xi U7 904 93 = Xi U1 904 93 from by rw [eU7]; exact Xi_ne (by omega)).trans ((show Xi U1 904 93 = Xi S 904 93 from by rw [eU1]; exact Xi_ne (by omega)))
        rw [w69]
        refine y_baloadP (n := 1700) rfl rfl rfl (by decide) (by unfold rg; omega) (fun w70 w71 => ?_)
        have v134 := xi_of e120 (by unfold rg; omega)
        refine y_if_eq rfl rfl (by unfold rg; omega) (fun w72 => ?_) (fun w73 => ?_)
        · refine y_iconst rfl ?_
          refine y_iadd rfl ?_
          refine y_pfi rfl rfl rfl rfl ?_
          obtain ⟨U8, eU8⟩ : ∃ T : sS, T = uI U7 904 8 (Int32.ofInt ((Xi S 904 8) + 0)) := ⟨_, rfl⟩
          rw [← eU8]
          have hHU8 : RI U8 := by rw [eU8]; exact RI_w hHU7
          have hFU8 : FR md_mo_testedWhat__t S U8 := by rw [eU8]; exact FR.wI hFU7 (mdf_i (r := (904, 905, 8, 9)) (List.mem_of_getElem? (i := 0) rfl) (inR_i (by omega) (by omega) (by omega) (by omega)))
          have w74 : Xi U8 904 8 = ((Xi S 904 8) + 0) := by rw [eU8]; exact Xi_same (by unfold rg; omega)
          have e144 := eU8
          have N144 : Hid (Xi U8 904 65 = 0 → Xi S 904 65 = 0 ∧ ¬ (isNow = 0 ∧ (tkR S (Xi S 904 8) = 151 ∨ tkR S (Xi S 904 8) = 152)) ∧ ((isNow = 0 ∧ tkR S (Xi S 904 8) = 106 ∧ Xi U8 953 (Xi S 904 93).toNat = 1 ∧ Xi U8 904 8 = Xi S 904 8 + 1) ∨ (¬ (isNow = 0 ∧ tkR S (Xi S 904 8) = 106) ∧ Xi U8 953 (Xi S 904 93).toNat = 0 ∧ Xi U8 904 8 = Xi S 904 8))) := fun c => by have c0 : Xi S 904 65 = 0 := (by rw [e144, Xi_ne (by omega), e120, Xi_ne (by omega), e93, Xi_ne (by omega)] at c; exact c); have n := v134; have n1 : Xi U8 953 (Xi S 904 93).toNat = Xi U7 953 (Xi S 904 93).toNat := (by rw [e144, Xi_ne (by omega)]); refine ⟨c0, Y84 c0, ?_⟩; first | (have u := T109.1 (by omega); exact Or.inl ⟨by omega, by omega, by omega, by rw [e144]; refine (Xi_same (by unfold rg; omega)).trans ?_; first | omega | (rw [e120, Xi_ne (by omega)]; omega)⟩) | (have u := T109.2 (by omega); exact Or.inr ⟨by omega, by omega, by rw [e144]; refine (Xi_same (by unfold rg; omega)).trans ?_; first | omega | (rw [e120, Xi_ne (by omega)]; omega)⟩) | exact Or.inr ⟨by omega, by omega, by rw [e144]; refine (Xi_same (by unfold rg; omega)).trans ?_; first | omega | (rw [e120, Xi_ne (by omega)]; omega)⟩
          refine y_aload_n rfl rfl ?_
          have w75 : Xi U8 904 100 = Xi S 904 100 := (show Xi U8 904 100 = Xi U7 904 100 from by rw [eU8]; exact Xi_ne (by omega)).trans ( (show Xi U7 904 100 = Xi U1 904 100 from by rw [eU7]; exact Xi_ne (by omega)).trans ((show Xi U1 904 100 = Xi S 904 100 from by rw [eU1]; exact Xi_ne (by omega))))
          have w76 : Xi U8 904 101 = Xi S 904 101 := (show Xi U8 904 101 = Xi U7 904 101 from by rw [eU8]; exact Xi_ne (by omega)).trans ( (show Xi U7 904 101 = Xi U1 904 101 from by rw [eU7]; exact Xi_ne (by omega)).trans ((show Xi U1 904 101 = Xi S 904 101 from by rw [eU1]; exact Xi_ne (by omega))))
          have w77 : Xi U8 904 65 = Xi S 904 65 := (show Xi U8 904 65 = Xi U7 904 65 from by rw [eU8]; exact Xi_ne (by omega)).trans ( (show Xi U7 904 65 = Xi U1 904 65 from by rw [eU7]; exact Xi_ne (by omega)).trans ((show Xi U1 904 65 = Xi S 904 65 from by rw [eU1]; exact Xi_ne (by omega))))
          have w78 : Xi U8 904 69 = Xi S 904 69 := (show Xi U8 904 69 = Xi U7 904 69 from by rw [eU8]; exact Xi_ne (by omega)).trans ( (show Xi U7 904 69 = Xi U1 904 69 from by rw [eU7]; exact Xi_ne (by omega)).trans ((show Xi U1 904 69 = Xi S 904 69 from by rw [eU1]; exact Xi_ne (by omega))))
          have w79 : Xi U8 904 78 = Xi S 904 78 := (show Xi U8 904 78 = Xi U7 904 78 from by rw [eU8]; exact Xi_ne (by omega)).trans ( (show Xi U7 904 78 = Xi U1 904 78 from by rw [eU7]; exact Xi_ne (by omega)).trans ((show Xi U1 904 78 = Xi S 904 78 from by rw [eU1]; exact Xi_ne (by omega))))
          have w80 : Xi U8 904 93 = Xi S 904 93 := (show Xi U8 904 93 = Xi U7 904 93 from by rw [eU8]; exact Xi_ne (by omega)).trans ( (show Xi U7 904 93 = Xi U1 904 93 from by rw [eU7]; exact Xi_ne (by omega)).trans ((show Xi U1 904 93 = Xi S 904 93 from by rw [eU1]; exact Xi_ne (by omega))))
          have w81 : Xi U8 904 99 = Xi S 904 99 := (show Xi U8 904 99 = Xi U7 904 99 from by rw [eU8]; exact Xi_ne (by omega)).trans ( (show Xi U7 904 99 = Xi U1 904 99 from by rw [eU7]; exact Xi_ne (by omega)).trans ((show Xi U1 904 99 = Xi S 904 99 from by rw [eU1]; exact Xi_ne (by omega))))
          refine y_callV rfl rfl rfl (t_mo_what__t hHU8 _) ?_
          rintro _ T9 ⟨hHT9, w83, rfl, t148, w148, k148⟩
          have hFT9 : FR md_mo_testedWhat__t S T9 := FR.tr hFU8 w83 rfl
          show Pl _ _ _ _ _ _ [] _ _
          have F148 := (by assumption : FR md_mo_what__t U8 T9)
          have k148_ := k148.1
          have T148 := t148
          rw [tkR_F7 hFU8 rfl] at T148
          clear t148
          have r148 : 0 ≤ Xi U8 904 69 := by rw [e144, Xi_ne (by omega), e120, Xi_ne (by omega), e93, Xi_ne (by omega)]; exact h69
          refine y_aload_n rfl rfl ?_
          refine y_gfr rfl rfl rfl rfl rfl (hHT9.r 904 87 957 rfl) ?_
          refine y_aload_n rfl rfl ?_
          refine y_gfi rfl rfl rfl rfl rfl ?_
          have w84 : (Xi T9 904 93) = (Xi S 904 93) := (show Xi T9 904 93 = Xi U8 904 93 from w83.x _ _ rfl).trans ( (show Xi U8 904 93 = Xi U7 904 93 from by rw [eU8]; exact Xi_ne (by omega)).trans ( (show Xi U7 904 93 = Xi U1 904 93 from by rw [eU7]; exact Xi_ne (by omega)).trans ((show Xi U1 904 93 = Xi S 904 93 from by rw [eU1]; exact Xi_ne (by omega)))))
          rw [w84]
          refine y_aload_n rfl rfl ?_
          refine y_gfi rfl rfl rfl rfl rfl ?_
          have w85 : -2147483648 ≤ (Xi T9 904 78) ∧ (Xi T9 904 78) ≤ 2147483647 := Xi_rgI
          refine y_iastoreP (n := 1700) rfl rfl (by unfold rg; omega) (fun w86 w87 => ?_)
          obtain ⟨U10, eU10⟩ : ∃ T : sS, T = uI T9 957 (((Xi S 904 93)).toNat) (Int32.ofInt (Xi T9 904 78)) := ⟨_, rfl⟩
          rw [← eU10]
          have hHU10 : RI U10 := by rw [eU10]; exact RI_w hHT9
          have hFU10 : FR md_mo_testedWhat__t S U10 := by rw [eU10]; exact FR.wI hFT9 (mdf_i (r := (957, 958, 0, 100000)) (List.mem_of_getElem? (i := 9) rfl) (inR_i (by omega) (by omega) (by omega) (by omega)))
          have w88 : Xi U10 957 (((Xi S 904 93)).toNat) = (Xi T9 904 78) := by rw [eU10]; exact Xi_same (by unfold rg; omega)
          have e163 := eU10
          have x163 : Xi U10 904 69 = Xi T9 904 69 := by rw [e163, Xi_ne (by omega)]
          refine y_aload_n rfl rfl ?_
          refine y_gfr rfl rfl rfl rfl rfl (hHU10.r 904 90 960 rfl) ?_
          refine y_aload_n rfl rfl ?_
          refine y_gfi rfl rfl rfl rfl rfl ?_
          have w89 : (Xi U10 904 93) = (Xi S 904 93) := (show Xi U10 904 93 = Xi T9 904 93 from by rw [eU10]; exact Xi_ne (by omega)).trans ( (show Xi T9 904 93 = Xi U8 904 93 from w83.x _ _ rfl).trans ( (show Xi U8 904 93 = Xi U7 904 93 from by rw [eU8]; exact Xi_ne (by omega)).trans ( (show Xi U7 904 93 = Xi U1 904 93 from by rw [eU7]; exact Xi_ne (by omega)).trans ((show Xi U1 904 93 = Xi S 904 93 from by rw [eU1]; exact Xi_ne (by omega))))))
          rw [w89]
          refine y_aload_n rfl rfl ?_
          refine y_gfi rfl rfl rfl rfl rfl ?_
          have w90 : -2147483648 ≤ (Xi U10 904 69) ∧ (Xi U10 904 69) ≤ 2147483647 := Xi_rgI
          refine y_iconst rfl ?_
          refine y_isub rfl ?_
          refine y_iastoreP (n := 1700) rfl rfl (by unfold rg; omega) (fun w91 w92 => ?_)
          obtain ⟨U11, eU11⟩ : ∃ T : sS, T = uI U10 960 (((Xi S 904 93)).toNat) (Int32.ofInt ((Xi U10 904 69) - 1)) := ⟨_, rfl⟩
          rw [← eU11]
          have hHU11 : RI U11 := by rw [eU11]; exact RI_w hHU10
          have hFU11 : FR md_mo_testedWhat__t S U11 := by rw [eU11]; exact FR.wI hFU10 (mdf_i (r := (960, 961, 0, 100000)) (List.mem_of_getElem? (i := 10) rfl) (inR_i (by omega) (by omega) (by omega) (by omega)))
          have w93 : Xi U11 960 (((Xi S 904 93)).toNat) = ((Xi U10 904 69) - 1) := by rw [eU11]; exact Xi_same (by unfold rg; omega)
          have e178 := eU11
          have x178 : Xi U11 904 8 = Xi T9 904 8 := by rw [e178, Xi_ne (by omega), e163, Xi_ne (by omega)]
          have F178 : Xi U11 952 (Xi S 904 93).toNat = 0 ∧ Xi U11 957 (Xi S 904 93).toNat = Xi U8 904 8 ∧ Xi U11 960 (Xi S 904 93).toNat = Xi T9 904 69 - 1 ∧ Xi U11 953 (Xi S 904 93).toNat = Xi U8 953 (Xi S 904 93).toNat := ⟨by rw [e178, Xi_ne (by omega), e163, Xi_ne (by omega), F148.x 952 _ rfl, e144, Xi_ne (by omega), e120, Xi_ne (by omega)]; exact xi_of e93 (by unfold rg; omega), by rw [e178, Xi_ne (by omega)]; refine (xi_of e163 (by unfold rg; omega)).trans ?_; exact w148, by refine (xi_of e178 (by unfold rg; omega)).trans ?_; first | rfl | (rw [e163, Xi_ne (by omega)]), by rw [e178, Xi_ne (by omega), e163, Xi_ne (by omega), F148.x 953 _ rfl]⟩
          refine y_return rfl rfl ?_
          have w94 : Xi U11 904 100 = Xi S 904 100 := (show Xi U11 904 100 = Xi U10 904 100 from by rw [eU11]; exact Xi_ne (by omega)).trans ( (show Xi U10 904 100 = Xi T9 904 100 from by rw [eU10]; exact Xi_ne (by omega)).trans ( (show Xi T9 904 100 = Xi U8 904 100 from w83.x _ _ rfl).trans ( (show Xi U8 904 100 = Xi U7 904 100 from by rw [eU8]; exact Xi_ne (by omega)).trans ( (show Xi U7 904 100 = Xi U1 904 100 from by rw [eU7]; exact Xi_ne (by omega)).trans ((show Xi U1 904 100 = Xi S 904 100 from by rw [eU1]; exact Xi_ne (by omega)))))))
          have w95 : Xi U11 904 101 = Xi S 904 101 := (show Xi U11 904 101 = Xi U10 904 101 from by rw [eU11]; exact Xi_ne (by omega)).trans ( (show Xi U10 904 101 = Xi T9 904 101 from by rw [eU10]; exact Xi_ne (by omega)).trans ( (show Xi T9 904 101 = Xi U8 904 101 from w83.x _ _ rfl).trans ( (show Xi U8 904 101 = Xi U7 904 101 from by rw [eU8]; exact Xi_ne (by omega)).trans ( (show Xi U7 904 101 = Xi U1 904 101 from by rw [eU7]; exact Xi_ne (by omega)).trans ((show Xi U1 904 101 = Xi S 904 101 from by rw [eU1]; exact Xi_ne (by omega)))))))
          have w96 : Xi U11 904 65 = Xi T9 904 65 := (show Xi U11 904 65 = Xi U10 904 65 from by rw [eU11]; exact Xi_ne (by omega)).trans ((show Xi U10 904 65 = Xi T9 904 65 from by rw [eU10]; exact Xi_ne (by omega)))
          have w97 : Xi U11 904 69 = Xi T9 904 69 := (show Xi U11 904 69 = Xi U10 904 69 from by rw [eU11]; exact Xi_ne (by omega)).trans ((show Xi U10 904 69 = Xi T9 904 69 from by rw [eU10]; exact Xi_ne (by omega)))
          have w98 : Xi U11 904 78 = Xi T9 904 78 := (show Xi U11 904 78 = Xi U10 904 78 from by rw [eU11]; exact Xi_ne (by omega)).trans ((show Xi U10 904 78 = Xi T9 904 78 from by rw [eU10]; exact Xi_ne (by omega)))
          have w99 : Xi U11 904 8 = Xi T9 904 8 := (show Xi U11 904 8 = Xi U10 904 8 from by rw [eU11]; exact Xi_ne (by omega)).trans ((show Xi U10 904 8 = Xi T9 904 8 from by rw [eU10]; exact Xi_ne (by omega)))
          have w100 : Xi U11 904 93 = Xi S 904 93 := (show Xi U11 904 93 = Xi U10 904 93 from by rw [eU11]; exact Xi_ne (by omega)).trans ( (show Xi U10 904 93 = Xi T9 904 93 from by rw [eU10]; exact Xi_ne (by omega)).trans ( (show Xi T9 904 93 = Xi U8 904 93 from w83.x _ _ rfl).trans ( (show Xi U8 904 93 = Xi U7 904 93 from by rw [eU8]; exact Xi_ne (by omega)).trans ( (show Xi U7 904 93 = Xi U1 904 93 from by rw [eU7]; exact Xi_ne (by omega)).trans ((show Xi U1 904 93 = Xi S 904 93 from by rw [eU1]; exact Xi_ne (by omega)))))))
          have w101 : Xi U11 904 99 = Xi S 904 99 := (show Xi U11 904 99 = Xi U10 904 99 from by rw [eU11]; exact Xi_ne (by omega)).trans ( (show Xi U10 904 99 = Xi T9 904 99 from by rw [eU10]; exact Xi_ne (by omega)).trans ( (show Xi T9 904 99 = Xi U8 904 99 from w83.x _ _ rfl).trans ( (show Xi U8 904 99 = Xi U7 904 99 from by rw [eU8]; exact Xi_ne (by omega)).trans ( (show Xi U7 904 99 = Xi U1 904 99 from by rw [eU7]; exact Xi_ne (by omega)).trans ((show Xi U1 904 99 = Xi S 904 99 from by rw [eU1]; exact Xi_ne (by omega)))))))
          exact ⟨hHU11, hFU11, rfl, (by first | (have u := F80; intro b; obtain ⟨c1, c2, c3, c4⟩ := T80 b; obtain ⟨d1, d2, d3, d4⟩ := T62 (by omega); rw [x55] at d2; rw [show Xi U10 904 8 = Xi S 904 8 + 2 by omega] at c2; exact ⟨n24.1, n24.2, Or.inl ⟨by omega, by rw [F80.x 952 _ rfl, e77, Xi_ne (by omega), F62.x 952 _ rfl, e55, Xi_ne (by omega), f47]; exact y24, d2, by rw [F80.x 957 _ rfl]; exact (xi_of e77 (by unfold rg; omega)).trans (by omega), c2, by omega, by rw [F80.x 953 _ rfl, e77, Xi_ne (by omega), F62.x 953 _ rfl, e55, Xi_ne (by omega), e47, Xi_ne (by omega)]⟩⟩) | (intro b; obtain ⟨c1, c2, c3⟩ := T148 (by rw [e178, Xi_ne (by omega), e163, Xi_ne (by omega)] at b; exact b); have N := N144.o c1; exact ⟨N.1, by omega, Or.inr ⟨N.2.1, F178.1, _, by rw [F178.2.2.2]; exact N.2.2, F178.2.1, by rw [x178, F178.2.2.1]; exact whe_k c3 (runk_w e178 (by omega) (runk_w e163 (by omega) RUNK.rf))⟩⟩)), (by first | (have u := F80; exact runk_F F80 rfl rfl (runk_w e77 (by omega) (runk_F F62 rfl rfl (runk_w e55 (by omega) (runk_w e47 (by omega) RUNK.rf))))) | exact runk_w e178 (by omega) (runk_w e163 (by omega) (RUNK.tr (runk_w e144 (by omega) (runk_w e120 (by omega) (runk_w e93 (by omega) RUNK.rf))) k148))), (by first | (have u := F80; exact kte_F F80 rfl (kte_w e77 (by omega) (kte_F F62 rfl (kte_w e55 (by omega) (kte_w e47 (by omega) KTE.rf))))) | exact kte_w e178 (by omega) (kte_w e163 (by omega) (kte_F F148 rfl (kte_w e144 (by omega) (kte_w e120 (by omega) (kte_w e93 (by omega) KTE.rf))))))⟩
        · exfalso; omega
      · refine y_iconst rfl ?_
        refine y_goto rfl rfl ?_
        refine y_bastoreZP (n := 1700) rfl rfl (by unfold rg; omega) ⟨by omega, by omega⟩ (fun w102 w103 => ?_)
        obtain ⟨U12, eU12⟩ : ∃ T : sS, T = uI U1 953 (((Xi S 904 93)).toNat) (Int32.ofInt 1) := ⟨_, rfl⟩
        rw [← eU12]
        have hHU12 : RI U12 := by rw [eU12]; exact RI_w hHU1
        have hFU12 : FR md_mo_testedWhat__t S U12 := by rw [eU12]; exact FR.wI hFU1 (mdf_i (r := (953, 954, 0, 100000)) (List.mem_of_getElem? (i := 8) rfl) (inR_i (by omega) (by omega) (by omega) (by omega)))
        have w104 : Xi U12 953 (((Xi S 904 93)).toNat) = 1 := by rw [eU12]; exact Xi_same (by unfold rg; omega)
        have e120 := eU12
        refine y_aload_n rfl rfl ?_
        refine y_dup rfl rfl ?_
        refine y_gfi rfl rfl rfl rfl rfl ?_
        have w105 : (Xi U12 904 8) = (Xi S 904 8) := (show Xi U12 904 8 = Xi U1 904 8 from by rw [eU12]; exact Xi_ne (by omega)).trans ((show Xi U1 904 8 = Xi S 904 8 from by rw [eU1]; exact Xi_ne (by omega)))
        rw [w105]
        refine y_aload_n rfl rfl ?_
        refine y_gfr rfl rfl rfl rfl rfl (hHU12.r 904 83 953 rfl) ?_
        refine y_aload_n rfl rfl ?_
        refine y_gfi rfl rfl rfl rfl rfl ?_
        have w106 : (Xi U12 904 93) = (Xi S 904 93) := (show Xi U12 904 93 = Xi U1 904 93 from by rw [eU12]; exact Xi_ne (by omega)).trans ((show Xi U1 904 93 = Xi S 904 93 from by rw [eU1]; exact Xi_ne (by omega)))
        rw [w106]
        refine y_baloadP (n := 1700) rfl rfl rfl (by decide) (by unfold rg; omega) (fun w107 w108 => ?_)
        have v134 := xi_of e120 (by unfold rg; omega)
        refine y_if_eq rfl rfl (by unfold rg; omega) (fun w109 => ?_) (fun w110 => ?_)
        · exfalso; omega
        · refine y_iconst rfl ?_
          refine y_goto rfl rfl ?_
          refine y_iadd rfl ?_
          refine y_pfi rfl rfl rfl rfl ?_
          obtain ⟨U13, eU13⟩ : ∃ T : sS, T = uI U12 904 8 (Int32.ofInt ((Xi S 904 8) + 1)) := ⟨_, rfl⟩
          rw [← eU13]
          have hHU13 : RI U13 := by rw [eU13]; exact RI_w hHU12
          have hFU13 : FR md_mo_testedWhat__t S U13 := by rw [eU13]; exact FR.wI hFU12 (mdf_i (r := (904, 905, 8, 9)) (List.mem_of_getElem? (i := 0) rfl) (inR_i (by omega) (by omega) (by omega) (by omega)))
          have w111 : Xi U13 904 8 = ((Xi S 904 8) + 1) := by rw [eU13]; exact Xi_same (by unfold rg; omega)
          have e144 := eU13
          have N144 : Hid (Xi U13 904 65 = 0 → Xi S 904 65 = 0 ∧ ¬ (isNow = 0 ∧ (tkR S (Xi S 904 8) = 151 ∨ tkR S (Xi S 904 8) = 152)) ∧ ((isNow = 0 ∧ tkR S (Xi S 904 8) = 106 ∧ Xi U13 953 (Xi S 904 93).toNat = 1 ∧ Xi U13 904 8 = Xi S 904 8 + 1) ∨ (¬ (isNow = 0 ∧ tkR S (Xi S 904 8) = 106) ∧ Xi U13 953 (Xi S 904 93).toNat = 0 ∧ Xi U13 904 8 = Xi S 904 8))) := fun c => by have c0 : Xi S 904 65 = 0 := (by rw [e144, Xi_ne (by omega), e120, Xi_ne (by omega), e93, Xi_ne (by omega)] at c; exact c); have n := v134; have n1 : Xi U13 953 (Xi S 904 93).toNat = Xi U12 953 (Xi S 904 93).toNat := (by rw [e144, Xi_ne (by omega)]); refine ⟨c0, Y84 c0, ?_⟩; first | (have u := T109.1 (by omega); exact Or.inl ⟨by omega, by omega, by omega, by rw [e144]; refine (Xi_same (by unfold rg; omega)).trans ?_; first | omega | (rw [e120, Xi_ne (by omega)]; omega)⟩) | (have u := T109.2 (by omega); exact Or.inr ⟨by omega, by omega, by rw [e144]; refine (Xi_same (by unfold rg; omega)).trans ?_; first | omega | (rw [e120, Xi_ne (by omega)]; omega)⟩) | exact Or.inr ⟨by omega, by omega, by rw [e144]; refine (Xi_same (by unfold rg; omega)).trans ?_; first | omega | (rw [e120, Xi_ne (by omega)]; omega)⟩
          refine y_aload_n rfl rfl ?_
          have w112 : Xi U13 904 100 = Xi S 904 100 := (show Xi U13 904 100 = Xi U12 904 100 from by rw [eU13]; exact Xi_ne (by omega)).trans ( (show Xi U12 904 100 = Xi U1 904 100 from by rw [eU12]; exact Xi_ne (by omega)).trans ((show Xi U1 904 100 = Xi S 904 100 from by rw [eU1]; exact Xi_ne (by omega))))
          have w113 : Xi U13 904 101 = Xi S 904 101 := (show Xi U13 904 101 = Xi U12 904 101 from by rw [eU13]; exact Xi_ne (by omega)).trans ( (show Xi U12 904 101 = Xi U1 904 101 from by rw [eU12]; exact Xi_ne (by omega)).trans ((show Xi U1 904 101 = Xi S 904 101 from by rw [eU1]; exact Xi_ne (by omega))))
          have w114 : Xi U13 904 65 = Xi S 904 65 := (show Xi U13 904 65 = Xi U12 904 65 from by rw [eU13]; exact Xi_ne (by omega)).trans ( (show Xi U12 904 65 = Xi U1 904 65 from by rw [eU12]; exact Xi_ne (by omega)).trans ((show Xi U1 904 65 = Xi S 904 65 from by rw [eU1]; exact Xi_ne (by omega))))
          have w115 : Xi U13 904 69 = Xi S 904 69 := (show Xi U13 904 69 = Xi U12 904 69 from by rw [eU13]; exact Xi_ne (by omega)).trans ( (show Xi U12 904 69 = Xi U1 904 69 from by rw [eU12]; exact Xi_ne (by omega)).trans ((show Xi U1 904 69 = Xi S 904 69 from by rw [eU1]; exact Xi_ne (by omega))))
          have w116 : Xi U13 904 78 = Xi S 904 78 := (show Xi U13 904 78 = Xi U12 904 78 from by rw [eU13]; exact Xi_ne (by omega)).trans ( (show Xi U12 904 78 = Xi U1 904 78 from by rw [eU12]; exact Xi_ne (by omega)).trans ((show Xi U1 904 78 = Xi S 904 78 from by rw [eU1]; exact Xi_ne (by omega))))
          have w117 : Xi U13 904 93 = Xi S 904 93 := (show Xi U13 904 93 = Xi U12 904 93 from by rw [eU13]; exact Xi_ne (by omega)).trans ( (show Xi U12 904 93 = Xi U1 904 93 from by rw [eU12]; exact Xi_ne (by omega)).trans ((show Xi U1 904 93 = Xi S 904 93 from by rw [eU1]; exact Xi_ne (by omega))))
          have w118 : Xi U13 904 99 = Xi S 904 99 := (show Xi U13 904 99 = Xi U12 904 99 from by rw [eU13]; exact Xi_ne (by omega)).trans ( (show Xi U12 904 99 = Xi U1 904 99 from by rw [eU12]; exact Xi_ne (by omega)).trans ((show Xi U1 904 99 = Xi S 904 99 from by rw [eU1]; exact Xi_ne (by omega))))
          refine y_callV rfl rfl rfl (t_mo_what__t hHU13 _) ?_
          rintro _ T14 ⟨hHT14, w120, rfl, t148, w148, k148⟩
          have hFT14 : FR md_mo_testedWhat__t S T14 := FR.tr hFU13 w120 rfl
          show Pl _ _ _ _ _ _ [] _ _
          have F148 := (by assumption : FR md_mo_what__t U13 T14)
          have k148_ := k148.1
          have T148 := t148
          rw [tkR_F7 hFU13 rfl] at T148
          clear t148
          have r148 : 0 ≤ Xi U13 904 69 := by rw [e144, Xi_ne (by omega), e120, Xi_ne (by omega), e93, Xi_ne (by omega)]; exact h69
          refine y_aload_n rfl rfl ?_
          refine y_gfr rfl rfl rfl rfl rfl (hHT14.r 904 87 957 rfl) ?_
          refine y_aload_n rfl rfl ?_
          refine y_gfi rfl rfl rfl rfl rfl ?_
          have w121 : (Xi T14 904 93) = (Xi S 904 93) := (show Xi T14 904 93 = Xi U13 904 93 from w120.x _ _ rfl).trans ( (show Xi U13 904 93 = Xi U12 904 93 from by rw [eU13]; exact Xi_ne (by omega)).trans ( (show Xi U12 904 93 = Xi U1 904 93 from by rw [eU12]; exact Xi_ne (by omega)).trans ((show Xi U1 904 93 = Xi S 904 93 from by rw [eU1]; exact Xi_ne (by omega)))))
          rw [w121]
          refine y_aload_n rfl rfl ?_
          refine y_gfi rfl rfl rfl rfl rfl ?_
          have w122 : -2147483648 ≤ (Xi T14 904 78) ∧ (Xi T14 904 78) ≤ 2147483647 := Xi_rgI
          refine y_iastoreP (n := 1700) rfl rfl (by unfold rg; omega) (fun w123 w124 => ?_)
          obtain ⟨U15, eU15⟩ : ∃ T : sS, T = uI T14 957 (((Xi S 904 93)).toNat) (Int32.ofInt (Xi T14 904 78)) := ⟨_, rfl⟩
          rw [← eU15]
          have hHU15 : RI U15 := by rw [eU15]; exact RI_w hHT14
          have hFU15 : FR md_mo_testedWhat__t S U15 := by rw [eU15]; exact FR.wI hFT14 (mdf_i (r := (957, 958, 0, 100000)) (List.mem_of_getElem? (i := 9) rfl) (inR_i (by omega) (by omega) (by omega) (by omega)))
          have w125 : Xi U15 957 (((Xi S 904 93)).toNat) = (Xi T14 904 78) := by rw [eU15]; exact Xi_same (by unfold rg; omega)
          have e163 := eU15
          have x163 : Xi U15 904 69 = Xi T14 904 69 := by rw [e163, Xi_ne (by omega)]
          refine y_aload_n rfl rfl ?_
          refine y_gfr rfl rfl rfl rfl rfl (hHU15.r 904 90 960 rfl) ?_
          refine y_aload_n rfl rfl ?_
          refine y_gfi rfl rfl rfl rfl rfl ?_
          have w126 : (Xi U15 904 93) = (Xi S 904 93) := (show Xi U15 904 93 = Xi T14 904 93 from by rw [eU15]; exact Xi_ne (by omega)).trans ( (show Xi T14 904 93 = Xi U13 904 93 from w120.x _ _ rfl).trans ( (show Xi U13 904 93 = Xi U12 904 93 from by rw [eU13]; exact Xi_ne (by omega)).trans ( (show Xi U12 904 93 = Xi U1 904 93 from by rw [eU12]; exact Xi_ne (by omega)).trans ((show Xi U1 904 93 = Xi S 904 93 from by rw [eU1]; exact Xi_ne (by omega))))))
          rw [w126]
          refine y_aload_n rfl rfl ?_
          refine y_gfi rfl rfl rfl rfl rfl ?_
          have w127 : -2147483648 ≤ (Xi U15 904 69) ∧ (Xi U15 904 69) ≤ 2147483647 := Xi_rgI
          refine y_iconst rfl ?_
          refine y_isub rfl ?_
          refine y_iastoreP (n := 1700) rfl rfl (by unfold rg; omega) (fun w128 w129 => ?_)
          obtain ⟨U16, eU16⟩ : ∃ T : sS, T = uI U15 960 (((Xi S 904 93)).toNat) (Int32.ofInt ((Xi U15 904 69) - 1)) := ⟨_, rfl⟩
          rw [← eU16]
          have hHU16 : RI U16 := by rw [eU16]; exact RI_w hHU15
          have hFU16 : FR md_mo_testedWhat__t S U16 := by rw [eU16]; exact FR.wI hFU15 (mdf_i (r := (960, 961, 0, 100000)) (List.mem_of_getElem? (i := 10) rfl) (inR_i (by omega) (by omega) (by omega) (by omega)))
          have w130 : Xi U16 960 (((Xi S 904 93)).toNat) = ((Xi U15 904 69) - 1) := by rw [eU16]; exact Xi_same (by unfold rg; omega)
          have e178 := eU16
          have x178 : Xi U16 904 8 = Xi T14 904 8 := by rw [e178, Xi_ne (by omega), e163, Xi_ne (by omega)]
          have F178 : Xi U16 952 (Xi S 904 93).toNat = 0 ∧ Xi U16 957 (Xi S 904 93).toNat = Xi U13 904 8 ∧ Xi U16 960 (Xi S 904 93).toNat = Xi T14 904 69 - 1 ∧ Xi U16 953 (Xi S 904 93).toNat = Xi U13 953 (Xi S 904 93).toNat := ⟨by rw [e178, Xi_ne (by omega), e163, Xi_ne (by omega), F148.x 952 _ rfl, e144, Xi_ne (by omega), e120, Xi_ne (by omega)]; exact xi_of e93 (by unfold rg; omega), by rw [e178, Xi_ne (by omega)]; refine (xi_of e163 (by unfold rg; omega)).trans ?_; exact w148, by refine (xi_of e178 (by unfold rg; omega)).trans ?_; first | rfl | (rw [e163, Xi_ne (by omega)]), by rw [e178, Xi_ne (by omega), e163, Xi_ne (by omega), F148.x 953 _ rfl]⟩
          refine y_return rfl rfl ?_
          have w131 : Xi U16 904 100 = Xi S 904 100 := (show Xi U16 904 100 = Xi U15 904 100 from by rw [eU16]; exact Xi_ne (by omega)).trans ( (show Xi U15 904 100 = Xi T14 904 100 from by rw [eU15]; exact Xi_ne (by omega)).trans ( (show Xi T14 904 100 = Xi U13 904 100 from w120.x _ _ rfl).trans ( (show Xi U13 904 100 = Xi U12 904 100 from by rw [eU13]; exact Xi_ne (by omega)).trans ( (show Xi U12 904 100 = Xi U1 904 100 from by rw [eU12]; exact Xi_ne (by omega)).trans ((show Xi U1 904 100 = Xi S 904 100 from by rw [eU1]; exact Xi_ne (by omega)))))))
          have w132 : Xi U16 904 101 = Xi S 904 101 := (show Xi U16 904 101 = Xi U15 904 101 from by rw [eU16]; exact Xi_ne (by omega)).trans ( (show Xi U15 904 101 = Xi T14 904 101 from by rw [eU15]; exact Xi_ne (by omega)).trans ( (show Xi T14 904 101 = Xi U13 904 101 from w120.x _ _ rfl).trans ( (show Xi U13 904 101 = Xi U12 904 101 from by rw [eU13]; exact Xi_ne (by omega)).trans ( (show Xi U12 904 101 = Xi U1 904 101 from by rw [eU12]; exact Xi_ne (by omega)).trans ((show Xi U1 904 101 = Xi S 904 101 from by rw [eU1]; exact Xi_ne (by omega)))))))
          have w133 : Xi U16 904 65 = Xi T14 904 65 := (show Xi U16 904 65 = Xi U15 904 65 from by rw [eU16]; exact Xi_ne (by omega)).trans ((show Xi U15 904 65 = Xi T14 904 65 from by rw [eU15]; exact Xi_ne (by omega)))
          have w134 : Xi U16 904 69 = Xi T14 904 69 := (show Xi U16 904 69 = Xi U15 904 69 from by rw [eU16]; exact Xi_ne (by omega)).trans ((show Xi U15 904 69 = Xi T14 904 69 from by rw [eU15]; exact Xi_ne (by omega)))
          have w135 : Xi U16 904 78 = Xi T14 904 78 := (show Xi U16 904 78 = Xi U15 904 78 from by rw [eU16]; exact Xi_ne (by omega)).trans ((show Xi U15 904 78 = Xi T14 904 78 from by rw [eU15]; exact Xi_ne (by omega)))
          have w136 : Xi U16 904 8 = Xi T14 904 8 := (show Xi U16 904 8 = Xi U15 904 8 from by rw [eU16]; exact Xi_ne (by omega)).trans ((show Xi U15 904 8 = Xi T14 904 8 from by rw [eU15]; exact Xi_ne (by omega)))
          have w137 : Xi U16 904 93 = Xi S 904 93 := (show Xi U16 904 93 = Xi U15 904 93 from by rw [eU16]; exact Xi_ne (by omega)).trans ( (show Xi U15 904 93 = Xi T14 904 93 from by rw [eU15]; exact Xi_ne (by omega)).trans ( (show Xi T14 904 93 = Xi U13 904 93 from w120.x _ _ rfl).trans ( (show Xi U13 904 93 = Xi U12 904 93 from by rw [eU13]; exact Xi_ne (by omega)).trans ( (show Xi U12 904 93 = Xi U1 904 93 from by rw [eU12]; exact Xi_ne (by omega)).trans ((show Xi U1 904 93 = Xi S 904 93 from by rw [eU1]; exact Xi_ne (by omega)))))))
          have w138 : Xi U16 904 99 = Xi S 904 99 := (show Xi U16 904 99 = Xi U15 904 99 from by rw [eU16]; exact Xi_ne (by omega)).trans ( (show Xi U15 904 99 = Xi T14 904 99 from by rw [eU15]; exact Xi_ne (by omega)).trans ( (show Xi T14 904 99 = Xi U13 904 99 from w120.x _ _ rfl).trans ( (show Xi U13 904 99 = Xi U12 904 99 from by rw [eU13]; exact Xi_ne (by omega)).trans ( (show Xi U12 904 99 = Xi U1 904 99 from by rw [eU12]; exact Xi_ne (by omega)).trans ((show Xi U1 904 99 = Xi S 904 99 from by rw [eU1]; exact Xi_ne (by omega)))))))
          exact ⟨hHU16, hFU16, rfl, (by first | (have u := F80; intro b; obtain ⟨c1, c2, c3, c4⟩ := T80 b; obtain ⟨d1, d2, d3, d4⟩ := T62 (by omega); rw [x55] at d2; rw [show Xi U15 904 8 = Xi S 904 8 + 2 by omega] at c2; exact ⟨n24.1, n24.2, Or.inl ⟨by omega, by rw [F80.x 952 _ rfl, e77, Xi_ne (by omega), F62.x 952 _ rfl, e55, Xi_ne (by omega), f47]; exact y24, d2, by rw [F80.x 957 _ rfl]; exact (xi_of e77 (by unfold rg; omega)).trans (by omega), c2, by omega, by rw [F80.x 953 _ rfl, e77, Xi_ne (by omega), F62.x 953 _ rfl, e55, Xi_ne (by omega), e47, Xi_ne (by omega)]⟩⟩) | (intro b; obtain ⟨c1, c2, c3⟩ := T148 (by rw [e178, Xi_ne (by omega), e163, Xi_ne (by omega)] at b; exact b); have N := N144.o c1; exact ⟨N.1, by omega, Or.inr ⟨N.2.1, F178.1, _, by rw [F178.2.2.2]; exact N.2.2, F178.2.1, by rw [x178, F178.2.2.1]; exact whe_k c3 (runk_w e178 (by omega) (runk_w e163 (by omega) RUNK.rf))⟩⟩)), (by first | (have u := F80; exact runk_F F80 rfl rfl (runk_w e77 (by omega) (runk_F F62 rfl rfl (runk_w e55 (by omega) (runk_w e47 (by omega) RUNK.rf))))) | exact runk_w e178 (by omega) (runk_w e163 (by omega) (RUNK.tr (runk_w e144 (by omega) (runk_w e120 (by omega) (runk_w e93 (by omega) RUNK.rf))) k148))), (by first | (have u := F80; exact kte_F F80 rfl (kte_w e77 (by omega) (kte_F F62 rfl (kte_w e55 (by omega) (kte_w e47 (by omega) KTE.rf))))) | exact kte_w e178 (by omega) (kte_w e163 (by omega) (kte_F F148 rfl (kte_w e144 (by omega) (kte_w e120 (by omega) (kte_w e93 (by omega) KTE.rf))))))⟩
  · refine y_aload_n rfl rfl ?_
    refine y_sipush rfl rfl ?_
    refine y_callV rfl rfl rfl (t_mo_isNext__t hH 151 ⟨by omega, by omega⟩ _) ?_
    rintro _ _ ⟨rfl, z139, rfl, w139, t8⟩
    show Pl _ _ _ _ _ _ [iv z139] _ _
    refine y_if_ne rfl rfl (by unfold rg; omega) (fun w140 => ?_) (fun w141 => ?_)
    · refine y_aload_n rfl rfl ?_
      have n24 : Xi S 904 65 = 0 ∧ (0 ≤ Xi S 904 8 ∧ Xi S 904 8 ≤ 5001) := by first | (have u := t18; exact ⟨(t18.1 (by omega)).1, (t18.1 (by omega)).2.2⟩) | exact ⟨(t8.1 (by omega)).1, (t8.1 (by omega)).2.2⟩
      have m24 : tkR S (Xi S 904 8) = 151 ∨ tkR S (Xi S 904 8) = 152 := by first | (have u := t18; exact Or.inr (t18.1 (by omega)).2.1) | exact Or.inl (t8.1 (by omega)).2.1
      have y24 : (tkR S (Xi S 904 8) = 151 ∧ (if tkR S (Xi S 904 8) = 151 then (1 : Int) else 2) = 1) ∨ (tkR S (Xi S 904 8) = 152 ∧ (if tkR S (Xi S 904 8) = 151 then (1 : Int) else 2) = 2) := by rcases m24 with m | m; exact Or.inl ⟨m, if_pos m⟩; exact Or.inr ⟨m, if_neg (by omega)⟩
      refine y_gfr rfl rfl rfl rfl rfl (hH.r 904 82 952 rfl) ?_
      refine y_aload_n rfl rfl ?_
      refine y_gfi rfl rfl rfl rfl rfl ?_
      refine y_aload_n rfl rfl ?_
      refine y_sipush rfl rfl ?_
      refine y_callV rfl rfl rfl (t_mo_isNext__t hH 151 ⟨by omega, by omega⟩ _) ?_
      rintro _ _ ⟨rfl, z142, rfl, w142, t36⟩
      show Pl _ _ _ _ _ _ [iv z142, iv (Xi S 904 93), .ref 952] _ _
      refine y_if_eq rfl rfl (by unfold rg; omega) (fun w143 => ?_) (fun w144 => ?_)
      · refine y_iconst rfl ?_
        refine y_iastoreP (n := 1700) rfl rfl (by unfold rg; omega) (fun w145 w146 => ?_)
        obtain ⟨U17, eU17⟩ : ∃ T : sS, T = uI S 952 (((Xi S 904 93)).toNat) (Int32.ofInt 2) := ⟨_, rfl⟩
        rw [← eU17]
        have hHU17 : RI U17 := by rw [eU17]; exact RI_w hH
        have hFU17 : FR md_mo_testedWhat__t S U17 := by rw [eU17]; exact FR.wI hF (mdf_i (r := (952, 953, 0, 100000)) (List.mem_of_getElem? (i := 7) rfl) (inR_i (by omega) (by omega) (by omega) (by omega)))
        have w147 : Xi U17 952 (((Xi S 904 93)).toNat) = 2 := by rw [eU17]; exact Xi_same (by unfold rg; omega)
        have e47 := eU17
        have f47 : Xi U17 952 (Xi S 904 93).toNat = (if tkR S (Xi S 904 8) = 151 then 1 else 2) := by rw [e47]; first | (rw [if_pos (by have u := (t36.1 (by omega)).2.1; omega)]; exact Xi_same (by unfold rg; omega)) | (rw [if_neg (by have u := t36.2 (by omega); omega)]; exact Xi_same (by unfold rg; omega))
        refine y_aload_n rfl rfl ?_
        refine y_dup rfl rfl ?_
        refine y_gfi rfl rfl rfl rfl rfl ?_
        have w148 : (Xi U17 904 8) = (Xi S 904 8) := (show Xi U17 904 8 = Xi S 904 8 from by rw [eU17]; exact Xi_ne (by omega))
        rw [w148]
        refine y_iconst rfl ?_
        refine y_iadd rfl ?_
        refine y_pfi rfl rfl rfl rfl ?_
        obtain ⟨U18, eU18⟩ : ∃ T : sS, T = uI U17 904 8 (Int32.ofInt ((Xi S 904 8) + 1)) := ⟨_, rfl⟩
        rw [← eU18]
        have hHU18 : RI U18 := by rw [eU18]; exact RI_w hHU17
        have hFU18 : FR md_mo_testedWhat__t S U18 := by rw [eU18]; exact FR.wI hFU17 (mdf_i (r := (904, 905, 8, 9)) (List.mem_of_getElem? (i := 0) rfl) (inR_i (by omega) (by omega) (by omega) (by omega)))
        have w149 : Xi U18 904 8 = ((Xi S 904 8) + 1) := by rw [eU18]; exact Xi_same (by unfold rg; omega)
        have e55 := eU18
        have x55 : Xi U18 904 8 = Xi S 904 8 + 1 := by rw [e55]; refine (Xi_same (by unfold rg; omega)).trans ?_; first | rfl | (rw [e47, Xi_ne (by omega)])
        refine y_aload_n rfl rfl ?_
        refine y_sipush rfl rfl ?_
        have w152 : Xi U18 904 65 = Xi S 904 65 := (show Xi U18 904 65 = Xi U17 904 65 from by rw [eU18]; exact Xi_ne (by omega)).trans ((show Xi U17 904 65 = Xi S 904 65 from by rw [eU17]; exact Xi_ne (by omega)))
        refine y_callV rfl rfl rfl (t_mo_take__t hHU18 150 ⟨by omega, by omega⟩ _) ?_
        rintro _ T19 ⟨hHT19, w158, rfl, t62⟩
        have hFT19 : FR md_mo_testedWhat__t S T19 := FR.tr hFU18 w158 rfl
        show Pl _ _ _ _ _ _ [] _ _
        have F62 := (by assumption : FR md_mo_take__t U18 T19)
        have T62 := t62
        rw [tkR_F7 hFU18 rfl] at T62
        clear t62
        refine y_aload_n rfl rfl ?_
        refine y_gfr rfl rfl rfl rfl rfl (hHT19.r 904 87 957 rfl) ?_
        refine y_aload_n rfl rfl ?_
        refine y_gfi rfl rfl rfl rfl rfl ?_
        have w159 : (Xi T19 904 93) = (Xi S 904 93) := (show Xi T19 904 93 = Xi U18 904 93 from w158.x _ _ rfl).trans ( (show Xi U18 904 93 = Xi U17 904 93 from by rw [eU18]; exact Xi_ne (by omega)).trans ((show Xi U17 904 93 = Xi S 904 93 from by rw [eU17]; exact Xi_ne (by omega))))
        rw [w159]
        refine y_aload_n rfl rfl ?_
        refine y_gfi rfl rfl rfl rfl rfl ?_
        have w160 : -2147483648 ≤ (Xi T19 904 8) ∧ (Xi T19 904 8) ≤ 2147483647 := Xi_rgI
        refine y_iastoreP (n := 1700) rfl rfl (by unfold rg; omega) (fun w161 w162 => ?_)
        obtain ⟨U20, eU20⟩ : ∃ T : sS, T = uI T19 957 (((Xi S 904 93)).toNat) (Int32.ofInt (Xi T19 904 8)) := ⟨_, rfl⟩
        rw [← eU20]
        have hHU20 : RI U20 := by rw [eU20]; exact RI_w hHT19
        have hFU20 : FR md_mo_testedWhat__t S U20 := by rw [eU20]; exact FR.wI hFT19 (mdf_i (r := (957, 958, 0, 100000)) (List.mem_of_getElem? (i := 9) rfl) (inR_i (by omega) (by omega) (by omega) (by omega)))
        have w163 : Xi U20 957 (((Xi S 904 93)).toNat) = (Xi T19 904 8) := by rw [eU20]; exact Xi_same (by unfold rg; omega)
        have e77 := eU20
        refine y_aload_n rfl rfl ?_
        refine y_iconst rfl ?_
        have w166 : Xi U20 904 65 = Xi T19 904 65 := (show Xi U20 904 65 = Xi T19 904 65 from by rw [eU20]; exact Xi_ne (by omega))
        have w169 : Xi U20 904 8 = Xi T19 904 8 := (show Xi U20 904 8 = Xi T19 904 8 from by rw [eU20]; exact Xi_ne (by omega))
        refine y_callV rfl rfl rfl (t_mo_take__t hHU20 4 ⟨by omega, by omega⟩ _) ?_
        rintro _ T21 ⟨hHT21, w173, rfl, t80⟩
        have hFT21 : FR md_mo_testedWhat__t S T21 := FR.tr hFU20 w173 rfl
        show Pl _ _ _ _ _ _ [] _ _
        have F80 := (by assumption : FR md_mo_take__t U20 T21)
        have T80 := t80
        rw [tkR_F7 hFU20 rfl] at T80
        clear t80
        refine y_return rfl rfl ?_
        have w174 : Xi T21 904 100 = Xi S 904 100 := (show Xi T21 904 100 = Xi U20 904 100 from w173.x _ _ rfl).trans ( (show Xi U20 904 100 = Xi T19 904 100 from by rw [eU20]; exact Xi_ne (by omega)).trans ( (show Xi T19 904 100 = Xi U18 904 100 from w158.x _ _ rfl).trans ( (show Xi U18 904 100 = Xi U17 904 100 from by rw [eU18]; exact Xi_ne (by omega)).trans ((show Xi U17 904 100 = Xi S 904 100 from by rw [eU17]; exact Xi_ne (by omega))))))
        have w175 : Xi T21 904 101 = Xi S 904 101 := (show Xi T21 904 101 = Xi U20 904 101 from w173.x _ _ rfl).trans ( (show Xi U20 904 101 = Xi T19 904 101 from by rw [eU20]; exact Xi_ne (by omega)).trans ( (show Xi T19 904 101 = Xi U18 904 101 from w158.x _ _ rfl).trans ( (show Xi U18 904 101 = Xi U17 904 101 from by rw [eU18]; exact Xi_ne (by omega)).trans ((show Xi U17 904 101 = Xi S 904 101 from by rw [eU17]; exact Xi_ne (by omega))))))
        have w176 : Xi T21 904 69 = Xi S 904 69 := (show Xi T21 904 69 = Xi U20 904 69 from w173.x _ _ rfl).trans ( (show Xi U20 904 69 = Xi T19 904 69 from by rw [eU20]; exact Xi_ne (by omega)).trans ( (show Xi T19 904 69 = Xi U18 904 69 from w158.x _ _ rfl).trans ( (show Xi U18 904 69 = Xi U17 904 69 from by rw [eU18]; exact Xi_ne (by omega)).trans ((show Xi U17 904 69 = Xi S 904 69 from by rw [eU17]; exact Xi_ne (by omega))))))
        have w177 : Xi T21 904 78 = Xi S 904 78 := (show Xi T21 904 78 = Xi U20 904 78 from w173.x _ _ rfl).trans ( (show Xi U20 904 78 = Xi T19 904 78 from by rw [eU20]; exact Xi_ne (by omega)).trans ( (show Xi T19 904 78 = Xi U18 904 78 from w158.x _ _ rfl).trans ( (show Xi U18 904 78 = Xi U17 904 78 from by rw [eU18]; exact Xi_ne (by omega)).trans ((show Xi U17 904 78 = Xi S 904 78 from by rw [eU17]; exact Xi_ne (by omega))))))
        have w178 : Xi T21 904 93 = Xi S 904 93 := (show Xi T21 904 93 = Xi U20 904 93 from w173.x _ _ rfl).trans ( (show Xi U20 904 93 = Xi T19 904 93 from by rw [eU20]; exact Xi_ne (by omega)).trans ( (show Xi T19 904 93 = Xi U18 904 93 from w158.x _ _ rfl).trans ( (show Xi U18 904 93 = Xi U17 904 93 from by rw [eU18]; exact Xi_ne (by omega)).trans ((show Xi U17 904 93 = Xi S 904 93 from by rw [eU17]; exact Xi_ne (by omega))))))
        have w179 : Xi T21 904 99 = Xi S 904 99 := (show Xi T21 904 99 = Xi U20 904 99 from w173.x _ _ rfl).trans ( (show Xi U20 904 99 = Xi T19 904 99 from by rw [eU20]; exact Xi_ne (by omega)).trans ( (show Xi T19 904 99 = Xi U18 904 99 from w158.x _ _ rfl).trans ( (show Xi U18 904 99 = Xi U17 904 99 from by rw [eU18]; exact Xi_ne (by omega)).trans ((show Xi U17 904 99 = Xi S 904 99 from by rw [eU17]; exact Xi_ne (by omega))))))
        exact ⟨hHT21, hFT21, rfl, (by first | (have u := F80; intro b; obtain ⟨c1, c2, c3, c4⟩ := T80 b; obtain ⟨d1, d2, d3, d4⟩ := T62 (by omega); rw [x55] at d2; rw [show Xi U20 904 8 = Xi S 904 8 + 2 by omega] at c2; exact ⟨n24.1, n24.2, Or.inl ⟨by omega, by rw [F80.x 952 _ rfl, e77, Xi_ne (by omega), F62.x 952 _ rfl, e55, Xi_ne (by omega), f47]; exact y24, d2, by rw [F80.x 957 _ rfl]; exact (xi_of e77 (by unfold rg; omega)).trans (by omega), c2, by omega, by rw [F80.x 953 _ rfl, e77, Xi_ne (by omega), F62.x 953 _ rfl, e55, Xi_ne (by omega), e47, Xi_ne (by omega)]⟩⟩) | (intro b; obtain ⟨c1, c2, c3⟩ := T148 (by rw [e178, Xi_ne (by omega), e163, Xi_ne (by omega)] at b; exact b); have N := N144.o c1; exact ⟨N.1, by omega, Or.inr ⟨N.2.1, F178.1, _, by rw [F178.2.2.2]; exact N.2.2, F178.2.1, by rw [x178, F178.2.2.1]; exact whe_k c3 (runk_w e178 (by omega) (runk_w e163 (by omega) RUNK.rf))⟩⟩)), (by first | (have u := F80; exact runk_F F80 rfl rfl (runk_w e77 (by omega) (runk_F F62 rfl rfl (runk_w e55 (by omega) (runk_w e47 (by omega) RUNK.rf))))) | exact runk_w e178 (by omega) (runk_w e163 (by omega) (RUNK.tr (runk_w e144 (by omega) (runk_w e120 (by omega) (runk_w e93 (by omega) RUNK.rf))) k148))), (by first | (have u := F80; exact kte_F F80 rfl (kte_w e77 (by omega) (kte_F F62 rfl (kte_w e55 (by omega) (kte_w e47 (by omega) KTE.rf))))) | exact kte_w e178 (by omega) (kte_w e163 (by omega) (kte_F F148 rfl (kte_w e144 (by omega) (kte_w e120 (by omega) (kte_w e93 (by omega) KTE.rf))))))⟩
      · refine y_iconst rfl ?_
        refine y_goto rfl rfl ?_
        refine y_iastoreP (n := 1700) rfl rfl (by unfold rg; omega) (fun w180 w181 => ?_)
        obtain ⟨U22, eU22⟩ : ∃ T : sS, T = uI S 952 (((Xi S 904 93)).toNat) (Int32.ofInt 1) := ⟨_, rfl⟩
        rw [← eU22]
        have hHU22 : RI U22 := by rw [eU22]; exact RI_w hH
        have hFU22 : FR md_mo_testedWhat__t S U22 := by rw [eU22]; exact FR.wI hF (mdf_i (r := (952, 953, 0, 100000)) (List.mem_of_getElem? (i := 7) rfl) (inR_i (by omega) (by omega) (by omega) (by omega)))
        have w182 : Xi U22 952 (((Xi S 904 93)).toNat) = 1 := by rw [eU22]; exact Xi_same (by unfold rg; omega)
        have e47 := eU22
        have f47 : Xi U22 952 (Xi S 904 93).toNat = (if tkR S (Xi S 904 8) = 151 then 1 else 2) := by rw [e47]; first | (rw [if_pos (by have u := (t36.1 (by omega)).2.1; omega)]; exact Xi_same (by unfold rg; omega)) | (rw [if_neg (by have u := t36.2 (by omega); omega)]; exact Xi_same (by unfold rg; omega))
        refine y_aload_n rfl rfl ?_
        refine y_dup rfl rfl ?_
        refine y_gfi rfl rfl rfl rfl rfl ?_
        have w183 : (Xi U22 904 8) = (Xi S 904 8) := (show Xi U22 904 8 = Xi S 904 8 from by rw [eU22]; exact Xi_ne (by omega))
        rw [w183]
        refine y_iconst rfl ?_
        refine y_iadd rfl ?_
        refine y_pfi rfl rfl rfl rfl ?_
        obtain ⟨U23, eU23⟩ : ∃ T : sS, T = uI U22 904 8 (Int32.ofInt ((Xi S 904 8) + 1)) := ⟨_, rfl⟩
        rw [← eU23]
        have hHU23 : RI U23 := by rw [eU23]; exact RI_w hHU22
        have hFU23 : FR md_mo_testedWhat__t S U23 := by rw [eU23]; exact FR.wI hFU22 (mdf_i (r := (904, 905, 8, 9)) (List.mem_of_getElem? (i := 0) rfl) (inR_i (by omega) (by omega) (by omega) (by omega)))
        have w184 : Xi U23 904 8 = ((Xi S 904 8) + 1) := by rw [eU23]; exact Xi_same (by unfold rg; omega)
        have e55 := eU23
        have x55 : Xi U23 904 8 = Xi S 904 8 + 1 := by rw [e55]; refine (Xi_same (by unfold rg; omega)).trans ?_; first | rfl | (rw [e47, Xi_ne (by omega)])
        refine y_aload_n rfl rfl ?_
        refine y_sipush rfl rfl ?_
        have w187 : Xi U23 904 65 = Xi S 904 65 := (show Xi U23 904 65 = Xi U22 904 65 from by rw [eU23]; exact Xi_ne (by omega)).trans ((show Xi U22 904 65 = Xi S 904 65 from by rw [eU22]; exact Xi_ne (by omega)))
        refine y_callV rfl rfl rfl (t_mo_take__t hHU23 150 ⟨by omega, by omega⟩ _) ?_
        rintro _ T24 ⟨hHT24, w193, rfl, t62⟩
        have hFT24 : FR md_mo_testedWhat__t S T24 := FR.tr hFU23 w193 rfl
        show Pl _ _ _ _ _ _ [] _ _
        have F62 := (by assumption : FR md_mo_take__t U23 T24)
        have T62 := t62
        rw [tkR_F7 hFU23 rfl] at T62
        clear t62
        refine y_aload_n rfl rfl ?_
        refine y_gfr rfl rfl rfl rfl rfl (hHT24.r 904 87 957 rfl) ?_
        refine y_aload_n rfl rfl ?_
        refine y_gfi rfl rfl rfl rfl rfl ?_
        have w194 : (Xi T24 904 93) = (Xi S 904 93) := (show Xi T24 904 93 = Xi U23 904 93 from w193.x _ _ rfl).trans ( (show Xi U23 904 93 = Xi U22 904 93 from by rw [eU23]; exact Xi_ne (by omega)).trans ((show Xi U22 904 93 = Xi S 904 93 from by rw [eU22]; exact Xi_ne (by omega))))
        rw [w194]
        refine y_aload_n rfl rfl ?_
        refine y_gfi rfl rfl rfl rfl rfl ?_
        have w195 : -2147483648 ≤ (Xi T24 904 8) ∧ (Xi T24 904 8) ≤ 2147483647 := Xi_rgI
        refine y_iastoreP (n := 1700) rfl rfl (by unfold rg; omega) (fun w196 w197 => ?_)
        obtain ⟨U25, eU25⟩ : ∃ T : sS, T = uI T24 957 (((Xi S 904 93)).toNat) (Int32.ofInt (Xi T24 904 8)) := ⟨_, rfl⟩
        rw [← eU25]
        have hHU25 : RI U25 := by rw [eU25]; exact RI_w hHT24
        have hFU25 : FR md_mo_testedWhat__t S U25 := by rw [eU25]; exact FR.wI hFT24 (mdf_i (r := (957, 958, 0, 100000)) (List.mem_of_getElem? (i := 9) rfl) (inR_i (by omega) (by omega) (by omega) (by omega)))
        have w198 : Xi U25 957 (((Xi S 904 93)).toNat) = (Xi T24 904 8) := by rw [eU25]; exact Xi_same (by unfold rg; omega)
        have e77 := eU25
        refine y_aload_n rfl rfl ?_
        refine y_iconst rfl ?_
        have w201 : Xi U25 904 65 = Xi T24 904 65 := (show Xi U25 904 65 = Xi T24 904 65 from by rw [eU25]; exact Xi_ne (by omega))
        have w204 : Xi U25 904 8 = Xi T24 904 8 := (show Xi U25 904 8 = Xi T24 904 8 from by rw [eU25]; exact Xi_ne (by omega))
        refine y_callV rfl rfl rfl (t_mo_take__t hHU25 4 ⟨by omega, by omega⟩ _) ?_
        rintro _ T26 ⟨hHT26, w208, rfl, t80⟩
        have hFT26 : FR md_mo_testedWhat__t S T26 := FR.tr hFU25 w208 rfl
        show Pl _ _ _ _ _ _ [] _ _
        have F80 := (by assumption : FR md_mo_take__t U25 T26)
        have T80 := t80
        rw [tkR_F7 hFU25 rfl] at T80
        clear t80
        refine y_return rfl rfl ?_
        have w209 : Xi T26 904 100 = Xi S 904 100 := (show Xi T26 904 100 = Xi U25 904 100 from w208.x _ _ rfl).trans ( (show Xi U25 904 100 = Xi T24 904 100 from by rw [eU25]; exact Xi_ne (by omega)).trans ( (show Xi T24 904 100 = Xi U23 904 100 from w193.x _ _ rfl).trans ( (show Xi U23 904 100 = Xi U22 904 100 from by rw [eU23]; exact Xi_ne (by omega)).trans ((show Xi U22 904 100 = Xi S 904 100 from by rw [eU22]; exact Xi_ne (by omega))))))
        have w210 : Xi T26 904 101 = Xi S 904 101 := (show Xi T26 904 101 = Xi U25 904 101 from w208.x _ _ rfl).trans ( (show Xi U25 904 101 = Xi T24 904 101 from by rw [eU25]; exact Xi_ne (by omega)).trans ( (show Xi T24 904 101 = Xi U23 904 101 from w193.x _ _ rfl).trans ( (show Xi U23 904 101 = Xi U22 904 101 from by rw [eU23]; exact Xi_ne (by omega)).trans ((show Xi U22 904 101 = Xi S 904 101 from by rw [eU22]; exact Xi_ne (by omega))))))
        have w211 : Xi T26 904 69 = Xi S 904 69 := (show Xi T26 904 69 = Xi U25 904 69 from w208.x _ _ rfl).trans ( (show Xi U25 904 69 = Xi T24 904 69 from by rw [eU25]; exact Xi_ne (by omega)).trans ( (show Xi T24 904 69 = Xi U23 904 69 from w193.x _ _ rfl).trans ( (show Xi U23 904 69 = Xi U22 904 69 from by rw [eU23]; exact Xi_ne (by omega)).trans ((show Xi U22 904 69 = Xi S 904 69 from by rw [eU22]; exact Xi_ne (by omega))))))
        have w212 : Xi T26 904 78 = Xi S 904 78 := (show Xi T26 904 78 = Xi U25 904 78 from w208.x _ _ rfl).trans ( (show Xi U25 904 78 = Xi T24 904 78 from by rw [eU25]; exact Xi_ne (by omega)).trans ( (show Xi T24 904 78 = Xi U23 904 78 from w193.x _ _ rfl).trans ( (show Xi U23 904 78 = Xi U22 904 78 from by rw [eU23]; exact Xi_ne (by omega)).trans ((show Xi U22 904 78 = Xi S 904 78 from by rw [eU22]; exact Xi_ne (by omega))))))
        have w213 : Xi T26 904 93 = Xi S 904 93 := (show Xi T26 904 93 = Xi U25 904 93 from w208.x _ _ rfl).trans ( (show Xi U25 904 93 = Xi T24 904 93 from by rw [eU25]; exact Xi_ne (by omega)).trans ( (show Xi T24 904 93 = Xi U23 904 93 from w193.x _ _ rfl).trans ( (show Xi U23 904 93 = Xi U22 904 93 from by rw [eU23]; exact Xi_ne (by omega)).trans ((show Xi U22 904 93 = Xi S 904 93 from by rw [eU22]; exact Xi_ne (by omega))))))
        have w214 : Xi T26 904 99 = Xi S 904 99 := (show Xi T26 904 99 = Xi U25 904 99 from w208.x _ _ rfl).trans ( (show Xi U25 904 99 = Xi T24 904 99 from by rw [eU25]; exact Xi_ne (by omega)).trans ( (show Xi T24 904 99 = Xi U23 904 99 from w193.x _ _ rfl).trans ( (show Xi U23 904 99 = Xi U22 904 99 from by rw [eU23]; exact Xi_ne (by omega)).trans ((show Xi U22 904 99 = Xi S 904 99 from by rw [eU22]; exact Xi_ne (by omega))))))
        exact ⟨hHT26, hFT26, rfl, (by first | (have u := F80; intro b; obtain ⟨c1, c2, c3, c4⟩ := T80 b; obtain ⟨d1, d2, d3, d4⟩ := T62 (by omega); rw [x55] at d2; rw [show Xi U25 904 8 = Xi S 904 8 + 2 by omega] at c2; exact ⟨n24.1, n24.2, Or.inl ⟨by omega, by rw [F80.x 952 _ rfl, e77, Xi_ne (by omega), F62.x 952 _ rfl, e55, Xi_ne (by omega), f47]; exact y24, d2, by rw [F80.x 957 _ rfl]; exact (xi_of e77 (by unfold rg; omega)).trans (by omega), c2, by omega, by rw [F80.x 953 _ rfl, e77, Xi_ne (by omega), F62.x 953 _ rfl, e55, Xi_ne (by omega), e47, Xi_ne (by omega)]⟩⟩) | (intro b; obtain ⟨c1, c2, c3⟩ := T148 (by rw [e178, Xi_ne (by omega), e163, Xi_ne (by omega)] at b; exact b); have N := N144.o c1; exact ⟨N.1, by omega, Or.inr ⟨N.2.1, F178.1, _, by rw [F178.2.2.2]; exact N.2.2, F178.2.1, by rw [x178, F178.2.2.1]; exact whe_k c3 (runk_w e178 (by omega) (runk_w e163 (by omega) RUNK.rf))⟩⟩)), (by first | (have u := F80; exact runk_F F80 rfl rfl (runk_w e77 (by omega) (runk_F F62 rfl rfl (runk_w e55 (by omega) (runk_w e47 (by omega) RUNK.rf))))) | exact runk_w e178 (by omega) (runk_w e163 (by omega) (RUNK.tr (runk_w e144 (by omega) (runk_w e120 (by omega) (runk_w e93 (by omega) RUNK.rf))) k148))), (by first | (have u := F80; exact kte_F F80 rfl (kte_w e77 (by omega) (kte_F F62 rfl (kte_w e55 (by omega) (kte_w e47 (by omega) KTE.rf))))) | exact kte_w e178 (by omega) (kte_w e163 (by omega) (kte_F F148 rfl (kte_w e144 (by omega) (kte_w e120 (by omega) (kte_w e93 (by omega) KTE.rf))))))⟩
    · refine y_aload_n rfl rfl ?_
      refine y_sipush rfl rfl ?_
      refine y_callV rfl rfl rfl (t_mo_isNext__t hH 152 ⟨by omega, by omega⟩ _) ?_
      rintro _ _ ⟨rfl, z215, rfl, w215, t18⟩
      show Pl _ _ _ _ _ _ [iv z215] _ _
      refine y_if_eq rfl rfl (by unfold rg; omega) (fun w216 => ?_) (fun w217 => ?_)
      · refine y_aload_n rfl rfl ?_
        have Y84 : Xi S 904 65 = 0 → ¬ (isNow = 0 ∧ (tkR S (Xi S 904 8) = 151 ∨ tkR S (Xi S 904 8) = 152)) := by first | (have u := t18; have a := t8.2 (by omega); have c := t18.2 (by omega); intro b q; omega) | (intro b q; omega)
        refine y_gfr rfl rfl rfl rfl rfl (hH.r 904 82 952 rfl) ?_
        refine y_aload_n rfl rfl ?_
        refine y_gfi rfl rfl rfl rfl rfl ?_
        refine y_iconst rfl ?_
        refine y_iastoreP (n := 1700) rfl rfl (by unfold rg; omega) (fun w218 w219 => ?_)
        obtain ⟨U27, eU27⟩ : ∃ T : sS, T = uI S 952 (((Xi S 904 93)).toNat) (Int32.ofInt 0) := ⟨_, rfl⟩
        rw [← eU27]
        have hHU27 : RI U27 := by rw [eU27]; exact RI_w hH
        have hFU27 : FR md_mo_testedWhat__t S U27 := by rw [eU27]; exact FR.wI hF (mdf_i (r := (952, 953, 0, 100000)) (List.mem_of_getElem? (i := 7) rfl) (inR_i (by omega) (by omega) (by omega) (by omega)))
        have w220 : Xi U27 952 (((Xi S 904 93)).toNat) = 0 := by rw [eU27]; exact Xi_same (by unfold rg; omega)
        have e93 := eU27
        have a93 : Xi U27 904 8 = Xi S 904 8 := by rw [e93, Xi_ne (by omega)]
        have b93 : Xi U27 904 65 = Xi S 904 65 := by rw [e93, Xi_ne (by omega)]
        have h93 := tkR_F7 hFU27 rfl
        refine y_aload_n rfl rfl ?_
        refine y_gfr rfl rfl rfl rfl rfl (hHU27.r 904 83 953 rfl) ?_
        refine y_aload_n rfl rfl ?_
        refine y_gfi rfl rfl rfl rfl rfl ?_
        have w221 : (Xi U27 904 93) = (Xi S 904 93) := (show Xi U27 904 93 = Xi S 904 93 from by rw [eU27]; exact Xi_ne (by omega))
        rw [w221]
        refine y_iload_n rfl rfl ?_
        refine y_if_ne rfl rfl (by unfold rg; omega) (fun w222 => ?_) (fun w223 => ?_)
        · refine y_iconst rfl ?_
          refine y_bastoreZP (n := 1700) rfl rfl (by unfold rg; omega) ⟨by omega, by omega⟩ (fun w224 w225 => ?_)
          obtain ⟨U28, eU28⟩ : ∃ T : sS, T = uI U27 953 (((Xi S 904 93)).toNat) (Int32.ofInt 0) := ⟨_, rfl⟩
          rw [← eU28]
          have hHU28 : RI U28 := by rw [eU28]; exact RI_w hHU27
          have hFU28 : FR md_mo_testedWhat__t S U28 := by rw [eU28]; exact FR.wI hFU27 (mdf_i (r := (953, 954, 0, 100000)) (List.mem_of_getElem? (i := 8) rfl) (inR_i (by omega) (by omega) (by omega) (by omega)))
          have w226 : Xi U28 953 (((Xi S 904 93)).toNat) = 0 := by rw [eU28]; exact Xi_same (by unfold rg; omega)
          have e120 := eU28
          refine y_aload_n rfl rfl ?_
          refine y_dup rfl rfl ?_
          refine y_gfi rfl rfl rfl rfl rfl ?_
          have w227 : (Xi U28 904 8) = (Xi S 904 8) := (show Xi U28 904 8 = Xi U27 904 8 from by rw [eU28]; exact Xi_ne (by omega)).trans ((show Xi U27 904 8 = Xi S 904 8 from by rw [eU27]; exact Xi_ne (by omega)))
          rw [w227]
          refine y_aload_n rfl rfl ?_
          refine y_gfr rfl rfl rfl rfl rfl (hHU28.r 904 83 953 rfl) ?_
          refine y_aload_n rfl rfl ?_
          refine y_gfi rfl rfl rfl rfl rfl ?_
          have w228 : (Xi U28 904 93) = (Xi S 904 93) := (show Xi U28 904 93 = Xi U27 904 93 from by rw [eU28]; exact Xi_ne (by omega)).trans ((show Xi U27 904 93 = Xi S 904 93 from by rw [eU27]; exact Xi_ne (by omega)))
          rw [w228]
          refine y_baloadP (n := 1700) rfl rfl rfl (by decide) (by unfold rg; omega) (fun w229 w230 => ?_)
          have v134 := xi_of e120 (by unfold rg; omega)
          refine y_if_eq rfl rfl (by unfold rg; omega) (fun w231 => ?_) (fun w232 => ?_)
          · refine y_iconst rfl ?_
            refine y_iadd rfl ?_
            refine y_pfi rfl rfl rfl rfl ?_
            obtain ⟨U29, eU29⟩ : ∃ T : sS, T = uI U28 904 8 (Int32.ofInt ((Xi S 904 8) + 0)) := ⟨_, rfl⟩
            rw [← eU29]
            have hHU29 : RI U29 := by rw [eU29]; exact RI_w hHU28
            have hFU29 : FR md_mo_testedWhat__t S U29 := by rw [eU29]; exact FR.wI hFU28 (mdf_i (r := (904, 905, 8, 9)) (List.mem_of_getElem? (i := 0) rfl) (inR_i (by omega) (by omega) (by omega) (by omega)))
            have w233 : Xi U29 904 8 = ((Xi S 904 8) + 0) := by rw [eU29]; exact Xi_same (by unfold rg; omega)
            have e144 := eU29
            have N144 : Hid (Xi U29 904 65 = 0 → Xi S 904 65 = 0 ∧ ¬ (isNow = 0 ∧ (tkR S (Xi S 904 8) = 151 ∨ tkR S (Xi S 904 8) = 152)) ∧ ((isNow = 0 ∧ tkR S (Xi S 904 8) = 106 ∧ Xi U29 953 (Xi S 904 93).toNat = 1 ∧ Xi U29 904 8 = Xi S 904 8 + 1) ∨ (¬ (isNow = 0 ∧ tkR S (Xi S 904 8) = 106) ∧ Xi U29 953 (Xi S 904 93).toNat = 0 ∧ Xi U29 904 8 = Xi S 904 8))) := fun c => by have c0 : Xi S 904 65 = 0 := (by rw [e144, Xi_ne (by omega), e120, Xi_ne (by omega), e93, Xi_ne (by omega)] at c; exact c); have n := v134; have n1 : Xi U29 953 (Xi S 904 93).toNat = Xi U28 953 (Xi S 904 93).toNat := (by rw [e144, Xi_ne (by omega)]); refine ⟨c0, Y84 c0, ?_⟩; first | (have u := T109.1 (by omega); exact Or.inl ⟨by omega, by omega, by omega, by rw [e144]; refine (Xi_same (by unfold rg; omega)).trans ?_; first | omega | (rw [e120, Xi_ne (by omega)]; omega)⟩) | (have u := T109.2 (by omega); exact Or.inr ⟨by omega, by omega, by rw [e144]; refine (Xi_same (by unfold rg; omega)).trans ?_; first | omega | (rw [e120, Xi_ne (by omega)]; omega)⟩) | exact Or.inr ⟨by omega, by omega, by rw [e144]; refine (Xi_same (by unfold rg; omega)).trans ?_; first | omega | (rw [e120, Xi_ne (by omega)]; omega)⟩
            refine y_aload_n rfl rfl ?_
            have w234 : Xi U29 904 100 = Xi S 904 100 := (show Xi U29 904 100 = Xi U28 904 100 from by rw [eU29]; exact Xi_ne (by omega)).trans ( (show Xi U28 904 100 = Xi U27 904 100 from by rw [eU28]; exact Xi_ne (by omega)).trans ((show Xi U27 904 100 = Xi S 904 100 from by rw [eU27]; exact Xi_ne (by omega))))
            have w235 : Xi U29 904 101 = Xi S 904 101 := (show Xi U29 904 101 = Xi U28 904 101 from by rw [eU29]; exact Xi_ne (by omega)).trans ( (show Xi U28 904 101 = Xi U27 904 101 from by rw [eU28]; exact Xi_ne (by omega)).trans ((show Xi U27 904 101 = Xi S 904 101 from by rw [eU27]; exact Xi_ne (by omega))))
            have w236 : Xi U29 904 65 = Xi S 904 65 := (show Xi U29 904 65 = Xi U28 904 65 from by rw [eU29]; exact Xi_ne (by omega)).trans ( (show Xi U28 904 65 = Xi U27 904 65 from by rw [eU28]; exact Xi_ne (by omega)).trans ((show Xi U27 904 65 = Xi S 904 65 from by rw [eU27]; exact Xi_ne (by omega))))
            have w237 : Xi U29 904 69 = Xi S 904 69 := (show Xi U29 904 69 = Xi U28 904 69 from by rw [eU29]; exact Xi_ne (by omega)).trans ( (show Xi U28 904 69 = Xi U27 904 69 from by rw [eU28]; exact Xi_ne (by omega)).trans ((show Xi U27 904 69 = Xi S 904 69 from by rw [eU27]; exact Xi_ne (by omega))))
            have w238 : Xi U29 904 78 = Xi S 904 78 := (show Xi U29 904 78 = Xi U28 904 78 from by rw [eU29]; exact Xi_ne (by omega)).trans ( (show Xi U28 904 78 = Xi U27 904 78 from by rw [eU28]; exact Xi_ne (by omega)).trans ((show Xi U27 904 78 = Xi S 904 78 from by rw [eU27]; exact Xi_ne (by omega))))
            have w239 : Xi U29 904 93 = Xi S 904 93 := (show Xi U29 904 93 = Xi U28 904 93 from by rw [eU29]; exact Xi_ne (by omega)).trans ( (show Xi U28 904 93 = Xi U27 904 93 from by rw [eU28]; exact Xi_ne (by omega)).trans ((show Xi U27 904 93 = Xi S 904 93 from by rw [eU27]; exact Xi_ne (by omega))))
            have w240 : Xi U29 904 99 = Xi S 904 99 := (show Xi U29 904 99 = Xi U28 904 99 from by rw [eU29]; exact Xi_ne (by omega)).trans ( (show Xi U28 904 99 = Xi U27 904 99 from by rw [eU28]; exact Xi_ne (by omega)).trans ((show Xi U27 904 99 = Xi S 904 99 from by rw [eU27]; exact Xi_ne (by omega))))
            refine y_callV rfl rfl rfl (t_mo_what__t hHU29 _) ?_
            rintro _ T30 ⟨hHT30, w242, rfl, t148, w148, k148⟩
            have hFT30 : FR md_mo_testedWhat__t S T30 := FR.tr hFU29 w242 rfl
            show Pl _ _ _ _ _ _ [] _ _
            have F148 := (by assumption : FR md_mo_what__t U29 T30)
            have k148_ := k148.1
            have T148 := t148
            rw [tkR_F7 hFU29 rfl] at T148
            clear t148
            have r148 : 0 ≤ Xi U29 904 69 := by rw [e144, Xi_ne (by omega), e120, Xi_ne (by omega), e93, Xi_ne (by omega)]; exact h69
            refine y_aload_n rfl rfl ?_
            refine y_gfr rfl rfl rfl rfl rfl (hHT30.r 904 87 957 rfl) ?_
            refine y_aload_n rfl rfl ?_
            refine y_gfi rfl rfl rfl rfl rfl ?_
            have w243 : (Xi T30 904 93) = (Xi S 904 93) := (show Xi T30 904 93 = Xi U29 904 93 from w242.x _ _ rfl).trans ( (show Xi U29 904 93 = Xi U28 904 93 from by rw [eU29]; exact Xi_ne (by omega)).trans ( (show Xi U28 904 93 = Xi U27 904 93 from by rw [eU28]; exact Xi_ne (by omega)).trans ((show Xi U27 904 93 = Xi S 904 93 from by rw [eU27]; exact Xi_ne (by omega)))))
            rw [w243]
            refine y_aload_n rfl rfl ?_
            refine y_gfi rfl rfl rfl rfl rfl ?_
            have w244 : -2147483648 ≤ (Xi T30 904 78) ∧ (Xi T30 904 78) ≤ 2147483647 := Xi_rgI
            refine y_iastoreP (n := 1700) rfl rfl (by unfold rg; omega) (fun w245 w246 => ?_)
            obtain ⟨U31, eU31⟩ : ∃ T : sS, T = uI T30 957 (((Xi S 904 93)).toNat) (Int32.ofInt (Xi T30 904 78)) := ⟨_, rfl⟩
            rw [← eU31]
            have hHU31 : RI U31 := by rw [eU31]; exact RI_w hHT30
            have hFU31 : FR md_mo_testedWhat__t S U31 := by rw [eU31]; exact FR.wI hFT30 (mdf_i (r := (957, 958, 0, 100000)) (List.mem_of_getElem? (i := 9) rfl) (inR_i (by omega) (by omega) (by omega) (by omega)))
            have w247 : Xi U31 957 (((Xi S 904 93)).toNat) = (Xi T30 904 78) := by rw [eU31]; exact Xi_same (by unfold rg; omega)
            have e163 := eU31
            have x163 : Xi U31 904 69 = Xi T30 904 69 := by rw [e163, Xi_ne (by omega)]
            refine y_aload_n rfl rfl ?_
            refine y_gfr rfl rfl rfl rfl rfl (hHU31.r 904 90 960 rfl) ?_
            refine y_aload_n rfl rfl ?_
            refine y_gfi rfl rfl rfl rfl rfl ?_
            have w248 : (Xi U31 904 93) = (Xi S 904 93) := (show Xi U31 904 93 = Xi T30 904 93 from by rw [eU31]; exact Xi_ne (by omega)).trans ( (show Xi T30 904 93 = Xi U29 904 93 from w242.x _ _ rfl).trans ( (show Xi U29 904 93 = Xi U28 904 93 from by rw [eU29]; exact Xi_ne (by omega)).trans ( (show Xi U28 904 93 = Xi U27 904 93 from by rw [eU28]; exact Xi_ne (by omega)).trans ((show Xi U27 904 93 = Xi S 904 93 from by rw [eU27]; exact Xi_ne (by omega))))))
            rw [w248]
            refine y_aload_n rfl rfl ?_
            refine y_gfi rfl rfl rfl rfl rfl ?_
            have w249 : -2147483648 ≤ (Xi U31 904 69) ∧ (Xi U31 904 69) ≤ 2147483647 := Xi_rgI
            refine y_iconst rfl ?_
            refine y_isub rfl ?_
            refine y_iastoreP (n := 1700) rfl rfl (by unfold rg; omega) (fun w250 w251 => ?_)
            obtain ⟨U32, eU32⟩ : ∃ T : sS, T = uI U31 960 (((Xi S 904 93)).toNat) (Int32.ofInt ((Xi U31 904 69) - 1)) := ⟨_, rfl⟩
            rw [← eU32]
            have hHU32 : RI U32 := by rw [eU32]; exact RI_w hHU31
            have hFU32 : FR md_mo_testedWhat__t S U32 := by rw [eU32]; exact FR.wI hFU31 (mdf_i (r := (960, 961, 0, 100000)) (List.mem_of_getElem? (i := 10) rfl) (inR_i (by omega) (by omega) (by omega) (by omega)))
            have w252 : Xi U32 960 (((Xi S 904 93)).toNat) = ((Xi U31 904 69) - 1) := by rw [eU32]; exact Xi_same (by unfold rg; omega)
            have e178 := eU32
            have x178 : Xi U32 904 8 = Xi T30 904 8 := by rw [e178, Xi_ne (by omega), e163, Xi_ne (by omega)]
            have F178 : Xi U32 952 (Xi S 904 93).toNat = 0 ∧ Xi U32 957 (Xi S 904 93).toNat = Xi U29 904 8 ∧ Xi U32 960 (Xi S 904 93).toNat = Xi T30 904 69 - 1 ∧ Xi U32 953 (Xi S 904 93).toNat = Xi U29 953 (Xi S 904 93).toNat := ⟨by rw [e178, Xi_ne (by omega), e163, Xi_ne (by omega), F148.x 952 _ rfl, e144, Xi_ne (by omega), e120, Xi_ne (by omega)]; exact xi_of e93 (by unfold rg; omega), by rw [e178, Xi_ne (by omega)]; refine (xi_of e163 (by unfold rg; omega)).trans ?_; exact w148, by refine (xi_of e178 (by unfold rg; omega)).trans ?_; first | rfl | (rw [e163, Xi_ne (by omega)]), by rw [e178, Xi_ne (by omega), e163, Xi_ne (by omega), F148.x 953 _ rfl]⟩
            refine y_return rfl rfl ?_
            have w253 : Xi U32 904 100 = Xi S 904 100 := (show Xi U32 904 100 = Xi U31 904 100 from by rw [eU32]; exact Xi_ne (by omega)).trans ( (show Xi U31 904 100 = Xi T30 904 100 from by rw [eU31]; exact Xi_ne (by omega)).trans ( (show Xi T30 904 100 = Xi U29 904 100 from w242.x _ _ rfl).trans ( (show Xi U29 904 100 = Xi U28 904 100 from by rw [eU29]; exact Xi_ne (by omega)).trans ( (show Xi U28 904 100 = Xi U27 904 100 from by rw [eU28]; exact Xi_ne (by omega)).trans ((show Xi U27 904 100 = Xi S 904 100 from by rw [eU27]; exact Xi_ne (by omega)))))))
            have w254 : Xi U32 904 101 = Xi S 904 101 := (show Xi U32 904 101 = Xi U31 904 101 from by rw [eU32]; exact Xi_ne (by omega)).trans ( (show Xi U31 904 101 = Xi T30 904 101 from by rw [eU31]; exact Xi_ne (by omega)).trans ( (show Xi T30 904 101 = Xi U29 904 101 from w242.x _ _ rfl).trans ( (show Xi U29 904 101 = Xi U28 904 101 from by rw [eU29]; exact Xi_ne (by omega)).trans ( (show Xi U28 904 101 = Xi U27 904 101 from by rw [eU28]; exact Xi_ne (by omega)).trans ((show Xi U27 904 101 = Xi S 904 101 from by rw [eU27]; exact Xi_ne (by omega)))))))
            have w255 : Xi U32 904 65 = Xi T30 904 65 := (show Xi U32 904 65 = Xi U31 904 65 from by rw [eU32]; exact Xi_ne (by omega)).trans ((show Xi U31 904 65 = Xi T30 904 65 from by rw [eU31]; exact Xi_ne (by omega)))
            have w256 : Xi U32 904 69 = Xi T30 904 69 := (show Xi U32 904 69 = Xi U31 904 69 from by rw [eU32]; exact Xi_ne (by omega)).trans ((show Xi U31 904 69 = Xi T30 904 69 from by rw [eU31]; exact Xi_ne (by omega)))
            have w257 : Xi U32 904 78 = Xi T30 904 78 := (show Xi U32 904 78 = Xi U31 904 78 from by rw [eU32]; exact Xi_ne (by omega)).trans ((show Xi U31 904 78 = Xi T30 904 78 from by rw [eU31]; exact Xi_ne (by omega)))
            have w258 : Xi U32 904 8 = Xi T30 904 8 := (show Xi U32 904 8 = Xi U31 904 8 from by rw [eU32]; exact Xi_ne (by omega)).trans ((show Xi U31 904 8 = Xi T30 904 8 from by rw [eU31]; exact Xi_ne (by omega)))
            have w259 : Xi U32 904 93 = Xi S 904 93 := (show Xi U32 904 93 = Xi U31 904 93 from by rw [eU32]; exact Xi_ne (by omega)).trans ( (show Xi U31 904 93 = Xi T30 904 93 from by rw [eU31]; exact Xi_ne (by omega)).trans ( (show Xi T30 904 93 = Xi U29 904 93 from w242.x _ _ rfl).trans ( (show Xi U29 904 93 = Xi U28 904 93 from by rw [eU29]; exact Xi_ne (by omega)).trans ( (show Xi U28 904 93 = Xi U27 904 93 from by rw [eU28]; exact Xi_ne (by omega)).trans ((show Xi U27 904 93 = Xi S 904 93 from by rw [eU27]; exact Xi_ne (by omega)))))))
            have w260 : Xi U32 904 99 = Xi S 904 99 := (show Xi U32 904 99 = Xi U31 904 99 from by rw [eU32]; exact Xi_ne (by omega)).trans ( (show Xi U31 904 99 = Xi T30 904 99 from by rw [eU31]; exact Xi_ne (by omega)).trans ( (show Xi T30 904 99 = Xi U29 904 99 from w242.x _ _ rfl).trans ( (show Xi U29 904 99 = Xi U28 904 99 from by rw [eU29]; exact Xi_ne (by omega)).trans ( (show Xi U28 904 99 = Xi U27 904 99 from by rw [eU28]; exact Xi_ne (by omega)).trans ((show Xi U27 904 99 = Xi S 904 99 from by rw [eU27]; exact Xi_ne (by omega)))))))
            exact ⟨hHU32, hFU32, rfl, (by first | (have u := F80; intro b; obtain ⟨c1, c2, c3, c4⟩ := T80 b; obtain ⟨d1, d2, d3, d4⟩ := T62 (by omega); rw [x55] at d2; rw [show Xi U31 904 8 = Xi S 904 8 + 2 by omega] at c2; exact ⟨n24.1, n24.2, Or.inl ⟨by omega, by rw [F80.x 952 _ rfl, e77, Xi_ne (by omega), F62.x 952 _ rfl, e55, Xi_ne (by omega), f47]; exact y24, d2, by rw [F80.x 957 _ rfl]; exact (xi_of e77 (by unfold rg; omega)).trans (by omega), c2, by omega, by rw [F80.x 953 _ rfl, e77, Xi_ne (by omega), F62.x 953 _ rfl, e55, Xi_ne (by omega), e47, Xi_ne (by omega)]⟩⟩) | (intro b; obtain ⟨c1, c2, c3⟩ := T148 (by rw [e178, Xi_ne (by omega), e163, Xi_ne (by omega)] at b; exact b); have N := N144.o c1; exact ⟨N.1, by omega, Or.inr ⟨N.2.1, F178.1, _, by rw [F178.2.2.2]; exact N.2.2, F178.2.1, by rw [x178, F178.2.2.1]; exact whe_k c3 (runk_w e178 (by omega) (runk_w e163 (by omega) RUNK.rf))⟩⟩)), (by first | (have u := F80; exact runk_F F80 rfl rfl (runk_w e77 (by omega) (runk_F F62 rfl rfl (runk_w e55 (by omega) (runk_w e47 (by omega) RUNK.rf))))) | exact runk_w e178 (by omega) (runk_w e163 (by omega) (RUNK.tr (runk_w e144 (by omega) (runk_w e120 (by omega) (runk_w e93 (by omega) RUNK.rf))) k148))), (by first | (have u := F80; exact kte_F F80 rfl (kte_w e77 (by omega) (kte_F F62 rfl (kte_w e55 (by omega) (kte_w e47 (by omega) KTE.rf))))) | exact kte_w e178 (by omega) (kte_w e163 (by omega) (kte_F F148 rfl (kte_w e144 (by omega) (kte_w e120 (by omega) (kte_w e93 (by omega) KTE.rf))))))⟩
          · exfalso; omega
        · refine y_aload_n rfl rfl ?_
          refine y_bipush rfl rfl ?_
          have w261 : Xi U27 904 100 = Xi S 904 100 := (show Xi U27 904 100 = Xi S 904 100 from by rw [eU27]; exact Xi_ne (by omega))
          have w262 : Xi U27 904 101 = Xi S 904 101 := (show Xi U27 904 101 = Xi S 904 101 from by rw [eU27]; exact Xi_ne (by omega))
          have w263 : Xi U27 904 65 = Xi S 904 65 := (show Xi U27 904 65 = Xi S 904 65 from by rw [eU27]; exact Xi_ne (by omega))
          have w264 : Xi U27 904 69 = Xi S 904 69 := (show Xi U27 904 69 = Xi S 904 69 from by rw [eU27]; exact Xi_ne (by omega))
          have w265 : Xi U27 904 78 = Xi S 904 78 := (show Xi U27 904 78 = Xi S 904 78 from by rw [eU27]; exact Xi_ne (by omega))
          have w266 : Xi U27 904 8 = Xi S 904 8 := (show Xi U27 904 8 = Xi S 904 8 from by rw [eU27]; exact Xi_ne (by omega))
          have w267 : Xi U27 904 93 = Xi S 904 93 := (show Xi U27 904 93 = Xi S 904 93 from by rw [eU27]; exact Xi_ne (by omega))
          have w268 : Xi U27 904 99 = Xi S 904 99 := (show Xi U27 904 99 = Xi S 904 99 from by rw [eU27]; exact Xi_ne (by omega))
          refine y_callV rfl rfl rfl (t_mo_isNext__t hHU27 106 ⟨by omega, by omega⟩ _) ?_
          rintro _ _ ⟨rfl, z269, rfl, w269, t109⟩
          show Pl _ _ _ _ _ _ [iv z269, iv (Xi S 904 93), .ref 953] _ _
          have T109 := t109
          rw [h93, a93, b93] at T109
          clear t109
          refine y_if_eq rfl rfl (by unfold rg; omega) (fun w270 => ?_) (fun w271 => ?_)
          · refine y_iconst rfl ?_
            refine y_bastoreZP (n := 1700) rfl rfl (by unfold rg; omega) ⟨by omega, by omega⟩ (fun w272 w273 => ?_)
            obtain ⟨U33, eU33⟩ : ∃ T : sS, T = uI U27 953 (((Xi S 904 93)).toNat) (Int32.ofInt 0) := ⟨_, rfl⟩
            rw [← eU33]
            have hHU33 : RI U33 := by rw [eU33]; exact RI_w hHU27
            have hFU33 : FR md_mo_testedWhat__t S U33 := by rw [eU33]; exact FR.wI hFU27 (mdf_i (r := (953, 954, 0, 100000)) (List.mem_of_getElem? (i := 8) rfl) (inR_i (by omega) (by omega) (by omega) (by omega)))
            have w274 : Xi U33 953 (((Xi S 904 93)).toNat) = 0 := by rw [eU33]; exact Xi_same (by unfold rg; omega)
            have e120 := eU33
            refine y_aload_n rfl rfl ?_
            refine y_dup rfl rfl ?_
            refine y_gfi rfl rfl rfl rfl rfl ?_
            have w275 : (Xi U33 904 8) = (Xi S 904 8) := (show Xi U33 904 8 = Xi U27 904 8 from by rw [eU33]; exact Xi_ne (by omega)).trans ((show Xi U27 904 8 = Xi S 904 8 from by rw [eU27]; exact Xi_ne (by omega)))
            rw [w275]
            refine y_aload_n rfl rfl ?_
            refine y_gfr rfl rfl rfl rfl rfl (hHU33.r 904 83 953 rfl) ?_
            refine y_aload_n rfl rfl ?_
            refine y_gfi rfl rfl rfl rfl rfl ?_
            have w276 : (Xi U33 904 93) = (Xi S 904 93) := (show Xi U33 904 93 = Xi U27 904 93 from by rw [eU33]; exact Xi_ne (by omega)).trans ((show Xi U27 904 93 = Xi S 904 93 from by rw [eU27]; exact Xi_ne (by omega)))
            rw [w276]
            refine y_baloadP (n := 1700) rfl rfl rfl (by decide) (by unfold rg; omega) (fun w277 w278 => ?_)
            have v134 := xi_of e120 (by unfold rg; omega)
            refine y_if_eq rfl rfl (by unfold rg; omega) (fun w279 => ?_) (fun w280 => ?_)
            · refine y_iconst rfl ?_
              refine y_iadd rfl ?_
              refine y_pfi rfl rfl rfl rfl ?_
              obtain ⟨U34, eU34⟩ : ∃ T : sS, T = uI U33 904 8 (Int32.ofInt ((Xi S 904 8) + 0)) := ⟨_, rfl⟩
              rw [← eU34]
              have hHU34 : RI U34 := by rw [eU34]; exact RI_w hHU33
              have hFU34 : FR md_mo_testedWhat__t S U34 := by rw [eU34]; exact FR.wI hFU33 (mdf_i (r := (904, 905, 8, 9)) (List.mem_of_getElem? (i := 0) rfl) (inR_i (by omega) (by omega) (by omega) (by omega)))
              have w281 : Xi U34 904 8 = ((Xi S 904 8) + 0) := by rw [eU34]; exact Xi_same (by unfold rg; omega)
              have e144 := eU34
              have N144 : Hid (Xi U34 904 65 = 0 → Xi S 904 65 = 0 ∧ ¬ (isNow = 0 ∧ (tkR S (Xi S 904 8) = 151 ∨ tkR S (Xi S 904 8) = 152)) ∧ ((isNow = 0 ∧ tkR S (Xi S 904 8) = 106 ∧ Xi U34 953 (Xi S 904 93).toNat = 1 ∧ Xi U34 904 8 = Xi S 904 8 + 1) ∨ (¬ (isNow = 0 ∧ tkR S (Xi S 904 8) = 106) ∧ Xi U34 953 (Xi S 904 93).toNat = 0 ∧ Xi U34 904 8 = Xi S 904 8))) := fun c => by have c0 : Xi S 904 65 = 0 := (by rw [e144, Xi_ne (by omega), e120, Xi_ne (by omega), e93, Xi_ne (by omega)] at c; exact c); have n := v134; have n1 : Xi U34 953 (Xi S 904 93).toNat = Xi U33 953 (Xi S 904 93).toNat := (by rw [e144, Xi_ne (by omega)]); refine ⟨c0, Y84 c0, ?_⟩; first | (have u := T109.1 (by omega); exact Or.inl ⟨by omega, by omega, by omega, by rw [e144]; refine (Xi_same (by unfold rg; omega)).trans ?_; first | omega | (rw [e120, Xi_ne (by omega)]; omega)⟩) | (have u := T109.2 (by omega); exact Or.inr ⟨by omega, by omega, by rw [e144]; refine (Xi_same (by unfold rg; omega)).trans ?_; first | omega | (rw [e120, Xi_ne (by omega)]; omega)⟩) | exact Or.inr ⟨by omega, by omega, by rw [e144]; refine (Xi_same (by unfold rg; omega)).trans ?_; first | omega | (rw [e120, Xi_ne (by omega)]; omega)⟩
              refine y_aload_n rfl rfl ?_
              have w282 : Xi U34 904 100 = Xi S 904 100 := (show Xi U34 904 100 = Xi U33 904 100 from by rw [eU34]; exact Xi_ne (by omega)).trans ( (show Xi U33 904 100 = Xi U27 904 100 from by rw [eU33]; exact Xi_ne (by omega)).trans ((show Xi U27 904 100 = Xi S 904 100 from by rw [eU27]; exact Xi_ne (by omega))))
              have w283 : Xi U34 904 101 = Xi S 904 101 := (show Xi U34 904 101 = Xi U33 904 101 from by rw [eU34]; exact Xi_ne (by omega)).trans ( (show Xi U33 904 101 = Xi U27 904 101 from by rw [eU33]; exact Xi_ne (by omega)).trans ((show Xi U27 904 101 = Xi S 904 101 from by rw [eU27]; exact Xi_ne (by omega))))
              have w284 : Xi U34 904 65 = Xi S 904 65 := (show Xi U34 904 65 = Xi U33 904 65 from by rw [eU34]; exact Xi_ne (by omega)).trans ( (show Xi U33 904 65 = Xi U27 904 65 from by rw [eU33]; exact Xi_ne (by omega)).trans ((show Xi U27 904 65 = Xi S 904 65 from by rw [eU27]; exact Xi_ne (by omega))))
              have w285 : Xi U34 904 69 = Xi S 904 69 := (show Xi U34 904 69 = Xi U33 904 69 from by rw [eU34]; exact Xi_ne (by omega)).trans ( (show Xi U33 904 69 = Xi U27 904 69 from by rw [eU33]; exact Xi_ne (by omega)).trans ((show Xi U27 904 69 = Xi S 904 69 from by rw [eU27]; exact Xi_ne (by omega))))
              have w286 : Xi U34 904 78 = Xi S 904 78 := (show Xi U34 904 78 = Xi U33 904 78 from by rw [eU34]; exact Xi_ne (by omega)).trans ( (show Xi U33 904 78 = Xi U27 904 78 from by rw [eU33]; exact Xi_ne (by omega)).trans ((show Xi U27 904 78 = Xi S 904 78 from by rw [eU27]; exact Xi_ne (by omega))))
              have w287 : Xi U34 904 93 = Xi S 904 93 := (show Xi U34 904 93 = Xi U33 904 93 from by rw [eU34]; exact Xi_ne (by omega)).trans ( (show Xi U33 904 93 = Xi U27 904 93 from by rw [eU33]; exact Xi_ne (by omega)).trans ((show Xi U27 904 93 = Xi S 904 93 from by rw [eU27]; exact Xi_ne (by omega))))
              have w288 : Xi U34 904 99 = Xi S 904 99 := (show Xi U34 904 99 = Xi U33 904 99 from by rw [eU34]; exact Xi_ne (by omega)).trans ( (show Xi U33 904 99 = Xi U27 904 99 from by rw [eU33]; exact Xi_ne (by omega)).trans ((show Xi U27 904 99 = Xi S 904 99 from by rw [eU27]; exact Xi_ne (by omega))))
              refine y_callV rfl rfl rfl (t_mo_what__t hHU34 _) ?_
              rintro _ T35 ⟨hHT35, w290, rfl, t148, w148, k148⟩
              have hFT35 : FR md_mo_testedWhat__t S T35 := FR.tr hFU34 w290 rfl
              show Pl _ _ _ _ _ _ [] _ _
              have F148 := (by assumption : FR md_mo_what__t U34 T35)
              have k148_ := k148.1
              have T148 := t148
              rw [tkR_F7 hFU34 rfl] at T148
              clear t148
              have r148 : 0 ≤ Xi U34 904 69 := by rw [e144, Xi_ne (by omega), e120, Xi_ne (by omega), e93, Xi_ne (by omega)]; exact h69
              refine y_aload_n rfl rfl ?_
              refine y_gfr rfl rfl rfl rfl rfl (hHT35.r 904 87 957 rfl) ?_
              refine y_aload_n rfl rfl ?_
              refine y_gfi rfl rfl rfl rfl rfl ?_
              have w291 : (Xi T35 904 93) = (Xi S 904 93) := (show Xi T35 904 93 = Xi U34 904 93 from w290.x _ _ rfl).trans ( (show Xi U34 904 93 = Xi U33 904 93 from by rw [eU34]; exact Xi_ne (by omega)).trans ( (show Xi U33 904 93 = Xi U27 904 93 from by rw [eU33]; exact Xi_ne (by omega)).trans ((show Xi U27 904 93 = Xi S 904 93 from by rw [eU27]; exact Xi_ne (by omega)))))
              rw [w291]
              refine y_aload_n rfl rfl ?_
              refine y_gfi rfl rfl rfl rfl rfl ?_
              have w292 : -2147483648 ≤ (Xi T35 904 78) ∧ (Xi T35 904 78) ≤ 2147483647 := Xi_rgI
              refine y_iastoreP (n := 1700) rfl rfl (by unfold rg; omega) (fun w293 w294 => ?_)
              obtain ⟨U36, eU36⟩ : ∃ T : sS, T = uI T35 957 (((Xi S 904 93)).toNat) (Int32.ofInt (Xi T35 904 78)) := ⟨_, rfl⟩
              rw [← eU36]
              have hHU36 : RI U36 := by rw [eU36]; exact RI_w hHT35
              have hFU36 : FR md_mo_testedWhat__t S U36 := by rw [eU36]; exact FR.wI hFT35 (mdf_i (r := (957, 958, 0, 100000)) (List.mem_of_getElem? (i := 9) rfl) (inR_i (by omega) (by omega) (by omega) (by omega)))
              have w295 : Xi U36 957 (((Xi S 904 93)).toNat) = (Xi T35 904 78) := by rw [eU36]; exact Xi_same (by unfold rg; omega)
              have e163 := eU36
              have x163 : Xi U36 904 69 = Xi T35 904 69 := by rw [e163, Xi_ne (by omega)]
              refine y_aload_n rfl rfl ?_
              refine y_gfr rfl rfl rfl rfl rfl (hHU36.r 904 90 960 rfl) ?_
              refine y_aload_n rfl rfl ?_
              refine y_gfi rfl rfl rfl rfl rfl ?_
              have w296 : (Xi U36 904 93) = (Xi S 904 93) := (show Xi U36 904 93 = Xi T35 904 93 from by rw [eU36]; exact Xi_ne (by omega)).trans ( (show Xi T35 904 93 = Xi U34 904 93 from w290.x _ _ rfl).trans ( (show Xi U34 904 93 = Xi U33 904 93 from by rw [eU34]; exact Xi_ne (by omega)).trans ( (show Xi U33 904 93 = Xi U27 904 93 from by rw [eU33]; exact Xi_ne (by omega)).trans ((show Xi U27 904 93 = Xi S 904 93 from by rw [eU27]; exact Xi_ne (by omega))))))
              rw [w296]
              refine y_aload_n rfl rfl ?_
              refine y_gfi rfl rfl rfl rfl rfl ?_
              have w297 : -2147483648 ≤ (Xi U36 904 69) ∧ (Xi U36 904 69) ≤ 2147483647 := Xi_rgI
              refine y_iconst rfl ?_
              refine y_isub rfl ?_
              refine y_iastoreP (n := 1700) rfl rfl (by unfold rg; omega) (fun w298 w299 => ?_)
              obtain ⟨U37, eU37⟩ : ∃ T : sS, T = uI U36 960 (((Xi S 904 93)).toNat) (Int32.ofInt ((Xi U36 904 69) - 1)) := ⟨_, rfl⟩
              rw [← eU37]
              have hHU37 : RI U37 := by rw [eU37]; exact RI_w hHU36
              have hFU37 : FR md_mo_testedWhat__t S U37 := by rw [eU37]; exact FR.wI hFU36 (mdf_i (r := (960, 961, 0, 100000)) (List.mem_of_getElem? (i := 10) rfl) (inR_i (by omega) (by omega) (by omega) (by omega)))
              have w300 : Xi U37 960 (((Xi S 904 93)).toNat) = ((Xi U36 904 69) - 1) := by rw [eU37]; exact Xi_same (by unfold rg; omega)
              have e178 := eU37
              have x178 : Xi U37 904 8 = Xi T35 904 8 := by rw [e178, Xi_ne (by omega), e163, Xi_ne (by omega)]
              have F178 : Xi U37 952 (Xi S 904 93).toNat = 0 ∧ Xi U37 957 (Xi S 904 93).toNat = Xi U34 904 8 ∧ Xi U37 960 (Xi S 904 93).toNat = Xi T35 904 69 - 1 ∧ Xi U37 953 (Xi S 904 93).toNat = Xi U34 953 (Xi S 904 93).toNat := ⟨by rw [e178, Xi_ne (by omega), e163, Xi_ne (by omega), F148.x 952 _ rfl, e144, Xi_ne (by omega), e120, Xi_ne (by omega)]; exact xi_of e93 (by unfold rg; omega), by rw [e178, Xi_ne (by omega)]; refine (xi_of e163 (by unfold rg; omega)).trans ?_; exact w148, by refine (xi_of e178 (by unfold rg; omega)).trans ?_; first | rfl | (rw [e163, Xi_ne (by omega)]), by rw [e178, Xi_ne (by omega), e163, Xi_ne (by omega), F148.x 953 _ rfl]⟩
              refine y_return rfl rfl ?_
              have w301 : Xi U37 904 100 = Xi S 904 100 := (show Xi U37 904 100 = Xi U36 904 100 from by rw [eU37]; exact Xi_ne (by omega)).trans ( (show Xi U36 904 100 = Xi T35 904 100 from by rw [eU36]; exact Xi_ne (by omega)).trans ( (show Xi T35 904 100 = Xi U34 904 100 from w290.x _ _ rfl).trans ( (show Xi U34 904 100 = Xi U33 904 100 from by rw [eU34]; exact Xi_ne (by omega)).trans ( (show Xi U33 904 100 = Xi U27 904 100 from by rw [eU33]; exact Xi_ne (by omega)).trans ((show Xi U27 904 100 = Xi S 904 100 from by rw [eU27]; exact Xi_ne (by omega)))))))
              have w302 : Xi U37 904 101 = Xi S 904 101 := (show Xi U37 904 101 = Xi U36 904 101 from by rw [eU37]; exact Xi_ne (by omega)).trans ( (show Xi U36 904 101 = Xi T35 904 101 from by rw [eU36]; exact Xi_ne (by omega)).trans ( (show Xi T35 904 101 = Xi U34 904 101 from w290.x _ _ rfl).trans ( (show Xi U34 904 101 = Xi U33 904 101 from by rw [eU34]; exact Xi_ne (by omega)).trans ( (show Xi U33 904 101 = Xi U27 904 101 from by rw [eU33]; exact Xi_ne (by omega)).trans ((show Xi U27 904 101 = Xi S 904 101 from by rw [eU27]; exact Xi_ne (by omega)))))))
              have w303 : Xi U37 904 65 = Xi T35 904 65 := (show Xi U37 904 65 = Xi U36 904 65 from by rw [eU37]; exact Xi_ne (by omega)).trans ((show Xi U36 904 65 = Xi T35 904 65 from by rw [eU36]; exact Xi_ne (by omega)))
              have w304 : Xi U37 904 69 = Xi T35 904 69 := (show Xi U37 904 69 = Xi U36 904 69 from by rw [eU37]; exact Xi_ne (by omega)).trans ((show Xi U36 904 69 = Xi T35 904 69 from by rw [eU36]; exact Xi_ne (by omega)))
              have w305 : Xi U37 904 78 = Xi T35 904 78 := (show Xi U37 904 78 = Xi U36 904 78 from by rw [eU37]; exact Xi_ne (by omega)).trans ((show Xi U36 904 78 = Xi T35 904 78 from by rw [eU36]; exact Xi_ne (by omega)))
              have w306 : Xi U37 904 8 = Xi T35 904 8 := (show Xi U37 904 8 = Xi U36 904 8 from by rw [eU37]; exact Xi_ne (by omega)).trans ((show Xi U36 904 8 = Xi T35 904 8 from by rw [eU36]; exact Xi_ne (by omega)))
              have w307 : Xi U37 904 93 = Xi S 904 93 := (show Xi U37 904 93 = Xi U36 904 93 from by rw [eU37]; exact Xi_ne (by omega)).trans ( (show Xi U36 904 93 = Xi T35 904 93 from by rw [eU36]; exact Xi_ne (by omega)).trans ( (show Xi T35 904 93 = Xi U34 904 93 from w290.x _ _ rfl).trans ( (show Xi U34 904 93 = Xi U33 904 93 from by rw [eU34]; exact Xi_ne (by omega)).trans ( (show Xi U33 904 93 = Xi U27 904 93 from by rw [eU33]; exact Xi_ne (by omega)).trans ((show Xi U27 904 93 = Xi S 904 93 from by rw [eU27]; exact Xi_ne (by omega)))))))
              have w308 : Xi U37 904 99 = Xi S 904 99 := (show Xi U37 904 99 = Xi U36 904 99 from by rw [eU37]; exact Xi_ne (by omega)).trans ( (show Xi U36 904 99 = Xi T35 904 99 from by rw [eU36]; exact Xi_ne (by omega)).trans ( (show Xi T35 904 99 = Xi U34 904 99 from w290.x _ _ rfl).trans ( (show Xi U34 904 99 = Xi U33 904 99 from by rw [eU34]; exact Xi_ne (by omega)).trans ( (show Xi U33 904 99 = Xi U27 904 99 from by rw [eU33]; exact Xi_ne (by omega)).trans ((show Xi U27 904 99 = Xi S 904 99 from by rw [eU27]; exact Xi_ne (by omega)))))))
              exact ⟨hHU37, hFU37, rfl, (by first | (have u := F80; intro b; obtain ⟨c1, c2, c3, c4⟩ := T80 b; obtain ⟨d1, d2, d3, d4⟩ := T62 (by omega); rw [x55] at d2; rw [show Xi U36 904 8 = Xi S 904 8 + 2 by omega] at c2; exact ⟨n24.1, n24.2, Or.inl ⟨by omega, by rw [F80.x 952 _ rfl, e77, Xi_ne (by omega), F62.x 952 _ rfl, e55, Xi_ne (by omega), f47]; exact y24, d2, by rw [F80.x 957 _ rfl]; exact (xi_of e77 (by unfold rg; omega)).trans (by omega), c2, by omega, by rw [F80.x 953 _ rfl, e77, Xi_ne (by omega), F62.x 953 _ rfl, e55, Xi_ne (by omega), e47, Xi_ne (by omega)]⟩⟩) | (intro b; obtain ⟨c1, c2, c3⟩ := T148 (by rw [e178, Xi_ne (by omega), e163, Xi_ne (by omega)] at b; exact b); have N := N144.o c1; exact ⟨N.1, by omega, Or.inr ⟨N.2.1, F178.1, _, by rw [F178.2.2.2]; exact N.2.2, F178.2.1, by rw [x178, F178.2.2.1]; exact whe_k c3 (runk_w e178 (by omega) (runk_w e163 (by omega) RUNK.rf))⟩⟩)), (by first | (have u := F80; exact runk_F F80 rfl rfl (runk_w e77 (by omega) (runk_F F62 rfl rfl (runk_w e55 (by omega) (runk_w e47 (by omega) RUNK.rf))))) | exact runk_w e178 (by omega) (runk_w e163 (by omega) (RUNK.tr (runk_w e144 (by omega) (runk_w e120 (by omega) (runk_w e93 (by omega) RUNK.rf))) k148))), (by first | (have u := F80; exact kte_F F80 rfl (kte_w e77 (by omega) (kte_F F62 rfl (kte_w e55 (by omega) (kte_w e47 (by omega) KTE.rf))))) | exact kte_w e178 (by omega) (kte_w e163 (by omega) (kte_F F148 rfl (kte_w e144 (by omega) (kte_w e120 (by omega) (kte_w e93 (by omega) KTE.rf))))))⟩
            · exfalso; omega
          · refine y_iconst rfl ?_
            refine y_goto rfl rfl ?_
            refine y_bastoreZP (n := 1700) rfl rfl (by unfold rg; omega) ⟨by omega, by omega⟩ (fun w309 w310 => ?_)
            obtain ⟨U38, eU38⟩ : ∃ T : sS, T = uI U27 953 (((Xi S 904 93)).toNat) (Int32.ofInt 1) := ⟨_, rfl⟩
            rw [← eU38]
            have hHU38 : RI U38 := by rw [eU38]; exact RI_w hHU27
            have hFU38 : FR md_mo_testedWhat__t S U38 := by rw [eU38]; exact FR.wI hFU27 (mdf_i (r := (953, 954, 0, 100000)) (List.mem_of_getElem? (i := 8) rfl) (inR_i (by omega) (by omega) (by omega) (by omega)))
            have w311 : Xi U38 953 (((Xi S 904 93)).toNat) = 1 := by rw [eU38]; exact Xi_same (by unfold rg; omega)
            have e120 := eU38
            refine y_aload_n rfl rfl ?_
            refine y_dup rfl rfl ?_
            refine y_gfi rfl rfl rfl rfl rfl ?_
            have w312 : (Xi U38 904 8) = (Xi S 904 8) := (show Xi U38 904 8 = Xi U27 904 8 from by rw [eU38]; exact Xi_ne (by omega)).trans ((show Xi U27 904 8 = Xi S 904 8 from by rw [eU27]; exact Xi_ne (by omega)))
            rw [w312]
            refine y_aload_n rfl rfl ?_
            refine y_gfr rfl rfl rfl rfl rfl (hHU38.r 904 83 953 rfl) ?_
            refine y_aload_n rfl rfl ?_
            refine y_gfi rfl rfl rfl rfl rfl ?_
            have w313 : (Xi U38 904 93) = (Xi S 904 93) := (show Xi U38 904 93 = Xi U27 904 93 from by rw [eU38]; exact Xi_ne (by omega)).trans ((show Xi U27 904 93 = Xi S 904 93 from by rw [eU27]; exact Xi_ne (by omega)))
            rw [w313]
            refine y_baloadP (n := 1700) rfl rfl rfl (by decide) (by unfold rg; omega) (fun w314 w315 => ?_)
            have v134 := xi_of e120 (by unfold rg; omega)
            refine y_if_eq rfl rfl (by unfold rg; omega) (fun w316 => ?_) (fun w317 => ?_)
            · exfalso; omega
            · refine y_iconst rfl ?_
              refine y_goto rfl rfl ?_
              refine y_iadd rfl ?_
              refine y_pfi rfl rfl rfl rfl ?_
              obtain ⟨U39, eU39⟩ : ∃ T : sS, T = uI U38 904 8 (Int32.ofInt ((Xi S 904 8) + 1)) := ⟨_, rfl⟩
              rw [← eU39]
              have hHU39 : RI U39 := by rw [eU39]; exact RI_w hHU38
              have hFU39 : FR md_mo_testedWhat__t S U39 := by rw [eU39]; exact FR.wI hFU38 (mdf_i (r := (904, 905, 8, 9)) (List.mem_of_getElem? (i := 0) rfl) (inR_i (by omega) (by omega) (by omega) (by omega)))
              have w318 : Xi U39 904 8 = ((Xi S 904 8) + 1) := by rw [eU39]; exact Xi_same (by unfold rg; omega)
              have e144 := eU39
              have N144 : Hid (Xi U39 904 65 = 0 → Xi S 904 65 = 0 ∧ ¬ (isNow = 0 ∧ (tkR S (Xi S 904 8) = 151 ∨ tkR S (Xi S 904 8) = 152)) ∧ ((isNow = 0 ∧ tkR S (Xi S 904 8) = 106 ∧ Xi U39 953 (Xi S 904 93).toNat = 1 ∧ Xi U39 904 8 = Xi S 904 8 + 1) ∨ (¬ (isNow = 0 ∧ tkR S (Xi S 904 8) = 106) ∧ Xi U39 953 (Xi S 904 93).toNat = 0 ∧ Xi U39 904 8 = Xi S 904 8))) := fun c => by have c0 : Xi S 904 65 = 0 := (by rw [e144, Xi_ne (by omega), e120, Xi_ne (by omega), e93, Xi_ne (by omega)] at c; exact c); have n := v134; have n1 : Xi U39 953 (Xi S 904 93).toNat = Xi U38 953 (Xi S 904 93).toNat := (by rw [e144, Xi_ne (by omega)]); refine ⟨c0, Y84 c0, ?_⟩; first | (have u := T109.1 (by omega); exact Or.inl ⟨by omega, by omega, by omega, by rw [e144]; refine (Xi_same (by unfold rg; omega)).trans ?_; first | omega | (rw [e120, Xi_ne (by omega)]; omega)⟩) | (have u := T109.2 (by omega); exact Or.inr ⟨by omega, by omega, by rw [e144]; refine (Xi_same (by unfold rg; omega)).trans ?_; first | omega | (rw [e120, Xi_ne (by omega)]; omega)⟩) | exact Or.inr ⟨by omega, by omega, by rw [e144]; refine (Xi_same (by unfold rg; omega)).trans ?_; first | omega | (rw [e120, Xi_ne (by omega)]; omega)⟩
              refine y_aload_n rfl rfl ?_
              have w319 : Xi U39 904 100 = Xi S 904 100 := (show Xi U39 904 100 = Xi U38 904 100 from by rw [eU39]; exact Xi_ne (by omega)).trans ( (show Xi U38 904 100 = Xi U27 904 100 from by rw [eU38]; exact Xi_ne (by omega)).trans ((show Xi U27 904 100 = Xi S 904 100 from by rw [eU27]; exact Xi_ne (by omega))))
              have w320 : Xi U39 904 101 = Xi S 904 101 := (show Xi U39 904 101 = Xi U38 904 101 from by rw [eU39]; exact Xi_ne (by omega)).trans ( (show Xi U38 904 101 = Xi U27 904 101 from by rw [eU38]; exact Xi_ne (by omega)).trans ((show Xi U27 904 101 = Xi S 904 101 from by rw [eU27]; exact Xi_ne (by omega))))
              have w321 : Xi U39 904 65 = Xi S 904 65 := (show Xi U39 904 65 = Xi U38 904 65 from by rw [eU39]; exact Xi_ne (by omega)).trans ( (show Xi U38 904 65 = Xi U27 904 65 from by rw [eU38]; exact Xi_ne (by omega)).trans ((show Xi U27 904 65 = Xi S 904 65 from by rw [eU27]; exact Xi_ne (by omega))))
              have w322 : Xi U39 904 69 = Xi S 904 69 := (show Xi U39 904 69 = Xi U38 904 69 from by rw [eU39]; exact Xi_ne (by omega)).trans ( (show Xi U38 904 69 = Xi U27 904 69 from by rw [eU38]; exact Xi_ne (by omega)).trans ((show Xi U27 904 69 = Xi S 904 69 from by rw [eU27]; exact Xi_ne (by omega))))
              have w323 : Xi U39 904 78 = Xi S 904 78 := (show Xi U39 904 78 = Xi U38 904 78 from by rw [eU39]; exact Xi_ne (by omega)).trans ( (show Xi U38 904 78 = Xi U27 904 78 from by rw [eU38]; exact Xi_ne (by omega)).trans ((show Xi U27 904 78 = Xi S 904 78 from by rw [eU27]; exact Xi_ne (by omega))))
              have w324 : Xi U39 904 93 = Xi S 904 93 := (show Xi U39 904 93 = Xi U38 904 93 from by rw [eU39]; exact Xi_ne (by omega)).trans ( (show Xi U38 904 93 = Xi U27 904 93 from by rw [eU38]; exact Xi_ne (by omega)).trans ((show Xi U27 904 93 = Xi S 904 93 from by rw [eU27]; exact Xi_ne (by omega))))
              have w325 : Xi U39 904 99 = Xi S 904 99 := (show Xi U39 904 99 = Xi U38 904 99 from by rw [eU39]; exact Xi_ne (by omega)).trans ( (show Xi U38 904 99 = Xi U27 904 99 from by rw [eU38]; exact Xi_ne (by omega)).trans ((show Xi U27 904 99 = Xi S 904 99 from by rw [eU27]; exact Xi_ne (by omega))))
              refine y_callV rfl rfl rfl (t_mo_what__t hHU39 _) ?_
              rintro _ T40 ⟨hHT40, w327, rfl, t148, w148, k148⟩
              have hFT40 : FR md_mo_testedWhat__t S T40 := FR.tr hFU39 w327 rfl
              show Pl _ _ _ _ _ _ [] _ _
              have F148 := (by assumption : FR md_mo_what__t U39 T40)
              have k148_ := k148.1
              have T148 := t148
              rw [tkR_F7 hFU39 rfl] at T148
              clear t148
              have r148 : 0 ≤ Xi U39 904 69 := by rw [e144, Xi_ne (by omega), e120, Xi_ne (by omega), e93, Xi_ne (by omega)]; exact h69
              refine y_aload_n rfl rfl ?_
              refine y_gfr rfl rfl rfl rfl rfl (hHT40.r 904 87 957 rfl) ?_
              refine y_aload_n rfl rfl ?_
              refine y_gfi rfl rfl rfl rfl rfl ?_
              have w328 : (Xi T40 904 93) = (Xi S 904 93) := (show Xi T40 904 93 = Xi U39 904 93 from w327.x _ _ rfl).trans ( (show Xi U39 904 93 = Xi U38 904 93 from by rw [eU39]; exact Xi_ne (by omega)).trans ( (show Xi U38 904 93 = Xi U27 904 93 from by rw [eU38]; exact Xi_ne (by omega)).trans ((show Xi U27 904 93 = Xi S 904 93 from by rw [eU27]; exact Xi_ne (by omega)))))
              rw [w328]
              refine y_aload_n rfl rfl ?_
              refine y_gfi rfl rfl rfl rfl rfl ?_
              have w329 : -2147483648 ≤ (Xi T40 904 78) ∧ (Xi T40 904 78) ≤ 2147483647 := Xi_rgI
              refine y_iastoreP (n := 1700) rfl rfl (by unfold rg; omega) (fun w330 w331 => ?_)
              obtain ⟨U41, eU41⟩ : ∃ T : sS, T = uI T40 957 (((Xi S 904 93)).toNat) (Int32.ofInt (Xi T40 904 78)) := ⟨_, rfl⟩
              rw [← eU41]
              have hHU41 : RI U41 := by rw [eU41]; exact RI_w hHT40
              have hFU41 : FR md_mo_testedWhat__t S U41 := by rw [eU41]; exact FR.wI hFT40 (mdf_i (r := (957, 958, 0, 100000)) (List.mem_of_getElem? (i := 9) rfl) (inR_i (by omega) (by omega) (by omega) (by omega)))
              have w332 : Xi U41 957 (((Xi S 904 93)).toNat) = (Xi T40 904 78) := by rw [eU41]; exact Xi_same (by unfold rg; omega)
              have e163 := eU41
              have x163 : Xi U41 904 69 = Xi T40 904 69 := by rw [e163, Xi_ne (by omega)]
              refine y_aload_n rfl rfl ?_
              refine y_gfr rfl rfl rfl rfl rfl (hHU41.r 904 90 960 rfl) ?_
              refine y_aload_n rfl rfl ?_
              refine y_gfi rfl rfl rfl rfl rfl ?_
              have w333 : (Xi U41 904 93) = (Xi S 904 93) := (show Xi U41 904 93 = Xi T40 904 93 from by rw [eU41]; exact Xi_ne (by omega)).trans ( (show Xi T40 904 93 = Xi U39 904 93 from w327.x _ _ rfl).trans ( (show Xi U39 904 93 = Xi U38 904 93 from by rw [eU39]; exact Xi_ne (by omega)).trans ( (show Xi U38 904 93 = Xi U27 904 93 from by rw [eU38]; exact Xi_ne (by omega)).trans ((show Xi U27 904 93 = Xi S 904 93 from by rw [eU27]; exact Xi_ne (by omega))))))
              rw [w333]
              refine y_aload_n rfl rfl ?_
              refine y_gfi rfl rfl rfl rfl rfl ?_
              have w334 : -2147483648 ≤ (Xi U41 904 69) ∧ (Xi U41 904 69) ≤ 2147483647 := Xi_rgI
              refine y_iconst rfl ?_
              refine y_isub rfl ?_
              refine y_iastoreP (n := 1700) rfl rfl (by unfold rg; omega) (fun w335 w336 => ?_)
              obtain ⟨U42, eU42⟩ : ∃ T : sS, T = uI U41 960 (((Xi S 904 93)).toNat) (Int32.ofInt ((Xi U41 904 69) - 1)) := ⟨_, rfl⟩
              rw [← eU42]
              have hHU42 : RI U42 := by rw [eU42]; exact RI_w hHU41
              have hFU42 : FR md_mo_testedWhat__t S U42 := by rw [eU42]; exact FR.wI hFU41 (mdf_i (r := (960, 961, 0, 100000)) (List.mem_of_getElem? (i := 10) rfl) (inR_i (by omega) (by omega) (by omega) (by omega)))
              have w337 : Xi U42 960 (((Xi S 904 93)).toNat) = ((Xi U41 904 69) - 1) := by rw [eU42]; exact Xi_same (by unfold rg; omega)
              have e178 := eU42
              have x178 : Xi U42 904 8 = Xi T40 904 8 := by rw [e178, Xi_ne (by omega), e163, Xi_ne (by omega)]
              have F178 : Xi U42 952 (Xi S 904 93).toNat = 0 ∧ Xi U42 957 (Xi S 904 93).toNat = Xi U39 904 8 ∧ Xi U42 960 (Xi S 904 93).toNat = Xi T40 904 69 - 1 ∧ Xi U42 953 (Xi S 904 93).toNat = Xi U39 953 (Xi S 904 93).toNat := ⟨by rw [e178, Xi_ne (by omega), e163, Xi_ne (by omega), F148.x 952 _ rfl, e144, Xi_ne (by omega), e120, Xi_ne (by omega)]; exact xi_of e93 (by unfold rg; omega), by rw [e178, Xi_ne (by omega)]; refine (xi_of e163 (by unfold rg; omega)).trans ?_; exact w148, by refine (xi_of e178 (by unfold rg; omega)).trans ?_; first | rfl | (rw [e163, Xi_ne (by omega)]), by rw [e178, Xi_ne (by omega), e163, Xi_ne (by omega), F148.x 953 _ rfl]⟩
              refine y_return rfl rfl ?_
              have w338 : Xi U42 904 100 = Xi S 904 100 := (show Xi U42 904 100 = Xi U41 904 100 from by rw [eU42]; exact Xi_ne (by omega)).trans ( (show Xi U41 904 100 = Xi T40 904 100 from by rw [eU41]; exact Xi_ne (by omega)).trans ( (show Xi T40 904 100 = Xi U39 904 100 from w327.x _ _ rfl).trans ( (show Xi U39 904 100 = Xi U38 904 100 from by rw [eU39]; exact Xi_ne (by omega)).trans ( (show Xi U38 904 100 = Xi U27 904 100 from by rw [eU38]; exact Xi_ne (by omega)).trans ((show Xi U27 904 100 = Xi S 904 100 from by rw [eU27]; exact Xi_ne (by omega)))))))
              have w339 : Xi U42 904 101 = Xi S 904 101 := (show Xi U42 904 101 = Xi U41 904 101 from by rw [eU42]; exact Xi_ne (by omega)).trans ( (show Xi U41 904 101 = Xi T40 904 101 from by rw [eU41]; exact Xi_ne (by omega)).trans ( (show Xi T40 904 101 = Xi U39 904 101 from w327.x _ _ rfl).trans ( (show Xi U39 904 101 = Xi U38 904 101 from by rw [eU39]; exact Xi_ne (by omega)).trans ( (show Xi U38 904 101 = Xi U27 904 101 from by rw [eU38]; exact Xi_ne (by omega)).trans ((show Xi U27 904 101 = Xi S 904 101 from by rw [eU27]; exact Xi_ne (by omega)))))))
              have w340 : Xi U42 904 65 = Xi T40 904 65 := (show Xi U42 904 65 = Xi U41 904 65 from by rw [eU42]; exact Xi_ne (by omega)).trans ((show Xi U41 904 65 = Xi T40 904 65 from by rw [eU41]; exact Xi_ne (by omega)))
              have w341 : Xi U42 904 69 = Xi T40 904 69 := (show Xi U42 904 69 = Xi U41 904 69 from by rw [eU42]; exact Xi_ne (by omega)).trans ((show Xi U41 904 69 = Xi T40 904 69 from by rw [eU41]; exact Xi_ne (by omega)))
              have w342 : Xi U42 904 78 = Xi T40 904 78 := (show Xi U42 904 78 = Xi U41 904 78 from by rw [eU42]; exact Xi_ne (by omega)).trans ((show Xi U41 904 78 = Xi T40 904 78 from by rw [eU41]; exact Xi_ne (by omega)))
              have w343 : Xi U42 904 8 = Xi T40 904 8 := (show Xi U42 904 8 = Xi U41 904 8 from by rw [eU42]; exact Xi_ne (by omega)).trans ((show Xi U41 904 8 = Xi T40 904 8 from by rw [eU41]; exact Xi_ne (by omega)))
              have w344 : Xi U42 904 93 = Xi S 904 93 := (show Xi U42 904 93 = Xi U41 904 93 from by rw [eU42]; exact Xi_ne (by omega)).trans ( (show Xi U41 904 93 = Xi T40 904 93 from by rw [eU41]; exact Xi_ne (by omega)).trans ( (show Xi T40 904 93 = Xi U39 904 93 from w327.x _ _ rfl).trans ( (show Xi U39 904 93 = Xi U38 904 93 from by rw [eU39]; exact Xi_ne (by omega)).trans ( (show Xi U38 904 93 = Xi U27 904 93 from by rw [eU38]; exact Xi_ne (by omega)).trans ((show Xi U27 904 93 = Xi S 904 93 from by rw [eU27]; exact Xi_ne (by omega)))))))
              have w345 : Xi U42 904 99 = Xi S 904 99 := (show Xi U42 904 99 = Xi U41 904 99 from by rw [eU42]; exact Xi_ne (by omega)).trans ( (show Xi U41 904 99 = Xi T40 904 99 from by rw [eU41]; exact Xi_ne (by omega)).trans ( (show Xi T40 904 99 = Xi U39 904 99 from w327.x _ _ rfl).trans ( (show Xi U39 904 99 = Xi U38 904 99 from by rw [eU39]; exact Xi_ne (by omega)).trans ( (show Xi U38 904 99 = Xi U27 904 99 from by rw [eU38]; exact Xi_ne (by omega)).trans ((show Xi U27 904 99 = Xi S 904 99 from by rw [eU27]; exact Xi_ne (by omega)))))))
              exact ⟨hHU42, hFU42, rfl, (by first | (have u := F80; intro b; obtain ⟨c1, c2, c3, c4⟩ := T80 b; obtain ⟨d1, d2, d3, d4⟩ := T62 (by omega); rw [x55] at d2; rw [show Xi U41 904 8 = Xi S 904 8 + 2 by omega] at c2; exact ⟨n24.1, n24.2, Or.inl ⟨by omega, by rw [F80.x 952 _ rfl, e77, Xi_ne (by omega), F62.x 952 _ rfl, e55, Xi_ne (by omega), f47]; exact y24, d2, by rw [F80.x 957 _ rfl]; exact (xi_of e77 (by unfold rg; omega)).trans (by omega), c2, by omega, by rw [F80.x 953 _ rfl, e77, Xi_ne (by omega), F62.x 953 _ rfl, e55, Xi_ne (by omega), e47, Xi_ne (by omega)]⟩⟩) | (intro b; obtain ⟨c1, c2, c3⟩ := T148 (by rw [e178, Xi_ne (by omega), e163, Xi_ne (by omega)] at b; exact b); have N := N144.o c1; exact ⟨N.1, by omega, Or.inr ⟨N.2.1, F178.1, _, by rw [F178.2.2.2]; exact N.2.2, F178.2.1, by rw [x178, F178.2.2.1]; exact whe_k c3 (runk_w e178 (by omega) (runk_w e163 (by omega) RUNK.rf))⟩⟩)), (by first | (have u := F80; exact runk_F F80 rfl rfl (runk_w e77 (by omega) (runk_F F62 rfl rfl (runk_w e55 (by omega) (runk_w e47 (by omega) RUNK.rf))))) | exact runk_w e178 (by omega) (runk_w e163 (by omega) (RUNK.tr (runk_w e144 (by omega) (runk_w e120 (by omega) (runk_w e93 (by omega) RUNK.rf))) k148))), (by first | (have u := F80; exact kte_F F80 rfl (kte_w e77 (by omega) (kte_F F62 rfl (kte_w e55 (by omega) (kte_w e47 (by omega) KTE.rf))))) | exact kte_w e178 (by omega) (kte_w e163 (by omega) (kte_F F148 rfl (kte_w e144 (by omega) (kte_w e120 (by omega) (kte_w e93 (by omega) KTE.rf))))))⟩
      · refine y_aload_n rfl rfl ?_
        have n24 : Xi S 904 65 = 0 ∧ (0 ≤ Xi S 904 8 ∧ Xi S 904 8 ≤ 5001) := by first | (have u := t18; exact ⟨(t18.1 (by omega)).1, (t18.1 (by omega)).2.2⟩) | exact ⟨(t8.1 (by omega)).1, (t8.1 (by omega)).2.2⟩
        have m24 : tkR S (Xi S 904 8) = 151 ∨ tkR S (Xi S 904 8) = 152 := by first | (have u := t18; exact Or.inr (t18.1 (by omega)).2.1) | exact Or.inl (t8.1 (by omega)).2.1
        have y24 : (tkR S (Xi S 904 8) = 151 ∧ (if tkR S (Xi S 904 8) = 151 then (1 : Int) else 2) = 1) ∨ (tkR S (Xi S 904 8) = 152 ∧ (if tkR S (Xi S 904 8) = 151 then (1 : Int) else 2) = 2) := by rcases m24 with m | m; exact Or.inl ⟨m, if_pos m⟩; exact Or.inr ⟨m, if_neg (by omega)⟩
        refine y_gfr rfl rfl rfl rfl rfl (hH.r 904 82 952 rfl) ?_
        refine y_aload_n rfl rfl ?_
        refine y_gfi rfl rfl rfl rfl rfl ?_
        refine y_aload_n rfl rfl ?_
        refine y_sipush rfl rfl ?_
        refine y_callV rfl rfl rfl (t_mo_isNext__t hH 151 ⟨by omega, by omega⟩ _) ?_
        rintro _ _ ⟨rfl, z346, rfl, w346, t36⟩
        show Pl _ _ _ _ _ _ [iv z346, iv (Xi S 904 93), .ref 952] _ _
        refine y_if_eq rfl rfl (by unfold rg; omega) (fun w347 => ?_) (fun w348 => ?_)
        · refine y_iconst rfl ?_
          refine y_iastoreP (n := 1700) rfl rfl (by unfold rg; omega) (fun w349 w350 => ?_)
          obtain ⟨U43, eU43⟩ : ∃ T : sS, T = uI S 952 (((Xi S 904 93)).toNat) (Int32.ofInt 2) := ⟨_, rfl⟩
          rw [← eU43]
          have hHU43 : RI U43 := by rw [eU43]; exact RI_w hH
          have hFU43 : FR md_mo_testedWhat__t S U43 := by rw [eU43]; exact FR.wI hF (mdf_i (r := (952, 953, 0, 100000)) (List.mem_of_getElem? (i := 7) rfl) (inR_i (by omega) (by omega) (by omega) (by omega)))
          have w351 : Xi U43 952 (((Xi S 904 93)).toNat) = 2 := by rw [eU43]; exact Xi_same (by unfold rg; omega)
          have e47 := eU43
          have f47 : Xi U43 952 (Xi S 904 93).toNat = (if tkR S (Xi S 904 8) = 151 then 1 else 2) := by rw [e47]; first | (rw [if_pos (by have u := (t36.1 (by omega)).2.1; omega)]; exact Xi_same (by unfold rg; omega)) | (rw [if_neg (by have u := t36.2 (by omega); omega)]; exact Xi_same (by unfold rg; omega))
          refine y_aload_n rfl rfl ?_
          refine y_dup rfl rfl ?_
          refine y_gfi rfl rfl rfl rfl rfl ?_
          have w352 : (Xi U43 904 8) = (Xi S 904 8) := (show Xi U43 904 8 = Xi S 904 8 from by rw [eU43]; exact Xi_ne (by omega))
          rw [w352]
          refine y_iconst rfl ?_
          refine y_iadd rfl ?_
          refine y_pfi rfl rfl rfl rfl ?_
          obtain ⟨U44, eU44⟩ : ∃ T : sS, T = uI U43 904 8 (Int32.ofInt ((Xi S 904 8) + 1)) := ⟨_, rfl⟩
          rw [← eU44]
          have hHU44 : RI U44 := by rw [eU44]; exact RI_w hHU43
          have hFU44 : FR md_mo_testedWhat__t S U44 := by rw [eU44]; exact FR.wI hFU43 (mdf_i (r := (904, 905, 8, 9)) (List.mem_of_getElem? (i := 0) rfl) (inR_i (by omega) (by omega) (by omega) (by omega)))
          have w353 : Xi U44 904 8 = ((Xi S 904 8) + 1) := by rw [eU44]; exact Xi_same (by unfold rg; omega)
          have e55 := eU44
          have x55 : Xi U44 904 8 = Xi S 904 8 + 1 := by rw [e55]; refine (Xi_same (by unfold rg; omega)).trans ?_; first | rfl | (rw [e47, Xi_ne (by omega)])
          refine y_aload_n rfl rfl ?_
          refine y_sipush rfl rfl ?_
          have w356 : Xi U44 904 65 = Xi S 904 65 := (show Xi U44 904 65 = Xi U43 904 65 from by rw [eU44]; exact Xi_ne (by omega)).trans ((show Xi U43 904 65 = Xi S 904 65 from by rw [eU43]; exact Xi_ne (by omega)))
          refine y_callV rfl rfl rfl (t_mo_take__t hHU44 150 ⟨by omega, by omega⟩ _) ?_
          rintro _ T45 ⟨hHT45, w362, rfl, t62⟩
          have hFT45 : FR md_mo_testedWhat__t S T45 := FR.tr hFU44 w362 rfl
          show Pl _ _ _ _ _ _ [] _ _
          have F62 := (by assumption : FR md_mo_take__t U44 T45)
          have T62 := t62
          rw [tkR_F7 hFU44 rfl] at T62
          clear t62
          refine y_aload_n rfl rfl ?_
          refine y_gfr rfl rfl rfl rfl rfl (hHT45.r 904 87 957 rfl) ?_
          refine y_aload_n rfl rfl ?_
          refine y_gfi rfl rfl rfl rfl rfl ?_
          have w363 : (Xi T45 904 93) = (Xi S 904 93) := (show Xi T45 904 93 = Xi U44 904 93 from w362.x _ _ rfl).trans ( (show Xi U44 904 93 = Xi U43 904 93 from by rw [eU44]; exact Xi_ne (by omega)).trans ((show Xi U43 904 93 = Xi S 904 93 from by rw [eU43]; exact Xi_ne (by omega))))
          rw [w363]
          refine y_aload_n rfl rfl ?_
          refine y_gfi rfl rfl rfl rfl rfl ?_
          have w364 : -2147483648 ≤ (Xi T45 904 8) ∧ (Xi T45 904 8) ≤ 2147483647 := Xi_rgI
          refine y_iastoreP (n := 1700) rfl rfl (by unfold rg; omega) (fun w365 w366 => ?_)
          obtain ⟨U46, eU46⟩ : ∃ T : sS, T = uI T45 957 (((Xi S 904 93)).toNat) (Int32.ofInt (Xi T45 904 8)) := ⟨_, rfl⟩
          rw [← eU46]
          have hHU46 : RI U46 := by rw [eU46]; exact RI_w hHT45
          have hFU46 : FR md_mo_testedWhat__t S U46 := by rw [eU46]; exact FR.wI hFT45 (mdf_i (r := (957, 958, 0, 100000)) (List.mem_of_getElem? (i := 9) rfl) (inR_i (by omega) (by omega) (by omega) (by omega)))
          have w367 : Xi U46 957 (((Xi S 904 93)).toNat) = (Xi T45 904 8) := by rw [eU46]; exact Xi_same (by unfold rg; omega)
          have e77 := eU46
          refine y_aload_n rfl rfl ?_
          refine y_iconst rfl ?_
          have w370 : Xi U46 904 65 = Xi T45 904 65 := (show Xi U46 904 65 = Xi T45 904 65 from by rw [eU46]; exact Xi_ne (by omega))
          have w373 : Xi U46 904 8 = Xi T45 904 8 := (show Xi U46 904 8 = Xi T45 904 8 from by rw [eU46]; exact Xi_ne (by omega))
          refine y_callV rfl rfl rfl (t_mo_take__t hHU46 4 ⟨by omega, by omega⟩ _) ?_
          rintro _ T47 ⟨hHT47, w377, rfl, t80⟩
          have hFT47 : FR md_mo_testedWhat__t S T47 := FR.tr hFU46 w377 rfl
          show Pl _ _ _ _ _ _ [] _ _
          have F80 := (by assumption : FR md_mo_take__t U46 T47)
          have T80 := t80
          rw [tkR_F7 hFU46 rfl] at T80
          clear t80
          refine y_return rfl rfl ?_
          have w378 : Xi T47 904 100 = Xi S 904 100 := (show Xi T47 904 100 = Xi U46 904 100 from w377.x _ _ rfl).trans ( (show Xi U46 904 100 = Xi T45 904 100 from by rw [eU46]; exact Xi_ne (by omega)).trans ( (show Xi T45 904 100 = Xi U44 904 100 from w362.x _ _ rfl).trans ( (show Xi U44 904 100 = Xi U43 904 100 from by rw [eU44]; exact Xi_ne (by omega)).trans ((show Xi U43 904 100 = Xi S 904 100 from by rw [eU43]; exact Xi_ne (by omega))))))
          have w379 : Xi T47 904 101 = Xi S 904 101 := (show Xi T47 904 101 = Xi U46 904 101 from w377.x _ _ rfl).trans ( (show Xi U46 904 101 = Xi T45 904 101 from by rw [eU46]; exact Xi_ne (by omega)).trans ( (show Xi T45 904 101 = Xi U44 904 101 from w362.x _ _ rfl).trans ( (show Xi U44 904 101 = Xi U43 904 101 from by rw [eU44]; exact Xi_ne (by omega)).trans ((show Xi U43 904 101 = Xi S 904 101 from by rw [eU43]; exact Xi_ne (by omega))))))
          have w380 : Xi T47 904 69 = Xi S 904 69 := (show Xi T47 904 69 = Xi U46 904 69 from w377.x _ _ rfl).trans ( (show Xi U46 904 69 = Xi T45 904 69 from by rw [eU46]; exact Xi_ne (by omega)).trans ( (show Xi T45 904 69 = Xi U44 904 69 from w362.x _ _ rfl).trans ( (show Xi U44 904 69 = Xi U43 904 69 from by rw [eU44]; exact Xi_ne (by omega)).trans ((show Xi U43 904 69 = Xi S 904 69 from by rw [eU43]; exact Xi_ne (by omega))))))
          have w381 : Xi T47 904 78 = Xi S 904 78 := (show Xi T47 904 78 = Xi U46 904 78 from w377.x _ _ rfl).trans ( (show Xi U46 904 78 = Xi T45 904 78 from by rw [eU46]; exact Xi_ne (by omega)).trans ( (show Xi T45 904 78 = Xi U44 904 78 from w362.x _ _ rfl).trans ( (show Xi U44 904 78 = Xi U43 904 78 from by rw [eU44]; exact Xi_ne (by omega)).trans ((show Xi U43 904 78 = Xi S 904 78 from by rw [eU43]; exact Xi_ne (by omega))))))
          have w382 : Xi T47 904 93 = Xi S 904 93 := (show Xi T47 904 93 = Xi U46 904 93 from w377.x _ _ rfl).trans ( (show Xi U46 904 93 = Xi T45 904 93 from by rw [eU46]; exact Xi_ne (by omega)).trans ( (show Xi T45 904 93 = Xi U44 904 93 from w362.x _ _ rfl).trans ( (show Xi U44 904 93 = Xi U43 904 93 from by rw [eU44]; exact Xi_ne (by omega)).trans ((show Xi U43 904 93 = Xi S 904 93 from by rw [eU43]; exact Xi_ne (by omega))))))
          have w383 : Xi T47 904 99 = Xi S 904 99 := (show Xi T47 904 99 = Xi U46 904 99 from w377.x _ _ rfl).trans ( (show Xi U46 904 99 = Xi T45 904 99 from by rw [eU46]; exact Xi_ne (by omega)).trans ( (show Xi T45 904 99 = Xi U44 904 99 from w362.x _ _ rfl).trans ( (show Xi U44 904 99 = Xi U43 904 99 from by rw [eU44]; exact Xi_ne (by omega)).trans ((show Xi U43 904 99 = Xi S 904 99 from by rw [eU43]; exact Xi_ne (by omega))))))
          exact ⟨hHT47, hFT47, rfl, (by first | (have u := F80; intro b; obtain ⟨c1, c2, c3, c4⟩ := T80 b; obtain ⟨d1, d2, d3, d4⟩ := T62 (by omega); rw [x55] at d2; rw [show Xi U46 904 8 = Xi S 904 8 + 2 by omega] at c2; exact ⟨n24.1, n24.2, Or.inl ⟨by omega, by rw [F80.x 952 _ rfl, e77, Xi_ne (by omega), F62.x 952 _ rfl, e55, Xi_ne (by omega), f47]; exact y24, d2, by rw [F80.x 957 _ rfl]; exact (xi_of e77 (by unfold rg; omega)).trans (by omega), c2, by omega, by rw [F80.x 953 _ rfl, e77, Xi_ne (by omega), F62.x 953 _ rfl, e55, Xi_ne (by omega), e47, Xi_ne (by omega)]⟩⟩) | (intro b; obtain ⟨c1, c2, c3⟩ := T148 (by rw [e178, Xi_ne (by omega), e163, Xi_ne (by omega)] at b; exact b); have N := N144.o c1; exact ⟨N.1, by omega, Or.inr ⟨N.2.1, F178.1, _, by rw [F178.2.2.2]; exact N.2.2, F178.2.1, by rw [x178, F178.2.2.1]; exact whe_k c3 (runk_w e178 (by omega) (runk_w e163 (by omega) RUNK.rf))⟩⟩)), (by first | (have u := F80; exact runk_F F80 rfl rfl (runk_w e77 (by omega) (runk_F F62 rfl rfl (runk_w e55 (by omega) (runk_w e47 (by omega) RUNK.rf))))) | exact runk_w e178 (by omega) (runk_w e163 (by omega) (RUNK.tr (runk_w e144 (by omega) (runk_w e120 (by omega) (runk_w e93 (by omega) RUNK.rf))) k148))), (by first | (have u := F80; exact kte_F F80 rfl (kte_w e77 (by omega) (kte_F F62 rfl (kte_w e55 (by omega) (kte_w e47 (by omega) KTE.rf))))) | exact kte_w e178 (by omega) (kte_w e163 (by omega) (kte_F F148 rfl (kte_w e144 (by omega) (kte_w e120 (by omega) (kte_w e93 (by omega) KTE.rf))))))⟩
        · refine y_iconst rfl ?_
          refine y_goto rfl rfl ?_
          refine y_iastoreP (n := 1700) rfl rfl (by unfold rg; omega) (fun w384 w385 => ?_)
          obtain ⟨U48, eU48⟩ : ∃ T : sS, T = uI S 952 (((Xi S 904 93)).toNat) (Int32.ofInt 1) := ⟨_, rfl⟩
          rw [← eU48]
          have hHU48 : RI U48 := by rw [eU48]; exact RI_w hH
          have hFU48 : FR md_mo_testedWhat__t S U48 := by rw [eU48]; exact FR.wI hF (mdf_i (r := (952, 953, 0, 100000)) (List.mem_of_getElem? (i := 7) rfl) (inR_i (by omega) (by omega) (by omega) (by omega)))
          have w386 : Xi U48 952 (((Xi S 904 93)).toNat) = 1 := by rw [eU48]; exact Xi_same (by unfold rg; omega)
          have e47 := eU48
          have f47 : Xi U48 952 (Xi S 904 93).toNat = (if tkR S (Xi S 904 8) = 151 then 1 else 2) := by rw [e47]; first | (rw [if_pos (by have u := (t36.1 (by omega)).2.1; omega)]; exact Xi_same (by unfold rg; omega)) | (rw [if_neg (by have u := t36.2 (by omega); omega)]; exact Xi_same (by unfold rg; omega))
          refine y_aload_n rfl rfl ?_
          refine y_dup rfl rfl ?_
          refine y_gfi rfl rfl rfl rfl rfl ?_
          have w387 : (Xi U48 904 8) = (Xi S 904 8) := (show Xi U48 904 8 = Xi S 904 8 from by rw [eU48]; exact Xi_ne (by omega))
          rw [w387]
          refine y_iconst rfl ?_
          refine y_iadd rfl ?_
          refine y_pfi rfl rfl rfl rfl ?_
          obtain ⟨U49, eU49⟩ : ∃ T : sS, T = uI U48 904 8 (Int32.ofInt ((Xi S 904 8) + 1)) := ⟨_, rfl⟩
          rw [← eU49]
          have hHU49 : RI U49 := by rw [eU49]; exact RI_w hHU48
          have hFU49 : FR md_mo_testedWhat__t S U49 := by rw [eU49]; exact FR.wI hFU48 (mdf_i (r := (904, 905, 8, 9)) (List.mem_of_getElem? (i := 0) rfl) (inR_i (by omega) (by omega) (by omega) (by omega)))
          have w388 : Xi U49 904 8 = ((Xi S 904 8) + 1) := by rw [eU49]; exact Xi_same (by unfold rg; omega)
          have e55 := eU49
          have x55 : Xi U49 904 8 = Xi S 904 8 + 1 := by rw [e55]; refine (Xi_same (by unfold rg; omega)).trans ?_; first | rfl | (rw [e47, Xi_ne (by omega)])
          refine y_aload_n rfl rfl ?_
          refine y_sipush rfl rfl ?_
          have w391 : Xi U49 904 65 = Xi S 904 65 := (show Xi U49 904 65 = Xi U48 904 65 from by rw [eU49]; exact Xi_ne (by omega)).trans ((show Xi U48 904 65 = Xi S 904 65 from by rw [eU48]; exact Xi_ne (by omega)))
          refine y_callV rfl rfl rfl (t_mo_take__t hHU49 150 ⟨by omega, by omega⟩ _) ?_
          rintro _ T50 ⟨hHT50, w397, rfl, t62⟩
          have hFT50 : FR md_mo_testedWhat__t S T50 := FR.tr hFU49 w397 rfl
          show Pl _ _ _ _ _ _ [] _ _
          have F62 := (by assumption : FR md_mo_take__t U49 T50)
          have T62 := t62
          rw [tkR_F7 hFU49 rfl] at T62
          clear t62
          refine y_aload_n rfl rfl ?_
          refine y_gfr rfl rfl rfl rfl rfl (hHT50.r 904 87 957 rfl) ?_
          refine y_aload_n rfl rfl ?_
          refine y_gfi rfl rfl rfl rfl rfl ?_
          have w398 : (Xi T50 904 93) = (Xi S 904 93) := (show Xi T50 904 93 = Xi U49 904 93 from w397.x _ _ rfl).trans ( (show Xi U49 904 93 = Xi U48 904 93 from by rw [eU49]; exact Xi_ne (by omega)).trans ((show Xi U48 904 93 = Xi S 904 93 from by rw [eU48]; exact Xi_ne (by omega))))
          rw [w398]
          refine y_aload_n rfl rfl ?_
          refine y_gfi rfl rfl rfl rfl rfl ?_
          have w399 : -2147483648 ≤ (Xi T50 904 8) ∧ (Xi T50 904 8) ≤ 2147483647 := Xi_rgI
          refine y_iastoreP (n := 1700) rfl rfl (by unfold rg; omega) (fun w400 w401 => ?_)
          obtain ⟨U51, eU51⟩ : ∃ T : sS, T = uI T50 957 (((Xi S 904 93)).toNat) (Int32.ofInt (Xi T50 904 8)) := ⟨_, rfl⟩
          rw [← eU51]
          have hHU51 : RI U51 := by rw [eU51]; exact RI_w hHT50
          have hFU51 : FR md_mo_testedWhat__t S U51 := by rw [eU51]; exact FR.wI hFT50 (mdf_i (r := (957, 958, 0, 100000)) (List.mem_of_getElem? (i := 9) rfl) (inR_i (by omega) (by omega) (by omega) (by omega)))
          have w402 : Xi U51 957 (((Xi S 904 93)).toNat) = (Xi T50 904 8) := by rw [eU51]; exact Xi_same (by unfold rg; omega)
          have e77 := eU51
          refine y_aload_n rfl rfl ?_
          refine y_iconst rfl ?_
          have w405 : Xi U51 904 65 = Xi T50 904 65 := (show Xi U51 904 65 = Xi T50 904 65 from by rw [eU51]; exact Xi_ne (by omega))
          have w408 : Xi U51 904 8 = Xi T50 904 8 := (show Xi U51 904 8 = Xi T50 904 8 from by rw [eU51]; exact Xi_ne (by omega))
          refine y_callV rfl rfl rfl (t_mo_take__t hHU51 4 ⟨by omega, by omega⟩ _) ?_
          rintro _ T52 ⟨hHT52, w412, rfl, t80⟩
          have hFT52 : FR md_mo_testedWhat__t S T52 := FR.tr hFU51 w412 rfl
          show Pl _ _ _ _ _ _ [] _ _
          have F80 := (by assumption : FR md_mo_take__t U51 T52)
          have T80 := t80
          rw [tkR_F7 hFU51 rfl] at T80
          clear t80
          refine y_return rfl rfl ?_
          have w413 : Xi T52 904 100 = Xi S 904 100 := (show Xi T52 904 100 = Xi U51 904 100 from w412.x _ _ rfl).trans ( (show Xi U51 904 100 = Xi T50 904 100 from by rw [eU51]; exact Xi_ne (by omega)).trans ( (show Xi T50 904 100 = Xi U49 904 100 from w397.x _ _ rfl).trans ( (show Xi U49 904 100 = Xi U48 904 100 from by rw [eU49]; exact Xi_ne (by omega)).trans ((show Xi U48 904 100 = Xi S 904 100 from by rw [eU48]; exact Xi_ne (by omega))))))
          have w414 : Xi T52 904 101 = Xi S 904 101 := (show Xi T52 904 101 = Xi U51 904 101 from w412.x _ _ rfl).trans ( (show Xi U51 904 101 = Xi T50 904 101 from by rw [eU51]; exact Xi_ne (by omega)).trans ( (show Xi T50 904 101 = Xi U49 904 101 from w397.x _ _ rfl).trans ( (show Xi U49 904 101 = Xi U48 904 101 from by rw [eU49]; exact Xi_ne (by omega)).trans ((show Xi U48 904 101 = Xi S 904 101 from by rw [eU48]; exact Xi_ne (by omega))))))
          have w415 : Xi T52 904 69 = Xi S 904 69 := (show Xi T52 904 69 = Xi U51 904 69 from w412.x _ _ rfl).trans ( (show Xi U51 904 69 = Xi T50 904 69 from by rw [eU51]; exact Xi_ne (by omega)).trans ( (show Xi T50 904 69 = Xi U49 904 69 from w397.x _ _ rfl).trans ( (show Xi U49 904 69 = Xi U48 904 69 from by rw [eU49]; exact Xi_ne (by omega)).trans ((show Xi U48 904 69 = Xi S 904 69 from by rw [eU48]; exact Xi_ne (by omega))))))
          have w416 : Xi T52 904 78 = Xi S 904 78 := (show Xi T52 904 78 = Xi U51 904 78 from w412.x _ _ rfl).trans ( (show Xi U51 904 78 = Xi T50 904 78 from by rw [eU51]; exact Xi_ne (by omega)).trans ( (show Xi T50 904 78 = Xi U49 904 78 from w397.x _ _ rfl).trans ( (show Xi U49 904 78 = Xi U48 904 78 from by rw [eU49]; exact Xi_ne (by omega)).trans ((show Xi U48 904 78 = Xi S 904 78 from by rw [eU48]; exact Xi_ne (by omega))))))
          have w417 : Xi T52 904 93 = Xi S 904 93 := (show Xi T52 904 93 = Xi U51 904 93 from w412.x _ _ rfl).trans ( (show Xi U51 904 93 = Xi T50 904 93 from by rw [eU51]; exact Xi_ne (by omega)).trans ( (show Xi T50 904 93 = Xi U49 904 93 from w397.x _ _ rfl).trans ( (show Xi U49 904 93 = Xi U48 904 93 from by rw [eU49]; exact Xi_ne (by omega)).trans ((show Xi U48 904 93 = Xi S 904 93 from by rw [eU48]; exact Xi_ne (by omega))))))
          have w418 : Xi T52 904 99 = Xi S 904 99 := (show Xi T52 904 99 = Xi U51 904 99 from w412.x _ _ rfl).trans ( (show Xi U51 904 99 = Xi T50 904 99 from by rw [eU51]; exact Xi_ne (by omega)).trans ( (show Xi T50 904 99 = Xi U49 904 99 from w397.x _ _ rfl).trans ( (show Xi U49 904 99 = Xi U48 904 99 from by rw [eU49]; exact Xi_ne (by omega)).trans ((show Xi U48 904 99 = Xi S 904 99 from by rw [eU48]; exact Xi_ne (by omega))))))
          exact ⟨hHT52, hFT52, rfl, (by first | (have u := F80; intro b; obtain ⟨c1, c2, c3, c4⟩ := T80 b; obtain ⟨d1, d2, d3, d4⟩ := T62 (by omega); rw [x55] at d2; rw [show Xi U51 904 8 = Xi S 904 8 + 2 by omega] at c2; exact ⟨n24.1, n24.2, Or.inl ⟨by omega, by rw [F80.x 952 _ rfl, e77, Xi_ne (by omega), F62.x 952 _ rfl, e55, Xi_ne (by omega), f47]; exact y24, d2, by rw [F80.x 957 _ rfl]; exact (xi_of e77 (by unfold rg; omega)).trans (by omega), c2, by omega, by rw [F80.x 953 _ rfl, e77, Xi_ne (by omega), F62.x 953 _ rfl, e55, Xi_ne (by omega), e47, Xi_ne (by omega)]⟩⟩) | (intro b; obtain ⟨c1, c2, c3⟩ := T148 (by rw [e178, Xi_ne (by omega), e163, Xi_ne (by omega)] at b; exact b); have N := N144.o c1; exact ⟨N.1, by omega, Or.inr ⟨N.2.1, F178.1, _, by rw [F178.2.2.2]; exact N.2.2, F178.2.1, by rw [x178, F178.2.2.1]; exact whe_k c3 (runk_w e178 (by omega) (runk_w e163 (by omega) RUNK.rf))⟩⟩)), (by first | (have u := F80; exact runk_F F80 rfl rfl (runk_w e77 (by omega) (runk_F F62 rfl rfl (runk_w e55 (by omega) (runk_w e47 (by omega) RUNK.rf))))) | exact runk_w e178 (by omega) (runk_w e163 (by omega) (RUNK.tr (runk_w e144 (by omega) (runk_w e120 (by omega) (runk_w e93 (by omega) RUNK.rf))) k148))), (by first | (have u := F80; exact kte_F F80 rfl (kte_w e77 (by omega) (kte_F F62 rfl (kte_w e55 (by omega) (kte_w e47 (by omega) KTE.rf))))) | exact kte_w e178 (by omega) (kte_w e163 (by omega) (kte_F F148 rfl (kte_w e144 (by omega) (kte_w e120 (by omega) (kte_w e93 (by omega) KTE.rf))))))⟩
end
section
/-! the reference's reading: what is kept of a TEST -/
def ETR (k now : Int) : Prop := k = 46 ∨ k = 59 ∨ k = 1 ∨ (now = 0 ∧ (k = 116 ∨ k = 58))
def BOF (T : Int → Int) (t : Int) : Prop := T t = 102 ∧ ∃ q : Int, RQ T (t + 1) q ∧ T q = 107
def IST (T : Int → Int) (now p : Int) : Prop := ∃ t : Int, p ≤ t ∧ ETR (T t) now ∧ (∀ i : Int, p ≤ i → i < t → ¬ ETR (T i) now) ∧ ∃ i : Int, p ≤ i ∧ i < t ∧ T i = 104
def ISL (T : Int → Int) (now p k is : Int) : Prop := p ≤ k ∧ (∀ i : Int, p ≤ i → i < k → ¬ ETR (T i) now) ∧ (is = 0 ∨ is = 1) ∧ (is = 1 → ∃ i : Int, p ≤ i ∧ i < k ∧ T i = 104) ∧ (is = 0 → ∀ i : Int, p ≤ i → i < k → T i ≠ 104)
theorem isl_0 {T : Int → Int} {now p : Int} : ISL T now p p 0 := ⟨Int.le_refl _, fun i a b => absurd a (by omega), Or.inl rfl, fun q => absurd q (by decide), fun _ i a b => absurd a (by omega)⟩
theorem isl_s {T : Int → Int} {now p k is js v : Int} (h : ISL T now p k is) (hv : v = T k) (hn : ¬ ETR v now) (hj : js = (if is = 1 ∨ v = 104 then 1 else 0)) : ISL T now p (k + 1) js := by
  obtain ⟨a, b, c, d, e⟩ := h
  refine ⟨by omega, fun i x y => ?_, by rw [hj]; split <;> omega, fun q => ?_, fun q i x y => ?_⟩
  · by_cases w : i < k
    · exact b i x w
    · rw [show i = k by omega, ← hv]; exact hn
  · rw [hj] at q
    by_cases w : is = 1 ∨ v = 104
    · rcases w with w | w
      · obtain ⟨i, x, y, z⟩ := d w
        exact ⟨i, x, by omega, z⟩
      · exact ⟨k, a, by omega, by omega⟩
    · rw [if_neg w] at q; exact absurd q (by decide)
  · rw [hj] at q
    by_cases w : is = 1 ∨ v = 104
    · rw [if_pos w] at q; exact absurd q (by decide)
    · by_cases u : i < k
      · exact e (by rcases c with c | c; exact c; exact absurd (Or.inl c) w) i x u
      · rw [show i = k by omega, ← hv]; omega
theorem isl_y {T : Int → Int} {now p k is : Int} (h : ISL T now p k is) (hk : ETR (T k) now) (hi : is = 1) : IST T now p := ⟨k, h.1, hk, h.2.1, h.2.2.2.1 hi⟩
theorem isl_n {T : Int → Int} {now p k is : Int} (h : ISL T now p k is) (hk : ETR (T k) now) (hi : is = 0) : ¬ IST T now p := by
  rintro ⟨t, a, b, c, i, x, y, z⟩
  by_cases w : t ≤ k
  · exact h.2.2.2.2 hi i x (by omega) z
  · exact c k h.1 (by omega) hk
def LSE (k : Int) : Prop := k = 3 ∨ (100 ≤ k ∧ k ≤ 103) ∨ k = 154 ∨ k = 153
def TSB (T : Int → Int) (V : sS) (c : Nat) (p e now : Int) : Prop :=
  (¬ IST T now p ∧ Xi V 952 c = 5 ∧ Xi V 953 c = 0 ∧ p < e ∧ ∀ i : Int, p ≤ i → i < e → LSE (T i)) ∨
  (IST T now p ∧ BOF T p ∧ ∃ q r : Int, PRE T V p q (Xi V 956 c) ∧ THE T V q r (Xi V 954 c) (Xi V 955 c) ∧ T r = 104 ∧ TWE T V now (r + 1) e 0 (Xi V 952 c) (Xi V 953 c) (Xi V 957 c) (Xi V 960 c)) ∨
  (IST T now p ∧ ¬ BOF T p ∧ ∃ r b : Int, THE T V p r (Xi V 954 c) (Xi V 955 c) ∧ T r = 104 ∧ ((T (r + 1) = 106 ∧ Xi V 953 c = 1 ∧ b = r + 2) ∨ (T (r + 1) ≠ 106 ∧ Xi V 953 c = 0 ∧ b = r + 1)) ∧
    ((T b = 3 ∧ Xi V 952 c = 3 ∧ RQ T b e ∧ RR V (Xi V 956 c) b e) ∨ (T b ≠ 3 ∧ now = 0 ∧ Xi V 952 c = 4 ∧ ∃ g : Int, PLE T b g (Xi V 958 c) ∧ THE T V g e (Xi V 959 c) (Xi V 960 c))))
def TSTR (T : Int → Int) (V : sS) (c : Nat) (p e now : Int) : Prop := Xi V 961 c = p ∧ Xi V 962 c = e ∧ ETR (T e) now ∧ TSB T V c p e now
theorem pre_k {T : Int → Int} {V W : sS} {p e x : Int} (h : PRE T V p e x) (k : RUNK V W) : PRE T W p e x := by
  obtain ⟨q, a, b, c, d, r⟩ := h
  exact ⟨q, a, b, c, d, rr_k r k⟩
/-- the same entries, more runs -/
theorem tsb_k {T : Int → Int} {V W : sS} {c : Nat} {p e now : Int} (h : TSB T V c p e now) (k : RUNK V W) (x : ∀ z : Nat, 952 ≤ z → z ≤ 960 → Xi W z c = Xi V z c) : TSB T W c p e now := by
  have y := fun z a b => x z a b
  rcases h with ⟨a, b, d, f⟩ | ⟨a, b, q, r, h1, h2, h3, h4⟩ | ⟨a, b, r, g, h1, h2, h3, h4⟩
  · exact Or.inl ⟨a, by rw [x _ (by omega) (by omega)]; exact b, by rw [x _ (by omega) (by omega)]; exact d, f⟩
  · exact Or.inr (Or.inl ⟨a, b, q, r, by rw [x _ (by omega) (by omega)]; exact pre_k h1 k, by rw [x 954 (by omega) (by omega), x 955 (by omega) (by omega)]; exact the_k h2 k, h3, by rw [x 952 (by omega) (by omega), x 953 (by omega) (by omega), x 957 (by omega) (by omega), x 960 (by omega) (by omega)]; exact twe_k h4 k⟩)
  · refine Or.inr (Or.inr ⟨a, b, r, g, by rw [x 954 (by omega) (by omega), x 955 (by omega) (by omega)]; exact the_k h1 k, h2, by rw [x 953 (by omega) (by omega)]; exact h3, ?_⟩)
    rcases h4 with ⟨u, v, w, s⟩ | ⟨u, v, w, z, s, t⟩
    · exact Or.inl ⟨u, by rw [x 952 (by omega) (by omega)]; exact v, w, by rw [x 956 (by omega) (by omega)]; exact rr_k s k⟩
    · exact Or.inr ⟨u, v, by rw [x 952 (by omega) (by omega)]; exact w, z, by rw [x 958 (by omega) (by omega)]; exact s, by rw [x 959 (by omega) (by omega), x 960 (by omega) (by omega)]; exact the_k t k⟩
theorem tstr_k {T : Int → Int} {V W : sS} {c : Nat} {p e now : Int} (h : TSTR T V c p e now) (k : RUNK V W) (x : ∀ z : Nat, 952 ≤ z → z ≤ 962 → Xi W z c = Xi V z c) : TSTR T W c p e now := by
  obtain ⟨a, b, d, f⟩ := h
  exact ⟨by rw [x 961 (by omega) (by omega)]; exact a, by rw [x 962 (by omega) (by omega)]; exact b, d, tsb_k f k (fun z p q => x z p (by omega))⟩
/-- what holds behind the middle of a test -/
def TMID (S V : sS) (now : Int) : Prop := (Xi V 904 65 = 0 → Xi S 904 65 = 0 ∧ TSB (tkR S) V (Xi S 904 93).toNat (Xi S 904 8) (Xi V 904 8) now) ∧ RUNK S V ∧ KTE S V ∧ Xi V 904 93 = Xi S 904 93 ∧ Xi V 961 (Xi S 904 93).toNat = Xi S 904 8

abbrev Q_mo_endsTest__t (S : sS) (k : Int) (isNow : Int) : pst := fun r S1 => S = S1 ∧ (∃ z : Int, r = some (iv z) ∧ (0 ≤ z ∧ z ≤ 1) ∧ ((z = 1 → ETR k isNow) ∧ (z = 0 → ¬ ETR k isNow)))
set_option maxRecDepth 100000 in
theorem t_mo_endsTest__t {S : sS} (hH : RI S) (k : Int) (isNow : Int) (hk : -2147483648 ≤ k ∧ k ≤ 2147483647) (hisNow : 0 ≤ isNow ∧ isNow ≤ 1) (d : Nat) : Mp lay0 (d + 1) m_mo_endsTest [.ref 904, iv k, iv isNow] S (Q_mo_endsTest__t S k isNow) := by
  refine Mp_R rfl rfl (fun fu => ?_)
  refine y_iload_n rfl rfl ?_
  refine y_bipush rfl rfl ?_
  refine y_icmp_eq rfl rfl (by unfold rg; omega) (by unfold rg; omega) (fun w1 => ?_) (fun w2 => ?_)
  · refine y_iconst rfl ?_
    refine y_goto rfl rfl ?_
    refine y_ireturn rfl rfl ?_
    exact ⟨rfl, _, rfl, ⟨by omega, by omega⟩, (by first | exact ⟨fun _ => by unfold ETR; omega, fun q => absurd q (by decide)⟩ | exact ⟨fun q => absurd q (by decide), fun _ => by unfold ETR; omega⟩)⟩
  · refine y_iload_n rfl rfl ?_
    refine y_bipush rfl rfl ?_
    refine y_icmp_eq rfl rfl (by unfold rg; omega) (by unfold rg; omega) (fun w3 => ?_) (fun w4 => ?_)
    · refine y_iconst rfl ?_
      refine y_goto rfl rfl ?_
      refine y_ireturn rfl rfl ?_
      exact ⟨rfl, _, rfl, ⟨by omega, by omega⟩, (by first | exact ⟨fun _ => by unfold ETR; omega, fun q => absurd q (by decide)⟩ | exact ⟨fun q => absurd q (by decide), fun _ => by unfold ETR; omega⟩)⟩
    · refine y_iload_n rfl rfl ?_
      refine y_iconst rfl ?_
      refine y_icmp_eq rfl rfl (by unfold rg; omega) (by unfold rg; omega) (fun w5 => ?_) (fun w6 => ?_)
      · refine y_iconst rfl ?_
        refine y_goto rfl rfl ?_
        refine y_ireturn rfl rfl ?_
        exact ⟨rfl, _, rfl, ⟨by omega, by omega⟩, (by first | exact ⟨fun _ => by unfold ETR; omega, fun q => absurd q (by decide)⟩ | exact ⟨fun q => absurd q (by decide), fun _ => by unfold ETR; omega⟩)⟩
      · refine y_iload_n rfl rfl ?_
        refine y_if_ne rfl rfl (by unfold rg; omega) (fun w7 => ?_) (fun w8 => ?_)
        · refine y_iconst rfl ?_
          refine y_ireturn rfl rfl ?_
          exact ⟨rfl, _, rfl, ⟨by omega, by omega⟩, (by first | exact ⟨fun _ => by unfold ETR; omega, fun q => absurd q (by decide)⟩ | exact ⟨fun q => absurd q (by decide), fun _ => by unfold ETR; omega⟩)⟩
        · refine y_iload_n rfl rfl ?_
          refine y_bipush rfl rfl ?_
          refine y_icmp_eq rfl rfl (by unfold rg; omega) (by unfold rg; omega) (fun w9 => ?_) (fun w10 => ?_)
          · refine y_iconst rfl ?_
            refine y_goto rfl rfl ?_
            refine y_ireturn rfl rfl ?_
            exact ⟨rfl, _, rfl, ⟨by omega, by omega⟩, (by first | exact ⟨fun _ => by unfold ETR; omega, fun q => absurd q (by decide)⟩ | exact ⟨fun q => absurd q (by decide), fun _ => by unfold ETR; omega⟩)⟩
          · refine y_iload_n rfl rfl ?_
            refine y_bipush rfl rfl ?_
            refine y_icmp_ne rfl rfl (by unfold rg; omega) (by unfold rg; omega) (fun w11 => ?_) (fun w12 => ?_)
            · refine y_iconst rfl ?_
              refine y_ireturn rfl rfl ?_
              exact ⟨rfl, _, rfl, ⟨by omega, by omega⟩, (by first | exact ⟨fun _ => by unfold ETR; omega, fun q => absurd q (by decide)⟩ | exact ⟨fun q => absurd q (by decide), fun _ => by unfold ETR; omega⟩)⟩
            · refine y_iconst rfl ?_
              refine y_goto rfl rfl ?_
              refine y_ireturn rfl rfl ?_
              exact ⟨rfl, _, rfl, ⟨by omega, by omega⟩, (by first | exact ⟨fun _ => by unfold ETR; omega, fun q => absurd q (by decide)⟩ | exact ⟨fun q => absurd q (by decide), fun _ => by unfold ETR; omega⟩)⟩
abbrev Q_mo_beginsOf__t (S : sS) (t : Int) : pst := fun r S1 => S = S1 ∧ (∃ z : Int, r = some (iv z) ∧ (0 ≤ z ∧ z ≤ 1) ∧ ((z = 1 → BOF (tkR S) t) ∧ (z = 0 → ¬ BOF (tkR S) t)))
set_option maxRecDepth 100000 in
theorem t_mo_beginsOf__t {S : sS} (hH : RI S) (t : Int) (ht : -2147483648 ≤ t ∧ t ≤ 2147483646) (d : Nat) : Mp lay0 (d + 1) m_mo_beginsOf [.ref 904, iv t] S (Q_mo_beginsOf__t S t) := by
  refine Mp_R rfl rfl (fun fu => ?_)
  have C17 : ∀ (n17 : Nat) (_ : n17 ≤ fu) (v2 : Int), (-2147483647 ≤ v2 ∧ v2 ≤ 2147483647) → (tkR S t = 102) → (t + 1 ≤ v2) → (0 ≤ t) → (Hid (∀ i : Int, t + 1 ≤ i → i < v2 → tkR S i = 3)) → Pl n17 lay0 (d + 0) m_mo_beginsOf 17 [(0, .ref 904), (1, iv t), (2, iv v2)] [] S (Q_mo_beginsOf__t S t) := by
    intro n17
    induction n17 with
    | zero => intros; exact Pl_0
    | succ n17 ih17 =>
      intro hm17 v2 w1 h9 w2 w3 G17
      refine ys_aload_n rfl rfl ?_
      refine y_gfr rfl rfl rfl rfl rfl (hH.r 904 4 907 rfl) ?_
      refine y_iload_n rfl rfl ?_
      refine y_ialoadP (n := 5002) rfl rfl (by unfold rg; omega) (fun w4 w5 => ?_)
      have w6 : -2147483648 ≤ (Xi S 907 ((v2).toNat)) ∧ (Xi S 907 ((v2).toNat)) ≤ 2147483647 := Xi_rgI
      refine y_iconst rfl ?_
      refine y_icmp_ne rfl rfl (by unfold rg; omega) (by unfold rg; omega) (fun w7 => ?_) (fun w8 => ?_)
      · refine y_iload_n rfl rfl ?_
        refine y_iload_n rfl rfl ?_
        refine y_iconst rfl ?_
        refine y_iadd rfl ?_
        refine y_icmp_le rfl rfl (by unfold rg; omega) (by unfold rg; omega) (fun w9 => ?_) (fun w10 => ?_)
        · refine y_iconst rfl ?_
          refine y_ireturn rfl rfl ?_
          exact ⟨rfl, _, rfl, ⟨by omega, by omega⟩, (by first | (have u := K40; first | exact ⟨fun _ => ⟨h9, _, ⟨by omega, G17.o, by show Xi S 907 _ ≠ 3; omega⟩, by show Xi S 907 _ = 107; omega⟩, fun q => absurd q (by decide)⟩ | exact ⟨fun q => absurd q (by decide), fun _ w => by obtain ⟨_, q, ⟨w1, w2, w3⟩, w4⟩ := w; have e : q = v2 := (by by_cases c : q < v2; (exact absurd (G17.o q (by omega) c) w3); (by_cases d : v2 < q; (have y := w2 v2 (by omega) d; exfalso; have y2 : Xi S 907 (v2).toNat = 3 := y; omega); omega)); rw [e] at w4; have y : Xi S 907 (v2).toNat = 107 := w4; omega⟩) | (have u := h9; exact ⟨fun q => absurd q (by decide), fun _ w => by obtain ⟨_, q, ⟨w1, w2, w3⟩, w4⟩ := w; have y := w2 (t + 1) (by omega) (by omega); have y2 : Xi S 907 (t + 1).toNat = 3 := y; rw [show t + 1 = v2 by omega] at y2; omega⟩) | exact ⟨fun q => absurd q (by decide), fun _ w => by have y : Xi S 907 (t).toNat = 102 := w.1; omega⟩)⟩
        · refine y_aload_n rfl rfl ?_
          have K40 : True := trivial
          refine y_gfr rfl rfl rfl rfl rfl (hH.r 904 4 907 rfl) ?_
          refine y_iload_n rfl rfl ?_
          refine y_ialoadP (n := 5002) rfl rfl (by unfold rg; omega) (fun w11 w12 => ?_)
          refine y_bipush rfl rfl ?_
          refine y_icmp_ne rfl rfl (by unfold rg; omega) (by unfold rg; omega) (fun w13 => ?_) (fun w14 => ?_)
          · refine y_iconst rfl ?_
            refine y_ireturn rfl rfl ?_
            exact ⟨rfl, _, rfl, ⟨by omega, by omega⟩, (by first | (have u := K40; first | exact ⟨fun _ => ⟨h9, _, ⟨by omega, G17.o, by show Xi S 907 _ ≠ 3; omega⟩, by show Xi S 907 _ = 107; omega⟩, fun q => absurd q (by decide)⟩ | exact ⟨fun q => absurd q (by decide), fun _ w => by obtain ⟨_, q, ⟨w1, w2, w3⟩, w4⟩ := w; have e : q = v2 := (by by_cases c : q < v2; (exact absurd (G17.o q (by omega) c) w3); (by_cases d : v2 < q; (have y := w2 v2 (by omega) d; exfalso; have y2 : Xi S 907 (v2).toNat = 3 := y; omega); omega)); rw [e] at w4; have y : Xi S 907 (v2).toNat = 107 := w4; omega⟩) | (have u := h9; exact ⟨fun q => absurd q (by decide), fun _ w => by obtain ⟨_, q, ⟨w1, w2, w3⟩, w4⟩ := w; have y := w2 (t + 1) (by omega) (by omega); have y2 : Xi S 907 (t + 1).toNat = 3 := y; rw [show t + 1 = v2 by omega] at y2; omega⟩) | exact ⟨fun q => absurd q (by decide), fun _ w => by have y : Xi S 907 (t).toNat = 102 := w.1; omega⟩)⟩
          · refine y_iconst rfl ?_
            refine y_goto rfl rfl ?_
            refine y_ireturn rfl rfl ?_
            exact ⟨rfl, _, rfl, ⟨by omega, by omega⟩, (by first | (have u := K40; first | exact ⟨fun _ => ⟨h9, _, ⟨by omega, G17.o, by show Xi S 907 _ ≠ 3; omega⟩, by show Xi S 907 _ = 107; omega⟩, fun q => absurd q (by decide)⟩ | exact ⟨fun q => absurd q (by decide), fun _ w => by obtain ⟨_, q, ⟨w1, w2, w3⟩, w4⟩ := w; have e : q = v2 := (by by_cases c : q < v2; (exact absurd (G17.o q (by omega) c) w3); (by_cases d : v2 < q; (have y := w2 v2 (by omega) d; exfalso; have y2 : Xi S 907 (v2).toNat = 3 := y; omega); omega)); rw [e] at w4; have y : Xi S 907 (v2).toNat = 107 := w4; omega⟩) | (have u := h9; exact ⟨fun q => absurd q (by decide), fun _ w => by obtain ⟨_, q, ⟨w1, w2, w3⟩, w4⟩ := w; have y := w2 (t + 1) (by omega) (by omega); have y2 : Xi S 907 (t + 1).toNat = 3 := y; rw [show t + 1 = v2 by omega] at y2; omega⟩) | exact ⟨fun q => absurd q (by decide), fun _ w => by have y : Xi S 907 (t).toNat = 102 := w.1; omega⟩)⟩
      · refine y_iinc rfl rfl rfl rfl ?_
        refine y_goto rfl rfl ?_
        exact Pl_weak (ih17 (by omega) ((v2 + 1)) (by omega) (by first | exact h9 | (rw [← x9]; omega)) (by omega) (by omega) (by first | exact fun i x y => absurd x (by omega) | exact fun i x y => by by_cases c : i < v2; exact G17.o i x c; (rw [show i = v2 by omega]; show Xi S 907 _ = 3; omega))) (by omega) (And.intro rfl (And.intro rfl (And.intro rfl (True.intro))))
  refine y_iload_n rfl rfl ?_
  refine y_iconst rfl ?_
  refine y_iadd rfl ?_
  refine y_istore_n rfl rfl rfl ?_
  refine y_aload_n rfl rfl ?_
  refine y_gfr rfl rfl rfl rfl rfl (hH.r 904 4 907 rfl) ?_
  refine y_iload_n rfl rfl ?_
  refine y_ialoadP (n := 5002) rfl rfl (by unfold rg; omega) (fun w15 w16 => ?_)
  have w17 : -2147483648 ≤ (Xi S 907 ((t).toNat)) ∧ (Xi S 907 ((t).toNat)) ≤ 2147483647 := Xi_rgI
  have x9 : (Xi S 907 ((t).toNat)) = tkR S t := rfl
  refine y_bipush rfl rfl ?_
  refine y_icmp_eq rfl rfl (by unfold rg; omega) (by unfold rg; omega) (fun w18 => ?_) (fun w19 => ?_)
  · exact Pl_weak (C17 fu (by omega) ((t + 1)) (by omega) (by first | exact h9 | (rw [← x9]; omega)) (by omega) (by omega) (by first | exact fun i x y => absurd x (by omega) | exact fun i x y => by by_cases c : i < v2; exact G17.o i x c; (rw [show i = v2 by omega]; show Xi S 907 _ = 3; omega))) (by omega) (And.intro rfl (And.intro rfl (And.intro rfl (True.intro))))
  · refine y_iconst rfl ?_
    refine y_ireturn rfl rfl ?_
    exact ⟨rfl, _, rfl, ⟨by omega, by omega⟩, (by first | (have u := K40; first | exact ⟨fun _ => ⟨h9, _, ⟨by omega, G17.o, by show Xi S 907 _ ≠ 3; omega⟩, by show Xi S 907 _ = 107; omega⟩, fun q => absurd q (by decide)⟩ | exact ⟨fun q => absurd q (by decide), fun _ w => by obtain ⟨_, q, ⟨w1, w2, w3⟩, w4⟩ := w; have e : q = v2 := (by by_cases c : q < v2; (exact absurd (G17.o q (by omega) c) w3); (by_cases d : v2 < q; (have y := w2 v2 (by omega) d; exfalso; have y2 : Xi S 907 (v2).toNat = 3 := y; omega); omega)); rw [e] at w4; have y : Xi S 907 (v2).toNat = 107 := w4; omega⟩) | (have u := h9; exact ⟨fun q => absurd q (by decide), fun _ w => by obtain ⟨_, q, ⟨w1, w2, w3⟩, w4⟩ := w; have y := w2 (t + 1) (by omega) (by omega); have y2 : Xi S 907 (t + 1).toNat = 3 := y; rw [show t + 1 = v2 by omega] at y2; omega⟩) | exact ⟨fun q => absurd q (by decide), fun _ w => by have y : Xi S 907 (t).toNat = 102 := w.1; omega⟩)⟩
/-! the reference's reading: a TEST, its ways -/
theorem mid_p {S U A B C D : sS} {now : Int} (hu : Xi U 904 8 = Xi S 904 8 ∧ Xi U 904 65 = Xi S 904 65 ∧ Xi U 904 93 = Xi S 904 93) (f : Xi U 961 (Xi S 904 93).toNat = Xi S 904 8 ∧ Xi U 953 (Xi S 904 93).toNat = 0) (k0 : RUNK S U) (q0 : KTE S U) (is : IST (tkR S) now (Xi S 904 8)) (bo : BOF (tkR S) (Xi S 904 8))
    (t1 : Xi A 904 65 = 0 → Xi U 904 65 = 0 ∧ (0 ≤ Xi U 904 8 ∧ Xi U 904 8 ≤ 5001) ∧ PRE (tkR S) A (Xi U 904 8) (Xi A 904 8) (Xi A 956 (Xi S 904 93).toNat)) (f1 : FR md_mo_property__t U A) (k1 : RUNK U A) (q1 : KTE U A)
    (t2 : Xi B 904 65 = 0 → Xi A 904 65 = 0 ∧ (0 ≤ Xi A 904 8 ∧ Xi A 904 8 ≤ 5001) ∧ THE (tkR S) B (Xi A 904 8) (Xi B 904 8) (Xi B 954 (Xi S 904 93).toNat) (Xi B 955 (Xi S 904 93).toNat)) (f2 : FR md_mo_thingOfTest__t A B) (k2 : RUNK A B) (q2 : KTE A B)
    (t3 : Xi C 904 65 = 0 → Xi B 904 65 = 0 ∧ tkR S (Xi B 904 8) = 104 ∧ 0 ≤ Xi B 904 8 ∧ Xi C 904 8 = Xi B 904 8 + 1) (f3 : FR md_mo_take__t B C)
    (t4 : Xi D 904 65 = 0 → Xi C 904 65 = 0 ∧ (0 ≤ Xi C 904 8 ∧ Xi C 904 8 ≤ 5001) ∧ TWE (tkR S) D now (Xi C 904 8) (Xi D 904 8) (Xi C 953 (Xi S 904 93).toNat) (Xi D 952 (Xi S 904 93).toNat) (Xi D 953 (Xi S 904 93).toNat) (Xi D 957 (Xi S 904 93).toNat) (Xi D 960 (Xi S 904 93).toNat)) (f4 : FR md_mo_testedWhat__t C D) (k4 : RUNK C D) (q4 : KTE C D) : TMID S D now := by
  have k3 : RUNK B C := runk_F f3 rfl rfl RUNK.rf
  have c1 : Xi A 904 93 = Xi U 904 93 := f1.x 904 93 rfl
  have c2 : Xi B 904 93 = Xi A 904 93 := f2.x 904 93 rfl
  have c3 : Xi C 904 93 = Xi B 904 93 := f3.x 904 93 rfl
  have c4 : Xi D 904 93 = Xi C 904 93 := f4.x 904 93 rfl
  refine ⟨fun b => ?_, k0.tr (k1.tr (k2.tr (k3.tr k4))), kte_t (kte_t (kte_F f3 rfl (kte_t (kte_t q0 q1 (by omega)) q2 (by omega))) q4 (by omega)) KTE.rf (by omega), by omega, ?_⟩
  · obtain ⟨d1, d2, d3⟩ := t4 b
    obtain ⟨e1, e2, e3, e4⟩ := t3 d1
    obtain ⟨g1, g2, g3⟩ := t2 e1
    obtain ⟨h1, h2, h3⟩ := t1 g1
    rw [f3.x 953 _ rfl, f2.x 953 _ rfl, f1.x 953 _ rfl, f.2, e4] at d3
    rw [hu.1] at h3
    refine ⟨by omega, Or.inr (Or.inl ⟨is, bo, Xi A 904 8, Xi B 904 8, ?_, ?_, e2, d3⟩)⟩
    · rw [f4.x 956 _ rfl, f3.x 956 _ rfl, f2.x 956 _ rfl]; exact pre_k h3 (k2.tr (k3.tr k4))
    · rw [f4.x 954 _ rfl, f4.x 955 _ rfl, f3.x 954 _ rfl, f3.x 955 _ rfl]; exact the_k g3 (k3.tr k4)
  · rw [f4.x 961 _ rfl, f3.x 961 _ rfl, f2.x 961 _ rfl, f1.x 961 _ rfl]; exact f.1
/-- up to what stands behind is, not -/
def THB (S E : sS) (now : Int) : Prop := (Xi E 904 65 = 0 → Xi S 904 65 = 0 ∧ ∃ r : Int, THE (tkR S) E (Xi S 904 8) r (Xi E 954 (Xi S 904 93).toNat) (Xi E 955 (Xi S 904 93).toNat) ∧ tkR S r = 104 ∧ ((tkR S (r + 1) = 106 ∧ Xi E 953 (Xi S 904 93).toNat = 1 ∧ Xi E 904 8 = r + 2) ∨ (tkR S (r + 1) ≠ 106 ∧ Xi E 953 (Xi S 904 93).toNat = 0 ∧ Xi E 904 8 = r + 1))) ∧ RUNK S E ∧ KTE S E ∧ Xi E 904 93 = Xi S 904 93 ∧ Xi E 961 (Xi S 904 93).toNat = Xi S 904 8
theorem thb_of {S U A B C D : sS} {now n x : Int} (hu : Xi U 904 8 = Xi S 904 8 ∧ Xi U 904 65 = Xi S 904 65 ∧ Xi U 904 93 = Xi S 904 93) (f : Xi U 961 (Xi S 904 93).toNat = Xi S 904 8) (k0 : RUNK S U) (q0 : KTE S U) (h93 : 0 ≤ Xi S 904 93)
    (t1 : Xi A 904 65 = 0 → Xi U 904 65 = 0 ∧ (0 ≤ Xi U 904 8 ∧ Xi U 904 8 ≤ 5001) ∧ THE (tkR S) A (Xi U 904 8) (Xi A 904 8) (Xi A 954 (Xi S 904 93).toNat) (Xi A 955 (Xi S 904 93).toNat)) (f1 : FR md_mo_thingOfTest__t U A) (k1 : RUNK U A) (q1 : KTE U A)
    (t2 : Xi B 904 65 = 0 → Xi A 904 65 = 0 ∧ tkR S (Xi A 904 8) = 104 ∧ 0 ≤ Xi A 904 8 ∧ Xi B 904 8 = Xi A 904 8 + 1) (f2 : FR md_mo_take__t A B)
    (t3 : (n = 1 → Xi B 904 65 = 0 ∧ tkR S (Xi B 904 8) = 106 ∧ 0 ≤ Xi B 904 8 ∧ Xi B 904 8 ≤ 5001) ∧ (n = 0 → Xi B 904 65 ≠ 0 ∨ tkR S (Xi B 904 8) ≠ 106)) (hn : n = 0 ∨ n = 1) (e3 : C = uI B 953 (Xi S 904 93).toNat (Int32.ofInt n)) (e4 : D = uI C 904 8 (Int32.ofInt x)) (hx : x = Xi B 904 8 + n) : THB S D now := by
  have k2 : RUNK A B := runk_F f2 rfl rfl RUNK.rf
  have k3 : RUNK B D := runk_w e4 (by omega) (runk_w e3 (by omega) RUNK.rf)
  have c1 : Xi A 904 93 = Xi U 904 93 := f1.x 904 93 rfl
  have c2 : Xi B 904 93 = Xi A 904 93 := f2.x 904 93 rfl
  have y : ∀ z j, z ≠ 953 → z ≠ 904 ∨ j ≠ 8 → Xi D z j = Xi B z j := fun z j p q => by rw [e4, Xi_ne (by omega), e3, Xi_ne (by omega)]
  have yn : Xi D 953 (Xi S 904 93).toNat = n := by rw [e4, Xi_ne (by omega)]; exact xi_of e3 ⟨by omega, by omega⟩
  refine ⟨fun b => ?_, k0.tr (k1.tr (k2.tr k3)), kte_w e4 (by omega) (kte_w e3 (by omega) (kte_F f2 rfl (kte_t q0 q1 (by omega)))), by rw [y _ _ (by omega) (by omega)]; omega, ?_⟩
  · rw [y _ _ (by omega) (by omega)] at b
    obtain ⟨g1, g2, g3, g4⟩ := t2 b
    obtain ⟨h1, h2, h3⟩ := t1 g1
    rw [hu.1] at h3
    rw [g4] at t3
    refine ⟨by omega, Xi A 904 8, ?_, g2, ?_⟩
    · rw [y _ _ (by omega) (by omega), y _ _ (by omega) (by omega), f2.x 954 _ rfl, f2.x 955 _ rfl]; exact the_k h3 (k2.tr k3)
    · rcases hn with w | w
      · refine Or.inr ⟨?_, by omega, ?_⟩
        · rcases t3.2 w with u | u
          · exact absurd b u
          · exact u
        · rw [e4, Xi_same (by have := Xi_rgI (S := B) (k := 904) (j := 8); exact ⟨by omega, by omega⟩)]; omega
      · obtain ⟨u1, u2, u3, u4⟩ := t3.1 w
        refine Or.inl ⟨u2, by omega, ?_⟩
        rw [e4, Xi_same ⟨by omega, by omega⟩]; omega
  · rw [y _ _ (by omega) (by omega), f2.x 961 _ rfl, f1.x 961 _ rfl]; exact f
theorem mid_r {S E F A D : sS} {now z : Int} (h : THB S E now) (is : IST (tkR S) now (Xi S 904 8)) (bo : ¬ BOF (tkR S) (Xi S 904 8)) (t0 : Xi E 904 65 = 0 ∧ tkR S (Xi E 904 8) = 3) (e1 : F = uI E 952 (Xi S 904 93).toNat (Int32.ofInt 3)) (t1 : Xi A 904 65 = 0 → RNT (tkR S) F A z) (f1 : FR md_mo_run__t F A) (k1 : RUNK F A) (rz : rg z) (e2 : D = uI A 956 (Xi S 904 93).toNat (Int32.ofInt z)) (h93 : 0 ≤ Xi S 904 93) : TMID S D now := by
  obtain ⟨h1, h2, h3, h4, h5⟩ := h
  have kE : RUNK E F := runk_w e1 (by omega) RUNK.rf
  have kD : RUNK A D := runk_w e2 (by omega) RUNK.rf
  have y : ∀ z j, z ≠ 956 → Xi D z j = Xi A z j := fun z j p => by rw [e2, Xi_ne (by omega)]
  have w : ∀ z j, z ≠ 952 → Xi F z j = Xi E z j := fun z j p => by rw [e1, Xi_ne (by omega)]
  refine ⟨fun b => ?_, h2.tr (kE.tr (k1.tr kD)), kte_w e2 (by omega) (kte_F f1 rfl (kte_w e1 (by omega) h3)), by rw [y _ _ (by omega), f1.x 904 93 rfl, w _ _ (by omega)]; exact h4, by rw [y _ _ (by omega), f1.x 961 _ rfl, w _ _ (by omega)]; exact h5⟩
  rw [y _ _ (by omega)] at b
  obtain ⟨r1, r2, r3, r4, r5, r6⟩ := t1 b
  obtain ⟨m1, r, m2, m3, m4⟩ := h1 t0.1
  rw [w 904 8 (by omega)] at r3 r6
  refine ⟨m1, Or.inr (Or.inr ⟨is, bo, r, Xi E 904 8, ?_, m3, ?_, Or.inl ⟨t0.2, ?_, ?_, ?_⟩⟩)⟩
  · rw [y _ _ (by omega), y _ _ (by omega), f1.x 954 _ rfl, f1.x 955 _ rfl, w _ _ (by omega), w _ _ (by omega)]; exact the_k m2 (kE.tr (k1.tr kD))
  · rw [y _ _ (by omega), f1.x 953 _ rfl, w _ _ (by omega)]; exact m4
  · rw [y _ _ (by omega), f1.x 952 _ rfl]; exact xi_of e1 ⟨by decide, by decide⟩
  · rw [y _ _ (by omega)]; exact r3
  · rw [xi_of e2 rz, y 904 8 (by omega)]; exact rr_k r6 kD
theorem mid_l {S E F A B C D G : sS} {now z : Int} (h : THB S E now) (is : IST (tkR S) now (Xi S 904 8)) (bo : ¬ BOF (tkR S) (Xi S 904 8)) (hn : now = 0) (t0 : Xi E 904 65 ≠ 0 ∨ tkR S (Xi E 904 8) ≠ 3) (e1 : F = uI E 952 (Xi S 904 93).toNat (Int32.ofInt 4)) (t1 : Xi A 904 65 = 0 → Xi F 904 65 = 0 ∧ (0 ≤ Xi F 904 8 ∧ Xi F 904 8 ≤ 5001) ∧ PLE (tkR S) (Xi F 904 8) (Xi A 904 8) z) (f1 : FR md_mo_placing__t F A) (rz : rg z) (e2 : B = uI A 958 (Xi S 904 93).toNat (Int32.ofInt z))
    (t2 : Xi C 904 65 = 0 → Xi B 904 65 = 0 ∧ (0 ≤ Xi B 904 8 ∧ Xi B 904 8 ≤ 5001) ∧ TH3 (tkR S) C (Xi B 904 8) (Xi C 904 8) (Xi C 904 100) (Xi C 904 101) (Xi C 904 99)) (f2 : FR md_mo_thing__t B C) (k2 : RUNK B C) {v u : Int} (e3 : D = uI C 959 (Xi S 904 93).toNat (Int32.ofInt v)) (e4 : G = uI D 960 (Xi S 904 93).toNat (Int32.ofInt u)) (hv : v = Xi C 904 100 * 10000 + Xi C 904 101) (hu : u = Xi C 904 99) (h93 : 0 ≤ Xi S 904 93) : TMID S G now := by
  obtain ⟨h1, h2, h3, h4, h5⟩ := h
  have kE : RUNK E F := runk_w e1 (by omega) RUNK.rf
  have k1 : RUNK F A := runk_F f1 rfl rfl RUNK.rf
  have kB : RUNK A B := runk_w e2 (by omega) RUNK.rf
  have kG : RUNK C G := runk_w e4 (by omega) (runk_w e3 (by omega) RUNK.rf)
  have y : ∀ z j, z ≠ 959 → z ≠ 960 → Xi G z j = Xi C z j := fun z j p q => by rw [e4, Xi_ne (by omega), e3, Xi_ne (by omega)]
  have x : ∀ z j, z ≠ 958 → Xi B z j = Xi A z j := fun z j p => by rw [e2, Xi_ne (by omega)]
  have w : ∀ z j, z ≠ 952 → Xi F z j = Xi E z j := fun z j p => by rw [e1, Xi_ne (by omega)]
  refine ⟨fun b => ?_, h2.tr (kE.tr (k1.tr (kB.tr (k2.tr kG)))), kte_w e4 (by omega) (kte_w e3 (by omega) (kte_F f2 rfl (kte_w e2 (by omega) (kte_F f1 rfl (kte_w e1 (by omega) h3))))), by rw [y _ _ (by omega) (by omega), f2.x 904 93 rfl, x _ _ (by omega), f1.x 904 93 rfl, w _ _ (by omega)]; exact h4, by rw [y _ _ (by omega) (by omega), f2.x 961 _ rfl, x _ _ (by omega), f1.x 961 _ rfl, w _ _ (by omega)]; exact h5⟩
  rw [y _ _ (by omega) (by omega)] at b
  obtain ⟨c1, c2, c3⟩ := t2 b
  rw [x _ _ (by omega)] at c1
  obtain ⟨d1, d2, d3⟩ := t1 c1
  rw [w _ _ (by omega)] at d1
  rw [w 904 8 (by omega)] at d3
  rw [x 904 8 (by omega)] at c3
  obtain ⟨m1, r, m2, m3, m4⟩ := h1 d1
  have tb := th3_b c3
  have rg1 : 0 ≤ Xi A 904 8 ∧ Xi A 904 8 ≤ 5001 := by rw [x 904 8 (by omega)] at c2; exact c2
  refine ⟨m1, Or.inr (Or.inr ⟨is, bo, r, Xi E 904 8, ?_, m3, ?_, Or.inr ⟨?_, hn, ?_, Xi A 904 8, ?_, ?_⟩⟩)⟩
  · rw [y 954 _ (by omega) (by omega), y 955 _ (by omega) (by omega), f2.x 954 _ rfl, f2.x 955 _ rfl, x 954 _ (by omega), x 955 _ (by omega), f1.x 954 _ rfl, f1.x 955 _ rfl, w 954 _ (by omega), w 955 _ (by omega)]; exact the_k m2 (kE.tr (k1.tr (kB.tr (k2.tr kG))))
  · rw [y 953 _ (by omega) (by omega), f2.x 953 _ rfl, x 953 _ (by omega), f1.x 953 _ rfl, w 953 _ (by omega)]; exact m4
  · rcases t0 with q | q
    · exact absurd d1 q
    · exact q
  · rw [y 952 _ (by omega) (by omega), f2.x 952 _ rfl, x 952 _ (by omega), f1.x 952 _ rfl]; exact xi_of e1 ⟨by decide, by decide⟩
  · rw [y 958 _ (by omega) (by omega), f2.x 958 _ rfl, xi_of e2 rz]; exact d3
  · have gu := Xi_rgI (S := C) (k := 904) (j := 99)
    refine ⟨_, _, _, by rw [y 904 8 (by omega) (by omega)]; exact th3_k c3 kG, ?_, ?_⟩
    · rw [e4, Xi_ne (by omega), xi_of e3 (by rw [hv]; exact ⟨by omega, by omega⟩)]; exact hv
    · rw [xi_of e4 (by rw [hu]; exact ⟨by omega, by omega⟩)]; exact hu
theorem mid_o {S E A : sS} {now : Int} (k : RUNK S E) (q : KTE S E) (c : Xi E 904 93 = Xi S 904 93) (f : Xi E 961 (Xi S 904 93).toNat = Xi S 904 8) (t : Xi A 904 65 ≠ 0) (f1 : FR md_mo_odd__t E A) : TMID S A now :=
  ⟨fun b => absurd b t, runk_F f1 rfl rfl k, kte_F f1 rfl q, by rw [f1.x 904 93 rfl]; exact c, by rw [f1.x 961 _ rfl]; exact f⟩
end
