section
def md_mo_test__t : List rec := [(904, 905, 8, 9), (904, 905, 65, 66), (904, 905, 66, 67), (904, 905, 69, 70), (904, 905, 78, 79), (904, 905, 93, 94), (904, 905, 99, 100), (904, 905, 100, 101), (904, 905, 101, 102), (950, 951, 0, 100000), (951, 952, 0, 100000), (952, 953, 0, 100000), (953, 954, 0, 100000), (954, 955, 0, 100000), (955, 956, 0, 100000), (956, 957, 0, 100000), (957, 958, 0, 100000), (958, 959, 0, 100000), (959, 960, 0, 100000), (960, 961, 0, 100000), (961, 962, 0, 100000), (962, 963, 0, 100000)]
abbrev Q_mo_test__t (S : sS) (isNow : Int) : pst := fun r S1 => RI S1 ∧ FR md_mo_test__t S S1 ∧ (r = none ∧ (Xi S1 904 65 = 0 → Xi S 904 65 = 0 ∧ TSTR (tkR S) S1 (Xi S 904 93).toNat (Xi S 904 8) (Xi S1 904 8) isNow) ∧ (RUNK S S1) ∧ (KTE S S1) ∧ (Xi S1 904 93 = Xi S 904 93 + 1))
set_option maxRecDepth 100000 in
theorem t_mo_test__t {S : sS} (hH : RI S) (isNow : Int) (hisNow : 0 ≤ isNow ∧ isNow ≤ 1) (h69 : 0 ≤ Xi S 904 69) (h93 : 0 ≤ Xi S 904 93) (d : Nat) : Mp lay0 (d + 6) m_mo_test [.ref 904, iv isNow] S (Q_mo_test__t S isNow) := by
  refine Mp_R rfl rfl (fun fu => ?_)
  have hF : FR md_mo_test__t S S := FR.rf
  have w1 : -2147483648 ≤ Xi S 904 100 ∧ Xi S 904 100 ≤ 2147483647 := Xi_rgI
  have w2 : -2147483648 ≤ Xi S 904 101 ∧ Xi S 904 101 ≤ 2147483647 := Xi_rgI
  have w3 : -2147483648 ≤ Xi S 904 65 ∧ Xi S 904 65 ≤ 2147483647 := Xi_rgI
  have w4 : -2147483648 ≤ Xi S 904 69 ∧ Xi S 904 69 ≤ 2147483647 := Xi_rgI
  have w5 : -2147483648 ≤ Xi S 904 8 ∧ Xi S 904 8 ≤ 2147483647 := Xi_rgI
  have w6 : -2147483648 ≤ Xi S 904 93 ∧ Xi S 904 93 ≤ 2147483647 := Xi_rgI
  have w7 : -2147483648 ≤ Xi S 904 99 ∧ Xi S 904 99 ≤ 2147483647 := Xi_rgI
  have C13 : ∀ (n13 : Nat) (_ : n13 ≤ fu) (v2 : Int) (v3 : Int) (v4 : Int), (-2147483648 ≤ v2 ∧ v2 ≤ 2147483647) → (0 ≤ v3 ∧ v3 ≤ 1) → (-2147483648 ≤ v4 ∧ v4 ≤ 2147483647) → (v2 = Xi S 904 8) → (0 ≤ v3 ∧ v3 ≤ 1) → (Hid (ISL (tkR S) isNow (Xi S 904 8) v4 v3)) → Pl n13 lay0 (d + 5) m_mo_test 13 [(0, .ref 904), (1, iv isNow), (2, iv v2), (3, iv v3), (4, iv v4)] [] S (Q_mo_test__t S isNow) := by
    intro n13
    induction n13 with
    | zero => intros; exact Pl_0
    | succ n13 ih13 =>
      intro hm13 v2 v3 v4 w8 w9 w10 w11 w12 I13
      have C351 : ∀  (T1 : sS) (_ : RI T1) (_ : FR md_mo_test__t S T1), (Hid (TMID S T1 isNow)) → Pl n13 lay0 (d + 5) m_mo_test 351 [(0, .ref 904), (1, iv isNow)] [] T1 (Q_mo_test__t S isNow) := by
        intro T1 hHT1 hFT1 X351
        have w13 : -2147483648 ≤ Xi T1 904 100 ∧ Xi T1 904 100 ≤ 2147483647 := Xi_rgI
        have w14 : -2147483648 ≤ Xi T1 904 101 ∧ Xi T1 904 101 ≤ 2147483647 := Xi_rgI
        have w15 : -2147483648 ≤ Xi T1 904 65 ∧ Xi T1 904 65 ≤ 2147483647 := Xi_rgI
        have w16 : -2147483648 ≤ Xi T1 904 69 ∧ Xi T1 904 69 ≤ 2147483647 := Xi_rgI
        have w17 : -2147483648 ≤ Xi T1 904 8 ∧ Xi T1 904 8 ≤ 2147483647 := Xi_rgI
        have w18 : -2147483648 ≤ Xi T1 904 93 ∧ Xi T1 904 93 ≤ 2147483647 := Xi_rgI
        have w19 : -2147483648 ≤ Xi T1 904 99 ∧ Xi T1 904 99 ≤ 2147483647 := Xi_rgI
        refine y_aload_n rfl rfl ?_
        refine y_gfr rfl rfl rfl rfl rfl (hHT1.r 904 92 962 rfl) ?_
        refine y_aload_n rfl rfl ?_
        refine y_gfi rfl rfl rfl rfl rfl ?_
        refine y_aload_n rfl rfl ?_
        refine y_gfi rfl rfl rfl rfl rfl ?_
        refine y_iastoreP (n := 1700) rfl rfl (by unfold rg; omega) (fun w20 w21 => ?_)
        obtain ⟨U2, eU2⟩ : ∃ T : sS, T = uI T1 962 (((Xi T1 904 93)).toNat) (Int32.ofInt (Xi T1 904 8)) := ⟨_, rfl⟩
        rw [← eU2]
        have hHU2 : RI U2 := by rw [eU2]; exact RI_w hHT1
        have hFU2 : FR md_mo_test__t S U2 := by rw [eU2]; exact FR.wI hFT1 (mdf_i (r := (962, 963, 0, 100000)) (List.mem_of_getElem? (i := 21) rfl) (inR_i (by omega) (by omega) (by omega) (by omega)))
        have w22 : Xi U2 962 (((Xi T1 904 93)).toNat) = (Xi T1 904 8) := by rw [eU2]; exact Xi_same (by unfold rg; omega)
        have e363 := eU2
        refine y_aload_n rfl rfl ?_
        refine y_gfi rfl rfl rfl rfl rfl ?_
        have w23 : (Xi U2 904 65) = (Xi T1 904 65) := (show Xi U2 904 65 = Xi T1 904 65 from by rw [eU2]; exact Xi_ne (by omega))
        rw [w23]
        refine y_if_ne rfl rfl (by unfold rg; omega) (fun w24 => ?_) (fun w25 => ?_)
        · refine y_aload_n rfl rfl ?_
          refine y_dup rfl rfl ?_
          refine y_gfi rfl rfl rfl rfl rfl ?_
          have w26 : (Xi U2 904 93) = (Xi T1 904 93) := (show Xi U2 904 93 = Xi T1 904 93 from by rw [eU2]; exact Xi_ne (by omega))
          rw [w26]
          refine y_iconst rfl ?_
          refine y_iadd rfl ?_
          refine y_pfi rfl rfl rfl rfl ?_
          obtain ⟨U3, eU3⟩ : ∃ T : sS, T = uI U2 904 93 (Int32.ofInt ((Xi T1 904 93) + 1)) := ⟨_, rfl⟩
          rw [← eU3]
          have hHU3 : RI U3 := by rw [eU3]; exact RI_w hHU2
          have hFU3 : FR md_mo_test__t S U3 := by rw [eU3]; exact FR.wI hFU2 (mdf_i (r := (904, 905, 93, 94)) (List.mem_of_getElem? (i := 5) rfl) (inR_i (by omega) (by omega) (by omega) (by omega)))
          have w27 : Xi U3 904 93 = ((Xi T1 904 93) + 1) := by rw [eU3]; exact Xi_same (by unfold rg; omega)
          have e399 := eU3
          refine y_return rfl rfl ?_
          have w28 : Xi U3 904 100 = Xi T1 904 100 := (show Xi U3 904 100 = Xi U2 904 100 from by rw [eU3]; exact Xi_ne (by omega)).trans ((show Xi U2 904 100 = Xi T1 904 100 from by rw [eU2]; exact Xi_ne (by omega)))
          have w29 : Xi U3 904 101 = Xi T1 904 101 := (show Xi U3 904 101 = Xi U2 904 101 from by rw [eU3]; exact Xi_ne (by omega)).trans ((show Xi U2 904 101 = Xi T1 904 101 from by rw [eU2]; exact Xi_ne (by omega)))
          have w30 : Xi U3 904 65 = Xi T1 904 65 := (show Xi U3 904 65 = Xi U2 904 65 from by rw [eU3]; exact Xi_ne (by omega)).trans ((show Xi U2 904 65 = Xi T1 904 65 from by rw [eU2]; exact Xi_ne (by omega)))
          have w31 : Xi U3 904 69 = Xi T1 904 69 := (show Xi U3 904 69 = Xi U2 904 69 from by rw [eU3]; exact Xi_ne (by omega)).trans ((show Xi U2 904 69 = Xi T1 904 69 from by rw [eU2]; exact Xi_ne (by omega)))
          have w32 : Xi U3 904 8 = Xi T1 904 8 := (show Xi U3 904 8 = Xi U2 904 8 from by rw [eU3]; exact Xi_ne (by omega)).trans ((show Xi U2 904 8 = Xi T1 904 8 from by rw [eU2]; exact Xi_ne (by omega)))
          have w33 : Xi U3 904 99 = Xi T1 904 99 := (show Xi U3 904 99 = Xi U2 904 99 from by rw [eU3]; exact Xi_ne (by omega)).trans ((show Xi U2 904 99 = Xi T1 904 99 from by rw [eU2]; exact Xi_ne (by omega)))
          exact ⟨hHU3, hFU3, rfl, (by first | (have u := t389; exact fun b => absurd b (by rw [e399, Xi_ne (by omega)]; exact t389)) | exact fun b => absurd b (by rw [e399, Xi_ne (by omega)]; omega) | (have u := t382; exact fun b => by have M := X351.o; have m := M.1 (by rw [e399, Xi_ne (by omega), e363, Xi_ne (by omega)] at b; exact b); exact ⟨m.1, by rw [e399, Xi_ne (by omega), e363, Xi_ne (by omega)]; exact M.2.2.2.2, by have c := M.2.2.2.1; rw [e399, Xi_ne (by omega), Xi_ne (by omega), ← c]; refine (xi_of e363 (by unfold rg; omega)).trans ?_; rw [e363, Xi_ne (by omega)], by rw [e399, Xi_ne (by omega), e363, Xi_ne (by omega)]; exact W382.o (by omega), tsb_k (by rw [e399, Xi_ne (by omega), e363, Xi_ne (by omega)]; exact m.2) (runk_w e399 (by omega) (runk_w e363 (by omega) RUNK.rf)) (fun z p q => by rw [e399, Xi_ne (by omega), e363, Xi_ne (by omega)])⟩)), (by have M := X351.o.2.1; first | (have u := t389; exact runk_w e399 (by omega) (runk_F F389 rfl rfl (runk_w e363 (by omega) M))) | exact runk_w e399 (by omega) (runk_w e363 (by omega) M)), (by have M := X351.o.2.2.1; have c := X351.o.2.2.2.1; first | (have u := t389; exact kte_w e399 (by omega) (kte_F F389 rfl (kte_w e363 (by omega) M))) | exact kte_w e399 (by omega) (kte_w e363 (by omega) M)), (by have c := X351.o.2.2.2.1; refine (xi_of e399 (by unfold rg; omega)).trans ?_; omega)⟩
        · refine y_aload_n rfl rfl ?_
          refine y_aload_n rfl rfl ?_
          refine y_gfr rfl rfl rfl rfl rfl (hHU2.r 904 4 907 rfl) ?_
          refine y_aload_n rfl rfl ?_
          refine y_gfi rfl rfl rfl rfl rfl ?_
          have w34 : (Xi U2 904 8) = (Xi T1 904 8) := (show Xi U2 904 8 = Xi T1 904 8 from by rw [eU2]; exact Xi_ne (by omega))
          rw [w34]
          refine y_ialoadP (n := 5002) rfl rfl (by unfold rg; omega) (fun w35 w36 => ?_)
          have w37 : -2147483648 ≤ (Xi U2 907 (((Xi T1 904 8)).toNat)) ∧ (Xi U2 907 (((Xi T1 904 8)).toNat)) ≤ 2147483647 := Xi_rgI
          have v380 : (Xi U2 907 (((Xi T1 904 8)).toNat)) = tkR S (Xi T1 904 8) := by show Xi _ 907 _ = Xi S 907 _; rw [(hFU2.cx 907 rfl _).1]
          refine y_iload_n rfl rfl ?_
          have w42 : Xi U2 904 8 = Xi T1 904 8 := (show Xi U2 904 8 = Xi T1 904 8 from by rw [eU2]; exact Xi_ne (by omega))
          refine y_callV rfl rfl rfl (t_mo_endsTest__t hHU2 (Xi U2 907 (((Xi T1 904 8)).toNat)) isNow ⟨by omega, by omega⟩ ⟨by omega, by omega⟩ _) ?_
          rintro _ _ ⟨rfl, z45, rfl, w45, t382⟩
          show Pl _ _ _ _ _ _ [iv z45] _ _
          have W382 : Hid ((z45 : Int) = 1 → ETR (tkR S (Xi T1 904 8)) isNow) := fun q => by have u := t382.1 q; rw [v380] at u; exact u
          refine y_if_ne rfl rfl (by unfold rg; omega) (fun w46 => ?_) (fun w47 => ?_)
          · refine y_aload_n rfl rfl ?_
            refine y_dup rfl rfl ?_
            refine y_gfi rfl rfl rfl rfl rfl ?_
            have w48 : (Xi U2 904 93) = (Xi T1 904 93) := (show Xi U2 904 93 = Xi T1 904 93 from by rw [eU2]; exact Xi_ne (by omega))
            rw [w48]
            refine y_iconst rfl ?_
            refine y_iadd rfl ?_
            refine y_pfi rfl rfl rfl rfl ?_
            obtain ⟨U4, eU4⟩ : ∃ T : sS, T = uI U2 904 93 (Int32.ofInt ((Xi T1 904 93) + 1)) := ⟨_, rfl⟩
            rw [← eU4]
            have hHU4 : RI U4 := by rw [eU4]; exact RI_w hHU2
            have hFU4 : FR md_mo_test__t S U4 := by rw [eU4]; exact FR.wI hFU2 (mdf_i (r := (904, 905, 93, 94)) (List.mem_of_getElem? (i := 5) rfl) (inR_i (by omega) (by omega) (by omega) (by omega)))
            have w49 : Xi U4 904 93 = ((Xi T1 904 93) + 1) := by rw [eU4]; exact Xi_same (by unfold rg; omega)
            have e399 := eU4
            refine y_return rfl rfl ?_
            have w50 : Xi U4 904 100 = Xi T1 904 100 := (show Xi U4 904 100 = Xi U2 904 100 from by rw [eU4]; exact Xi_ne (by omega)).trans ((show Xi U2 904 100 = Xi T1 904 100 from by rw [eU2]; exact Xi_ne (by omega)))
            have w51 : Xi U4 904 101 = Xi T1 904 101 := (show Xi U4 904 101 = Xi U2 904 101 from by rw [eU4]; exact Xi_ne (by omega)).trans ((show Xi U2 904 101 = Xi T1 904 101 from by rw [eU2]; exact Xi_ne (by omega)))
            have w52 : Xi U4 904 65 = Xi T1 904 65 := (show Xi U4 904 65 = Xi U2 904 65 from by rw [eU4]; exact Xi_ne (by omega)).trans ((show Xi U2 904 65 = Xi T1 904 65 from by rw [eU2]; exact Xi_ne (by omega)))
            have w53 : Xi U4 904 69 = Xi T1 904 69 := (show Xi U4 904 69 = Xi U2 904 69 from by rw [eU4]; exact Xi_ne (by omega)).trans ((show Xi U2 904 69 = Xi T1 904 69 from by rw [eU2]; exact Xi_ne (by omega)))
            have w54 : Xi U4 904 8 = Xi T1 904 8 := (show Xi U4 904 8 = Xi U2 904 8 from by rw [eU4]; exact Xi_ne (by omega)).trans ((show Xi U2 904 8 = Xi T1 904 8 from by rw [eU2]; exact Xi_ne (by omega)))
            have w55 : Xi U4 904 99 = Xi T1 904 99 := (show Xi U4 904 99 = Xi U2 904 99 from by rw [eU4]; exact Xi_ne (by omega)).trans ((show Xi U2 904 99 = Xi T1 904 99 from by rw [eU2]; exact Xi_ne (by omega)))
            exact ⟨hHU4, hFU4, rfl, (by first | (have u := t389; exact fun b => absurd b (by rw [e399, Xi_ne (by omega)]; exact t389)) | exact fun b => absurd b (by rw [e399, Xi_ne (by omega)]; omega) | (have u := t382; exact fun b => by have M := X351.o; have m := M.1 (by rw [e399, Xi_ne (by omega), e363, Xi_ne (by omega)] at b; exact b); exact ⟨m.1, by rw [e399, Xi_ne (by omega), e363, Xi_ne (by omega)]; exact M.2.2.2.2, by have c := M.2.2.2.1; rw [e399, Xi_ne (by omega), Xi_ne (by omega), ← c]; refine (xi_of e363 (by unfold rg; omega)).trans ?_; rw [e363, Xi_ne (by omega)], by rw [e399, Xi_ne (by omega), e363, Xi_ne (by omega)]; exact W382.o (by omega), tsb_k (by rw [e399, Xi_ne (by omega), e363, Xi_ne (by omega)]; exact m.2) (runk_w e399 (by omega) (runk_w e363 (by omega) RUNK.rf)) (fun z p q => by rw [e399, Xi_ne (by omega), e363, Xi_ne (by omega)])⟩)), (by have M := X351.o.2.1; first | (have u := t389; exact runk_w e399 (by omega) (runk_F F389 rfl rfl (runk_w e363 (by omega) M))) | exact runk_w e399 (by omega) (runk_w e363 (by omega) M)), (by have M := X351.o.2.2.1; have c := X351.o.2.2.2.1; first | (have u := t389; exact kte_w e399 (by omega) (kte_F F389 rfl (kte_w e363 (by omega) M))) | exact kte_w e399 (by omega) (kte_w e363 (by omega) M)), (by have c := X351.o.2.2.2.1; refine (xi_of e399 (by unfold rg; omega)).trans ?_; omega)⟩
          · refine y_aload_n rfl rfl ?_
            have w58 : Xi U2 904 65 = Xi T1 904 65 := (show Xi U2 904 65 = Xi T1 904 65 from by rw [eU2]; exact Xi_ne (by omega))
            refine y_callV rfl rfl rfl (t_mo_odd__t hHU2 _) ?_
            rintro _ T5 ⟨hHT5, w65, rfl, t389, w63⟩
            have hFT5 : FR md_mo_test__t S T5 := FR.tr hFU2 w65 rfl
            show Pl _ _ _ _ _ _ [] _ _
            have F389 := (by assumption : FR md_mo_odd__t U2 T5)
            refine y_aload_n rfl rfl ?_
            refine y_dup rfl rfl ?_
            refine y_gfi rfl rfl rfl rfl rfl ?_
            have w66 : (Xi T5 904 93) = (Xi T1 904 93) := (show Xi T5 904 93 = Xi U2 904 93 from w65.x _ _ rfl).trans ((show Xi U2 904 93 = Xi T1 904 93 from by rw [eU2]; exact Xi_ne (by omega)))
            rw [w66]
            refine y_iconst rfl ?_
            refine y_iadd rfl ?_
            refine y_pfi rfl rfl rfl rfl ?_
            obtain ⟨U6, eU6⟩ : ∃ T : sS, T = uI T5 904 93 (Int32.ofInt ((Xi T1 904 93) + 1)) := ⟨_, rfl⟩
            rw [← eU6]
            have hHU6 : RI U6 := by rw [eU6]; exact RI_w hHT5
            have hFU6 : FR md_mo_test__t S U6 := by rw [eU6]; exact FR.wI hFT5 (mdf_i (r := (904, 905, 93, 94)) (List.mem_of_getElem? (i := 5) rfl) (inR_i (by omega) (by omega) (by omega) (by omega)))
            have w67 : Xi U6 904 93 = ((Xi T1 904 93) + 1) := by rw [eU6]; exact Xi_same (by unfold rg; omega)
            have e399 := eU6
            refine y_return rfl rfl ?_
            have w68 : Xi U6 904 100 = Xi T1 904 100 := (show Xi U6 904 100 = Xi T5 904 100 from by rw [eU6]; exact Xi_ne (by omega)).trans ( (show Xi T5 904 100 = Xi U2 904 100 from w65.x _ _ rfl).trans ((show Xi U2 904 100 = Xi T1 904 100 from by rw [eU2]; exact Xi_ne (by omega))))
            have w69 : Xi U6 904 101 = Xi T1 904 101 := (show Xi U6 904 101 = Xi T5 904 101 from by rw [eU6]; exact Xi_ne (by omega)).trans ( (show Xi T5 904 101 = Xi U2 904 101 from w65.x _ _ rfl).trans ((show Xi U2 904 101 = Xi T1 904 101 from by rw [eU2]; exact Xi_ne (by omega))))
            have w70 : Xi U6 904 65 = Xi T5 904 65 := (show Xi U6 904 65 = Xi T5 904 65 from by rw [eU6]; exact Xi_ne (by omega))
            have w71 : Xi U6 904 69 = Xi T1 904 69 := (show Xi U6 904 69 = Xi T5 904 69 from by rw [eU6]; exact Xi_ne (by omega)).trans ( (show Xi T5 904 69 = Xi U2 904 69 from w65.x _ _ rfl).trans ((show Xi U2 904 69 = Xi T1 904 69 from by rw [eU2]; exact Xi_ne (by omega))))
            have w72 : Xi U6 904 8 = Xi T1 904 8 := (show Xi U6 904 8 = Xi T5 904 8 from by rw [eU6]; exact Xi_ne (by omega)).trans ( (show Xi T5 904 8 = Xi U2 904 8 from w65.x _ _ rfl).trans ((show Xi U2 904 8 = Xi T1 904 8 from by rw [eU2]; exact Xi_ne (by omega))))
            have w73 : Xi U6 904 99 = Xi T1 904 99 := (show Xi U6 904 99 = Xi T5 904 99 from by rw [eU6]; exact Xi_ne (by omega)).trans ( (show Xi T5 904 99 = Xi U2 904 99 from w65.x _ _ rfl).trans ((show Xi U2 904 99 = Xi T1 904 99 from by rw [eU2]; exact Xi_ne (by omega))))
            exact ⟨hHU6, hFU6, rfl, (by first | (have u := t389; exact fun b => absurd b (by rw [e399, Xi_ne (by omega)]; exact t389)) | exact fun b => absurd b (by rw [e399, Xi_ne (by omega)]; omega) | (have u := t382; exact fun b => by have M := X351.o; have m := M.1 (by rw [e399, Xi_ne (by omega), e363, Xi_ne (by omega)] at b; exact b); exact ⟨m.1, by rw [e399, Xi_ne (by omega), e363, Xi_ne (by omega)]; exact M.2.2.2.2, by have c := M.2.2.2.1; rw [e399, Xi_ne (by omega), Xi_ne (by omega), ← c]; refine (xi_of e363 (by unfold rg; omega)).trans ?_; rw [e363, Xi_ne (by omega)], by rw [e399, Xi_ne (by omega), e363, Xi_ne (by omega)]; exact W382.o (by omega), tsb_k (by rw [e399, Xi_ne (by omega), e363, Xi_ne (by omega)]; exact m.2) (runk_w e399 (by omega) (runk_w e363 (by omega) RUNK.rf)) (fun z p q => by rw [e399, Xi_ne (by omega), e363, Xi_ne (by omega)])⟩)), (by have M := X351.o.2.1; first | (have u := t389; exact runk_w e399 (by omega) (runk_F F389 rfl rfl (runk_w e363 (by omega) M))) | exact runk_w e399 (by omega) (runk_w e363 (by omega) M)), (by have M := X351.o.2.2.1; have c := X351.o.2.2.2.1; first | (have u := t389; exact kte_w e399 (by omega) (kte_F F389 rfl (kte_w e363 (by omega) M))) | exact kte_w e399 (by omega) (kte_w e363 (by omega) M)), (by have c := X351.o.2.2.2.1; refine (xi_of e399 (by unfold rg; omega)).trans ?_; omega)⟩
      have C96 : ∀ (n96 : Nat) (_ : n96 ≤ n13) (T7 : sS) (_ : RI T7) (_ : FR md_mo_test__t S T7) (v2 : Int) (v4 : Int), (-2147483648 ≤ v2 ∧ v2 ≤ 2147483647) → (-2147483648 ≤ v4 ∧ v4 ≤ 2147483647) → (v2 = Xi S 904 8) → (Xi S 904 8 ≤ Xi T7 904 8) → (v3 = 0) → (Hid (¬ IST (tkR S) isNow (Xi S 904 8))) → (Hid ((Xi T7 904 65 = 0 → v4 = tkR S (Xi T7 904 8) ∧ 0 ≤ Xi T7 904 8 ∧ Xi T7 904 8 ≤ 5001) ∧ (Xi T7 904 65 ≠ 0 → v4 = 1))) → (Hid (RUNK S T7 ∧ KTE S T7 ∧ Xi T7 904 93 = Xi S 904 93 ∧ Xi T7 961 (Xi S 904 93).toNat = Xi S 904 8 ∧ Xi T7 952 (Xi S 904 93).toNat = 5 ∧ Xi T7 953 (Xi S 904 93).toNat = 0 ∧ Xi T7 904 65 = Xi S 904 65)) → (Hid (∀ i : Int, Xi S 904 8 ≤ i → i < Xi T7 904 8 → LSE (tkR S i))) → Pl n96 lay0 (d + 5) m_mo_test 96 [(0, .ref 904), (1, iv isNow), (2, iv v2), (4, iv v4)] [] T7 (Q_mo_test__t S isNow) := by
        intro n96
        induction n96 with
        | zero => intros; exact Pl_0
        | succ n96 ih96 =>
          intro hm96 T7 hHT7 hFT7 v2 v4 w74 w75 w76 w77 y96 Y96 W96 B96 L96
          have w78 : -2147483648 ≤ Xi T7 904 100 ∧ Xi T7 904 100 ≤ 2147483647 := Xi_rgI
          have w79 : -2147483648 ≤ Xi T7 904 101 ∧ Xi T7 904 101 ≤ 2147483647 := Xi_rgI
          have w80 : -2147483648 ≤ Xi T7 904 65 ∧ Xi T7 904 65 ≤ 2147483647 := Xi_rgI
          have w81 : -2147483648 ≤ Xi T7 904 69 ∧ Xi T7 904 69 ≤ 2147483647 := Xi_rgI
          have w82 : -2147483648 ≤ Xi T7 904 8 ∧ Xi T7 904 8 ≤ 2147483647 := Xi_rgI
          have w83 : -2147483648 ≤ Xi T7 904 93 ∧ Xi T7 904 93 ≤ 2147483647 := Xi_rgI
          have w84 : -2147483648 ≤ Xi T7 904 99 ∧ Xi T7 904 99 ≤ 2147483647 := Xi_rgI
          refine ys_iload rfl rfl ?_
          refine y_iconst rfl ?_
          refine y_icmp_eq rfl rfl (by unfold rg; omega) (by unfold rg; omega) (fun w85 => ?_) (fun w86 => ?_)
          · refine y_aload_n rfl rfl ?_
            have n126 : Xi T7 904 65 = 0 := by by_cases c : Xi T7 904 65 = 0; exact c; (have := (W96.o).2 c; omega)
            have g126 := (W96.o).1 n126
            refine y_dup rfl rfl ?_
            refine y_gfi rfl rfl rfl rfl rfl ?_
            refine y_iconst rfl ?_
            refine y_iadd rfl ?_
            refine y_pfi rfl rfl rfl rfl ?_
            obtain ⟨U8, eU8⟩ : ∃ T : sS, T = uI T7 904 8 (Int32.ofInt ((Xi T7 904 8) + 1)) := ⟨_, rfl⟩
            rw [← eU8]
            have hHU8 : RI U8 := by rw [eU8]; exact RI_w hHT7
            have hFU8 : FR md_mo_test__t S U8 := by rw [eU8]; exact FR.wI hFT7 (mdf_i (r := (904, 905, 8, 9)) (List.mem_of_getElem? (i := 0) rfl) (inR_i (by omega) (by omega) (by omega) (by omega)))
            have w87 : Xi U8 904 8 = ((Xi T7 904 8) + 1) := by rw [eU8]; exact Xi_same (by unfold rg; omega)
            have e133 := eU8
            have a133 : Xi U8 904 8 = Xi T7 904 8 + 1 := by rw [e133]; exact Xi_same (by unfold rg; omega)
            have B133 : Hid (RUNK S U8 ∧ KTE S U8 ∧ Xi U8 904 93 = Xi S 904 93 ∧ Xi U8 961 (Xi S 904 93).toNat = Xi S 904 8 ∧ Xi U8 952 (Xi S 904 93).toNat = 5 ∧ Xi U8 953 (Xi S 904 93).toNat = 0 ∧ Xi U8 904 65 = Xi S 904 65) := by obtain ⟨x1, x2, x3, x4, x5, x6, x7⟩ := B96.o; exact ⟨runk_w e133 (by omega) x1, kte_w e133 (by omega) x2, by rw [e133, Xi_ne (by omega)]; exact x3, by rw [e133, Xi_ne (by omega)]; exact x4, by rw [e133, Xi_ne (by omega)]; exact x5, by rw [e133, Xi_ne (by omega)]; exact x6, by rw [e133, Xi_ne (by omega)]; exact x7⟩
            have L133 : Hid (∀ i : Int, Xi S 904 8 ≤ i → i < Xi U8 904 8 → LSE (tkR S i)) := fun i x y => by by_cases c : i < Xi T7 904 8; exact L96.o i x c; (rw [show i = Xi T7 904 8 by omega, ← g126.1]; unfold LSE; omega)
            refine y_aload_n rfl rfl ?_
            have w90 : Xi U8 904 65 = Xi T7 904 65 := (show Xi U8 904 65 = Xi T7 904 65 from by rw [eU8]; exact Xi_ne (by omega))
            refine y_callV rfl rfl rfl (t_mo_look__t hHU8 _) ?_
            rintro _ _ ⟨rfl, z94, rfl, w94, t137⟩
            show Pl _ _ _ _ _ _ [iv z94] _ _
            have T137 := t137
            rw [tkR_F7 hFU8 rfl] at T137
            clear t137
            refine y_istore rfl rfl rfl ?_
            refine y_goto rfl rfl ?_
            have w95 : Xi U8 904 100 = Xi T7 904 100 := (show Xi U8 904 100 = Xi T7 904 100 from by rw [eU8]; exact Xi_ne (by omega))
            have w96 : Xi U8 904 101 = Xi T7 904 101 := (show Xi U8 904 101 = Xi T7 904 101 from by rw [eU8]; exact Xi_ne (by omega))
            have w98 : Xi U8 904 69 = Xi T7 904 69 := (show Xi U8 904 69 = Xi T7 904 69 from by rw [eU8]; exact Xi_ne (by omega))
            have w99 : Xi U8 904 93 = Xi T7 904 93 := (show Xi U8 904 93 = Xi T7 904 93 from by rw [eU8]; exact Xi_ne (by omega))
            have w100 : Xi U8 904 99 = Xi T7 904 99 := (show Xi U8 904 99 = Xi T7 904 99 from by rw [eU8]; exact Xi_ne (by omega))
            exact Pl_weak (ih96 (by omega) U8 hHU8 hFU8 (v2) (z94) (by omega) (by omega) (by omega) (by omega) (by omega) (by first | exact Y96 | exact Y56.o.2 (by omega)) (by first | exact T137 | exact T91) (by first | exact B133 | exact B89) (by first | exact L133 | exact fun i x y => absurd x (by omega))) (by omega) (And.intro rfl (And.intro rfl (And.intro rfl (And.intro rfl (True.intro)))))
          · refine y_iload rfl rfl ?_
            refine y_callS rfl rfl (by decide) rfl (t_mo_isArt__p hHT7 v4 ⟨by omega, by omega⟩ _) ?_
            rintro _ _ ⟨rfl, z101, rfl, w101, q104, n104⟩
            show Pl _ _ _ _ _ _ [iv z101] _ _
            refine y_if_ne rfl rfl (by unfold rg; omega) (fun w102 => ?_) (fun w103 => ?_)
            · refine y_aload_n rfl rfl ?_
              have n126 : Xi T7 904 65 = 0 := by by_cases c : Xi T7 904 65 = 0; exact c; (have := (W96.o).2 c; omega)
              have g126 := (W96.o).1 n126
              refine y_dup rfl rfl ?_
              refine y_gfi rfl rfl rfl rfl rfl ?_
              refine y_iconst rfl ?_
              refine y_iadd rfl ?_
              refine y_pfi rfl rfl rfl rfl ?_
              obtain ⟨U9, eU9⟩ : ∃ T : sS, T = uI T7 904 8 (Int32.ofInt ((Xi T7 904 8) + 1)) := ⟨_, rfl⟩
              rw [← eU9]
              have hHU9 : RI U9 := by rw [eU9]; exact RI_w hHT7
              have hFU9 : FR md_mo_test__t S U9 := by rw [eU9]; exact FR.wI hFT7 (mdf_i (r := (904, 905, 8, 9)) (List.mem_of_getElem? (i := 0) rfl) (inR_i (by omega) (by omega) (by omega) (by omega)))
              have w104 : Xi U9 904 8 = ((Xi T7 904 8) + 1) := by rw [eU9]; exact Xi_same (by unfold rg; omega)
              have e133 := eU9
              have a133 : Xi U9 904 8 = Xi T7 904 8 + 1 := by rw [e133]; exact Xi_same (by unfold rg; omega)
              have B133 : Hid (RUNK S U9 ∧ KTE S U9 ∧ Xi U9 904 93 = Xi S 904 93 ∧ Xi U9 961 (Xi S 904 93).toNat = Xi S 904 8 ∧ Xi U9 952 (Xi S 904 93).toNat = 5 ∧ Xi U9 953 (Xi S 904 93).toNat = 0 ∧ Xi U9 904 65 = Xi S 904 65) := by obtain ⟨x1, x2, x3, x4, x5, x6, x7⟩ := B96.o; exact ⟨runk_w e133 (by omega) x1, kte_w e133 (by omega) x2, by rw [e133, Xi_ne (by omega)]; exact x3, by rw [e133, Xi_ne (by omega)]; exact x4, by rw [e133, Xi_ne (by omega)]; exact x5, by rw [e133, Xi_ne (by omega)]; exact x6, by rw [e133, Xi_ne (by omega)]; exact x7⟩
              have L133 : Hid (∀ i : Int, Xi S 904 8 ≤ i → i < Xi U9 904 8 → LSE (tkR S i)) := fun i x y => by by_cases c : i < Xi T7 904 8; exact L96.o i x c; (rw [show i = Xi T7 904 8 by omega, ← g126.1]; unfold LSE; omega)
              refine y_aload_n rfl rfl ?_
              have w107 : Xi U9 904 65 = Xi T7 904 65 := (show Xi U9 904 65 = Xi T7 904 65 from by rw [eU9]; exact Xi_ne (by omega))
              refine y_callV rfl rfl rfl (t_mo_look__t hHU9 _) ?_
              rintro _ _ ⟨rfl, z111, rfl, w111, t137⟩
              show Pl _ _ _ _ _ _ [iv z111] _ _
              have T137 := t137
              rw [tkR_F7 hFU9 rfl] at T137
              clear t137
              refine y_istore rfl rfl rfl ?_
              refine y_goto rfl rfl ?_
              have w112 : Xi U9 904 100 = Xi T7 904 100 := (show Xi U9 904 100 = Xi T7 904 100 from by rw [eU9]; exact Xi_ne (by omega))
              have w113 : Xi U9 904 101 = Xi T7 904 101 := (show Xi U9 904 101 = Xi T7 904 101 from by rw [eU9]; exact Xi_ne (by omega))
              have w115 : Xi U9 904 69 = Xi T7 904 69 := (show Xi U9 904 69 = Xi T7 904 69 from by rw [eU9]; exact Xi_ne (by omega))
              have w116 : Xi U9 904 93 = Xi T7 904 93 := (show Xi U9 904 93 = Xi T7 904 93 from by rw [eU9]; exact Xi_ne (by omega))
              have w117 : Xi U9 904 99 = Xi T7 904 99 := (show Xi U9 904 99 = Xi T7 904 99 from by rw [eU9]; exact Xi_ne (by omega))
              exact Pl_weak (ih96 (by omega) U9 hHU9 hFU9 (v2) (z111) (by omega) (by omega) (by omega) (by omega) (by omega) (by first | exact Y96 | exact Y56.o.2 (by omega)) (by first | exact T137 | exact T91) (by first | exact B133 | exact B89) (by first | exact L133 | exact fun i x y => absurd x (by omega))) (by omega) (And.intro rfl (And.intro rfl (And.intro rfl (And.intro rfl (True.intro)))))
            · refine y_iload rfl rfl ?_
              refine y_sipush rfl rfl ?_
              refine y_icmp_eq rfl rfl (by unfold rg; omega) (by unfold rg; omega) (fun w118 => ?_) (fun w119 => ?_)
              · refine y_aload_n rfl rfl ?_
                have n126 : Xi T7 904 65 = 0 := by by_cases c : Xi T7 904 65 = 0; exact c; (have := (W96.o).2 c; omega)
                have g126 := (W96.o).1 n126
                refine y_dup rfl rfl ?_
                refine y_gfi rfl rfl rfl rfl rfl ?_
                refine y_iconst rfl ?_
                refine y_iadd rfl ?_
                refine y_pfi rfl rfl rfl rfl ?_
                obtain ⟨U10, eU10⟩ : ∃ T : sS, T = uI T7 904 8 (Int32.ofInt ((Xi T7 904 8) + 1)) := ⟨_, rfl⟩
                rw [← eU10]
                have hHU10 : RI U10 := by rw [eU10]; exact RI_w hHT7
                have hFU10 : FR md_mo_test__t S U10 := by rw [eU10]; exact FR.wI hFT7 (mdf_i (r := (904, 905, 8, 9)) (List.mem_of_getElem? (i := 0) rfl) (inR_i (by omega) (by omega) (by omega) (by omega)))
                have w120 : Xi U10 904 8 = ((Xi T7 904 8) + 1) := by rw [eU10]; exact Xi_same (by unfold rg; omega)
                have e133 := eU10
                have a133 : Xi U10 904 8 = Xi T7 904 8 + 1 := by rw [e133]; exact Xi_same (by unfold rg; omega)
                have B133 : Hid (RUNK S U10 ∧ KTE S U10 ∧ Xi U10 904 93 = Xi S 904 93 ∧ Xi U10 961 (Xi S 904 93).toNat = Xi S 904 8 ∧ Xi U10 952 (Xi S 904 93).toNat = 5 ∧ Xi U10 953 (Xi S 904 93).toNat = 0 ∧ Xi U10 904 65 = Xi S 904 65) := by obtain ⟨x1, x2, x3, x4, x5, x6, x7⟩ := B96.o; exact ⟨runk_w e133 (by omega) x1, kte_w e133 (by omega) x2, by rw [e133, Xi_ne (by omega)]; exact x3, by rw [e133, Xi_ne (by omega)]; exact x4, by rw [e133, Xi_ne (by omega)]; exact x5, by rw [e133, Xi_ne (by omega)]; exact x6, by rw [e133, Xi_ne (by omega)]; exact x7⟩
                have L133 : Hid (∀ i : Int, Xi S 904 8 ≤ i → i < Xi U10 904 8 → LSE (tkR S i)) := fun i x y => by by_cases c : i < Xi T7 904 8; exact L96.o i x c; (rw [show i = Xi T7 904 8 by omega, ← g126.1]; unfold LSE; omega)
                refine y_aload_n rfl rfl ?_
                have w123 : Xi U10 904 65 = Xi T7 904 65 := (show Xi U10 904 65 = Xi T7 904 65 from by rw [eU10]; exact Xi_ne (by omega))
                refine y_callV rfl rfl rfl (t_mo_look__t hHU10 _) ?_
                rintro _ _ ⟨rfl, z127, rfl, w127, t137⟩
                show Pl _ _ _ _ _ _ [iv z127] _ _
                have T137 := t137
                rw [tkR_F7 hFU10 rfl] at T137
                clear t137
                refine y_istore rfl rfl rfl ?_
                refine y_goto rfl rfl ?_
                have w128 : Xi U10 904 100 = Xi T7 904 100 := (show Xi U10 904 100 = Xi T7 904 100 from by rw [eU10]; exact Xi_ne (by omega))
                have w129 : Xi U10 904 101 = Xi T7 904 101 := (show Xi U10 904 101 = Xi T7 904 101 from by rw [eU10]; exact Xi_ne (by omega))
                have w131 : Xi U10 904 69 = Xi T7 904 69 := (show Xi U10 904 69 = Xi T7 904 69 from by rw [eU10]; exact Xi_ne (by omega))
                have w132 : Xi U10 904 93 = Xi T7 904 93 := (show Xi U10 904 93 = Xi T7 904 93 from by rw [eU10]; exact Xi_ne (by omega))
                have w133 : Xi U10 904 99 = Xi T7 904 99 := (show Xi U10 904 99 = Xi T7 904 99 from by rw [eU10]; exact Xi_ne (by omega))
                exact Pl_weak (ih96 (by omega) U10 hHU10 hFU10 (v2) (z127) (by omega) (by omega) (by omega) (by omega) (by omega) (by first | exact Y96 | exact Y56.o.2 (by omega)) (by first | exact T137 | exact T91) (by first | exact B133 | exact B89) (by first | exact L133 | exact fun i x y => absurd x (by omega))) (by omega) (And.intro rfl (And.intro rfl (And.intro rfl (And.intro rfl (True.intro)))))
              · refine y_iload rfl rfl ?_
                refine y_sipush rfl rfl ?_
                refine y_icmp_ne rfl rfl (by unfold rg; omega) (by unfold rg; omega) (fun w134 => ?_) (fun w135 => ?_)
                · refine y_aload_n rfl rfl ?_
                  refine y_gfi rfl rfl rfl rfl rfl ?_
                  refine y_iload_n rfl rfl ?_
                  refine y_icmp_ne rfl rfl (by unfold rg; omega) (by unfold rg; omega) (fun w136 => ?_) (fun w137 => ?_)
                  · refine y_goto rfl rfl ?_
                    exact Pl_weak (C351 T7 hHT7 hFT7  (by first | exact M154 | exact M187 | exact M274 | exact M283 | exact M350 | (obtain ⟨x1, x2, x3, x4, x5, x6, x7⟩ := B96.o; exact ⟨fun b => ⟨by omega, Or.inl ⟨Y96.o, x5, x6, by omega, L96.o⟩⟩, x1, x2, x3, x4⟩))) (by omega) (And.intro rfl (And.intro rfl (True.intro)))
                  · refine y_aload_n rfl rfl ?_
                    refine y_callV rfl rfl rfl (t_mo_odd__t hHT7 _) ?_
                    rintro _ T11 ⟨hHT11, w140, rfl, t154, w138⟩
                    have hFT11 : FR md_mo_test__t S T11 := FR.tr hFT7 w140 rfl
                    show Pl _ _ _ _ _ _ [] _ _
                    have F154 := (by assumption : FR md_mo_odd__t T7 T11)
                    have M154 : Hid (TMID S T11 isNow) := mid_o B96.o.1 B96.o.2.1 B96.o.2.2.1 B96.o.2.2.2.1 t154 F154
                    refine y_goto rfl rfl ?_
                    have w141 : Xi T11 904 100 = Xi T7 904 100 := (show Xi T11 904 100 = Xi T7 904 100 from w140.x _ _ rfl)
                    have w142 : Xi T11 904 101 = Xi T7 904 101 := (show Xi T11 904 101 = Xi T7 904 101 from w140.x _ _ rfl)
                    have w143 : Xi T11 904 69 = Xi T7 904 69 := (show Xi T11 904 69 = Xi T7 904 69 from w140.x _ _ rfl)
                    have w144 : Xi T11 904 8 = Xi T7 904 8 := (show Xi T11 904 8 = Xi T7 904 8 from w140.x _ _ rfl)
                    have w145 : Xi T11 904 93 = Xi T7 904 93 := (show Xi T11 904 93 = Xi T7 904 93 from w140.x _ _ rfl)
                    have w146 : Xi T11 904 99 = Xi T7 904 99 := (show Xi T11 904 99 = Xi T7 904 99 from w140.x _ _ rfl)
                    exact Pl_weak (C351 T11 hHT11 hFT11  (by first | exact M154 | exact M187 | exact M274 | exact M283 | exact M350 | (obtain ⟨x1, x2, x3, x4, x5, x6, x7⟩ := B96.o; exact ⟨fun b => ⟨by omega, Or.inl ⟨Y96.o, x5, x6, by omega, L96.o⟩⟩, x1, x2, x3, x4⟩))) (by omega) (And.intro rfl (And.intro rfl (True.intro)))
                · refine y_aload_n rfl rfl ?_
                  have n126 : Xi T7 904 65 = 0 := by by_cases c : Xi T7 904 65 = 0; exact c; (have := (W96.o).2 c; omega)
                  have g126 := (W96.o).1 n126
                  refine y_dup rfl rfl ?_
                  refine y_gfi rfl rfl rfl rfl rfl ?_
                  refine y_iconst rfl ?_
                  refine y_iadd rfl ?_
                  refine y_pfi rfl rfl rfl rfl ?_
                  obtain ⟨U12, eU12⟩ : ∃ T : sS, T = uI T7 904 8 (Int32.ofInt ((Xi T7 904 8) + 1)) := ⟨_, rfl⟩
                  rw [← eU12]
                  have hHU12 : RI U12 := by rw [eU12]; exact RI_w hHT7
                  have hFU12 : FR md_mo_test__t S U12 := by rw [eU12]; exact FR.wI hFT7 (mdf_i (r := (904, 905, 8, 9)) (List.mem_of_getElem? (i := 0) rfl) (inR_i (by omega) (by omega) (by omega) (by omega)))
                  have w147 : Xi U12 904 8 = ((Xi T7 904 8) + 1) := by rw [eU12]; exact Xi_same (by unfold rg; omega)
                  have e133 := eU12
                  have a133 : Xi U12 904 8 = Xi T7 904 8 + 1 := by rw [e133]; exact Xi_same (by unfold rg; omega)
                  have B133 : Hid (RUNK S U12 ∧ KTE S U12 ∧ Xi U12 904 93 = Xi S 904 93 ∧ Xi U12 961 (Xi S 904 93).toNat = Xi S 904 8 ∧ Xi U12 952 (Xi S 904 93).toNat = 5 ∧ Xi U12 953 (Xi S 904 93).toNat = 0 ∧ Xi U12 904 65 = Xi S 904 65) := by obtain ⟨x1, x2, x3, x4, x5, x6, x7⟩ := B96.o; exact ⟨runk_w e133 (by omega) x1, kte_w e133 (by omega) x2, by rw [e133, Xi_ne (by omega)]; exact x3, by rw [e133, Xi_ne (by omega)]; exact x4, by rw [e133, Xi_ne (by omega)]; exact x5, by rw [e133, Xi_ne (by omega)]; exact x6, by rw [e133, Xi_ne (by omega)]; exact x7⟩
                  have L133 : Hid (∀ i : Int, Xi S 904 8 ≤ i → i < Xi U12 904 8 → LSE (tkR S i)) := fun i x y => by by_cases c : i < Xi T7 904 8; exact L96.o i x c; (rw [show i = Xi T7 904 8 by omega, ← g126.1]; unfold LSE; omega)
                  refine y_aload_n rfl rfl ?_
                  have w150 : Xi U12 904 65 = Xi T7 904 65 := (show Xi U12 904 65 = Xi T7 904 65 from by rw [eU12]; exact Xi_ne (by omega))
                  refine y_callV rfl rfl rfl (t_mo_look__t hHU12 _) ?_
                  rintro _ _ ⟨rfl, z154, rfl, w154, t137⟩
                  show Pl _ _ _ _ _ _ [iv z154] _ _
                  have T137 := t137
                  rw [tkR_F7 hFU12 rfl] at T137
                  clear t137
                  refine y_istore rfl rfl rfl ?_
                  refine y_goto rfl rfl ?_
                  have w155 : Xi U12 904 100 = Xi T7 904 100 := (show Xi U12 904 100 = Xi T7 904 100 from by rw [eU12]; exact Xi_ne (by omega))
                  have w156 : Xi U12 904 101 = Xi T7 904 101 := (show Xi U12 904 101 = Xi T7 904 101 from by rw [eU12]; exact Xi_ne (by omega))
                  have w158 : Xi U12 904 69 = Xi T7 904 69 := (show Xi U12 904 69 = Xi T7 904 69 from by rw [eU12]; exact Xi_ne (by omega))
                  have w159 : Xi U12 904 93 = Xi T7 904 93 := (show Xi U12 904 93 = Xi T7 904 93 from by rw [eU12]; exact Xi_ne (by omega))
                  have w160 : Xi U12 904 99 = Xi T7 904 99 := (show Xi U12 904 99 = Xi T7 904 99 from by rw [eU12]; exact Xi_ne (by omega))
                  exact Pl_weak (ih96 (by omega) U12 hHU12 hFU12 (v2) (z154) (by omega) (by omega) (by omega) (by omega) (by omega) (by first | exact Y96 | exact Y56.o.2 (by omega)) (by first | exact T137 | exact T91) (by first | exact B133 | exact B89) (by first | exact L133 | exact fun i x y => absurd x (by omega))) (by omega) (And.intro rfl (And.intro rfl (And.intro rfl (And.intro rfl (True.intro)))))
      refine ys_aload_n rfl rfl ?_
      refine y_aload_n rfl rfl ?_
      refine y_gfr rfl rfl rfl rfl rfl (hH.r 904 4 907 rfl) ?_
      refine y_iload rfl rfl ?_
      refine y_ialoadP (n := 5002) rfl rfl (by unfold rg; omega) (fun w161 w162 => ?_)
      have w163 : -2147483648 ≤ (Xi S 907 ((v4).toNat)) ∧ (Xi S 907 ((v4).toNat)) ≤ 2147483647 := Xi_rgI
      have v20 : (Xi S 907 ((v4).toNat)) = tkR S v4 := rfl
      refine y_iload_n rfl rfl ?_
      refine y_callV rfl rfl rfl (t_mo_endsTest__t hH (Xi S 907 ((v4).toNat)) isNow ⟨by omega, by omega⟩ ⟨by omega, by omega⟩ _) ?_
      rintro _ _ ⟨rfl, z164, rfl, w164, t22⟩
      show Pl _ _ _ _ _ _ [iv z164] _ _
      refine y_if_ne rfl rfl (by unfold rg; omega) (fun w165 => ?_) (fun w166 => ?_)
      · refine y_aload_n rfl rfl ?_
        have b56 := I13.o.1
        have E56 : ETR (tkR S v4) isNow := by rw [← v20]; exact t22.1 (by omega)
        have Y56 : Hid ((v3 = 1 → IST (tkR S) isNow (Xi S 904 8)) ∧ (v3 = 0 → ¬ IST (tkR S) isNow (Xi S 904 8))) := ⟨isl_y I13.o E56, isl_n I13.o E56⟩
        refine y_gfr rfl rfl rfl rfl rfl (hH.r 904 91 961 rfl) ?_
        refine y_aload_n rfl rfl ?_
        refine y_gfi rfl rfl rfl rfl rfl ?_
        refine y_iload_n rfl rfl ?_
        refine y_iastoreP (n := 1700) rfl rfl (by unfold rg; omega) (fun w167 w168 => ?_)
        obtain ⟨U13, eU13⟩ : ∃ T : sS, T = uI S 961 (((Xi S 904 93)).toNat) (Int32.ofInt v2) := ⟨_, rfl⟩
        rw [← eU13]
        have hHU13 : RI U13 := by rw [eU13]; exact RI_w hH
        have hFU13 : FR md_mo_test__t S U13 := by rw [eU13]; exact FR.wI hF (mdf_i (r := (961, 962, 0, 100000)) (List.mem_of_getElem? (i := 20) rfl) (inR_i (by omega) (by omega) (by omega) (by omega)))
        have w169 : Xi U13 961 (((Xi S 904 93)).toNat) = v2 := by rw [eU13]; exact Xi_same (by unfold rg; omega)
        have e65 := eU13
        refine y_aload_n rfl rfl ?_
        refine y_gfr rfl rfl rfl rfl rfl (hHU13.r 904 83 953 rfl) ?_
        refine y_aload_n rfl rfl ?_
        refine y_gfi rfl rfl rfl rfl rfl ?_
        have w170 : (Xi U13 904 93) = (Xi S 904 93) := (show Xi U13 904 93 = Xi S 904 93 from by rw [eU13]; exact Xi_ne (by omega))
        rw [w170]
        refine y_iconst rfl ?_
        refine y_bastoreZP (n := 1700) rfl rfl (by unfold rg; omega) ⟨by omega, by omega⟩ (fun w171 w172 => ?_)
        obtain ⟨U14, eU14⟩ : ∃ T : sS, T = uI U13 953 (((Xi S 904 93)).toNat) (Int32.ofInt 0) := ⟨_, rfl⟩
        rw [← eU14]
        have hHU14 : RI U14 := by rw [eU14]; exact RI_w hHU13
        have hFU14 : FR md_mo_test__t S U14 := by rw [eU14]; exact FR.wI hFU13 (mdf_i (r := (953, 954, 0, 100000)) (List.mem_of_getElem? (i := 12) rfl) (inR_i (by omega) (by omega) (by omega) (by omega)))
        have w173 : Xi U14 953 (((Xi S 904 93)).toNat) = 0 := by rw [eU14]; exact Xi_same (by unfold rg; omega)
        have e75 := eU14
        have h75 := tkR_F7 hFU14 rfl
        have a75 : Xi U14 904 8 = Xi S 904 8 := by rw [e75, Xi_ne (by omega), e65, Xi_ne (by omega)]
        have b75 : Xi U14 904 65 = Xi S 904 65 := by rw [e75, Xi_ne (by omega), e65, Xi_ne (by omega)]
        have c75 : Xi U14 904 93 = Xi S 904 93 := by rw [e75, Xi_ne (by omega), e65, Xi_ne (by omega)]
        have d75 : Xi U14 904 69 = Xi S 904 69 := by rw [e75, Xi_ne (by omega), e65, Xi_ne (by omega)]
        have f75 : Xi U14 961 (Xi S 904 93).toNat = Xi S 904 8 ∧ Xi U14 953 (Xi S 904 93).toNat = 0 := ⟨by rw [e75, Xi_ne (by omega)]; refine (xi_of e65 (by unfold rg; omega)).trans ?_; omega, xi_of e75 (by unfold rg; omega)⟩
        have k75 : RUNK S U14 := runk_w e75 (by omega) (runk_w e65 (by omega) RUNK.rf)
        have q75 : KTE S U14 := kte_w e75 (by omega) (kte_w e65 (by omega) KTE.rf)
        refine y_iload_n rfl rfl ?_
        refine y_if_ne rfl rfl (by unfold rg; omega) (fun w174 => ?_) (fun w175 => ?_)
        · refine y_aload_n rfl rfl ?_
          refine y_aload_n rfl rfl ?_
          refine y_gfi rfl rfl rfl rfl rfl ?_
          have w176 : (Xi U14 904 8) = (Xi S 904 8) := (show Xi U14 904 8 = Xi U13 904 8 from by rw [eU14]; exact Xi_ne (by omega)).trans ((show Xi U13 904 8 = Xi S 904 8 from by rw [eU13]; exact Xi_ne (by omega)))
          rw [w176]
          have w177 : Xi U14 904 100 = Xi S 904 100 := (show Xi U14 904 100 = Xi U13 904 100 from by rw [eU14]; exact Xi_ne (by omega)).trans ((show Xi U13 904 100 = Xi S 904 100 from by rw [eU13]; exact Xi_ne (by omega)))
          have w178 : Xi U14 904 101 = Xi S 904 101 := (show Xi U14 904 101 = Xi U13 904 101 from by rw [eU14]; exact Xi_ne (by omega)).trans ((show Xi U13 904 101 = Xi S 904 101 from by rw [eU13]; exact Xi_ne (by omega)))
          have w179 : Xi U14 904 65 = Xi S 904 65 := (show Xi U14 904 65 = Xi U13 904 65 from by rw [eU14]; exact Xi_ne (by omega)).trans ((show Xi U13 904 65 = Xi S 904 65 from by rw [eU13]; exact Xi_ne (by omega)))
          have w180 : Xi U14 904 69 = Xi S 904 69 := (show Xi U14 904 69 = Xi U13 904 69 from by rw [eU14]; exact Xi_ne (by omega)).trans ((show Xi U13 904 69 = Xi S 904 69 from by rw [eU13]; exact Xi_ne (by omega)))
          have w181 : Xi U14 904 8 = Xi S 904 8 := (show Xi U14 904 8 = Xi U13 904 8 from by rw [eU14]; exact Xi_ne (by omega)).trans ((show Xi U13 904 8 = Xi S 904 8 from by rw [eU13]; exact Xi_ne (by omega)))
          have w182 : Xi U14 904 93 = Xi S 904 93 := (show Xi U14 904 93 = Xi U13 904 93 from by rw [eU14]; exact Xi_ne (by omega)).trans ((show Xi U13 904 93 = Xi S 904 93 from by rw [eU13]; exact Xi_ne (by omega)))
          have w183 : Xi U14 904 99 = Xi S 904 99 := (show Xi U14 904 99 = Xi U13 904 99 from by rw [eU14]; exact Xi_ne (by omega)).trans ((show Xi U13 904 99 = Xi S 904 99 from by rw [eU13]; exact Xi_ne (by omega)))
          refine y_callV rfl rfl rfl (t_mo_beginsOf__t hHU14 (Xi S 904 8) ⟨by omega, by omega⟩ _) ?_
          rintro _ _ ⟨rfl, z184, rfl, w184, t165⟩
          show Pl _ _ _ _ _ _ [iv z184] _ _
          have T165 := t165
          rw [h75] at T165
          clear t165
          refine y_if_eq rfl rfl (by unfold rg; omega) (fun w185 => ?_) (fun w186 => ?_)
          · refine y_aload_n rfl rfl ?_
            have n165 := T165.2 (by omega)
            clear T165
            refine y_callV rfl rfl rfl (t_mo_thingOfTest__t hHU14 _) ?_
            rintro _ T15 ⟨hHT15, w195, rfl, t194, k194, r194⟩
            have hFT15 : FR md_mo_test__t S T15 := FR.tr hFU14 w195 rfl
            show Pl _ _ _ _ _ _ [] _ _
            have F194 := (by assumption : FR md_mo_thingOfTest__t U14 T15)
            have T194_ := t194
            rw [tkR_F7 hFU14 rfl] at T194_
            rw [show Xi U14 904 93 = Xi S 904 93 by omega] at T194_
            clear t194
            refine y_aload_n rfl rfl ?_
            refine y_bipush rfl rfl ?_
            have w196 : Xi T15 904 93 = Xi S 904 93 := (show Xi T15 904 93 = Xi U14 904 93 from w195.x _ _ rfl).trans ( (show Xi U14 904 93 = Xi U13 904 93 from by rw [eU14]; exact Xi_ne (by omega)).trans ((show Xi U13 904 93 = Xi S 904 93 from by rw [eU13]; exact Xi_ne (by omega))))
            refine y_callV rfl rfl rfl (t_mo_take__t hHT15 104 ⟨by omega, by omega⟩ _) ?_
            rintro _ T16 ⟨hHT16, w198, rfl, t200⟩
            have hFT16 : FR md_mo_test__t S T16 := FR.tr hFT15 w198 rfl
            show Pl _ _ _ _ _ _ [] _ _
            have F200 := (by assumption : FR md_mo_take__t T15 T16)
            have T200_ := t200
            rw [tkR_F7 hFT15 rfl] at T200_
            clear t200
            refine y_aload_n rfl rfl ?_
            refine y_gfr rfl rfl rfl rfl rfl (hHT16.r 904 83 953 rfl) ?_
            refine y_aload_n rfl rfl ?_
            refine y_gfi rfl rfl rfl rfl rfl ?_
            have w199 : (Xi T16 904 93) = (Xi S 904 93) := (show Xi T16 904 93 = Xi T15 904 93 from w198.x _ _ rfl).trans ( (show Xi T15 904 93 = Xi U14 904 93 from w195.x _ _ rfl).trans ( (show Xi U14 904 93 = Xi U13 904 93 from by rw [eU14]; exact Xi_ne (by omega)).trans ((show Xi U13 904 93 = Xi S 904 93 from by rw [eU13]; exact Xi_ne (by omega)))))
            rw [w199]
            refine y_aload_n rfl rfl ?_
            refine y_bipush rfl rfl ?_
            have w200 : Xi T16 904 100 = Xi T15 904 100 := (show Xi T16 904 100 = Xi T15 904 100 from w198.x _ _ rfl)
            have w201 : Xi T16 904 101 = Xi T15 904 101 := (show Xi T16 904 101 = Xi T15 904 101 from w198.x _ _ rfl)
            have w202 : Xi T16 904 69 = Xi T15 904 69 := (show Xi T16 904 69 = Xi T15 904 69 from w198.x _ _ rfl)
            have w203 : Xi T16 904 93 = Xi S 904 93 := (show Xi T16 904 93 = Xi T15 904 93 from w198.x _ _ rfl).trans ( (show Xi T15 904 93 = Xi U14 904 93 from w195.x _ _ rfl).trans ( (show Xi U14 904 93 = Xi U13 904 93 from by rw [eU14]; exact Xi_ne (by omega)).trans ((show Xi U13 904 93 = Xi S 904 93 from by rw [eU13]; exact Xi_ne (by omega)))))
            have w204 : Xi T16 904 99 = Xi T15 904 99 := (show Xi T16 904 99 = Xi T15 904 99 from w198.x _ _ rfl)
            refine y_callV rfl rfl rfl (t_mo_isNext__t hHT16 106 ⟨by omega, by omega⟩ _) ?_
            rintro _ _ ⟨rfl, z205, rfl, w205, t214⟩
            show Pl _ _ _ _ _ _ [iv z205, iv (Xi S 904 93), .ref 953] _ _
            have T214 := t214
            rw [tkR_F7 hFT16 rfl] at T214
            refine y_bastoreZP (n := 1700) rfl rfl (by unfold rg; omega) ⟨by omega, by omega⟩ (fun w206 w207 => ?_)
            obtain ⟨U17, eU17⟩ : ∃ T : sS, T = uI T16 953 (((Xi S 904 93)).toNat) (Int32.ofInt z205) := ⟨_, rfl⟩
            rw [← eU17]
            have hHU17 : RI U17 := by rw [eU17]; exact RI_w hHT16
            have hFU17 : FR md_mo_test__t S U17 := by rw [eU17]; exact FR.wI hFT16 (mdf_i (r := (953, 954, 0, 100000)) (List.mem_of_getElem? (i := 12) rfl) (inR_i (by omega) (by omega) (by omega) (by omega)))
            have w208 : Xi U17 953 (((Xi S 904 93)).toNat) = z205 := by rw [eU17]; exact Xi_same (by unfold rg; omega)
            have e217 := eU17
            have x217 : Xi U17 904 8 = Xi T16 904 8 := by rw [e217, Xi_ne (by omega)]
            refine y_aload_n rfl rfl ?_
            refine y_dup rfl rfl ?_
            refine y_gfi rfl rfl rfl rfl rfl ?_
            have w209 : -2147483648 ≤ (Xi U17 904 8) ∧ (Xi U17 904 8) ≤ 2147483647 := Xi_rgI
            refine y_aload_n rfl rfl ?_
            refine y_gfr rfl rfl rfl rfl rfl (hHU17.r 904 83 953 rfl) ?_
            refine y_aload_n rfl rfl ?_
            refine y_gfi rfl rfl rfl rfl rfl ?_
            have w210 : (Xi U17 904 93) = (Xi S 904 93) := (show Xi U17 904 93 = Xi T16 904 93 from by rw [eU17]; exact Xi_ne (by omega)).trans ( (show Xi T16 904 93 = Xi T15 904 93 from w198.x _ _ rfl).trans ( (show Xi T15 904 93 = Xi U14 904 93 from w195.x _ _ rfl).trans ( (show Xi U14 904 93 = Xi U13 904 93 from by rw [eU14]; exact Xi_ne (by omega)).trans ((show Xi U13 904 93 = Xi S 904 93 from by rw [eU13]; exact Xi_ne (by omega))))))
            rw [w210]
            refine y_baloadP (n := 1700) rfl rfl rfl (by decide) (by unfold rg; omega) (fun w211 w212 => ?_)
            have v231 := xi_of e217 (by unfold rg; omega)
            refine y_if_eq rfl rfl (by unfold rg; omega) (fun w213 => ?_) (fun w214 => ?_)
            · refine y_iconst rfl ?_
              refine y_iadd rfl ?_
              refine y_pfi rfl rfl rfl rfl ?_
              obtain ⟨U18, eU18⟩ : ∃ T : sS, T = uI U17 904 8 (Int32.ofInt ((Xi U17 904 8) + 0)) := ⟨_, rfl⟩
              rw [← eU18]
              have hHU18 : RI U18 := by rw [eU18]; exact RI_w hHU17
              have hFU18 : FR md_mo_test__t S U18 := by rw [eU18]; exact FR.wI hFU17 (mdf_i (r := (904, 905, 8, 9)) (List.mem_of_getElem? (i := 0) rfl) (inR_i (by omega) (by omega) (by omega) (by omega)))
              have w215 : Xi U18 904 8 = ((Xi U17 904 8) + 0) := by rw [eU18]; exact Xi_same (by unfold rg; omega)
              have e241 := eU18
              have y241 : v3 = 1 := by omega
              have H241 : Hid (THB S U18 isNow) := thb_of ⟨a75, b75, c75⟩ f75.1 k75 q75 (by omega) T194_ F194 k194 r194 T200_ F200 T214 (by omega) (by first | exact e217 | (rw [show (Xi S 904 93).toNat = _ by rfl]; exact e217)) e241 (by omega)
              refine y_aload_n rfl rfl ?_
              refine y_iconst rfl ?_
              have w216 : Xi U18 904 100 = Xi T15 904 100 := (show Xi U18 904 100 = Xi U17 904 100 from by rw [eU18]; exact Xi_ne (by omega)).trans ( (show Xi U17 904 100 = Xi T16 904 100 from by rw [eU17]; exact Xi_ne (by omega)).trans ((show Xi T16 904 100 = Xi T15 904 100 from w198.x _ _ rfl)))
              have w217 : Xi U18 904 101 = Xi T15 904 101 := (show Xi U18 904 101 = Xi U17 904 101 from by rw [eU18]; exact Xi_ne (by omega)).trans ( (show Xi U17 904 101 = Xi T16 904 101 from by rw [eU17]; exact Xi_ne (by omega)).trans ((show Xi T16 904 101 = Xi T15 904 101 from w198.x _ _ rfl)))
              have w218 : Xi U18 904 65 = Xi T16 904 65 := (show Xi U18 904 65 = Xi U17 904 65 from by rw [eU18]; exact Xi_ne (by omega)).trans ((show Xi U17 904 65 = Xi T16 904 65 from by rw [eU17]; exact Xi_ne (by omega)))
              have w219 : Xi U18 904 69 = Xi T15 904 69 := (show Xi U18 904 69 = Xi U17 904 69 from by rw [eU18]; exact Xi_ne (by omega)).trans ( (show Xi U17 904 69 = Xi T16 904 69 from by rw [eU17]; exact Xi_ne (by omega)).trans ((show Xi T16 904 69 = Xi T15 904 69 from w198.x _ _ rfl)))
              have w220 : Xi U18 904 93 = Xi S 904 93 := (show Xi U18 904 93 = Xi U17 904 93 from by rw [eU18]; exact Xi_ne (by omega)).trans ( (show Xi U17 904 93 = Xi T16 904 93 from by rw [eU17]; exact Xi_ne (by omega)).trans ( (show Xi T16 904 93 = Xi T15 904 93 from w198.x _ _ rfl).trans ( (show Xi T15 904 93 = Xi U14 904 93 from w195.x _ _ rfl).trans ( (show Xi U14 904 93 = Xi U13 904 93 from by rw [eU14]; exact Xi_ne (by omega)).trans ((show Xi U13 904 93 = Xi S 904 93 from by rw [eU13]; exact Xi_ne (by omega)))))))
              have w221 : Xi U18 904 99 = Xi T15 904 99 := (show Xi U18 904 99 = Xi U17 904 99 from by rw [eU18]; exact Xi_ne (by omega)).trans ( (show Xi U17 904 99 = Xi T16 904 99 from by rw [eU17]; exact Xi_ne (by omega)).trans ((show Xi T16 904 99 = Xi T15 904 99 from w198.x _ _ rfl)))
              refine y_callV rfl rfl rfl (t_mo_isNext__t hHU18 3 ⟨by omega, by omega⟩ _) ?_
              rintro _ _ ⟨rfl, z222, rfl, w222, t246⟩
              show Pl _ _ _ _ _ _ [iv z222] _ _
              have T246 := t246
              rw [tkR_F7 hFU18 rfl] at T246
              clear t246
              refine y_if_eq rfl rfl (by unfold rg; omega) (fun w223 => ?_) (fun w224 => ?_)
              · refine y_iload_n rfl rfl ?_
                have n246 := T246.2 (by omega)
                clear T246
                refine y_if_eq rfl rfl (by unfold rg; omega) (fun w225 => ?_) (fun w226 => ?_)
                · refine y_aload_n rfl rfl ?_
                  have n279 : isNow = 0 := by omega
                  refine y_gfr rfl rfl rfl rfl rfl (hHU18.r 904 82 952 rfl) ?_
                  refine y_aload_n rfl rfl ?_
                  refine y_gfi rfl rfl rfl rfl rfl ?_
                  have w227 : (Xi U18 904 93) = (Xi S 904 93) := (show Xi U18 904 93 = Xi U17 904 93 from by rw [eU18]; exact Xi_ne (by omega)).trans ( (show Xi U17 904 93 = Xi T16 904 93 from by rw [eU17]; exact Xi_ne (by omega)).trans ( (show Xi T16 904 93 = Xi T15 904 93 from w198.x _ _ rfl).trans ( (show Xi T15 904 93 = Xi U14 904 93 from w195.x _ _ rfl).trans ( (show Xi U14 904 93 = Xi U13 904 93 from by rw [eU14]; exact Xi_ne (by omega)).trans ((show Xi U13 904 93 = Xi S 904 93 from by rw [eU13]; exact Xi_ne (by omega)))))))
                  rw [w227]
                  refine y_iconst rfl ?_
                  refine y_iastoreP (n := 1700) rfl rfl (by unfold rg; omega) (fun w228 w229 => ?_)
                  obtain ⟨U19, eU19⟩ : ∃ T : sS, T = uI U18 952 (((Xi S 904 93)).toNat) (Int32.ofInt 4) := ⟨_, rfl⟩
                  rw [← eU19]
                  have hHU19 : RI U19 := by rw [eU19]; exact RI_w hHU18
                  have hFU19 : FR md_mo_test__t S U19 := by rw [eU19]; exact FR.wI hFU18 (mdf_i (r := (952, 953, 0, 100000)) (List.mem_of_getElem? (i := 11) rfl) (inR_i (by omega) (by omega) (by omega) (by omega)))
                  have w230 : Xi U19 952 (((Xi S 904 93)).toNat) = 4 := by rw [eU19]; exact Xi_same (by unfold rg; omega)
                  have e298 := eU19
                  refine y_aload_n rfl rfl ?_
                  refine y_gfr rfl rfl rfl rfl rfl (hHU19.r 904 88 958 rfl) ?_
                  refine y_aload_n rfl rfl ?_
                  refine y_gfi rfl rfl rfl rfl rfl ?_
                  have w231 : (Xi U19 904 93) = (Xi S 904 93) := (show Xi U19 904 93 = Xi U18 904 93 from by rw [eU19]; exact Xi_ne (by omega)).trans ( (show Xi U18 904 93 = Xi U17 904 93 from by rw [eU18]; exact Xi_ne (by omega)).trans ( (show Xi U17 904 93 = Xi T16 904 93 from by rw [eU17]; exact Xi_ne (by omega)).trans ( (show Xi T16 904 93 = Xi T15 904 93 from w198.x _ _ rfl).trans ( (show Xi T15 904 93 = Xi U14 904 93 from w195.x _ _ rfl).trans ( (show Xi U14 904 93 = Xi U13 904 93 from by rw [eU14]; exact Xi_ne (by omega)).trans ((show Xi U13 904 93 = Xi S 904 93 from by rw [eU13]; exact Xi_ne (by omega))))))))
                  rw [w231]
                  refine y_aload_n rfl rfl ?_
                  have w232 : Xi U19 904 100 = Xi T15 904 100 := (show Xi U19 904 100 = Xi U18 904 100 from by rw [eU19]; exact Xi_ne (by omega)).trans ( (show Xi U18 904 100 = Xi U17 904 100 from by rw [eU18]; exact Xi_ne (by omega)).trans ( (show Xi U17 904 100 = Xi T16 904 100 from by rw [eU17]; exact Xi_ne (by omega)).trans ((show Xi T16 904 100 = Xi T15 904 100 from w198.x _ _ rfl))))
                  have w233 : Xi U19 904 101 = Xi T15 904 101 := (show Xi U19 904 101 = Xi U18 904 101 from by rw [eU19]; exact Xi_ne (by omega)).trans ( (show Xi U18 904 101 = Xi U17 904 101 from by rw [eU18]; exact Xi_ne (by omega)).trans ( (show Xi U17 904 101 = Xi T16 904 101 from by rw [eU17]; exact Xi_ne (by omega)).trans ((show Xi T16 904 101 = Xi T15 904 101 from w198.x _ _ rfl))))
                  have w234 : Xi U19 904 65 = Xi T16 904 65 := (show Xi U19 904 65 = Xi U18 904 65 from by rw [eU19]; exact Xi_ne (by omega)).trans ( (show Xi U18 904 65 = Xi U17 904 65 from by rw [eU18]; exact Xi_ne (by omega)).trans ((show Xi U17 904 65 = Xi T16 904 65 from by rw [eU17]; exact Xi_ne (by omega))))
                  have w235 : Xi U19 904 69 = Xi T15 904 69 := (show Xi U19 904 69 = Xi U18 904 69 from by rw [eU19]; exact Xi_ne (by omega)).trans ( (show Xi U18 904 69 = Xi U17 904 69 from by rw [eU18]; exact Xi_ne (by omega)).trans ( (show Xi U17 904 69 = Xi T16 904 69 from by rw [eU17]; exact Xi_ne (by omega)).trans ((show Xi T16 904 69 = Xi T15 904 69 from w198.x _ _ rfl))))
                  have w236 : Xi U19 904 8 = Xi U18 904 8 := (show Xi U19 904 8 = Xi U18 904 8 from by rw [eU19]; exact Xi_ne (by omega))
                  have w237 : Xi U19 904 93 = Xi S 904 93 := (show Xi U19 904 93 = Xi U18 904 93 from by rw [eU19]; exact Xi_ne (by omega)).trans ( (show Xi U18 904 93 = Xi U17 904 93 from by rw [eU18]; exact Xi_ne (by omega)).trans ( (show Xi U17 904 93 = Xi T16 904 93 from by rw [eU17]; exact Xi_ne (by omega)).trans ( (show Xi T16 904 93 = Xi T15 904 93 from w198.x _ _ rfl).trans ( (show Xi T15 904 93 = Xi U14 904 93 from w195.x _ _ rfl).trans ( (show Xi U14 904 93 = Xi U13 904 93 from by rw [eU14]; exact Xi_ne (by omega)).trans ((show Xi U13 904 93 = Xi S 904 93 from by rw [eU13]; exact Xi_ne (by omega))))))))
                  have w238 : Xi U19 904 99 = Xi T15 904 99 := (show Xi U19 904 99 = Xi U18 904 99 from by rw [eU19]; exact Xi_ne (by omega)).trans ( (show Xi U18 904 99 = Xi U17 904 99 from by rw [eU18]; exact Xi_ne (by omega)).trans ( (show Xi U17 904 99 = Xi T16 904 99 from by rw [eU17]; exact Xi_ne (by omega)).trans ((show Xi T16 904 99 = Xi T15 904 99 from w198.x _ _ rfl))))
                  refine y_callV rfl rfl rfl (t_mo_placing__t hHU19 _) ?_
                  rintro _ T20 ⟨hHT20, w240, z239, rfl, w239, t308⟩
                  have hFT20 : FR md_mo_test__t S T20 := FR.tr hFU19 w240 rfl
                  show Pl _ _ _ _ _ _ [iv z239, iv (Xi S 904 93), .ref 958] _ _
                  have F308 := (by assumption : FR md_mo_placing__t U19 T20)
                  have T308_ := t308
                  rw [tkR_F7 hFU19 rfl] at T308_
                  clear t308
                  refine y_iastoreP (n := 1700) rfl rfl (by unfold rg; omega) (fun w241 w242 => ?_)
                  obtain ⟨U21, eU21⟩ : ∃ T : sS, T = uI T20 958 (((Xi S 904 93)).toNat) (Int32.ofInt z239) := ⟨_, rfl⟩
                  rw [← eU21]
                  have hHU21 : RI U21 := by rw [eU21]; exact RI_w hHT20
                  have hFU21 : FR md_mo_test__t S U21 := by rw [eU21]; exact FR.wI hFT20 (mdf_i (r := (958, 959, 0, 100000)) (List.mem_of_getElem? (i := 17) rfl) (inR_i (by omega) (by omega) (by omega) (by omega)))
                  have w243 : Xi U21 958 (((Xi S 904 93)).toNat) = z239 := by rw [eU21]; exact Xi_same (by unfold rg; omega)
                  have e311 := eU21
                  refine y_aload_n rfl rfl ?_
                  have w244 : Xi U21 904 100 = Xi T15 904 100 := (show Xi U21 904 100 = Xi T20 904 100 from by rw [eU21]; exact Xi_ne (by omega)).trans ( (show Xi T20 904 100 = Xi U19 904 100 from w240.x _ _ rfl).trans ( (show Xi U19 904 100 = Xi U18 904 100 from by rw [eU19]; exact Xi_ne (by omega)).trans ( (show Xi U18 904 100 = Xi U17 904 100 from by rw [eU18]; exact Xi_ne (by omega)).trans ( (show Xi U17 904 100 = Xi T16 904 100 from by rw [eU17]; exact Xi_ne (by omega)).trans ((show Xi T16 904 100 = Xi T15 904 100 from w198.x _ _ rfl))))))
                  have w245 : Xi U21 904 101 = Xi T15 904 101 := (show Xi U21 904 101 = Xi T20 904 101 from by rw [eU21]; exact Xi_ne (by omega)).trans ( (show Xi T20 904 101 = Xi U19 904 101 from w240.x _ _ rfl).trans ( (show Xi U19 904 101 = Xi U18 904 101 from by rw [eU19]; exact Xi_ne (by omega)).trans ( (show Xi U18 904 101 = Xi U17 904 101 from by rw [eU18]; exact Xi_ne (by omega)).trans ( (show Xi U17 904 101 = Xi T16 904 101 from by rw [eU17]; exact Xi_ne (by omega)).trans ((show Xi T16 904 101 = Xi T15 904 101 from w198.x _ _ rfl))))))
                  have w246 : Xi U21 904 65 = Xi T20 904 65 := (show Xi U21 904 65 = Xi T20 904 65 from by rw [eU21]; exact Xi_ne (by omega))
                  have w247 : Xi U21 904 69 = Xi T15 904 69 := (show Xi U21 904 69 = Xi T20 904 69 from by rw [eU21]; exact Xi_ne (by omega)).trans ( (show Xi T20 904 69 = Xi U19 904 69 from w240.x _ _ rfl).trans ( (show Xi U19 904 69 = Xi U18 904 69 from by rw [eU19]; exact Xi_ne (by omega)).trans ( (show Xi U18 904 69 = Xi U17 904 69 from by rw [eU18]; exact Xi_ne (by omega)).trans ( (show Xi U17 904 69 = Xi T16 904 69 from by rw [eU17]; exact Xi_ne (by omega)).trans ((show Xi T16 904 69 = Xi T15 904 69 from w198.x _ _ rfl))))))
                  have w248 : Xi U21 904 8 = Xi T20 904 8 := (show Xi U21 904 8 = Xi T20 904 8 from by rw [eU21]; exact Xi_ne (by omega))
                  have w249 : Xi U21 904 93 = Xi S 904 93 := (show Xi U21 904 93 = Xi T20 904 93 from by rw [eU21]; exact Xi_ne (by omega)).trans ( (show Xi T20 904 93 = Xi U19 904 93 from w240.x _ _ rfl).trans ( (show Xi U19 904 93 = Xi U18 904 93 from by rw [eU19]; exact Xi_ne (by omega)).trans ( (show Xi U18 904 93 = Xi U17 904 93 from by rw [eU18]; exact Xi_ne (by omega)).trans ( (show Xi U17 904 93 = Xi T16 904 93 from by rw [eU17]; exact Xi_ne (by omega)).trans ( (show Xi T16 904 93 = Xi T15 904 93 from w198.x _ _ rfl).trans ( (show Xi T15 904 93 = Xi U14 904 93 from w195.x _ _ rfl).trans ( (show Xi U14 904 93 = Xi U13 904 93 from by rw [eU14]; exact Xi_ne (by omega)).trans ((show Xi U13 904 93 = Xi S 904 93 from by rw [eU13]; exact Xi_ne (by omega))))))))))
                  have w250 : Xi U21 904 99 = Xi T15 904 99 := (show Xi U21 904 99 = Xi T20 904 99 from by rw [eU21]; exact Xi_ne (by omega)).trans ( (show Xi T20 904 99 = Xi U19 904 99 from w240.x _ _ rfl).trans ( (show Xi U19 904 99 = Xi U18 904 99 from by rw [eU19]; exact Xi_ne (by omega)).trans ( (show Xi U18 904 99 = Xi U17 904 99 from by rw [eU18]; exact Xi_ne (by omega)).trans ( (show Xi U17 904 99 = Xi T16 904 99 from by rw [eU17]; exact Xi_ne (by omega)).trans ((show Xi T16 904 99 = Xi T15 904 99 from w198.x _ _ rfl))))))
                  refine y_callV rfl rfl rfl (t_mo_thing__t hHU21 _) ?_
                  rintro _ T22 ⟨hHT22, w252, rfl, t313, k313⟩
                  have hFT22 : FR md_mo_test__t S T22 := FR.tr hFU21 w252 rfl
                  show Pl _ _ _ _ _ _ [] _ _
                  have F313 := (by assumption : FR md_mo_thing__t U21 T22)
                  have T313_ := t313
                  rw [tkR_F7 hFU21 rfl] at T313_
                  clear t313
                  refine y_aload_n rfl rfl ?_
                  refine y_gfr rfl rfl rfl rfl rfl (hHT22.r 904 89 959 rfl) ?_
                  refine y_aload_n rfl rfl ?_
                  refine y_gfi rfl rfl rfl rfl rfl ?_
                  have w253 : (Xi T22 904 93) = (Xi S 904 93) := (show Xi T22 904 93 = Xi U21 904 93 from w252.x _ _ rfl).trans ( (show Xi U21 904 93 = Xi T20 904 93 from by rw [eU21]; exact Xi_ne (by omega)).trans ( (show Xi T20 904 93 = Xi U19 904 93 from w240.x _ _ rfl).trans ( (show Xi U19 904 93 = Xi U18 904 93 from by rw [eU19]; exact Xi_ne (by omega)).trans ( (show Xi U18 904 93 = Xi U17 904 93 from by rw [eU18]; exact Xi_ne (by omega)).trans ( (show Xi U17 904 93 = Xi T16 904 93 from by rw [eU17]; exact Xi_ne (by omega)).trans ( (show Xi T16 904 93 = Xi T15 904 93 from w198.x _ _ rfl).trans ( (show Xi T15 904 93 = Xi U14 904 93 from w195.x _ _ rfl).trans ( (show Xi U14 904 93 = Xi U13 904 93 from by rw [eU14]; exact Xi_ne (by omega)).trans ((show Xi U13 904 93 = Xi S 904 93 from by rw [eU13]; exact Xi_ne (by omega)))))))))))
                  rw [w253]
                  refine y_aload_n rfl rfl ?_
                  refine y_gfi rfl rfl rfl rfl rfl ?_
                  have w254 : -2147483648 ≤ (Xi T22 904 100) ∧ (Xi T22 904 100) ≤ 2147483647 := Xi_rgI
                  refine y_sipush rfl rfl ?_
                  refine y_imul rfl ?_
                  refine y_aload_n rfl rfl ?_
                  refine y_gfi rfl rfl rfl rfl rfl ?_
                  have w255 : -2147483648 ≤ (Xi T22 904 101) ∧ (Xi T22 904 101) ≤ 2147483647 := Xi_rgI
                  refine y_iadd rfl ?_
                  refine y_iastoreP (n := 1700) rfl rfl (by unfold rg; omega) (fun w256 w257 => ?_)
                  obtain ⟨U23, eU23⟩ : ∃ T : sS, T = uI T22 959 (((Xi S 904 93)).toNat) (Int32.ofInt (((Xi T22 904 100) * 10000) + (Xi T22 904 101))) := ⟨_, rfl⟩
                  rw [← eU23]
                  have hHU23 : RI U23 := by rw [eU23]; exact RI_w hHT22
                  have hFU23 : FR md_mo_test__t S U23 := by rw [eU23]; exact FR.wI hFT22 (mdf_i (r := (959, 960, 0, 100000)) (List.mem_of_getElem? (i := 18) rfl) (inR_i (by omega) (by omega) (by omega) (by omega)))
                  have e337 := eU23
                  refine y_aload_n rfl rfl ?_
                  refine y_gfr rfl rfl rfl rfl rfl (hHU23.r 904 90 960 rfl) ?_
                  refine y_aload_n rfl rfl ?_
                  refine y_gfi rfl rfl rfl rfl rfl ?_
                  have w258 : (Xi U23 904 93) = (Xi S 904 93) := (show Xi U23 904 93 = Xi T22 904 93 from by rw [eU23]; exact Xi_ne (by omega)).trans ( (show Xi T22 904 93 = Xi U21 904 93 from w252.x _ _ rfl).trans ( (show Xi U21 904 93 = Xi T20 904 93 from by rw [eU21]; exact Xi_ne (by omega)).trans ( (show Xi T20 904 93 = Xi U19 904 93 from w240.x _ _ rfl).trans ( (show Xi U19 904 93 = Xi U18 904 93 from by rw [eU19]; exact Xi_ne (by omega)).trans ( (show Xi U18 904 93 = Xi U17 904 93 from by rw [eU18]; exact Xi_ne (by omega)).trans ( (show Xi U17 904 93 = Xi T16 904 93 from by rw [eU17]; exact Xi_ne (by omega)).trans ( (show Xi T16 904 93 = Xi T15 904 93 from w198.x _ _ rfl).trans ( (show Xi T15 904 93 = Xi U14 904 93 from w195.x _ _ rfl).trans ( (show Xi U14 904 93 = Xi U13 904 93 from by rw [eU14]; exact Xi_ne (by omega)).trans ((show Xi U13 904 93 = Xi S 904 93 from by rw [eU13]; exact Xi_ne (by omega))))))))))))
                  rw [w258]
                  refine y_aload_n rfl rfl ?_
                  refine y_gfi rfl rfl rfl rfl rfl ?_
                  have w259 : -2147483648 ≤ (Xi U23 904 99) ∧ (Xi U23 904 99) ≤ 2147483647 := Xi_rgI
                  refine y_iastoreP (n := 1700) rfl rfl (by unfold rg; omega) (fun w260 w261 => ?_)
                  obtain ⟨U24, eU24⟩ : ∃ T : sS, T = uI U23 960 (((Xi S 904 93)).toNat) (Int32.ofInt (Xi U23 904 99)) := ⟨_, rfl⟩
                  rw [← eU24]
                  have hHU24 : RI U24 := by rw [eU24]; exact RI_w hHU23
                  have hFU24 : FR md_mo_test__t S U24 := by rw [eU24]; exact FR.wI hFU23 (mdf_i (r := (960, 961, 0, 100000)) (List.mem_of_getElem? (i := 19) rfl) (inR_i (by omega) (by omega) (by omega) (by omega)))
                  have w262 : Xi U24 960 (((Xi S 904 93)).toNat) = (Xi U23 904 99) := by rw [eU24]; exact Xi_same (by unfold rg; omega)
                  have e350 := eU24
                  have M350 : Hid (TMID S U24 isNow) := mid_l H241.o (Y56.o.1 y241) n165 n279 n246 e298 T308_ F308 (by unfold rg; omega) e311 T313_ F313 k313 e337 e350 (by first | rfl | omega) (by first | rfl | (rw [e337, Xi_ne (by omega)]) | omega) (by omega)
                  have w263 : Xi U24 904 100 = Xi T22 904 100 := (show Xi U24 904 100 = Xi U23 904 100 from by rw [eU24]; exact Xi_ne (by omega)).trans ((show Xi U23 904 100 = Xi T22 904 100 from by rw [eU23]; exact Xi_ne (by omega)))
                  have w264 : Xi U24 904 101 = Xi T22 904 101 := (show Xi U24 904 101 = Xi U23 904 101 from by rw [eU24]; exact Xi_ne (by omega)).trans ((show Xi U23 904 101 = Xi T22 904 101 from by rw [eU23]; exact Xi_ne (by omega)))
                  have w265 : Xi U24 904 65 = Xi T22 904 65 := (show Xi U24 904 65 = Xi U23 904 65 from by rw [eU24]; exact Xi_ne (by omega)).trans ((show Xi U23 904 65 = Xi T22 904 65 from by rw [eU23]; exact Xi_ne (by omega)))
                  have w266 : Xi U24 904 69 = Xi T22 904 69 := (show Xi U24 904 69 = Xi U23 904 69 from by rw [eU24]; exact Xi_ne (by omega)).trans ((show Xi U23 904 69 = Xi T22 904 69 from by rw [eU23]; exact Xi_ne (by omega)))
                  have w267 : Xi U24 904 8 = Xi T22 904 8 := (show Xi U24 904 8 = Xi U23 904 8 from by rw [eU24]; exact Xi_ne (by omega)).trans ((show Xi U23 904 8 = Xi T22 904 8 from by rw [eU23]; exact Xi_ne (by omega)))
                  have w268 : Xi U24 904 93 = Xi S 904 93 := (show Xi U24 904 93 = Xi U23 904 93 from by rw [eU24]; exact Xi_ne (by omega)).trans ( (show Xi U23 904 93 = Xi T22 904 93 from by rw [eU23]; exact Xi_ne (by omega)).trans ( (show Xi T22 904 93 = Xi U21 904 93 from w252.x _ _ rfl).trans ( (show Xi U21 904 93 = Xi T20 904 93 from by rw [eU21]; exact Xi_ne (by omega)).trans ( (show Xi T20 904 93 = Xi U19 904 93 from w240.x _ _ rfl).trans ( (show Xi U19 904 93 = Xi U18 904 93 from by rw [eU19]; exact Xi_ne (by omega)).trans ( (show Xi U18 904 93 = Xi U17 904 93 from by rw [eU18]; exact Xi_ne (by omega)).trans ( (show Xi U17 904 93 = Xi T16 904 93 from by rw [eU17]; exact Xi_ne (by omega)).trans ( (show Xi T16 904 93 = Xi T15 904 93 from w198.x _ _ rfl).trans ( (show Xi T15 904 93 = Xi U14 904 93 from w195.x _ _ rfl).trans ( (show Xi U14 904 93 = Xi U13 904 93 from by rw [eU14]; exact Xi_ne (by omega)).trans ((show Xi U13 904 93 = Xi S 904 93 from by rw [eU13]; exact Xi_ne (by omega)))))))))))))
                  have w269 : Xi U24 904 99 = Xi T22 904 99 := (show Xi U24 904 99 = Xi U23 904 99 from by rw [eU24]; exact Xi_ne (by omega)).trans ((show Xi U23 904 99 = Xi T22 904 99 from by rw [eU23]; exact Xi_ne (by omega)))
                  exact Pl_weak (C351 U24 hHU24 hFU24  (by first | exact M154 | exact M187 | exact M274 | exact M283 | exact M350 | (obtain ⟨x1, x2, x3, x4, x5, x6, x7⟩ := B96.o; exact ⟨fun b => ⟨by omega, Or.inl ⟨Y96.o, x5, x6, by omega, L96.o⟩⟩, x1, x2, x3, x4⟩))) (by omega) (And.intro rfl (And.intro rfl (True.intro)))
                · refine y_aload_n rfl rfl ?_
                  refine y_callV rfl rfl rfl (t_mo_odd__t hHU18 _) ?_
                  rintro _ T25 ⟨hHT25, w278, rfl, t283, w276⟩
                  have hFT25 : FR md_mo_test__t S T25 := FR.tr hFU18 w278 rfl
                  show Pl _ _ _ _ _ _ [] _ _
                  have F283 := (by assumption : FR md_mo_odd__t U18 T25)
                  have M283 : Hid (TMID S T25 isNow) := mid_o H241.o.2.1 H241.o.2.2.1 H241.o.2.2.2.1 H241.o.2.2.2.2 t283 F283
                  refine y_goto rfl rfl ?_
                  have w279 : Xi T25 904 100 = Xi T15 904 100 := (show Xi T25 904 100 = Xi U18 904 100 from w278.x _ _ rfl).trans ( (show Xi U18 904 100 = Xi U17 904 100 from by rw [eU18]; exact Xi_ne (by omega)).trans ( (show Xi U17 904 100 = Xi T16 904 100 from by rw [eU17]; exact Xi_ne (by omega)).trans ((show Xi T16 904 100 = Xi T15 904 100 from w198.x _ _ rfl))))
                  have w280 : Xi T25 904 101 = Xi T15 904 101 := (show Xi T25 904 101 = Xi U18 904 101 from w278.x _ _ rfl).trans ( (show Xi U18 904 101 = Xi U17 904 101 from by rw [eU18]; exact Xi_ne (by omega)).trans ( (show Xi U17 904 101 = Xi T16 904 101 from by rw [eU17]; exact Xi_ne (by omega)).trans ((show Xi T16 904 101 = Xi T15 904 101 from w198.x _ _ rfl))))
                  have w281 : Xi T25 904 69 = Xi T15 904 69 := (show Xi T25 904 69 = Xi U18 904 69 from w278.x _ _ rfl).trans ( (show Xi U18 904 69 = Xi U17 904 69 from by rw [eU18]; exact Xi_ne (by omega)).trans ( (show Xi U17 904 69 = Xi T16 904 69 from by rw [eU17]; exact Xi_ne (by omega)).trans ((show Xi T16 904 69 = Xi T15 904 69 from w198.x _ _ rfl))))
                  have w282 : Xi T25 904 8 = Xi U18 904 8 := (show Xi T25 904 8 = Xi U18 904 8 from w278.x _ _ rfl)
                  have w283 : Xi T25 904 93 = Xi S 904 93 := (show Xi T25 904 93 = Xi U18 904 93 from w278.x _ _ rfl).trans ( (show Xi U18 904 93 = Xi U17 904 93 from by rw [eU18]; exact Xi_ne (by omega)).trans ( (show Xi U17 904 93 = Xi T16 904 93 from by rw [eU17]; exact Xi_ne (by omega)).trans ( (show Xi T16 904 93 = Xi T15 904 93 from w198.x _ _ rfl).trans ( (show Xi T15 904 93 = Xi U14 904 93 from w195.x _ _ rfl).trans ( (show Xi U14 904 93 = Xi U13 904 93 from by rw [eU14]; exact Xi_ne (by omega)).trans ((show Xi U13 904 93 = Xi S 904 93 from by rw [eU13]; exact Xi_ne (by omega))))))))
                  have w284 : Xi T25 904 99 = Xi T15 904 99 := (show Xi T25 904 99 = Xi U18 904 99 from w278.x _ _ rfl).trans ( (show Xi U18 904 99 = Xi U17 904 99 from by rw [eU18]; exact Xi_ne (by omega)).trans ( (show Xi U17 904 99 = Xi T16 904 99 from by rw [eU17]; exact Xi_ne (by omega)).trans ((show Xi T16 904 99 = Xi T15 904 99 from w198.x _ _ rfl))))
                  exact Pl_weak (C351 T25 hHT25 hFT25  (by first | exact M154 | exact M187 | exact M274 | exact M283 | exact M350 | (obtain ⟨x1, x2, x3, x4, x5, x6, x7⟩ := B96.o; exact ⟨fun b => ⟨by omega, Or.inl ⟨Y96.o, x5, x6, by omega, L96.o⟩⟩, x1, x2, x3, x4⟩))) (by omega) (And.intro rfl (And.intro rfl (True.intro)))
              · refine y_aload_n rfl rfl ?_
                refine y_gfr rfl rfl rfl rfl rfl (hHU18.r 904 82 952 rfl) ?_
                refine y_aload_n rfl rfl ?_
                refine y_gfi rfl rfl rfl rfl rfl ?_
                have w285 : (Xi U18 904 93) = (Xi S 904 93) := (show Xi U18 904 93 = Xi U17 904 93 from by rw [eU18]; exact Xi_ne (by omega)).trans ( (show Xi U17 904 93 = Xi T16 904 93 from by rw [eU17]; exact Xi_ne (by omega)).trans ( (show Xi T16 904 93 = Xi T15 904 93 from w198.x _ _ rfl).trans ( (show Xi T15 904 93 = Xi U14 904 93 from w195.x _ _ rfl).trans ( (show Xi U14 904 93 = Xi U13 904 93 from by rw [eU14]; exact Xi_ne (by omega)).trans ((show Xi U13 904 93 = Xi S 904 93 from by rw [eU13]; exact Xi_ne (by omega)))))))
                rw [w285]
                refine y_iconst rfl ?_
                refine y_iastoreP (n := 1700) rfl rfl (by unfold rg; omega) (fun w286 w287 => ?_)
                obtain ⟨U26, eU26⟩ : ∃ T : sS, T = uI U18 952 (((Xi S 904 93)).toNat) (Int32.ofInt 3) := ⟨_, rfl⟩
                rw [← eU26]
                have hHU26 : RI U26 := by rw [eU26]; exact RI_w hHU18
                have hFU26 : FR md_mo_test__t S U26 := by rw [eU26]; exact FR.wI hFU18 (mdf_i (r := (952, 953, 0, 100000)) (List.mem_of_getElem? (i := 11) rfl) (inR_i (by omega) (by omega) (by omega) (by omega)))
                have w288 : Xi U26 952 (((Xi S 904 93)).toNat) = 3 := by rw [eU26]; exact Xi_same (by unfold rg; omega)
                have e261 := eU26
                refine y_aload_n rfl rfl ?_
                refine y_gfr rfl rfl rfl rfl rfl (hHU26.r 904 86 956 rfl) ?_
                refine y_aload_n rfl rfl ?_
                refine y_gfi rfl rfl rfl rfl rfl ?_
                have w289 : (Xi U26 904 93) = (Xi S 904 93) := (show Xi U26 904 93 = Xi U18 904 93 from by rw [eU26]; exact Xi_ne (by omega)).trans ( (show Xi U18 904 93 = Xi U17 904 93 from by rw [eU18]; exact Xi_ne (by omega)).trans ( (show Xi U17 904 93 = Xi T16 904 93 from by rw [eU17]; exact Xi_ne (by omega)).trans ( (show Xi T16 904 93 = Xi T15 904 93 from w198.x _ _ rfl).trans ( (show Xi T15 904 93 = Xi U14 904 93 from w195.x _ _ rfl).trans ( (show Xi U14 904 93 = Xi U13 904 93 from by rw [eU14]; exact Xi_ne (by omega)).trans ((show Xi U13 904 93 = Xi S 904 93 from by rw [eU13]; exact Xi_ne (by omega))))))))
                rw [w289]
                refine y_aload_n rfl rfl ?_
                have w290 : Xi U26 904 100 = Xi T15 904 100 := (show Xi U26 904 100 = Xi U18 904 100 from by rw [eU26]; exact Xi_ne (by omega)).trans ( (show Xi U18 904 100 = Xi U17 904 100 from by rw [eU18]; exact Xi_ne (by omega)).trans ( (show Xi U17 904 100 = Xi T16 904 100 from by rw [eU17]; exact Xi_ne (by omega)).trans ((show Xi T16 904 100 = Xi T15 904 100 from w198.x _ _ rfl))))
                have w291 : Xi U26 904 101 = Xi T15 904 101 := (show Xi U26 904 101 = Xi U18 904 101 from by rw [eU26]; exact Xi_ne (by omega)).trans ( (show Xi U18 904 101 = Xi U17 904 101 from by rw [eU18]; exact Xi_ne (by omega)).trans ( (show Xi U17 904 101 = Xi T16 904 101 from by rw [eU17]; exact Xi_ne (by omega)).trans ((show Xi T16 904 101 = Xi T15 904 101 from w198.x _ _ rfl))))
                have w292 : Xi U26 904 65 = Xi T16 904 65 := (show Xi U26 904 65 = Xi U18 904 65 from by rw [eU26]; exact Xi_ne (by omega)).trans ( (show Xi U18 904 65 = Xi U17 904 65 from by rw [eU18]; exact Xi_ne (by omega)).trans ((show Xi U17 904 65 = Xi T16 904 65 from by rw [eU17]; exact Xi_ne (by omega))))
                have w293 : Xi U26 904 69 = Xi T15 904 69 := (show Xi U26 904 69 = Xi U18 904 69 from by rw [eU26]; exact Xi_ne (by omega)).trans ( (show Xi U18 904 69 = Xi U17 904 69 from by rw [eU18]; exact Xi_ne (by omega)).trans ( (show Xi U17 904 69 = Xi T16 904 69 from by rw [eU17]; exact Xi_ne (by omega)).trans ((show Xi T16 904 69 = Xi T15 904 69 from w198.x _ _ rfl))))
                have w294 : Xi U26 904 8 = Xi U18 904 8 := (show Xi U26 904 8 = Xi U18 904 8 from by rw [eU26]; exact Xi_ne (by omega))
                have w295 : Xi U26 904 93 = Xi S 904 93 := (show Xi U26 904 93 = Xi U18 904 93 from by rw [eU26]; exact Xi_ne (by omega)).trans ( (show Xi U18 904 93 = Xi U17 904 93 from by rw [eU18]; exact Xi_ne (by omega)).trans ( (show Xi U17 904 93 = Xi T16 904 93 from by rw [eU17]; exact Xi_ne (by omega)).trans ( (show Xi T16 904 93 = Xi T15 904 93 from w198.x _ _ rfl).trans ( (show Xi T15 904 93 = Xi U14 904 93 from w195.x _ _ rfl).trans ( (show Xi U14 904 93 = Xi U13 904 93 from by rw [eU14]; exact Xi_ne (by omega)).trans ((show Xi U13 904 93 = Xi S 904 93 from by rw [eU13]; exact Xi_ne (by omega))))))))
                have w296 : Xi U26 904 99 = Xi T15 904 99 := (show Xi U26 904 99 = Xi U18 904 99 from by rw [eU26]; exact Xi_ne (by omega)).trans ( (show Xi U18 904 99 = Xi U17 904 99 from by rw [eU18]; exact Xi_ne (by omega)).trans ( (show Xi U17 904 99 = Xi T16 904 99 from by rw [eU17]; exact Xi_ne (by omega)).trans ((show Xi T16 904 99 = Xi T15 904 99 from w198.x _ _ rfl))))
                refine y_callV rfl rfl rfl (t_mo_run__t hHU26 _) ?_
                rintro _ T27 ⟨hHT27, w298, z297, rfl, w297, t271, k271⟩
                have hFT27 : FR md_mo_test__t S T27 := FR.tr hFU26 w298 rfl
                show Pl _ _ _ _ _ _ [iv z297, iv (Xi S 904 93), .ref 956] _ _
                have F271 := (by assumption : FR md_mo_run__t U26 T27)
                have T271_ := t271
                rw [tkR_F7 hFU26 rfl] at T271_
                clear t271
                refine y_iastoreP (n := 1700) rfl rfl (by unfold rg; omega) (fun w299 w300 => ?_)
                obtain ⟨U28, eU28⟩ : ∃ T : sS, T = uI T27 956 (((Xi S 904 93)).toNat) (Int32.ofInt z297) := ⟨_, rfl⟩
                rw [← eU28]
                have hHU28 : RI U28 := by rw [eU28]; exact RI_w hHT27
                have hFU28 : FR md_mo_test__t S U28 := by rw [eU28]; exact FR.wI hFT27 (mdf_i (r := (956, 957, 0, 100000)) (List.mem_of_getElem? (i := 15) rfl) (inR_i (by omega) (by omega) (by omega) (by omega)))
                have w301 : Xi U28 956 (((Xi S 904 93)).toNat) = z297 := by rw [eU28]; exact Xi_same (by unfold rg; omega)
                have e274 := eU28
                have M274 : Hid (TMID S U28 isNow) := mid_r H241.o (Y56.o.1 y241) n165 ⟨(T246.1 (by omega)).1, (T246.1 (by omega)).2.1⟩ e261 T271_ F271 k271 (by unfold rg; omega) e274 (by omega)
                refine y_goto rfl rfl ?_
                have w302 : Xi U28 904 100 = Xi T15 904 100 := (show Xi U28 904 100 = Xi T27 904 100 from by rw [eU28]; exact Xi_ne (by omega)).trans ( (show Xi T27 904 100 = Xi U26 904 100 from w298.x _ _ rfl).trans ( (show Xi U26 904 100 = Xi U18 904 100 from by rw [eU26]; exact Xi_ne (by omega)).trans ( (show Xi U18 904 100 = Xi U17 904 100 from by rw [eU18]; exact Xi_ne (by omega)).trans ( (show Xi U17 904 100 = Xi T16 904 100 from by rw [eU17]; exact Xi_ne (by omega)).trans ((show Xi T16 904 100 = Xi T15 904 100 from w198.x _ _ rfl))))))
                have w303 : Xi U28 904 101 = Xi T15 904 101 := (show Xi U28 904 101 = Xi T27 904 101 from by rw [eU28]; exact Xi_ne (by omega)).trans ( (show Xi T27 904 101 = Xi U26 904 101 from w298.x _ _ rfl).trans ( (show Xi U26 904 101 = Xi U18 904 101 from by rw [eU26]; exact Xi_ne (by omega)).trans ( (show Xi U18 904 101 = Xi U17 904 101 from by rw [eU18]; exact Xi_ne (by omega)).trans ( (show Xi U17 904 101 = Xi T16 904 101 from by rw [eU17]; exact Xi_ne (by omega)).trans ((show Xi T16 904 101 = Xi T15 904 101 from w198.x _ _ rfl))))))
                have w304 : Xi U28 904 65 = Xi T27 904 65 := (show Xi U28 904 65 = Xi T27 904 65 from by rw [eU28]; exact Xi_ne (by omega))
                have w305 : Xi U28 904 69 = Xi T27 904 69 := (show Xi U28 904 69 = Xi T27 904 69 from by rw [eU28]; exact Xi_ne (by omega))
                have w306 : Xi U28 904 8 = Xi T27 904 8 := (show Xi U28 904 8 = Xi T27 904 8 from by rw [eU28]; exact Xi_ne (by omega))
                have w307 : Xi U28 904 93 = Xi S 904 93 := (show Xi U28 904 93 = Xi T27 904 93 from by rw [eU28]; exact Xi_ne (by omega)).trans ( (show Xi T27 904 93 = Xi U26 904 93 from w298.x _ _ rfl).trans ( (show Xi U26 904 93 = Xi U18 904 93 from by rw [eU26]; exact Xi_ne (by omega)).trans ( (show Xi U18 904 93 = Xi U17 904 93 from by rw [eU18]; exact Xi_ne (by omega)).trans ( (show Xi U17 904 93 = Xi T16 904 93 from by rw [eU17]; exact Xi_ne (by omega)).trans ( (show Xi T16 904 93 = Xi T15 904 93 from w198.x _ _ rfl).trans ( (show Xi T15 904 93 = Xi U14 904 93 from w195.x _ _ rfl).trans ( (show Xi U14 904 93 = Xi U13 904 93 from by rw [eU14]; exact Xi_ne (by omega)).trans ((show Xi U13 904 93 = Xi S 904 93 from by rw [eU13]; exact Xi_ne (by omega))))))))))
                have w308 : Xi U28 904 99 = Xi T15 904 99 := (show Xi U28 904 99 = Xi T27 904 99 from by rw [eU28]; exact Xi_ne (by omega)).trans ( (show Xi T27 904 99 = Xi U26 904 99 from w298.x _ _ rfl).trans ( (show Xi U26 904 99 = Xi U18 904 99 from by rw [eU26]; exact Xi_ne (by omega)).trans ( (show Xi U18 904 99 = Xi U17 904 99 from by rw [eU18]; exact Xi_ne (by omega)).trans ( (show Xi U17 904 99 = Xi T16 904 99 from by rw [eU17]; exact Xi_ne (by omega)).trans ((show Xi T16 904 99 = Xi T15 904 99 from w198.x _ _ rfl))))))
                exact Pl_weak (C351 U28 hHU28 hFU28  (by first | exact M154 | exact M187 | exact M274 | exact M283 | exact M350 | (obtain ⟨x1, x2, x3, x4, x5, x6, x7⟩ := B96.o; exact ⟨fun b => ⟨by omega, Or.inl ⟨Y96.o, x5, x6, by omega, L96.o⟩⟩, x1, x2, x3, x4⟩))) (by omega) (And.intro rfl (And.intro rfl (True.intro)))
            · refine y_iconst rfl ?_
              refine y_goto rfl rfl ?_
              refine y_iadd rfl ?_
              refine y_pfi rfl rfl rfl rfl ?_
              obtain ⟨U29, eU29⟩ : ∃ T : sS, T = uI U17 904 8 (Int32.ofInt ((Xi U17 904 8) + 1)) := ⟨_, rfl⟩
              rw [← eU29]
              have hHU29 : RI U29 := by rw [eU29]; exact RI_w hHU17
              have hFU29 : FR md_mo_test__t S U29 := by rw [eU29]; exact FR.wI hFU17 (mdf_i (r := (904, 905, 8, 9)) (List.mem_of_getElem? (i := 0) rfl) (inR_i (by omega) (by omega) (by omega) (by omega)))
              have w309 : Xi U29 904 8 = ((Xi U17 904 8) + 1) := by rw [eU29]; exact Xi_same (by unfold rg; omega)
              have e241 := eU29
              have y241 : v3 = 1 := by omega
              have H241 : Hid (THB S U29 isNow) := thb_of ⟨a75, b75, c75⟩ f75.1 k75 q75 (by omega) T194_ F194 k194 r194 T200_ F200 T214 (by omega) (by first | exact e217 | (rw [show (Xi S 904 93).toNat = _ by rfl]; exact e217)) e241 (by omega)
              refine y_aload_n rfl rfl ?_
              refine y_iconst rfl ?_
              have w310 : Xi U29 904 100 = Xi T15 904 100 := (show Xi U29 904 100 = Xi U17 904 100 from by rw [eU29]; exact Xi_ne (by omega)).trans ( (show Xi U17 904 100 = Xi T16 904 100 from by rw [eU17]; exact Xi_ne (by omega)).trans ((show Xi T16 904 100 = Xi T15 904 100 from w198.x _ _ rfl)))
              have w311 : Xi U29 904 101 = Xi T15 904 101 := (show Xi U29 904 101 = Xi U17 904 101 from by rw [eU29]; exact Xi_ne (by omega)).trans ( (show Xi U17 904 101 = Xi T16 904 101 from by rw [eU17]; exact Xi_ne (by omega)).trans ((show Xi T16 904 101 = Xi T15 904 101 from w198.x _ _ rfl)))
              have w312 : Xi U29 904 65 = Xi T16 904 65 := (show Xi U29 904 65 = Xi U17 904 65 from by rw [eU29]; exact Xi_ne (by omega)).trans ((show Xi U17 904 65 = Xi T16 904 65 from by rw [eU17]; exact Xi_ne (by omega)))
              have w313 : Xi U29 904 69 = Xi T15 904 69 := (show Xi U29 904 69 = Xi U17 904 69 from by rw [eU29]; exact Xi_ne (by omega)).trans ( (show Xi U17 904 69 = Xi T16 904 69 from by rw [eU17]; exact Xi_ne (by omega)).trans ((show Xi T16 904 69 = Xi T15 904 69 from w198.x _ _ rfl)))
              have w314 : Xi U29 904 93 = Xi S 904 93 := (show Xi U29 904 93 = Xi U17 904 93 from by rw [eU29]; exact Xi_ne (by omega)).trans ( (show Xi U17 904 93 = Xi T16 904 93 from by rw [eU17]; exact Xi_ne (by omega)).trans ( (show Xi T16 904 93 = Xi T15 904 93 from w198.x _ _ rfl).trans ( (show Xi T15 904 93 = Xi U14 904 93 from w195.x _ _ rfl).trans ( (show Xi U14 904 93 = Xi U13 904 93 from by rw [eU14]; exact Xi_ne (by omega)).trans ((show Xi U13 904 93 = Xi S 904 93 from by rw [eU13]; exact Xi_ne (by omega)))))))
              have w315 : Xi U29 904 99 = Xi T15 904 99 := (show Xi U29 904 99 = Xi U17 904 99 from by rw [eU29]; exact Xi_ne (by omega)).trans ( (show Xi U17 904 99 = Xi T16 904 99 from by rw [eU17]; exact Xi_ne (by omega)).trans ((show Xi T16 904 99 = Xi T15 904 99 from w198.x _ _ rfl)))
              refine y_callV rfl rfl rfl (t_mo_isNext__t hHU29 3 ⟨by omega, by omega⟩ _) ?_
              rintro _ _ ⟨rfl, z316, rfl, w316, t246⟩
              show Pl _ _ _ _ _ _ [iv z316] _ _
              have T246 := t246
              rw [tkR_F7 hFU29 rfl] at T246
              clear t246
              refine y_if_eq rfl rfl (by unfold rg; omega) (fun w317 => ?_) (fun w318 => ?_)
              · refine y_iload_n rfl rfl ?_
                have n246 := T246.2 (by omega)
                clear T246
                refine y_if_eq rfl rfl (by unfold rg; omega) (fun w319 => ?_) (fun w320 => ?_)
                · refine y_aload_n rfl rfl ?_
                  have n279 : isNow = 0 := by omega
                  refine y_gfr rfl rfl rfl rfl rfl (hHU29.r 904 82 952 rfl) ?_
                  refine y_aload_n rfl rfl ?_
                  refine y_gfi rfl rfl rfl rfl rfl ?_
                  have w321 : (Xi U29 904 93) = (Xi S 904 93) := (show Xi U29 904 93 = Xi U17 904 93 from by rw [eU29]; exact Xi_ne (by omega)).trans ( (show Xi U17 904 93 = Xi T16 904 93 from by rw [eU17]; exact Xi_ne (by omega)).trans ( (show Xi T16 904 93 = Xi T15 904 93 from w198.x _ _ rfl).trans ( (show Xi T15 904 93 = Xi U14 904 93 from w195.x _ _ rfl).trans ( (show Xi U14 904 93 = Xi U13 904 93 from by rw [eU14]; exact Xi_ne (by omega)).trans ((show Xi U13 904 93 = Xi S 904 93 from by rw [eU13]; exact Xi_ne (by omega)))))))
                  rw [w321]
                  refine y_iconst rfl ?_
                  refine y_iastoreP (n := 1700) rfl rfl (by unfold rg; omega) (fun w322 w323 => ?_)
                  obtain ⟨U30, eU30⟩ : ∃ T : sS, T = uI U29 952 (((Xi S 904 93)).toNat) (Int32.ofInt 4) := ⟨_, rfl⟩
                  rw [← eU30]
                  have hHU30 : RI U30 := by rw [eU30]; exact RI_w hHU29
                  have hFU30 : FR md_mo_test__t S U30 := by rw [eU30]; exact FR.wI hFU29 (mdf_i (r := (952, 953, 0, 100000)) (List.mem_of_getElem? (i := 11) rfl) (inR_i (by omega) (by omega) (by omega) (by omega)))
                  have w324 : Xi U30 952 (((Xi S 904 93)).toNat) = 4 := by rw [eU30]; exact Xi_same (by unfold rg; omega)
                  have e298 := eU30
                  refine y_aload_n rfl rfl ?_
                  refine y_gfr rfl rfl rfl rfl rfl (hHU30.r 904 88 958 rfl) ?_
                  refine y_aload_n rfl rfl ?_
                  refine y_gfi rfl rfl rfl rfl rfl ?_
                  have w325 : (Xi U30 904 93) = (Xi S 904 93) := (show Xi U30 904 93 = Xi U29 904 93 from by rw [eU30]; exact Xi_ne (by omega)).trans ( (show Xi U29 904 93 = Xi U17 904 93 from by rw [eU29]; exact Xi_ne (by omega)).trans ( (show Xi U17 904 93 = Xi T16 904 93 from by rw [eU17]; exact Xi_ne (by omega)).trans ( (show Xi T16 904 93 = Xi T15 904 93 from w198.x _ _ rfl).trans ( (show Xi T15 904 93 = Xi U14 904 93 from w195.x _ _ rfl).trans ( (show Xi U14 904 93 = Xi U13 904 93 from by rw [eU14]; exact Xi_ne (by omega)).trans ((show Xi U13 904 93 = Xi S 904 93 from by rw [eU13]; exact Xi_ne (by omega))))))))
                  rw [w325]
                  refine y_aload_n rfl rfl ?_
                  have w326 : Xi U30 904 100 = Xi T15 904 100 := (show Xi U30 904 100 = Xi U29 904 100 from by rw [eU30]; exact Xi_ne (by omega)).trans ( (show Xi U29 904 100 = Xi U17 904 100 from by rw [eU29]; exact Xi_ne (by omega)).trans ( (show Xi U17 904 100 = Xi T16 904 100 from by rw [eU17]; exact Xi_ne (by omega)).trans ((show Xi T16 904 100 = Xi T15 904 100 from w198.x _ _ rfl))))
                  have w327 : Xi U30 904 101 = Xi T15 904 101 := (show Xi U30 904 101 = Xi U29 904 101 from by rw [eU30]; exact Xi_ne (by omega)).trans ( (show Xi U29 904 101 = Xi U17 904 101 from by rw [eU29]; exact Xi_ne (by omega)).trans ( (show Xi U17 904 101 = Xi T16 904 101 from by rw [eU17]; exact Xi_ne (by omega)).trans ((show Xi T16 904 101 = Xi T15 904 101 from w198.x _ _ rfl))))
                  have w328 : Xi U30 904 65 = Xi T16 904 65 := (show Xi U30 904 65 = Xi U29 904 65 from by rw [eU30]; exact Xi_ne (by omega)).trans ( (show Xi U29 904 65 = Xi U17 904 65 from by rw [eU29]; exact Xi_ne (by omega)).trans ((show Xi U17 904 65 = Xi T16 904 65 from by rw [eU17]; exact Xi_ne (by omega))))
                  have w329 : Xi U30 904 69 = Xi T15 904 69 := (show Xi U30 904 69 = Xi U29 904 69 from by rw [eU30]; exact Xi_ne (by omega)).trans ( (show Xi U29 904 69 = Xi U17 904 69 from by rw [eU29]; exact Xi_ne (by omega)).trans ( (show Xi U17 904 69 = Xi T16 904 69 from by rw [eU17]; exact Xi_ne (by omega)).trans ((show Xi T16 904 69 = Xi T15 904 69 from w198.x _ _ rfl))))
                  have w330 : Xi U30 904 8 = Xi U29 904 8 := (show Xi U30 904 8 = Xi U29 904 8 from by rw [eU30]; exact Xi_ne (by omega))
                  have w331 : Xi U30 904 93 = Xi S 904 93 := (show Xi U30 904 93 = Xi U29 904 93 from by rw [eU30]; exact Xi_ne (by omega)).trans ( (show Xi U29 904 93 = Xi U17 904 93 from by rw [eU29]; exact Xi_ne (by omega)).trans ( (show Xi U17 904 93 = Xi T16 904 93 from by rw [eU17]; exact Xi_ne (by omega)).trans ( (show Xi T16 904 93 = Xi T15 904 93 from w198.x _ _ rfl).trans ( (show Xi T15 904 93 = Xi U14 904 93 from w195.x _ _ rfl).trans ( (show Xi U14 904 93 = Xi U13 904 93 from by rw [eU14]; exact Xi_ne (by omega)).trans ((show Xi U13 904 93 = Xi S 904 93 from by rw [eU13]; exact Xi_ne (by omega))))))))
                  have w332 : Xi U30 904 99 = Xi T15 904 99 := (show Xi U30 904 99 = Xi U29 904 99 from by rw [eU30]; exact Xi_ne (by omega)).trans ( (show Xi U29 904 99 = Xi U17 904 99 from by rw [eU29]; exact Xi_ne (by omega)).trans ( (show Xi U17 904 99 = Xi T16 904 99 from by rw [eU17]; exact Xi_ne (by omega)).trans ((show Xi T16 904 99 = Xi T15 904 99 from w198.x _ _ rfl))))
                  refine y_callV rfl rfl rfl (t_mo_placing__t hHU30 _) ?_
                  rintro _ T31 ⟨hHT31, w334, z333, rfl, w333, t308⟩
                  have hFT31 : FR md_mo_test__t S T31 := FR.tr hFU30 w334 rfl
                  show Pl _ _ _ _ _ _ [iv z333, iv (Xi S 904 93), .ref 958] _ _
                  have F308 := (by assumption : FR md_mo_placing__t U30 T31)
                  have T308_ := t308
                  rw [tkR_F7 hFU30 rfl] at T308_
                  clear t308
                  refine y_iastoreP (n := 1700) rfl rfl (by unfold rg; omega) (fun w335 w336 => ?_)
                  obtain ⟨U32, eU32⟩ : ∃ T : sS, T = uI T31 958 (((Xi S 904 93)).toNat) (Int32.ofInt z333) := ⟨_, rfl⟩
                  rw [← eU32]
                  have hHU32 : RI U32 := by rw [eU32]; exact RI_w hHT31
                  have hFU32 : FR md_mo_test__t S U32 := by rw [eU32]; exact FR.wI hFT31 (mdf_i (r := (958, 959, 0, 100000)) (List.mem_of_getElem? (i := 17) rfl) (inR_i (by omega) (by omega) (by omega) (by omega)))
                  have w337 : Xi U32 958 (((Xi S 904 93)).toNat) = z333 := by rw [eU32]; exact Xi_same (by unfold rg; omega)
                  have e311 := eU32
                  refine y_aload_n rfl rfl ?_
                  have w338 : Xi U32 904 100 = Xi T15 904 100 := (show Xi U32 904 100 = Xi T31 904 100 from by rw [eU32]; exact Xi_ne (by omega)).trans ( (show Xi T31 904 100 = Xi U30 904 100 from w334.x _ _ rfl).trans ( (show Xi U30 904 100 = Xi U29 904 100 from by rw [eU30]; exact Xi_ne (by omega)).trans ( (show Xi U29 904 100 = Xi U17 904 100 from by rw [eU29]; exact Xi_ne (by omega)).trans ( (show Xi U17 904 100 = Xi T16 904 100 from by rw [eU17]; exact Xi_ne (by omega)).trans ((show Xi T16 904 100 = Xi T15 904 100 from w198.x _ _ rfl))))))
                  have w339 : Xi U32 904 101 = Xi T15 904 101 := (show Xi U32 904 101 = Xi T31 904 101 from by rw [eU32]; exact Xi_ne (by omega)).trans ( (show Xi T31 904 101 = Xi U30 904 101 from w334.x _ _ rfl).trans ( (show Xi U30 904 101 = Xi U29 904 101 from by rw [eU30]; exact Xi_ne (by omega)).trans ( (show Xi U29 904 101 = Xi U17 904 101 from by rw [eU29]; exact Xi_ne (by omega)).trans ( (show Xi U17 904 101 = Xi T16 904 101 from by rw [eU17]; exact Xi_ne (by omega)).trans ((show Xi T16 904 101 = Xi T15 904 101 from w198.x _ _ rfl))))))
                  have w340 : Xi U32 904 65 = Xi T31 904 65 := (show Xi U32 904 65 = Xi T31 904 65 from by rw [eU32]; exact Xi_ne (by omega))
                  have w341 : Xi U32 904 69 = Xi T15 904 69 := (show Xi U32 904 69 = Xi T31 904 69 from by rw [eU32]; exact Xi_ne (by omega)).trans ( (show Xi T31 904 69 = Xi U30 904 69 from w334.x _ _ rfl).trans ( (show Xi U30 904 69 = Xi U29 904 69 from by rw [eU30]; exact Xi_ne (by omega)).trans ( (show Xi U29 904 69 = Xi U17 904 69 from by rw [eU29]; exact Xi_ne (by omega)).trans ( (show Xi U17 904 69 = Xi T16 904 69 from by rw [eU17]; exact Xi_ne (by omega)).trans ((show Xi T16 904 69 = Xi T15 904 69 from w198.x _ _ rfl))))))
                  have w342 : Xi U32 904 8 = Xi T31 904 8 := (show Xi U32 904 8 = Xi T31 904 8 from by rw [eU32]; exact Xi_ne (by omega))
                  have w343 : Xi U32 904 93 = Xi S 904 93 := (show Xi U32 904 93 = Xi T31 904 93 from by rw [eU32]; exact Xi_ne (by omega)).trans ( (show Xi T31 904 93 = Xi U30 904 93 from w334.x _ _ rfl).trans ( (show Xi U30 904 93 = Xi U29 904 93 from by rw [eU30]; exact Xi_ne (by omega)).trans ( (show Xi U29 904 93 = Xi U17 904 93 from by rw [eU29]; exact Xi_ne (by omega)).trans ( (show Xi U17 904 93 = Xi T16 904 93 from by rw [eU17]; exact Xi_ne (by omega)).trans ( (show Xi T16 904 93 = Xi T15 904 93 from w198.x _ _ rfl).trans ( (show Xi T15 904 93 = Xi U14 904 93 from w195.x _ _ rfl).trans ( (show Xi U14 904 93 = Xi U13 904 93 from by rw [eU14]; exact Xi_ne (by omega)).trans ((show Xi U13 904 93 = Xi S 904 93 from by rw [eU13]; exact Xi_ne (by omega))))))))))
                  have w344 : Xi U32 904 99 = Xi T15 904 99 := (show Xi U32 904 99 = Xi T31 904 99 from by rw [eU32]; exact Xi_ne (by omega)).trans ( (show Xi T31 904 99 = Xi U30 904 99 from w334.x _ _ rfl).trans ( (show Xi U30 904 99 = Xi U29 904 99 from by rw [eU30]; exact Xi_ne (by omega)).trans ( (show Xi U29 904 99 = Xi U17 904 99 from by rw [eU29]; exact Xi_ne (by omega)).trans ( (show Xi U17 904 99 = Xi T16 904 99 from by rw [eU17]; exact Xi_ne (by omega)).trans ((show Xi T16 904 99 = Xi T15 904 99 from w198.x _ _ rfl))))))
                  refine y_callV rfl rfl rfl (t_mo_thing__t hHU32 _) ?_
                  rintro _ T33 ⟨hHT33, w346, rfl, t313, k313⟩
                  have hFT33 : FR md_mo_test__t S T33 := FR.tr hFU32 w346 rfl
                  show Pl _ _ _ _ _ _ [] _ _
                  have F313 := (by assumption : FR md_mo_thing__t U32 T33)
                  have T313_ := t313
                  rw [tkR_F7 hFU32 rfl] at T313_
                  clear t313
                  refine y_aload_n rfl rfl ?_
                  refine y_gfr rfl rfl rfl rfl rfl (hHT33.r 904 89 959 rfl) ?_
                  refine y_aload_n rfl rfl ?_
                  refine y_gfi rfl rfl rfl rfl rfl ?_
                  have w347 : (Xi T33 904 93) = (Xi S 904 93) := (show Xi T33 904 93 = Xi U32 904 93 from w346.x _ _ rfl).trans ( (show Xi U32 904 93 = Xi T31 904 93 from by rw [eU32]; exact Xi_ne (by omega)).trans ( (show Xi T31 904 93 = Xi U30 904 93 from w334.x _ _ rfl).trans ( (show Xi U30 904 93 = Xi U29 904 93 from by rw [eU30]; exact Xi_ne (by omega)).trans ( (show Xi U29 904 93 = Xi U17 904 93 from by rw [eU29]; exact Xi_ne (by omega)).trans ( (show Xi U17 904 93 = Xi T16 904 93 from by rw [eU17]; exact Xi_ne (by omega)).trans ( (show Xi T16 904 93 = Xi T15 904 93 from w198.x _ _ rfl).trans ( (show Xi T15 904 93 = Xi U14 904 93 from w195.x _ _ rfl).trans ( (show Xi U14 904 93 = Xi U13 904 93 from by rw [eU14]; exact Xi_ne (by omega)).trans ((show Xi U13 904 93 = Xi S 904 93 from by rw [eU13]; exact Xi_ne (by omega)))))))))))
                  rw [w347]
                  refine y_aload_n rfl rfl ?_
                  refine y_gfi rfl rfl rfl rfl rfl ?_
                  have w348 : -2147483648 ≤ (Xi T33 904 100) ∧ (Xi T33 904 100) ≤ 2147483647 := Xi_rgI
                  refine y_sipush rfl rfl ?_
                  refine y_imul rfl ?_
                  refine y_aload_n rfl rfl ?_
                  refine y_gfi rfl rfl rfl rfl rfl ?_
                  have w349 : -2147483648 ≤ (Xi T33 904 101) ∧ (Xi T33 904 101) ≤ 2147483647 := Xi_rgI
                  refine y_iadd rfl ?_
                  refine y_iastoreP (n := 1700) rfl rfl (by unfold rg; omega) (fun w350 w351 => ?_)
                  obtain ⟨U34, eU34⟩ : ∃ T : sS, T = uI T33 959 (((Xi S 904 93)).toNat) (Int32.ofInt (((Xi T33 904 100) * 10000) + (Xi T33 904 101))) := ⟨_, rfl⟩
                  rw [← eU34]
                  have hHU34 : RI U34 := by rw [eU34]; exact RI_w hHT33
                  have hFU34 : FR md_mo_test__t S U34 := by rw [eU34]; exact FR.wI hFT33 (mdf_i (r := (959, 960, 0, 100000)) (List.mem_of_getElem? (i := 18) rfl) (inR_i (by omega) (by omega) (by omega) (by omega)))
                  have e337 := eU34
                  refine y_aload_n rfl rfl ?_
                  refine y_gfr rfl rfl rfl rfl rfl (hHU34.r 904 90 960 rfl) ?_
                  refine y_aload_n rfl rfl ?_
                  refine y_gfi rfl rfl rfl rfl rfl ?_
                  have w352 : (Xi U34 904 93) = (Xi S 904 93) := (show Xi U34 904 93 = Xi T33 904 93 from by rw [eU34]; exact Xi_ne (by omega)).trans ( (show Xi T33 904 93 = Xi U32 904 93 from w346.x _ _ rfl).trans ( (show Xi U32 904 93 = Xi T31 904 93 from by rw [eU32]; exact Xi_ne (by omega)).trans ( (show Xi T31 904 93 = Xi U30 904 93 from w334.x _ _ rfl).trans ( (show Xi U30 904 93 = Xi U29 904 93 from by rw [eU30]; exact Xi_ne (by omega)).trans ( (show Xi U29 904 93 = Xi U17 904 93 from by rw [eU29]; exact Xi_ne (by omega)).trans ( (show Xi U17 904 93 = Xi T16 904 93 from by rw [eU17]; exact Xi_ne (by omega)).trans ( (show Xi T16 904 93 = Xi T15 904 93 from w198.x _ _ rfl).trans ( (show Xi T15 904 93 = Xi U14 904 93 from w195.x _ _ rfl).trans ( (show Xi U14 904 93 = Xi U13 904 93 from by rw [eU14]; exact Xi_ne (by omega)).trans ((show Xi U13 904 93 = Xi S 904 93 from by rw [eU13]; exact Xi_ne (by omega))))))))))))
                  rw [w352]
                  refine y_aload_n rfl rfl ?_
                  refine y_gfi rfl rfl rfl rfl rfl ?_
                  have w353 : -2147483648 ≤ (Xi U34 904 99) ∧ (Xi U34 904 99) ≤ 2147483647 := Xi_rgI
                  refine y_iastoreP (n := 1700) rfl rfl (by unfold rg; omega) (fun w354 w355 => ?_)
                  obtain ⟨U35, eU35⟩ : ∃ T : sS, T = uI U34 960 (((Xi S 904 93)).toNat) (Int32.ofInt (Xi U34 904 99)) := ⟨_, rfl⟩
                  rw [← eU35]
                  have hHU35 : RI U35 := by rw [eU35]; exact RI_w hHU34
                  have hFU35 : FR md_mo_test__t S U35 := by rw [eU35]; exact FR.wI hFU34 (mdf_i (r := (960, 961, 0, 100000)) (List.mem_of_getElem? (i := 19) rfl) (inR_i (by omega) (by omega) (by omega) (by omega)))
                  have w356 : Xi U35 960 (((Xi S 904 93)).toNat) = (Xi U34 904 99) := by rw [eU35]; exact Xi_same (by unfold rg; omega)
                  have e350 := eU35
                  have M350 : Hid (TMID S U35 isNow) := mid_l H241.o (Y56.o.1 y241) n165 n279 n246 e298 T308_ F308 (by unfold rg; omega) e311 T313_ F313 k313 e337 e350 (by first | rfl | omega) (by first | rfl | (rw [e337, Xi_ne (by omega)]) | omega) (by omega)
                  have w357 : Xi U35 904 100 = Xi T33 904 100 := (show Xi U35 904 100 = Xi U34 904 100 from by rw [eU35]; exact Xi_ne (by omega)).trans ((show Xi U34 904 100 = Xi T33 904 100 from by rw [eU34]; exact Xi_ne (by omega)))
                  have w358 : Xi U35 904 101 = Xi T33 904 101 := (show Xi U35 904 101 = Xi U34 904 101 from by rw [eU35]; exact Xi_ne (by omega)).trans ((show Xi U34 904 101 = Xi T33 904 101 from by rw [eU34]; exact Xi_ne (by omega)))
                  have w359 : Xi U35 904 65 = Xi T33 904 65 := (show Xi U35 904 65 = Xi U34 904 65 from by rw [eU35]; exact Xi_ne (by omega)).trans ((show Xi U34 904 65 = Xi T33 904 65 from by rw [eU34]; exact Xi_ne (by omega)))
                  have w360 : Xi U35 904 69 = Xi T33 904 69 := (show Xi U35 904 69 = Xi U34 904 69 from by rw [eU35]; exact Xi_ne (by omega)).trans ((show Xi U34 904 69 = Xi T33 904 69 from by rw [eU34]; exact Xi_ne (by omega)))
                  have w361 : Xi U35 904 8 = Xi T33 904 8 := (show Xi U35 904 8 = Xi U34 904 8 from by rw [eU35]; exact Xi_ne (by omega)).trans ((show Xi U34 904 8 = Xi T33 904 8 from by rw [eU34]; exact Xi_ne (by omega)))
                  have w362 : Xi U35 904 93 = Xi S 904 93 := (show Xi U35 904 93 = Xi U34 904 93 from by rw [eU35]; exact Xi_ne (by omega)).trans ( (show Xi U34 904 93 = Xi T33 904 93 from by rw [eU34]; exact Xi_ne (by omega)).trans ( (show Xi T33 904 93 = Xi U32 904 93 from w346.x _ _ rfl).trans ( (show Xi U32 904 93 = Xi T31 904 93 from by rw [eU32]; exact Xi_ne (by omega)).trans ( (show Xi T31 904 93 = Xi U30 904 93 from w334.x _ _ rfl).trans ( (show Xi U30 904 93 = Xi U29 904 93 from by rw [eU30]; exact Xi_ne (by omega)).trans ( (show Xi U29 904 93 = Xi U17 904 93 from by rw [eU29]; exact Xi_ne (by omega)).trans ( (show Xi U17 904 93 = Xi T16 904 93 from by rw [eU17]; exact Xi_ne (by omega)).trans ( (show Xi T16 904 93 = Xi T15 904 93 from w198.x _ _ rfl).trans ( (show Xi T15 904 93 = Xi U14 904 93 from w195.x _ _ rfl).trans ( (show Xi U14 904 93 = Xi U13 904 93 from by rw [eU14]; exact Xi_ne (by omega)).trans ((show Xi U13 904 93 = Xi S 904 93 from by rw [eU13]; exact Xi_ne (by omega)))))))))))))
                  have w363 : Xi U35 904 99 = Xi T33 904 99 := (show Xi U35 904 99 = Xi U34 904 99 from by rw [eU35]; exact Xi_ne (by omega)).trans ((show Xi U34 904 99 = Xi T33 904 99 from by rw [eU34]; exact Xi_ne (by omega)))
                  exact Pl_weak (C351 U35 hHU35 hFU35  (by first | exact M154 | exact M187 | exact M274 | exact M283 | exact M350 | (obtain ⟨x1, x2, x3, x4, x5, x6, x7⟩ := B96.o; exact ⟨fun b => ⟨by omega, Or.inl ⟨Y96.o, x5, x6, by omega, L96.o⟩⟩, x1, x2, x3, x4⟩))) (by omega) (And.intro rfl (And.intro rfl (True.intro)))
                · refine y_aload_n rfl rfl ?_
                  refine y_callV rfl rfl rfl (t_mo_odd__t hHU29 _) ?_
                  rintro _ T36 ⟨hHT36, w372, rfl, t283, w370⟩
                  have hFT36 : FR md_mo_test__t S T36 := FR.tr hFU29 w372 rfl
                  show Pl _ _ _ _ _ _ [] _ _
                  have F283 := (by assumption : FR md_mo_odd__t U29 T36)
                  have M283 : Hid (TMID S T36 isNow) := mid_o H241.o.2.1 H241.o.2.2.1 H241.o.2.2.2.1 H241.o.2.2.2.2 t283 F283
                  refine y_goto rfl rfl ?_
                  have w373 : Xi T36 904 100 = Xi T15 904 100 := (show Xi T36 904 100 = Xi U29 904 100 from w372.x _ _ rfl).trans ( (show Xi U29 904 100 = Xi U17 904 100 from by rw [eU29]; exact Xi_ne (by omega)).trans ( (show Xi U17 904 100 = Xi T16 904 100 from by rw [eU17]; exact Xi_ne (by omega)).trans ((show Xi T16 904 100 = Xi T15 904 100 from w198.x _ _ rfl))))
                  have w374 : Xi T36 904 101 = Xi T15 904 101 := (show Xi T36 904 101 = Xi U29 904 101 from w372.x _ _ rfl).trans ( (show Xi U29 904 101 = Xi U17 904 101 from by rw [eU29]; exact Xi_ne (by omega)).trans ( (show Xi U17 904 101 = Xi T16 904 101 from by rw [eU17]; exact Xi_ne (by omega)).trans ((show Xi T16 904 101 = Xi T15 904 101 from w198.x _ _ rfl))))
                  have w375 : Xi T36 904 69 = Xi T15 904 69 := (show Xi T36 904 69 = Xi U29 904 69 from w372.x _ _ rfl).trans ( (show Xi U29 904 69 = Xi U17 904 69 from by rw [eU29]; exact Xi_ne (by omega)).trans ( (show Xi U17 904 69 = Xi T16 904 69 from by rw [eU17]; exact Xi_ne (by omega)).trans ((show Xi T16 904 69 = Xi T15 904 69 from w198.x _ _ rfl))))
                  have w376 : Xi T36 904 8 = Xi U29 904 8 := (show Xi T36 904 8 = Xi U29 904 8 from w372.x _ _ rfl)
                  have w377 : Xi T36 904 93 = Xi S 904 93 := (show Xi T36 904 93 = Xi U29 904 93 from w372.x _ _ rfl).trans ( (show Xi U29 904 93 = Xi U17 904 93 from by rw [eU29]; exact Xi_ne (by omega)).trans ( (show Xi U17 904 93 = Xi T16 904 93 from by rw [eU17]; exact Xi_ne (by omega)).trans ( (show Xi T16 904 93 = Xi T15 904 93 from w198.x _ _ rfl).trans ( (show Xi T15 904 93 = Xi U14 904 93 from w195.x _ _ rfl).trans ( (show Xi U14 904 93 = Xi U13 904 93 from by rw [eU14]; exact Xi_ne (by omega)).trans ((show Xi U13 904 93 = Xi S 904 93 from by rw [eU13]; exact Xi_ne (by omega))))))))
                  have w378 : Xi T36 904 99 = Xi T15 904 99 := (show Xi T36 904 99 = Xi U29 904 99 from w372.x _ _ rfl).trans ( (show Xi U29 904 99 = Xi U17 904 99 from by rw [eU29]; exact Xi_ne (by omega)).trans ( (show Xi U17 904 99 = Xi T16 904 99 from by rw [eU17]; exact Xi_ne (by omega)).trans ((show Xi T16 904 99 = Xi T15 904 99 from w198.x _ _ rfl))))
                  exact Pl_weak (C351 T36 hHT36 hFT36  (by first | exact M154 | exact M187 | exact M274 | exact M283 | exact M350 | (obtain ⟨x1, x2, x3, x4, x5, x6, x7⟩ := B96.o; exact ⟨fun b => ⟨by omega, Or.inl ⟨Y96.o, x5, x6, by omega, L96.o⟩⟩, x1, x2, x3, x4⟩))) (by omega) (And.intro rfl (And.intro rfl (True.intro)))
              · refine y_aload_n rfl rfl ?_
                refine y_gfr rfl rfl rfl rfl rfl (hHU29.r 904 82 952 rfl) ?_
                refine y_aload_n rfl rfl ?_
                refine y_gfi rfl rfl rfl rfl rfl ?_
                have w379 : (Xi U29 904 93) = (Xi S 904 93) := (show Xi U29 904 93 = Xi U17 904 93 from by rw [eU29]; exact Xi_ne (by omega)).trans ( (show Xi U17 904 93 = Xi T16 904 93 from by rw [eU17]; exact Xi_ne (by omega)).trans ( (show Xi T16 904 93 = Xi T15 904 93 from w198.x _ _ rfl).trans ( (show Xi T15 904 93 = Xi U14 904 93 from w195.x _ _ rfl).trans ( (show Xi U14 904 93 = Xi U13 904 93 from by rw [eU14]; exact Xi_ne (by omega)).trans ((show Xi U13 904 93 = Xi S 904 93 from by rw [eU13]; exact Xi_ne (by omega)))))))
                rw [w379]
                refine y_iconst rfl ?_
                refine y_iastoreP (n := 1700) rfl rfl (by unfold rg; omega) (fun w380 w381 => ?_)
                obtain ⟨U37, eU37⟩ : ∃ T : sS, T = uI U29 952 (((Xi S 904 93)).toNat) (Int32.ofInt 3) := ⟨_, rfl⟩
                rw [← eU37]
                have hHU37 : RI U37 := by rw [eU37]; exact RI_w hHU29
                have hFU37 : FR md_mo_test__t S U37 := by rw [eU37]; exact FR.wI hFU29 (mdf_i (r := (952, 953, 0, 100000)) (List.mem_of_getElem? (i := 11) rfl) (inR_i (by omega) (by omega) (by omega) (by omega)))
                have w382 : Xi U37 952 (((Xi S 904 93)).toNat) = 3 := by rw [eU37]; exact Xi_same (by unfold rg; omega)
                have e261 := eU37
                refine y_aload_n rfl rfl ?_
                refine y_gfr rfl rfl rfl rfl rfl (hHU37.r 904 86 956 rfl) ?_
                refine y_aload_n rfl rfl ?_
                refine y_gfi rfl rfl rfl rfl rfl ?_
                have w383 : (Xi U37 904 93) = (Xi S 904 93) := (show Xi U37 904 93 = Xi U29 904 93 from by rw [eU37]; exact Xi_ne (by omega)).trans ( (show Xi U29 904 93 = Xi U17 904 93 from by rw [eU29]; exact Xi_ne (by omega)).trans ( (show Xi U17 904 93 = Xi T16 904 93 from by rw [eU17]; exact Xi_ne (by omega)).trans ( (show Xi T16 904 93 = Xi T15 904 93 from w198.x _ _ rfl).trans ( (show Xi T15 904 93 = Xi U14 904 93 from w195.x _ _ rfl).trans ( (show Xi U14 904 93 = Xi U13 904 93 from by rw [eU14]; exact Xi_ne (by omega)).trans ((show Xi U13 904 93 = Xi S 904 93 from by rw [eU13]; exact Xi_ne (by omega))))))))
                rw [w383]
                refine y_aload_n rfl rfl ?_
                have w384 : Xi U37 904 100 = Xi T15 904 100 := (show Xi U37 904 100 = Xi U29 904 100 from by rw [eU37]; exact Xi_ne (by omega)).trans ( (show Xi U29 904 100 = Xi U17 904 100 from by rw [eU29]; exact Xi_ne (by omega)).trans ( (show Xi U17 904 100 = Xi T16 904 100 from by rw [eU17]; exact Xi_ne (by omega)).trans ((show Xi T16 904 100 = Xi T15 904 100 from w198.x _ _ rfl))))
                have w385 : Xi U37 904 101 = Xi T15 904 101 := (show Xi U37 904 101 = Xi U29 904 101 from by rw [eU37]; exact Xi_ne (by omega)).trans ( (show Xi U29 904 101 = Xi U17 904 101 from by rw [eU29]; exact Xi_ne (by omega)).trans ( (show Xi U17 904 101 = Xi T16 904 101 from by rw [eU17]; exact Xi_ne (by omega)).trans ((show Xi T16 904 101 = Xi T15 904 101 from w198.x _ _ rfl))))
                have w386 : Xi U37 904 65 = Xi T16 904 65 := (show Xi U37 904 65 = Xi U29 904 65 from by rw [eU37]; exact Xi_ne (by omega)).trans ( (show Xi U29 904 65 = Xi U17 904 65 from by rw [eU29]; exact Xi_ne (by omega)).trans ((show Xi U17 904 65 = Xi T16 904 65 from by rw [eU17]; exact Xi_ne (by omega))))
                have w387 : Xi U37 904 69 = Xi T15 904 69 := (show Xi U37 904 69 = Xi U29 904 69 from by rw [eU37]; exact Xi_ne (by omega)).trans ( (show Xi U29 904 69 = Xi U17 904 69 from by rw [eU29]; exact Xi_ne (by omega)).trans ( (show Xi U17 904 69 = Xi T16 904 69 from by rw [eU17]; exact Xi_ne (by omega)).trans ((show Xi T16 904 69 = Xi T15 904 69 from w198.x _ _ rfl))))
                have w388 : Xi U37 904 8 = Xi U29 904 8 := (show Xi U37 904 8 = Xi U29 904 8 from by rw [eU37]; exact Xi_ne (by omega))
                have w389 : Xi U37 904 93 = Xi S 904 93 := (show Xi U37 904 93 = Xi U29 904 93 from by rw [eU37]; exact Xi_ne (by omega)).trans ( (show Xi U29 904 93 = Xi U17 904 93 from by rw [eU29]; exact Xi_ne (by omega)).trans ( (show Xi U17 904 93 = Xi T16 904 93 from by rw [eU17]; exact Xi_ne (by omega)).trans ( (show Xi T16 904 93 = Xi T15 904 93 from w198.x _ _ rfl).trans ( (show Xi T15 904 93 = Xi U14 904 93 from w195.x _ _ rfl).trans ( (show Xi U14 904 93 = Xi U13 904 93 from by rw [eU14]; exact Xi_ne (by omega)).trans ((show Xi U13 904 93 = Xi S 904 93 from by rw [eU13]; exact Xi_ne (by omega))))))))
                have w390 : Xi U37 904 99 = Xi T15 904 99 := (show Xi U37 904 99 = Xi U29 904 99 from by rw [eU37]; exact Xi_ne (by omega)).trans ( (show Xi U29 904 99 = Xi U17 904 99 from by rw [eU29]; exact Xi_ne (by omega)).trans ( (show Xi U17 904 99 = Xi T16 904 99 from by rw [eU17]; exact Xi_ne (by omega)).trans ((show Xi T16 904 99 = Xi T15 904 99 from w198.x _ _ rfl))))
                refine y_callV rfl rfl rfl (t_mo_run__t hHU37 _) ?_
                rintro _ T38 ⟨hHT38, w392, z391, rfl, w391, t271, k271⟩
                have hFT38 : FR md_mo_test__t S T38 := FR.tr hFU37 w392 rfl
                show Pl _ _ _ _ _ _ [iv z391, iv (Xi S 904 93), .ref 956] _ _
                have F271 := (by assumption : FR md_mo_run__t U37 T38)
                have T271_ := t271
                rw [tkR_F7 hFU37 rfl] at T271_
                clear t271
                refine y_iastoreP (n := 1700) rfl rfl (by unfold rg; omega) (fun w393 w394 => ?_)
                obtain ⟨U39, eU39⟩ : ∃ T : sS, T = uI T38 956 (((Xi S 904 93)).toNat) (Int32.ofInt z391) := ⟨_, rfl⟩
                rw [← eU39]
                have hHU39 : RI U39 := by rw [eU39]; exact RI_w hHT38
                have hFU39 : FR md_mo_test__t S U39 := by rw [eU39]; exact FR.wI hFT38 (mdf_i (r := (956, 957, 0, 100000)) (List.mem_of_getElem? (i := 15) rfl) (inR_i (by omega) (by omega) (by omega) (by omega)))
                have w395 : Xi U39 956 (((Xi S 904 93)).toNat) = z391 := by rw [eU39]; exact Xi_same (by unfold rg; omega)
                have e274 := eU39
                have M274 : Hid (TMID S U39 isNow) := mid_r H241.o (Y56.o.1 y241) n165 ⟨(T246.1 (by omega)).1, (T246.1 (by omega)).2.1⟩ e261 T271_ F271 k271 (by unfold rg; omega) e274 (by omega)
                refine y_goto rfl rfl ?_
                have w396 : Xi U39 904 100 = Xi T15 904 100 := (show Xi U39 904 100 = Xi T38 904 100 from by rw [eU39]; exact Xi_ne (by omega)).trans ( (show Xi T38 904 100 = Xi U37 904 100 from w392.x _ _ rfl).trans ( (show Xi U37 904 100 = Xi U29 904 100 from by rw [eU37]; exact Xi_ne (by omega)).trans ( (show Xi U29 904 100 = Xi U17 904 100 from by rw [eU29]; exact Xi_ne (by omega)).trans ( (show Xi U17 904 100 = Xi T16 904 100 from by rw [eU17]; exact Xi_ne (by omega)).trans ((show Xi T16 904 100 = Xi T15 904 100 from w198.x _ _ rfl))))))
                have w397 : Xi U39 904 101 = Xi T15 904 101 := (show Xi U39 904 101 = Xi T38 904 101 from by rw [eU39]; exact Xi_ne (by omega)).trans ( (show Xi T38 904 101 = Xi U37 904 101 from w392.x _ _ rfl).trans ( (show Xi U37 904 101 = Xi U29 904 101 from by rw [eU37]; exact Xi_ne (by omega)).trans ( (show Xi U29 904 101 = Xi U17 904 101 from by rw [eU29]; exact Xi_ne (by omega)).trans ( (show Xi U17 904 101 = Xi T16 904 101 from by rw [eU17]; exact Xi_ne (by omega)).trans ((show Xi T16 904 101 = Xi T15 904 101 from w198.x _ _ rfl))))))
                have w398 : Xi U39 904 65 = Xi T38 904 65 := (show Xi U39 904 65 = Xi T38 904 65 from by rw [eU39]; exact Xi_ne (by omega))
                have w399 : Xi U39 904 69 = Xi T38 904 69 := (show Xi U39 904 69 = Xi T38 904 69 from by rw [eU39]; exact Xi_ne (by omega))
                have w400 : Xi U39 904 8 = Xi T38 904 8 := (show Xi U39 904 8 = Xi T38 904 8 from by rw [eU39]; exact Xi_ne (by omega))
                have w401 : Xi U39 904 93 = Xi S 904 93 := (show Xi U39 904 93 = Xi T38 904 93 from by rw [eU39]; exact Xi_ne (by omega)).trans ( (show Xi T38 904 93 = Xi U37 904 93 from w392.x _ _ rfl).trans ( (show Xi U37 904 93 = Xi U29 904 93 from by rw [eU37]; exact Xi_ne (by omega)).trans ( (show Xi U29 904 93 = Xi U17 904 93 from by rw [eU29]; exact Xi_ne (by omega)).trans ( (show Xi U17 904 93 = Xi T16 904 93 from by rw [eU17]; exact Xi_ne (by omega)).trans ( (show Xi T16 904 93 = Xi T15 904 93 from w198.x _ _ rfl).trans ( (show Xi T15 904 93 = Xi U14 904 93 from w195.x _ _ rfl).trans ( (show Xi U14 904 93 = Xi U13 904 93 from by rw [eU14]; exact Xi_ne (by omega)).trans ((show Xi U13 904 93 = Xi S 904 93 from by rw [eU13]; exact Xi_ne (by omega))))))))))
                have w402 : Xi U39 904 99 = Xi T15 904 99 := (show Xi U39 904 99 = Xi T38 904 99 from by rw [eU39]; exact Xi_ne (by omega)).trans ( (show Xi T38 904 99 = Xi U37 904 99 from w392.x _ _ rfl).trans ( (show Xi U37 904 99 = Xi U29 904 99 from by rw [eU37]; exact Xi_ne (by omega)).trans ( (show Xi U29 904 99 = Xi U17 904 99 from by rw [eU29]; exact Xi_ne (by omega)).trans ( (show Xi U17 904 99 = Xi T16 904 99 from by rw [eU17]; exact Xi_ne (by omega)).trans ((show Xi T16 904 99 = Xi T15 904 99 from w198.x _ _ rfl))))))
                exact Pl_weak (C351 U39 hHU39 hFU39  (by first | exact M154 | exact M187 | exact M274 | exact M283 | exact M350 | (obtain ⟨x1, x2, x3, x4, x5, x6, x7⟩ := B96.o; exact ⟨fun b => ⟨by omega, Or.inl ⟨Y96.o, x5, x6, by omega, L96.o⟩⟩, x1, x2, x3, x4⟩))) (by omega) (And.intro rfl (And.intro rfl (True.intro)))
          · refine y_aload_n rfl rfl ?_
            have n165 := T165.1 (by omega)
            clear T165
            refine y_callV rfl rfl rfl (t_mo_property__t hHU14 _) ?_
            rintro _ T40 ⟨hHT40, w411, rfl, t172, k172, r172⟩
            have hFT40 : FR md_mo_test__t S T40 := FR.tr hFU14 w411 rfl
            show Pl _ _ _ _ _ _ [] _ _
            have F172 := (by assumption : FR md_mo_property__t U14 T40)
            have T172_ := t172
            rw [tkR_F7 hFU14 rfl] at T172_
            rw [show Xi U14 904 93 = Xi S 904 93 by omega] at T172_
            clear t172
            refine y_aload_n rfl rfl ?_
            have w412 : Xi T40 904 100 = Xi S 904 100 := (show Xi T40 904 100 = Xi U14 904 100 from w411.x _ _ rfl).trans ( (show Xi U14 904 100 = Xi U13 904 100 from by rw [eU14]; exact Xi_ne (by omega)).trans ((show Xi U13 904 100 = Xi S 904 100 from by rw [eU13]; exact Xi_ne (by omega))))
            have w413 : Xi T40 904 101 = Xi S 904 101 := (show Xi T40 904 101 = Xi U14 904 101 from w411.x _ _ rfl).trans ( (show Xi U14 904 101 = Xi U13 904 101 from by rw [eU14]; exact Xi_ne (by omega)).trans ((show Xi U13 904 101 = Xi S 904 101 from by rw [eU13]; exact Xi_ne (by omega))))
            have w414 : Xi T40 904 93 = Xi S 904 93 := (show Xi T40 904 93 = Xi U14 904 93 from w411.x _ _ rfl).trans ( (show Xi U14 904 93 = Xi U13 904 93 from by rw [eU14]; exact Xi_ne (by omega)).trans ((show Xi U13 904 93 = Xi S 904 93 from by rw [eU13]; exact Xi_ne (by omega))))
            have w415 : Xi T40 904 99 = Xi S 904 99 := (show Xi T40 904 99 = Xi U14 904 99 from w411.x _ _ rfl).trans ( (show Xi U14 904 99 = Xi U13 904 99 from by rw [eU14]; exact Xi_ne (by omega)).trans ((show Xi U13 904 99 = Xi S 904 99 from by rw [eU13]; exact Xi_ne (by omega))))
            refine y_callV rfl rfl rfl (t_mo_thingOfTest__t hHT40 _) ?_
            rintro _ T41 ⟨hHT41, w417, rfl, t176, k176, r176⟩
            have hFT41 : FR md_mo_test__t S T41 := FR.tr hFT40 w417 rfl
            show Pl _ _ _ _ _ _ [] _ _
            have F176 := (by assumption : FR md_mo_thingOfTest__t T40 T41)
            have T176_ := t176
            rw [tkR_F7 hFT40 rfl] at T176_
            rw [show Xi T40 904 93 = Xi S 904 93 by omega] at T176_
            clear t176
            refine y_aload_n rfl rfl ?_
            refine y_bipush rfl rfl ?_
            have w418 : Xi T41 904 93 = Xi S 904 93 := (show Xi T41 904 93 = Xi T40 904 93 from w417.x _ _ rfl).trans ( (show Xi T40 904 93 = Xi U14 904 93 from w411.x _ _ rfl).trans ( (show Xi U14 904 93 = Xi U13 904 93 from by rw [eU14]; exact Xi_ne (by omega)).trans ((show Xi U13 904 93 = Xi S 904 93 from by rw [eU13]; exact Xi_ne (by omega)))))
            refine y_callV rfl rfl rfl (t_mo_take__t hHT41 104 ⟨by omega, by omega⟩ _) ?_
            rintro _ T42 ⟨hHT42, w420, rfl, t182⟩
            have hFT42 : FR md_mo_test__t S T42 := FR.tr hFT41 w420 rfl
            show Pl _ _ _ _ _ _ [] _ _
            have F182 := (by assumption : FR md_mo_take__t T41 T42)
            have T182_ := t182
            rw [tkR_F7 hFT41 rfl] at T182_
            clear t182
            refine y_aload_n rfl rfl ?_
            refine y_iload_n rfl rfl ?_
            have w421 : Xi T42 904 100 = Xi T41 904 100 := (show Xi T42 904 100 = Xi T41 904 100 from w420.x _ _ rfl)
            have w422 : Xi T42 904 101 = Xi T41 904 101 := (show Xi T42 904 101 = Xi T41 904 101 from w420.x _ _ rfl)
            have w423 : Xi T42 904 69 = Xi T41 904 69 := (show Xi T42 904 69 = Xi T41 904 69 from w420.x _ _ rfl)
            have w424 : Xi T42 904 93 = Xi S 904 93 := (show Xi T42 904 93 = Xi T41 904 93 from w420.x _ _ rfl).trans ( (show Xi T41 904 93 = Xi T40 904 93 from w417.x _ _ rfl).trans ( (show Xi T40 904 93 = Xi U14 904 93 from w411.x _ _ rfl).trans ( (show Xi U14 904 93 = Xi U13 904 93 from by rw [eU14]; exact Xi_ne (by omega)).trans ((show Xi U13 904 93 = Xi S 904 93 from by rw [eU13]; exact Xi_ne (by omega))))))
            have w425 : Xi T42 904 99 = Xi T41 904 99 := (show Xi T42 904 99 = Xi T41 904 99 from w420.x _ _ rfl)
            refine y_callV rfl rfl rfl (t_mo_testedWhat__t hHT42 isNow ⟨by omega, by omega⟩ (by have a := k172.1; have b := k176.1; omega) _) ?_
            rintro _ T43 ⟨hHT43, w427, rfl, t187, k187, r187⟩
            have hFT43 : FR md_mo_test__t S T43 := FR.tr hFT42 w427 rfl
            show Pl _ _ _ _ _ _ [] _ _
            have F187 := (by assumption : FR md_mo_testedWhat__t T42 T43)
            have T187_ := t187
            rw [tkR_F7 hFT42 rfl] at T187_
            rw [show Xi T42 904 93 = Xi S 904 93 by omega] at T187_
            clear t187
            have M187 : Hid (TMID S T43 isNow) := mid_p ⟨a75, b75, c75⟩ f75 k75 q75 (Y56.o.1 (by omega)) n165 T172_ F172 k172 r172 T176_ F176 k176 r176 T182_ F182 T187_ F187 k187 r187
            refine y_goto rfl rfl ?_
            have w428 : Xi T43 904 100 = Xi T41 904 100 := (show Xi T43 904 100 = Xi T42 904 100 from w427.x _ _ rfl).trans ((show Xi T42 904 100 = Xi T41 904 100 from w420.x _ _ rfl))
            have w429 : Xi T43 904 101 = Xi T41 904 101 := (show Xi T43 904 101 = Xi T42 904 101 from w427.x _ _ rfl).trans ((show Xi T42 904 101 = Xi T41 904 101 from w420.x _ _ rfl))
            have w430 : Xi T43 904 93 = Xi S 904 93 := (show Xi T43 904 93 = Xi T42 904 93 from w427.x _ _ rfl).trans ( (show Xi T42 904 93 = Xi T41 904 93 from w420.x _ _ rfl).trans ( (show Xi T41 904 93 = Xi T40 904 93 from w417.x _ _ rfl).trans ( (show Xi T40 904 93 = Xi U14 904 93 from w411.x _ _ rfl).trans ( (show Xi U14 904 93 = Xi U13 904 93 from by rw [eU14]; exact Xi_ne (by omega)).trans ((show Xi U13 904 93 = Xi S 904 93 from by rw [eU13]; exact Xi_ne (by omega)))))))
            have w431 : Xi T43 904 99 = Xi T41 904 99 := (show Xi T43 904 99 = Xi T42 904 99 from w427.x _ _ rfl).trans ((show Xi T42 904 99 = Xi T41 904 99 from w420.x _ _ rfl))
            exact Pl_weak (C351 T43 hHT43 hFT43  (by first | exact M154 | exact M187 | exact M274 | exact M283 | exact M350 | (obtain ⟨x1, x2, x3, x4, x5, x6, x7⟩ := B96.o; exact ⟨fun b => ⟨by omega, Or.inl ⟨Y96.o, x5, x6, by omega, L96.o⟩⟩, x1, x2, x3, x4⟩))) (by omega) (And.intro rfl (And.intro rfl (True.intro)))
        · refine y_aload_n rfl rfl ?_
          refine y_gfr rfl rfl rfl rfl rfl (hHU14.r 904 82 952 rfl) ?_
          refine y_aload_n rfl rfl ?_
          refine y_gfi rfl rfl rfl rfl rfl ?_
          have w432 : (Xi U14 904 93) = (Xi S 904 93) := (show Xi U14 904 93 = Xi U13 904 93 from by rw [eU14]; exact Xi_ne (by omega)).trans ((show Xi U13 904 93 = Xi S 904 93 from by rw [eU13]; exact Xi_ne (by omega)))
          rw [w432]
          refine y_iconst rfl ?_
          refine y_iastoreP (n := 1700) rfl rfl (by unfold rg; omega) (fun w433 w434 => ?_)
          obtain ⟨U44, eU44⟩ : ∃ T : sS, T = uI U14 952 (((Xi S 904 93)).toNat) (Int32.ofInt 5) := ⟨_, rfl⟩
          rw [← eU44]
          have hHU44 : RI U44 := by rw [eU44]; exact RI_w hHU14
          have hFU44 : FR md_mo_test__t S U44 := by rw [eU44]; exact FR.wI hFU14 (mdf_i (r := (952, 953, 0, 100000)) (List.mem_of_getElem? (i := 11) rfl) (inR_i (by omega) (by omega) (by omega) (by omega)))
          have w435 : Xi U44 952 (((Xi S 904 93)).toNat) = 5 := by rw [eU44]; exact Xi_same (by unfold rg; omega)
          have e89 := eU44
          have B89 : Hid (RUNK S U44 ∧ KTE S U44 ∧ Xi U44 904 93 = Xi S 904 93 ∧ Xi U44 961 (Xi S 904 93).toNat = Xi S 904 8 ∧ Xi U44 952 (Xi S 904 93).toNat = 5 ∧ Xi U44 953 (Xi S 904 93).toNat = 0 ∧ Xi U44 904 65 = Xi S 904 65) := ⟨runk_w e89 (by omega) k75, kte_w e89 (by omega) q75, by rw [e89, Xi_ne (by omega)]; exact c75, by rw [e89, Xi_ne (by omega)]; exact f75.1, xi_of e89 (by unfold rg; omega), by rw [e89, Xi_ne (by omega)]; exact f75.2, by rw [e89, Xi_ne (by omega)]; exact b75⟩
          have a89 : Xi U44 904 8 = Xi S 904 8 := by rw [e89, Xi_ne (by omega)]; exact a75
          refine y_aload_n rfl rfl ?_
          have w438 : Xi U44 904 65 = Xi S 904 65 := (show Xi U44 904 65 = Xi U14 904 65 from by rw [eU44]; exact Xi_ne (by omega)).trans ( (show Xi U14 904 65 = Xi U13 904 65 from by rw [eU14]; exact Xi_ne (by omega)).trans ((show Xi U13 904 65 = Xi S 904 65 from by rw [eU13]; exact Xi_ne (by omega))))
          have w440 : Xi U44 904 8 = Xi S 904 8 := (show Xi U44 904 8 = Xi U14 904 8 from by rw [eU44]; exact Xi_ne (by omega)).trans ( (show Xi U14 904 8 = Xi U13 904 8 from by rw [eU14]; exact Xi_ne (by omega)).trans ((show Xi U13 904 8 = Xi S 904 8 from by rw [eU13]; exact Xi_ne (by omega))))
          refine y_callV rfl rfl rfl (t_mo_look__t hHU44 _) ?_
          rintro _ _ ⟨rfl, z443, rfl, w443, t91⟩
          show Pl _ _ _ _ _ _ [iv z443] _ _
          have T91 := t91
          rw [tkR_F7 hFU44 rfl] at T91
          clear t91
          refine y_istore rfl rfl rfl ?_
          have w444 : Xi U44 904 100 = Xi S 904 100 := (show Xi U44 904 100 = Xi U14 904 100 from by rw [eU44]; exact Xi_ne (by omega)).trans ( (show Xi U14 904 100 = Xi U13 904 100 from by rw [eU14]; exact Xi_ne (by omega)).trans ((show Xi U13 904 100 = Xi S 904 100 from by rw [eU13]; exact Xi_ne (by omega))))
          have w445 : Xi U44 904 101 = Xi S 904 101 := (show Xi U44 904 101 = Xi U14 904 101 from by rw [eU44]; exact Xi_ne (by omega)).trans ( (show Xi U14 904 101 = Xi U13 904 101 from by rw [eU14]; exact Xi_ne (by omega)).trans ((show Xi U13 904 101 = Xi S 904 101 from by rw [eU13]; exact Xi_ne (by omega))))
          have w447 : Xi U44 904 69 = Xi S 904 69 := (show Xi U44 904 69 = Xi U14 904 69 from by rw [eU44]; exact Xi_ne (by omega)).trans ( (show Xi U14 904 69 = Xi U13 904 69 from by rw [eU14]; exact Xi_ne (by omega)).trans ((show Xi U13 904 69 = Xi S 904 69 from by rw [eU13]; exact Xi_ne (by omega))))
          have w449 : Xi U44 904 93 = Xi S 904 93 := (show Xi U44 904 93 = Xi U14 904 93 from by rw [eU44]; exact Xi_ne (by omega)).trans ( (show Xi U14 904 93 = Xi U13 904 93 from by rw [eU14]; exact Xi_ne (by omega)).trans ((show Xi U13 904 93 = Xi S 904 93 from by rw [eU13]; exact Xi_ne (by omega))))
          have w450 : Xi U44 904 99 = Xi S 904 99 := (show Xi U44 904 99 = Xi U14 904 99 from by rw [eU44]; exact Xi_ne (by omega)).trans ( (show Xi U14 904 99 = Xi U13 904 99 from by rw [eU14]; exact Xi_ne (by omega)).trans ((show Xi U13 904 99 = Xi S 904 99 from by rw [eU13]; exact Xi_ne (by omega))))
          exact Pl_weak (C96 n13 (by omega) U44 hHU44 hFU44 (v2) (z443) (by omega) (by omega) (by omega) (by omega) (by omega) (by first | exact Y96 | exact Y56.o.2 (by omega)) (by first | exact T137 | exact T91) (by first | exact B133 | exact B89) (by first | exact L133 | exact fun i x y => absurd x (by omega))) (by omega) (And.intro rfl (And.intro rfl (And.intro rfl (And.intro rfl (True.intro)))))
      · refine y_iload_n rfl rfl ?_
        refine y_if_ne rfl rfl (by unfold rg; omega) (fun w451 => ?_) (fun w452 => ?_)
        · refine y_iconst rfl ?_
          refine y_goto rfl rfl ?_
          refine y_istore_n rfl rfl rfl ?_
          have L49 : Hid (ISL (tkR S) isNow (Xi S 904 8) (v4 + 1) 1) := isl_s I13.o v20 (t22.2 (by omega)) (by first | exact (if_pos (by omega)).symm | exact (if_neg (by omega)).symm)
          refine y_iinc rfl rfl rfl rfl ?_
          refine y_goto rfl rfl ?_
          exact Pl_weak (ih13 (by omega) (v2) (1) ((v4 + 1)) (by omega) (by omega) (by omega) (by omega) (by omega) (by first | exact L49 | exact isl_0)) (by omega) (And.intro rfl (And.intro rfl (And.intro rfl (And.intro rfl (And.intro rfl (True.intro))))))
        · refine y_aload_n rfl rfl ?_
          refine y_gfr rfl rfl rfl rfl rfl (hH.r 904 4 907 rfl) ?_
          refine y_iload rfl rfl ?_
          refine y_ialoadP (n := 5002) rfl rfl (by unfold rg; omega) (fun w453 w454 => ?_)
          have v38 : (Xi S 907 ((v4).toNat)) = tkR S v4 := rfl
          refine y_bipush rfl rfl ?_
          refine y_icmp_ne rfl rfl (by unfold rg; omega) (by unfold rg; omega) (fun w455 => ?_) (fun w456 => ?_)
          · refine y_iconst rfl ?_
            refine y_istore_n rfl rfl rfl ?_
            have L49 : Hid (ISL (tkR S) isNow (Xi S 904 8) (v4 + 1) 0) := isl_s I13.o v20 (t22.2 (by omega)) (by first | exact (if_pos (by omega)).symm | exact (if_neg (by omega)).symm)
            refine y_iinc rfl rfl rfl rfl ?_
            refine y_goto rfl rfl ?_
            exact Pl_weak (ih13 (by omega) (v2) (0) ((v4 + 1)) (by omega) (by omega) (by omega) (by omega) (by omega) (by first | exact L49 | exact isl_0)) (by omega) (And.intro rfl (And.intro rfl (And.intro rfl (And.intro rfl (And.intro rfl (True.intro))))))
          · refine y_iconst rfl ?_
            refine y_goto rfl rfl ?_
            refine y_istore_n rfl rfl rfl ?_
            have L49 : Hid (ISL (tkR S) isNow (Xi S 904 8) (v4 + 1) 1) := isl_s I13.o v20 (t22.2 (by omega)) (by first | exact (if_pos (by omega)).symm | exact (if_neg (by omega)).symm)
            refine y_iinc rfl rfl rfl rfl ?_
            refine y_goto rfl rfl ?_
            exact Pl_weak (ih13 (by omega) (v2) (1) ((v4 + 1)) (by omega) (by omega) (by omega) (by omega) (by omega) (by first | exact L49 | exact isl_0)) (by omega) (And.intro rfl (And.intro rfl (And.intro rfl (And.intro rfl (And.intro rfl (True.intro))))))
  refine y_aload_n rfl rfl ?_
  refine y_gfi rfl rfl rfl rfl rfl ?_
  refine y_istore_n rfl rfl rfl ?_
  refine y_iconst rfl ?_
  refine y_istore_n rfl rfl rfl ?_
  refine y_aload_n rfl rfl ?_
  refine y_gfi rfl rfl rfl rfl rfl ?_
  refine y_istore rfl rfl rfl ?_
  exact Pl_weak (C13 fu (by omega) ((Xi S 904 8)) (0) ((Xi S 904 8)) (by omega) (by omega) (by omega) (by omega) (by omega) (by first | exact L49 | exact isl_0)) (by omega) (And.intro rfl (And.intro rfl (And.intro rfl (And.intro rfl (And.intro rfl (True.intro))))))
end
section
/-! the reference's reading: what is kept of TESTS -/
def TSQ (T : Int → Int) (V : sS) (c : Nat) (p : Int) : Nat → Int → Prop
  | 0, _ => False
  | 1, e => TSTR T V c p e 0
  | n + 2, e => ∃ q : Int, TSQ T V c p (n + 1) q ∧ T q = 116 ∧ TSTR T V (c + (n + 1)) (q + 1) e 0
theorem tsq_k {T : Int → Int} {V W : sS} {c : Nat} {p : Int} (k : RUNK V W) : ∀ (n : Nat) {e : Int}, (∀ z i : Nat, 952 ≤ z → z ≤ 962 → i < c + n → Xi W z i = Xi V z i) → TSQ T V c p n e → TSQ T W c p n e
  | 0, e, _, h => h
  | 1, e, x, h => tstr_k h k (fun z a b => x z c a b (by omega))
  | n + 2, e, x, ⟨q, h1, h2, h3⟩ => ⟨q, tsq_k k (n + 1) (fun z i a b d => x z i a b (by omega)) h1, h2, tstr_k h3 k (fun z a b => x z _ a b (by omega))⟩
def TS5 (S V : sS) : Prop := (Xi V 904 65 = 0 → Xi S 904 65 = 0 ∧ ∃ n : Nat, 0 < n ∧ TSQ (tkR S) V (Xi S 904 93).toNat (Xi S 904 8) n (Xi V 904 8) ∧ Xi V 904 93 = Xi S 904 93 + n) ∧ RUNK S V ∧ KTE S V ∧ Xi S 904 93 ≤ Xi V 904 93
theorem ts5_1 {S V : sS} (t : Xi V 904 65 = 0 → Xi S 904 65 = 0 ∧ TSTR (tkR S) V (Xi S 904 93).toNat (Xi S 904 8) (Xi V 904 8) 0) (k : RUNK S V) (q : KTE S V) (c : Xi V 904 93 = Xi S 904 93 + 1) : TS5 S V :=
  ⟨fun b => ⟨(t b).1, 1, by decide, (t b).2, by rw [c]; rfl⟩, k, q, by omega⟩
theorem ts5_s {S V U W : sS} {x : Int} (h : TS5 S V) (h93 : 0 ≤ Xi S 904 93) (i : Xi V 904 65 = 0 ∧ tkR S (Xi V 904 8) = 116 ∧ 0 ≤ Xi V 904 8 ∧ Xi V 904 8 ≤ 5001) (e : U = uI V 904 8 (Int32.ofInt x)) (hx : x = Xi V 904 8 + 1) (t : Xi W 904 65 = 0 → Xi U 904 65 = 0 ∧ TSTR (tkR S) W (Xi U 904 93).toNat (Xi U 904 8) (Xi W 904 8) 0) (k : RUNK U W) (q : KTE U W) (c : Xi W 904 93 = Xi U 904 93 + 1) : TS5 S W := by
  obtain ⟨h1, h2, h3, h4⟩ := h
  have kU : RUNK V U := runk_w e (by omega) RUNK.rf
  have cU : Xi U 904 93 = Xi V 904 93 := by rw [e, Xi_ne (by omega)]
  have aU : Xi U 904 8 = Xi V 904 8 + 1 := by rw [e, Xi_same (by rw [hx]; exact ⟨by omega, by omega⟩)]; exact hx
  refine ⟨fun b => ?_, h2.tr (kU.tr k), kte_t (kte_w e (by omega) h3) q (by omega), by omega⟩
  obtain ⟨b1, b2⟩ := t b
  obtain ⟨a1, n, a2, a3, a4⟩ := h1 i.1
  rw [cU, aU] at b2
  cases n with
  | zero => exact absurd a2 (by decide)
  | succ n =>
    refine ⟨a1, n + 2, by omega, ⟨Xi V 904 8, tsq_k (kU.tr k) (n + 1) (fun z i p r d => ?_) a3, i.2.1, ?_⟩, by omega⟩
    · rw [q z i p r (by omega), e, Xi_ne (by omega)]
    · rw [show (Xi S 904 93).toNat + (n + 1) = (Xi V 904 93).toNat by omega]; exact b2

def md_mo_tests__t : List rec := [(904, 905, 8, 9), (904, 905, 65, 66), (904, 905, 66, 67), (904, 905, 69, 70), (904, 905, 78, 79), (904, 905, 93, 94), (904, 905, 94, 95), (904, 905, 99, 100), (904, 905, 100, 101), (904, 905, 101, 102), (950, 951, 0, 100000), (951, 952, 0, 100000), (952, 953, 0, 100000), (953, 954, 0, 100000), (954, 955, 0, 100000), (955, 956, 0, 100000), (956, 957, 0, 100000), (957, 958, 0, 100000), (958, 959, 0, 100000), (959, 960, 0, 100000), (960, 961, 0, 100000), (961, 962, 0, 100000), (962, 963, 0, 100000)]
abbrev Q_mo_tests__t (S : sS) : pst := fun r S1 => RI S1 ∧ FR md_mo_tests__t S S1 ∧ (r = none ∧ (Xi S1 904 65 = 0 → Xi S 904 65 = 0 ∧ ∃ n : Nat, 0 < n ∧ TSQ (tkR S) S1 (Xi S 904 93).toNat (Xi S 904 8) n (Xi S1 904 8) ∧ tkR S (Xi S1 904 8) ≠ 116 ∧ Xi S1 904 93 = Xi S 904 93 + n) ∧ (RUNK S S1) ∧ (KTE S S1) ∧ (Xi S 904 93 ≤ Xi S1 904 93) ∧ (Xi S1 904 94 = Xi S1 904 93))
set_option maxRecDepth 100000 in
theorem t_mo_tests__t {S : sS} (hH : RI S) (h69 : 0 ≤ Xi S 904 69) (h93 : 0 ≤ Xi S 904 93) (d : Nat) : Mp lay0 (d + 7) m_mo_tests [.ref 904] S (Q_mo_tests__t S) := by
  refine Mp_R rfl rfl (fun fu => ?_)
  have hF : FR md_mo_tests__t S S := FR.rf
  have w1 : -2147483648 ≤ Xi S 904 100 ∧ Xi S 904 100 ≤ 2147483647 := Xi_rgI
  have w2 : -2147483648 ≤ Xi S 904 101 ∧ Xi S 904 101 ≤ 2147483647 := Xi_rgI
  have w3 : -2147483648 ≤ Xi S 904 65 ∧ Xi S 904 65 ≤ 2147483647 := Xi_rgI
  have w4 : -2147483648 ≤ Xi S 904 69 ∧ Xi S 904 69 ≤ 2147483647 := Xi_rgI
  have w5 : -2147483648 ≤ Xi S 904 8 ∧ Xi S 904 8 ≤ 2147483647 := Xi_rgI
  have w6 : -2147483648 ≤ Xi S 904 93 ∧ Xi S 904 93 ≤ 2147483647 := Xi_rgI
  have w7 : -2147483648 ≤ Xi S 904 94 ∧ Xi S 904 94 ≤ 2147483647 := Xi_rgI
  have w8 : -2147483648 ≤ Xi S 904 99 ∧ Xi S 904 99 ≤ 2147483647 := Xi_rgI
  have C5 : ∀ (n5 : Nat) (_ : n5 ≤ fu) (T1 : sS) (_ : RI T1) (_ : FR md_mo_tests__t S T1), (Hid (TS5 S T1)) → Pl n5 lay0 (d + 6) m_mo_tests 5 [(0, .ref 904)] [] T1 (Q_mo_tests__t S) := by
    intro n5
    induction n5 with
    | zero => intros; exact Pl_0
    | succ n5 ih5 =>
      intro hm5 T1 hHT1 hFT1 Q5
      have w9 : -2147483648 ≤ Xi T1 904 100 ∧ Xi T1 904 100 ≤ 2147483647 := Xi_rgI
      have w10 : -2147483648 ≤ Xi T1 904 101 ∧ Xi T1 904 101 ≤ 2147483647 := Xi_rgI
      have w11 : -2147483648 ≤ Xi T1 904 65 ∧ Xi T1 904 65 ≤ 2147483647 := Xi_rgI
      have w12 : -2147483648 ≤ Xi T1 904 69 ∧ Xi T1 904 69 ≤ 2147483647 := Xi_rgI
      have w13 : -2147483648 ≤ Xi T1 904 8 ∧ Xi T1 904 8 ≤ 2147483647 := Xi_rgI
      have w14 : -2147483648 ≤ Xi T1 904 93 ∧ Xi T1 904 93 ≤ 2147483647 := Xi_rgI
      have w15 : -2147483648 ≤ Xi T1 904 94 ∧ Xi T1 904 94 ≤ 2147483647 := Xi_rgI
      have w16 : -2147483648 ≤ Xi T1 904 99 ∧ Xi T1 904 99 ≤ 2147483647 := Xi_rgI
      refine ys_aload_n rfl rfl ?_
      refine y_bipush rfl rfl ?_
      refine y_callV rfl rfl rfl (t_mo_isNext__t hHT1 116 ⟨by omega, by omega⟩ _) ?_
      rintro _ _ ⟨rfl, z17, rfl, w17, t8⟩
      show Pl _ _ _ _ _ _ [iv z17] _ _
      have T8 := t8
      rw [tkR_F7 hFT1 rfl] at T8
      clear t8
      refine y_if_eq rfl rfl (by unfold rg; omega) (fun w18 => ?_) (fun w19 => ?_)
      · refine y_aload_n rfl rfl ?_
        refine y_aload_n rfl rfl ?_
        refine y_gfi rfl rfl rfl rfl rfl ?_
        refine y_pfi rfl rfl rfl rfl ?_
        obtain ⟨U2, eU2⟩ : ∃ T : sS, T = uI T1 904 94 (Int32.ofInt (Xi T1 904 93)) := ⟨_, rfl⟩
        rw [← eU2]
        have hHU2 : RI U2 := by rw [eU2]; exact RI_w hHT1
        have hFU2 : FR md_mo_tests__t S U2 := by rw [eU2]; exact FR.wI hFT1 (mdf_i (r := (904, 905, 94, 95)) (List.mem_of_getElem? (i := 6) rfl) (inR_i (by omega) (by omega) (by omega) (by omega)))
        have w20 : Xi U2 904 94 = (Xi T1 904 93) := by rw [eU2]; exact Xi_same (by unfold rg; omega)
        have e37 := eU2
        refine y_return rfl rfl ?_
        have w21 : Xi U2 904 100 = Xi T1 904 100 := (show Xi U2 904 100 = Xi T1 904 100 from by rw [eU2]; exact Xi_ne (by omega))
        have w22 : Xi U2 904 101 = Xi T1 904 101 := (show Xi U2 904 101 = Xi T1 904 101 from by rw [eU2]; exact Xi_ne (by omega))
        have w23 : Xi U2 904 65 = Xi T1 904 65 := (show Xi U2 904 65 = Xi T1 904 65 from by rw [eU2]; exact Xi_ne (by omega))
        have w24 : Xi U2 904 69 = Xi T1 904 69 := (show Xi U2 904 69 = Xi T1 904 69 from by rw [eU2]; exact Xi_ne (by omega))
        have w25 : Xi U2 904 8 = Xi T1 904 8 := (show Xi U2 904 8 = Xi T1 904 8 from by rw [eU2]; exact Xi_ne (by omega))
        have w26 : Xi U2 904 93 = Xi T1 904 93 := (show Xi U2 904 93 = Xi T1 904 93 from by rw [eU2]; exact Xi_ne (by omega))
        have w27 : Xi U2 904 99 = Xi T1 904 99 := (show Xi U2 904 99 = Xi T1 904 99 from by rw [eU2]; exact Xi_ne (by omega))
        exact ⟨hHU2, hFU2, rfl, (fun b => by have M := Q5.o; have x : ∀ z j : Nat, z ≠ 904 ∨ j ≠ 94 → Xi U2 z j = Xi T1 z j := (fun z j w => by rw [e37, Xi_ne (by omega)]); rw [x _ _ (by omega)] at b; obtain ⟨a1, n, a2, a3, a4⟩ := M.1 b; exact ⟨a1, n, a2, by rw [x _ _ (by omega)]; exact tsq_k (runk_w e37 (by omega) RUNK.rf) n (fun z i p r d => x _ _ (by omega)) a3, by rw [x _ _ (by omega)]; have u := T8.2 (by omega); rcases u with u | u; exact absurd b u; exact u, by rw [x _ _ (by omega)]; exact a4⟩), (runk_w e37 (by omega) Q5.o.2.1), (kte_w e37 (by omega) Q5.o.2.2.1), (by rw [e37, Xi_ne (by omega)]; exact Q5.o.2.2.2), (by refine (xi_of e37 (by unfold rg; omega)).trans ?_; rw [e37, Xi_ne (by omega)])⟩
      · refine y_aload_n rfl rfl ?_
        refine y_dup rfl rfl ?_
        refine y_gfi rfl rfl rfl rfl rfl ?_
        refine y_iconst rfl ?_
        refine y_iadd rfl ?_
        refine y_pfi rfl rfl rfl rfl ?_
        obtain ⟨U3, eU3⟩ : ∃ T : sS, T = uI T1 904 8 (Int32.ofInt ((Xi T1 904 8) + 1)) := ⟨_, rfl⟩
        rw [← eU3]
        have hHU3 : RI U3 := by rw [eU3]; exact RI_w hHT1
        have hFU3 : FR md_mo_tests__t S U3 := by rw [eU3]; exact FR.wI hFT1 (mdf_i (r := (904, 905, 8, 9)) (List.mem_of_getElem? (i := 0) rfl) (inR_i (by omega) (by omega) (by omega) (by omega)))
        have e21 := eU3
        have r21 := Q5.o.2.1.1
        have s21 := Q5.o.2.2.2
        have x21 : Xi U3 904 69 = Xi T1 904 69 ∧ Xi U3 904 93 = Xi T1 904 93 := ⟨by rw [e21, Xi_ne (by omega)], by rw [e21, Xi_ne (by omega)]⟩
        refine y_aload_n rfl rfl ?_
        refine y_iconst rfl ?_
        have w28 : Xi U3 904 100 = Xi T1 904 100 := (show Xi U3 904 100 = Xi T1 904 100 from by rw [eU3]; exact Xi_ne (by omega))
        have w29 : Xi U3 904 101 = Xi T1 904 101 := (show Xi U3 904 101 = Xi T1 904 101 from by rw [eU3]; exact Xi_ne (by omega))
        have w30 : Xi U3 904 65 = Xi T1 904 65 := (show Xi U3 904 65 = Xi T1 904 65 from by rw [eU3]; exact Xi_ne (by omega))
        have w31 : Xi U3 904 69 = Xi T1 904 69 := (show Xi U3 904 69 = Xi T1 904 69 from by rw [eU3]; exact Xi_ne (by omega))
        have w32 : Xi U3 904 93 = Xi T1 904 93 := (show Xi U3 904 93 = Xi T1 904 93 from by rw [eU3]; exact Xi_ne (by omega))
        have w33 : Xi U3 904 94 = Xi T1 904 94 := (show Xi U3 904 94 = Xi T1 904 94 from by rw [eU3]; exact Xi_ne (by omega))
        have w34 : Xi U3 904 99 = Xi T1 904 99 := (show Xi U3 904 99 = Xi T1 904 99 from by rw [eU3]; exact Xi_ne (by omega))
        refine y_callV rfl rfl rfl (t_mo_test__t hHU3 0 ⟨by omega, by omega⟩ (by first | assumption | omega) (by first | assumption | omega) _) ?_
        rintro _ T4 ⟨hHT4, w36, rfl, t26, k26, q26, c26⟩
        have hFT4 : FR md_mo_tests__t S T4 := FR.tr hFU3 w36 rfl
        show Pl _ _ _ _ _ _ [] _ _
        have T26 := t26
        rw [tkR_F7 hFU3 rfl] at T26
        clear t26
        have Q26 : Hid (TS5 S T4) := ts5_s Q5.o (by omega) (T8.1 (by omega)) e21 (by omega) T26 k26 q26 c26
        refine y_goto rfl rfl ?_
        have w37 : Xi T4 904 94 = Xi T1 904 94 := (show Xi T4 904 94 = Xi U3 904 94 from w36.x _ _ rfl).trans ((show Xi U3 904 94 = Xi T1 904 94 from by rw [eU3]; exact Xi_ne (by omega)))
        exact Pl_weak (ih5 (by omega) T4 hHT4 hFT4  (by first | exact Q26 | exact ts5_1 t2 k2 q2 c2)) (by omega) (And.intro rfl (True.intro))
  refine y_aload_n rfl rfl ?_
  refine y_iconst rfl ?_
  refine y_callV rfl rfl rfl (t_mo_test__t hH 0 ⟨by omega, by omega⟩ (by first | assumption | omega) (by first | assumption | omega) _) ?_
  rintro _ T5 ⟨hHT5, w39, rfl, t2, k2, q2, c2⟩
  have hFT5 : FR md_mo_tests__t S T5 := FR.tr hF w39 rfl
  show Pl _ _ _ _ _ _ [] _ _
  have w40 : Xi T5 904 94 = Xi S 904 94 := (show Xi T5 904 94 = Xi S 904 94 from w39.x _ _ rfl)
  exact Pl_weak (C5 fu (by omega) T5 hHT5 hFT5  (by first | exact Q26 | exact ts5_1 t2 k2 q2 c2)) (by omega) (And.intro rfl (True.intro))
end
