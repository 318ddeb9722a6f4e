section
def md_mo_phrase__p : List rec := [(904, 905, 8, 9), (904, 905, 65, 66), (904, 905, 66, 67), (904, 905, 69, 70), (904, 905, 78, 79), (904, 905, 93, 94), (904, 905, 98, 99), (904, 905, 99, 100), (904, 905, 100, 101), (904, 905, 101, 102), (950, 951, 0, 100000), (951, 952, 0, 100000), (952, 953, 0, 100000), (953, 954, 0, 100000), (954, 955, 0, 100000), (955, 956, 0, 100000), (956, 957, 0, 100000), (957, 958, 0, 100000), (958, 959, 0, 100000), (959, 960, 0, 100000), (960, 961, 0, 100000), (961, 962, 0, 100000), (962, 963, 0, 100000), (963, 964, 0, 100000), (964, 965, 0, 100000), (965, 966, 0, 100000)]
abbrev Q_mo_phrase__p (S : sS) (fs : Nat) (ns : Nat) : pst := fun r S1 => RI S1 ∧ FR md_mo_phrase__p S S1 ∧ (r = none ∧ (gSq (cu S fs) (gP1R (tR S fs ns)) = cu S1 fs) ∧ (Xi S 904 69 ≤ Xi S1 904 69) ∧ (Xi S1 904 65 = 0 → Xi S 904 65 = 0 ∧ Xi S 904 8 ≤ Xi S1 904 8) ∧ (JR S1 fs ns))
set_option maxRecDepth 100000 in
theorem c409_mo_phrase__p {S : sS} (hH : RI S) (fs : Nat) (ns : Nat) (hvl : VLR S fs ns) (hJR : JR S fs ns) (d : Nat) (fu : Nat) : ∀  (T1 : sS) (_ : RI T1) (_ : FR md_mo_phrase__p S T1), (gSq (cu S fs) (gPhR (tR S fs ns)) = cu T1 fs) → (INR T1 fs ns) → (Xi T1 904 65 = 0 → Xi S 904 65 = 0 ∧ Xi S 904 8 ≤ Xi T1 904 8) → (Xi S 904 69 ≤ Xi T1 904 69) → (Xi T1 904 65 = 0 → Xi T1 904 93 ≠ 0) → Pl fu lay0 (d + 6) m_mo_phrase 409 [(0, .ref 904)] [] T1 (Q_mo_phrase__p S fs ns) := by
  have hF : FR md_mo_phrase__p S S := FR.rf
  have w1 : -2147483648 ≤ Xi S 904 65 ∧ Xi S 904 65 ≤ 2147483647 := Xi_rgI
  have w2 : -2147483648 ≤ Xi S 904 66 ∧ Xi S 904 66 ≤ 2147483647 := Xi_rgI
  have w3 : -2147483648 ≤ Xi S 904 69 ∧ Xi S 904 69 ≤ 2147483647 := Xi_rgI
  have w4 : -2147483648 ≤ Xi S 904 8 ∧ Xi S 904 8 ≤ 2147483647 := Xi_rgI
  have w5 : -2147483648 ≤ Xi S 904 93 ∧ Xi S 904 93 ≤ 2147483647 := Xi_rgI
  have : Xi S 904 65 = 0 → (fs : Int) ≤ Xi S 904 8 ∧ Xi S 904 8 ≤ fs + ns := JR.i (by assumption)
  have hbd := hvl.2.2.2
  intro T1 hHT1 hFT1 G409 I409 w6 w7 w8
  have w9 : -2147483648 ≤ Xi T1 904 65 ∧ Xi T1 904 65 ≤ 2147483647 := Xi_rgI
  have w10 : -2147483648 ≤ Xi T1 904 66 ∧ Xi T1 904 66 ≤ 2147483647 := Xi_rgI
  have w11 : -2147483648 ≤ Xi T1 904 69 ∧ Xi T1 904 69 ≤ 2147483647 := Xi_rgI
  have w12 : -2147483648 ≤ Xi T1 904 8 ∧ Xi T1 904 8 ≤ 2147483647 := Xi_rgI
  have w13 : -2147483648 ≤ Xi T1 904 93 ∧ Xi T1 904 93 ≤ 2147483647 := Xi_rgI
  refine y_aload_n rfl rfl ?_
  refine y_dup rfl rfl ?_
  refine y_gfi rfl rfl rfl rfl rfl ?_
  have w14 : -2147483648 ≤ (Xi T1 904 98) ∧ (Xi T1 904 98) ≤ 2147483647 := Xi_rgI
  refine y_iconst rfl ?_
  refine y_iadd rfl ?_
  refine y_pfi rfl rfl rfl rfl ?_
  obtain ⟨U2, eU2⟩ : ∃ T : sS, T = uI T1 904 98 (Int32.ofInt ((Xi T1 904 98) + 1)) := ⟨_, rfl⟩
  rw [← eU2]
  have hHU2 : RI U2 := by rw [eU2]; exact RI_w hHT1
  have hFU2 : FR md_mo_phrase__p S U2 := by rw [eU2]; exact FR.wI hFT1 (mdf_i (r := (904, 905, 98, 99)) (List.mem_of_getElem? (i := 6) rfl) (inR_i (by omega) (by omega) (by omega) (by omega)))
  refine y_aload_n rfl rfl ?_
  refine y_gfi rfl rfl rfl rfl rfl ?_
  have w15 : (Xi U2 904 65) = (Xi T1 904 65) := (show Xi U2 904 65 = Xi T1 904 65 from by rw [eU2]; exact Xi_ne (by omega))
  rw [w15]
  refine y_if_ne rfl rfl (by unfold rg; omega) (fun w16 => ?_) (fun w17 => ?_)
  · refine y_return rfl rfl ?_
    have w18 : Xi U2 904 65 = Xi T1 904 65 := (show Xi U2 904 65 = Xi T1 904 65 from by rw [eU2]; exact Xi_ne (by omega))
    have w19 : Xi U2 904 66 = Xi T1 904 66 := (show Xi U2 904 66 = Xi T1 904 66 from by rw [eU2]; exact Xi_ne (by omega))
    have w20 : Xi U2 904 69 = Xi T1 904 69 := (show Xi U2 904 69 = Xi T1 904 69 from by rw [eU2]; exact Xi_ne (by omega))
    have w21 : Xi U2 904 8 = Xi T1 904 8 := (show Xi U2 904 8 = Xi T1 904 8 from by rw [eU2]; exact Xi_ne (by omega))
    have w22 : Xi U2 904 93 = Xi T1 904 93 := (show Xi U2 904 93 = Xi T1 904 93 from by rw [eU2]; exact Xi_ne (by omega))
    exact ⟨hHU2, hFU2, rfl, (by first | exact en_0 (B := T1) (E := gEp (tR S fs ns)) G409 (by omega) (gEp_0 (fun q => q.elim (T434.2 (by omega)) (T448.2 (by omega)))) gp455 (cu_eqb (by omega) (fun b => by omega) (by omega)) (cu_eq (by omega) (by omega) (by omega)) | exact en_1 (B := T1) (E := gEp (tR S fs ns)) G409 (cu_eq (by omega) (by omega) (by omega)) (fun b => gEp_1 (Or.inr (T448.1 (by omega)))) | exact en_1 (B := T1) (E := gEp (tR S fs ns)) G409 (cu_eq (by omega) (by omega) (by omega)) (fun b => gEp_1 (Or.inl (T434.1 (by omega)))) | exact en_1 (B := T1) (E := gEp (tR S fs ns)) G409 (cu_eq (by omega) (by omega) (by omega)) (fun b => absurd b (by omega))), (by omega), (by omega), (by first | exact jr_tc (fun b => by have q := I409 (by omega); omega) (by omega) | exact jr_bad (by omega))⟩
  · refine y_aload_n rfl rfl ?_
    refine y_gfr rfl rfl rfl rfl rfl (hHU2.r 904 4 907 rfl) ?_
    refine y_aload_n rfl rfl ?_
    refine y_gfi rfl rfl rfl rfl rfl ?_
    have w23 : (Xi U2 904 8) = (Xi T1 904 8) := (show Xi U2 904 8 = Xi T1 904 8 from by rw [eU2]; exact Xi_ne (by omega))
    rw [w23]
    refine y_ialoadP (n := 5002) rfl rfl (by unfold rg; omega) (fun w24 w25 => ?_)
    have w26 : -2147483648 ≤ (Xi U2 907 (((Xi T1 904 8)).toNat)) ∧ (Xi U2 907 (((Xi T1 904 8)).toNat)) ≤ 2147483647 := Xi_rgI
    have r434 := I409 (by omega)
    have T434 := tR_k (k := 59) (z := (Xi U2 907 (((Xi T1 904 8)).toNat))) (a := Xi T1 904 8) hvl (by omega) (by omega) rfl (by first | exact ((hFU2.cx 907 rfl _).1).symm | rfl)
    rw [show un7 59 = 105 from rfl] at T434
    refine y_bipush rfl rfl ?_
    refine y_icmp_eq rfl rfl (by unfold rg; omega) (by unfold rg; omega) (fun w27 => ?_) (fun w28 => ?_)
    · refine y_return rfl rfl ?_
      have w29 : Xi U2 904 65 = Xi T1 904 65 := (show Xi U2 904 65 = Xi T1 904 65 from by rw [eU2]; exact Xi_ne (by omega))
      have w30 : Xi U2 904 66 = Xi T1 904 66 := (show Xi U2 904 66 = Xi T1 904 66 from by rw [eU2]; exact Xi_ne (by omega))
      have w31 : Xi U2 904 69 = Xi T1 904 69 := (show Xi U2 904 69 = Xi T1 904 69 from by rw [eU2]; exact Xi_ne (by omega))
      have w32 : Xi U2 904 8 = Xi T1 904 8 := (show Xi U2 904 8 = Xi T1 904 8 from by rw [eU2]; exact Xi_ne (by omega))
      have w33 : Xi U2 904 93 = Xi T1 904 93 := (show Xi U2 904 93 = Xi T1 904 93 from by rw [eU2]; exact Xi_ne (by omega))
      exact ⟨hHU2, hFU2, rfl, (by first | exact en_0 (B := T1) (E := gEp (tR S fs ns)) G409 (by omega) (gEp_0 (fun q => q.elim (T434.2 (by omega)) (T448.2 (by omega)))) gp455 (cu_eqb (by omega) (fun b => by omega) (by omega)) (cu_eq (by omega) (by omega) (by omega)) | exact en_1 (B := T1) (E := gEp (tR S fs ns)) G409 (cu_eq (by omega) (by omega) (by omega)) (fun b => gEp_1 (Or.inr (T448.1 (by omega)))) | exact en_1 (B := T1) (E := gEp (tR S fs ns)) G409 (cu_eq (by omega) (by omega) (by omega)) (fun b => gEp_1 (Or.inl (T434.1 (by omega)))) | exact en_1 (B := T1) (E := gEp (tR S fs ns)) G409 (cu_eq (by omega) (by omega) (by omega)) (fun b => absurd b (by omega))), (by omega), (by omega), (by first | exact jr_tc (fun b => by have q := I409 (by omega); omega) (by omega) | exact jr_bad (by omega))⟩
    · refine y_aload_n rfl rfl ?_
      refine y_gfr rfl rfl rfl rfl rfl (hHU2.r 904 4 907 rfl) ?_
      refine y_aload_n rfl rfl ?_
      refine y_gfi rfl rfl rfl rfl rfl ?_
      have w34 : (Xi U2 904 8) = (Xi T1 904 8) := (show Xi U2 904 8 = Xi T1 904 8 from by rw [eU2]; exact Xi_ne (by omega))
      rw [w34]
      refine y_ialoadP (n := 5002) rfl rfl (by unfold rg; omega) (fun w35 w36 => ?_)
      have T448 := tR_k (k := 46) (z := (Xi U2 907 (((Xi T1 904 8)).toNat))) (a := Xi T1 904 8) hvl (by omega) (by omega) rfl (by first | exact ((hFU2.cx 907 rfl _).1).symm | rfl)
      rw [show un7 46 = 103 from rfl] at T448
      refine y_bipush rfl rfl ?_
      refine y_icmp_eq rfl rfl (by unfold rg; omega) (by unfold rg; omega) (fun w37 => ?_) (fun w38 => ?_)
      · refine y_return rfl rfl ?_
        have w39 : Xi U2 904 65 = Xi T1 904 65 := (show Xi U2 904 65 = Xi T1 904 65 from by rw [eU2]; exact Xi_ne (by omega))
        have w40 : Xi U2 904 66 = Xi T1 904 66 := (show Xi U2 904 66 = Xi T1 904 66 from by rw [eU2]; exact Xi_ne (by omega))
        have w41 : Xi U2 904 69 = Xi T1 904 69 := (show Xi U2 904 69 = Xi T1 904 69 from by rw [eU2]; exact Xi_ne (by omega))
        have w42 : Xi U2 904 8 = Xi T1 904 8 := (show Xi U2 904 8 = Xi T1 904 8 from by rw [eU2]; exact Xi_ne (by omega))
        have w43 : Xi U2 904 93 = Xi T1 904 93 := (show Xi U2 904 93 = Xi T1 904 93 from by rw [eU2]; exact Xi_ne (by omega))
        exact ⟨hHU2, hFU2, rfl, (by first | exact en_0 (B := T1) (E := gEp (tR S fs ns)) G409 (by omega) (gEp_0 (fun q => q.elim (T434.2 (by omega)) (T448.2 (by omega)))) gp455 (cu_eqb (by omega) (fun b => by omega) (by omega)) (cu_eq (by omega) (by omega) (by omega)) | exact en_1 (B := T1) (E := gEp (tR S fs ns)) G409 (cu_eq (by omega) (by omega) (by omega)) (fun b => gEp_1 (Or.inr (T448.1 (by omega)))) | exact en_1 (B := T1) (E := gEp (tR S fs ns)) G409 (cu_eq (by omega) (by omega) (by omega)) (fun b => gEp_1 (Or.inl (T434.1 (by omega)))) | exact en_1 (B := T1) (E := gEp (tR S fs ns)) G409 (cu_eq (by omega) (by omega) (by omega)) (fun b => absurd b (by omega))), (by omega), (by omega), (by first | exact jr_tc (fun b => by have q := I409 (by omega); omega) (by omega) | exact jr_bad (by omega))⟩
      · refine y_aload_n rfl rfl ?_
        have w44 : Xi U2 904 65 = Xi T1 904 65 := (show Xi U2 904 65 = Xi T1 904 65 from by rw [eU2]; exact Xi_ne (by omega))
        have w45 : Xi U2 904 66 = Xi T1 904 66 := (show Xi U2 904 66 = Xi T1 904 66 from by rw [eU2]; exact Xi_ne (by omega))
        have w46 : Xi U2 904 69 = Xi T1 904 69 := (show Xi U2 904 69 = Xi T1 904 69 from by rw [eU2]; exact Xi_ne (by omega))
        have w47 : Xi U2 904 8 = Xi T1 904 8 := (show Xi U2 904 8 = Xi T1 904 8 from by rw [eU2]; exact Xi_ne (by omega))
        have w48 : Xi U2 904 93 = Xi T1 904 93 := (show Xi U2 904 93 = Xi T1 904 93 from by rw [eU2]; exact Xi_ne (by omega))
        refine y_callV rfl rfl rfl (t_mo_odd__p hHU2 fs ns _) ?_
        rintro _ T3 ⟨hHT3, w53, rfl, w49, w50, w51⟩
        have hFT3 : FR md_mo_phrase__p S T3 := FR.tr hFU2 w53 rfl
        show Pl _ _ _ _ _ _ [] _ _
        have gp455 := w49
        try rw [FRR hFU2 rfl] at gp455
        try rw [show cu U2 fs = cu T1 fs from cu_eq (by omega) (by omega) (by omega)] at gp455
        clear w49
        refine y_return rfl rfl ?_
        have w54 : Xi T3 904 69 = Xi T1 904 69 := (show Xi T3 904 69 = Xi U2 904 69 from w53.x _ _ rfl).trans ((show Xi U2 904 69 = Xi T1 904 69 from by rw [eU2]; exact Xi_ne (by omega)))
        have w55 : Xi T3 904 8 = Xi T1 904 8 := (show Xi T3 904 8 = Xi U2 904 8 from w53.x _ _ rfl).trans ((show Xi U2 904 8 = Xi T1 904 8 from by rw [eU2]; exact Xi_ne (by omega)))
        have w56 : Xi T3 904 93 = Xi T1 904 93 := (show Xi T3 904 93 = Xi U2 904 93 from w53.x _ _ rfl).trans ((show Xi U2 904 93 = Xi T1 904 93 from by rw [eU2]; exact Xi_ne (by omega)))
        exact ⟨hHT3, hFT3, rfl, (by first | exact en_0 (B := T1) (E := gEp (tR S fs ns)) G409 (by omega) (gEp_0 (fun q => q.elim (T434.2 (by omega)) (T448.2 (by omega)))) gp455 (cu_eqb (by omega) (fun b => by omega) (by omega)) (cu_eq (by omega) (by omega) (by omega)) | exact en_1 (B := T1) (E := gEp (tR S fs ns)) G409 (cu_eq (by omega) (by omega) (by omega)) (fun b => gEp_1 (Or.inr (T448.1 (by omega)))) | exact en_1 (B := T1) (E := gEp (tR S fs ns)) G409 (cu_eq (by omega) (by omega) (by omega)) (fun b => gEp_1 (Or.inl (T434.1 (by omega)))) | exact en_1 (B := T1) (E := gEp (tR S fs ns)) G409 (cu_eq (by omega) (by omega) (by omega)) (fun b => absurd b (by omega))), (by omega), (by omega), (by first | exact jr_tc (fun b => by have q := I409 (by omega); omega) (by omega) | exact jr_bad (by omega))⟩
set_option maxRecDepth 100000 in
theorem c395_mo_phrase__p {S : sS} (hH : RI S) (fs : Nat) (ns : Nat) (hvl : VLR S fs ns) (hJR : JR S fs ns) (d : Nat) (fu : Nat) : ∀  (T4 : sS) (_ : RI T4) (_ : FR md_mo_phrase__p S T4), (Xi T4 904 65 = Xi S 904 65) → (Xi T4 904 66 = Xi S 904 66) → (Xi T4 904 69 = Xi S 904 69) → (Xi S 904 65 = 0 → Xi T4 904 8 = Xi S 904 8 + 1) → (Hid (Xi S 904 65 = 0 → tR S fs ns (Xi S 904 8 - fs) ≠ 43 ∧ tR S fs ns (Xi S 904 8 - fs) ≠ 44 ∧ tR S fs ns (Xi S 904 8 - fs) ≠ 45 ∧ tR S fs ns (Xi S 904 8 - fs) ≠ 46 ∧ tR S fs ns (Xi S 904 8 - fs) ≠ 47 ∧ tR S fs ns (Xi S 904 8 - fs) ≠ 48 ∧ tR S fs ns (Xi S 904 8 - fs) ≠ 49)) → Pl fu lay0 (d + 6) m_mo_phrase 395 [(0, .ref 904)] [] T4 (Q_mo_phrase__p S fs ns) := by
  have C409 := c409_mo_phrase__p hH fs ns hvl hJR d  fu
  have hF : FR md_mo_phrase__p S S := FR.rf
  have w1 : -2147483648 ≤ Xi S 904 65 ∧ Xi S 904 65 ≤ 2147483647 := Xi_rgI
  have w2 : -2147483648 ≤ Xi S 904 66 ∧ Xi S 904 66 ≤ 2147483647 := Xi_rgI
  have w3 : -2147483648 ≤ Xi S 904 69 ∧ Xi S 904 69 ≤ 2147483647 := Xi_rgI
  have w4 : -2147483648 ≤ Xi S 904 8 ∧ Xi S 904 8 ≤ 2147483647 := Xi_rgI
  have w5 : -2147483648 ≤ Xi S 904 93 ∧ Xi S 904 93 ≤ 2147483647 := Xi_rgI
  have : Xi S 904 65 = 0 → (fs : Int) ≤ Xi S 904 8 ∧ Xi S 904 8 ≤ fs + ns := JR.i (by assumption)
  have hbd := hvl.2.2.2
  intro T4 hHT4 hFT4 w57 w58 w59 w60 n395
  have w61 : -2147483648 ≤ Xi T4 904 65 ∧ Xi T4 904 65 ≤ 2147483647 := Xi_rgI
  have w62 : -2147483648 ≤ Xi T4 904 66 ∧ Xi T4 904 66 ≤ 2147483647 := Xi_rgI
  have w63 : -2147483648 ≤ Xi T4 904 69 ∧ Xi T4 904 69 ≤ 2147483647 := Xi_rgI
  have w64 : -2147483648 ≤ Xi T4 904 8 ∧ Xi T4 904 8 ≤ 2147483647 := Xi_rgI
  have w65 : -2147483648 ≤ Xi T4 904 93 ∧ Xi T4 904 93 ≤ 2147483647 := Xi_rgI
  refine y_aload_n rfl rfl ?_
  refine y_dup rfl rfl ?_
  refine y_gfi rfl rfl rfl rfl rfl ?_
  refine y_iconst rfl ?_
  refine y_isub rfl ?_
  refine y_pfi rfl rfl rfl rfl ?_
  obtain ⟨U5, eU5⟩ : ∃ T : sS, T = uI T4 904 8 (Int32.ofInt ((Xi T4 904 8) - 1)) := ⟨_, rfl⟩
  rw [← eU5]
  have hHU5 : RI U5 := by rw [eU5]; exact RI_w hHT4
  have hFU5 : FR md_mo_phrase__p S U5 := by rw [eU5]; exact FR.wI hFT4 (mdf_i (r := (904, 905, 8, 9)) (List.mem_of_getElem? (i := 0) rfl) (inR_i (by omega) (by omega) (by omega) (by omega)))
  have y402 : Xi S 904 65 = 0 → Xi U5 904 8 = Xi S 904 8 := fun b => by rw [eU5]; exact (Xi_same (by unfold rg; omega)).trans (by omega)
  refine y_aload_n rfl rfl ?_
  have w66 : Xi U5 904 65 = Xi T4 904 65 := (show Xi U5 904 65 = Xi T4 904 65 from by rw [eU5]; exact Xi_ne (by omega))
  have w67 : Xi U5 904 66 = Xi T4 904 66 := (show Xi U5 904 66 = Xi T4 904 66 from by rw [eU5]; exact Xi_ne (by omega))
  have w68 : Xi U5 904 69 = Xi T4 904 69 := (show Xi U5 904 69 = Xi T4 904 69 from by rw [eU5]; exact Xi_ne (by omega))
  have w69 : Xi U5 904 93 = Xi T4 904 93 := (show Xi U5 904 93 = Xi T4 904 93 from by rw [eU5]; exact Xi_ne (by omega))
  refine y_callV rfl rfl rfl (t_mo_odd__p hHU5 fs ns _) ?_
  rintro _ T6 ⟨hHT6, w74, rfl, w70, w71, w72⟩
  have hFT6 : FR md_mo_phrase__p S T6 := FR.tr hFU5 w74 rfl
  show Pl _ _ _ _ _ _ [] _ _
  have gp406 := w70
  try rw [FRR hFU5 rfl] at gp406
  clear w70
  have GX : gSq (cu S fs) (gPhR (tR S fs ns)) = cu T6 fs := cu_od (gp406.trans (congrArg (fun c : Int × Int => ((0 : Int), c.2)) (cu_eqb (by omega) (fun b => by omega) (by omega)))) (fun b => gPh_0 (n395.o b))
  have w75 : Xi T6 904 69 = Xi T4 904 69 := (show Xi T6 904 69 = Xi U5 904 69 from w74.x _ _ rfl).trans ((show Xi U5 904 69 = Xi T4 904 69 from by rw [eU5]; exact Xi_ne (by omega)))
  have w76 : Xi T6 904 8 = Xi U5 904 8 := (show Xi T6 904 8 = Xi U5 904 8 from w74.x _ _ rfl)
  have w77 : Xi T6 904 93 = Xi T4 904 93 := (show Xi T6 904 93 = Xi U5 904 93 from w74.x _ _ rfl).trans ((show Xi U5 904 93 = Xi T4 904 93 from by rw [eU5]; exact Xi_ne (by omega)))
  exact Pl_weak (C409 T6 hHT6 hFT6  (by first | exact GX | exact GX.trans (cu_eq (by omega) (by omega) (by omega)).symm | exact cu_og (by omega) (by rw [gPh_t (by omega), G345]; exact cu_br (fun b => by rw [if_neg (n345.o.2 (by omega) b)]; exact cu_1 (by omega) (by omega)) (fun b => cu_eq (by omega) (by omega) (by omega))) | exact cu_st (by omega) (by omega) rfl (by rw [gPh_z (by omega)]; exact pe rfl (by omega))) (by first | exact JR.i (by first | assumption | exact (by assumption : JR T6 _ _)) | exact (fun b => by have q := JR.i J345 (by omega); omega) | exact (fun b => by omega)) (by omega) (by omega) (by omega)) (by omega) (And.intro rfl (True.intro))
set_option maxRecDepth 100000 in
theorem c96_mo_phrase__p {S : sS} (hH : RI S) (fs : Nat) (ns : Nat) (hvl : VLR S fs ns) (hJR : JR S fs ns) (d : Nat) (fu : Nat) : ∀  (T7 : sS) (_ : RI T7) (_ : FR md_mo_phrase__p S T7) (v1 : Int), (-2147483648 ≤ v1 ∧ v1 ≤ 2147483647) → (Xi T7 904 65 = 0) → (Xi S 904 65 = 0) → (Xi T7 904 8 = Xi S 904 8 + 1) → (Xi T7 904 69 = Xi S 904 69) → (Xi T7 904 93 = Xi S 904 93) → (0 ≤ Xi S 904 93 ∧ Xi S 904 93 ≤ 1699) → ((fs : Int) ≤ Xi S 904 8 ∧ Xi S 904 8 + 1 ≤ fs + ns) → (JR T7 fs ns) → (tR S fs ns (Xi S 904 8 - fs) = 43) → Pl fu lay0 (d + 6) m_mo_phrase 96 [(0, .ref 904), (1, iv v1)] [] T7 (Q_mo_phrase__p S fs ns) := by
  have C409 := c409_mo_phrase__p hH fs ns hvl hJR d  fu
  have hF : FR md_mo_phrase__p S S := FR.rf
  have w1 : -2147483648 ≤ Xi S 904 65 ∧ Xi S 904 65 ≤ 2147483647 := Xi_rgI
  have w2 : -2147483648 ≤ Xi S 904 66 ∧ Xi S 904 66 ≤ 2147483647 := Xi_rgI
  have w3 : -2147483648 ≤ Xi S 904 69 ∧ Xi S 904 69 ≤ 2147483647 := Xi_rgI
  have w4 : -2147483648 ≤ Xi S 904 8 ∧ Xi S 904 8 ≤ 2147483647 := Xi_rgI
  have w5 : -2147483648 ≤ Xi S 904 93 ∧ Xi S 904 93 ≤ 2147483647 := Xi_rgI
  have : Xi S 904 65 = 0 → (fs : Int) ≤ Xi S 904 8 ∧ Xi S 904 8 ≤ fs + ns := JR.i (by assumption)
  have hbd := hvl.2.2.2
  intro T7 hHT7 hFT7 v1 w78 w79 w80 w81 w82 w83 w84 r96 J96 a96
  have w85 : -2147483648 ≤ Xi T7 904 65 ∧ Xi T7 904 65 ≤ 2147483647 := Xi_rgI
  have w86 : -2147483648 ≤ Xi T7 904 66 ∧ Xi T7 904 66 ≤ 2147483647 := Xi_rgI
  have w87 : -2147483648 ≤ Xi T7 904 69 ∧ Xi T7 904 69 ≤ 2147483647 := Xi_rgI
  have w88 : -2147483648 ≤ Xi T7 904 8 ∧ Xi T7 904 8 ≤ 2147483647 := Xi_rgI
  have w89 : -2147483648 ≤ Xi T7 904 93 ∧ Xi T7 904 93 ≤ 2147483647 := Xi_rgI
  refine y_aload_n rfl rfl ?_
  refine y_gfr rfl rfl rfl rfl rfl (hHT7.r 904 95 963 rfl) ?_
  refine y_iload_n rfl rfl ?_
  refine y_iconst rfl ?_
  refine y_iastoreP (n := 1700) rfl rfl (by unfold rg; omega) (fun w90 w91 => ?_)
  obtain ⟨U8, eU8⟩ : ∃ T : sS, T = uI T7 963 ((v1).toNat) (Int32.ofInt 0) := ⟨_, rfl⟩
  rw [← eU8]
  have hHU8 : RI U8 := by rw [eU8]; exact RI_w hHT7
  have hFU8 : FR md_mo_phrase__p S U8 := by rw [eU8]; exact FR.wI hFT7 (mdf_i (r := (963, 964, 0, 100000)) (List.mem_of_getElem? (i := 23) rfl) (inR_i (by omega) (by omega) (by omega) (by omega)))
  have w92 : Xi U8 963 ((v1).toNat) = 0 := by rw [eU8]; exact Xi_same (by unfold rg; omega)
  refine y_aload_n rfl rfl ?_
  refine y_gfr rfl rfl rfl rfl rfl (hHU8.r 904 87 957 rfl) ?_
  refine y_aload_n rfl rfl ?_
  refine y_gfi rfl rfl rfl rfl rfl ?_
  have w93 : (Xi U8 904 93) = (Xi T7 904 93) := (show Xi U8 904 93 = Xi T7 904 93 from by rw [eU8]; exact Xi_ne (by omega))
  rw [w93]
  refine y_aload_n rfl rfl ?_
  refine y_gfi rfl rfl rfl rfl rfl ?_
  have w94 : (Xi U8 904 8) = (Xi T7 904 8) := (show Xi U8 904 8 = Xi T7 904 8 from by rw [eU8]; exact Xi_ne (by omega))
  rw [w94]
  refine y_iastoreP (n := 1700) rfl rfl (by unfold rg; omega) (fun w95 w96 => ?_)
  obtain ⟨U9, eU9⟩ : ∃ T : sS, T = uI U8 957 (((Xi T7 904 93)).toNat) (Int32.ofInt (Xi T7 904 8)) := ⟨_, rfl⟩
  rw [← eU9]
  have hHU9 : RI U9 := by rw [eU9]; exact RI_w hHU8
  have hFU9 : FR md_mo_phrase__p S U9 := by rw [eU9]; exact FR.wI hFU8 (mdf_i (r := (957, 958, 0, 100000)) (List.mem_of_getElem? (i := 17) rfl) (inR_i (by omega) (by omega) (by omega) (by omega)))
  have w97 : Xi U9 957 (((Xi T7 904 93)).toNat) = (Xi T7 904 8) := by rw [eU9]; exact Xi_same (by unfold rg; omega)
  refine y_aload_n rfl rfl ?_
  refine y_iconst rfl ?_
  have w98 : Xi U9 904 65 = Xi T7 904 65 := (show Xi U9 904 65 = Xi U8 904 65 from by rw [eU9]; exact Xi_ne (by omega)).trans ((show Xi U8 904 65 = Xi T7 904 65 from by rw [eU8]; exact Xi_ne (by omega)))
  have w99 : Xi U9 904 66 = Xi T7 904 66 := (show Xi U9 904 66 = Xi U8 904 66 from by rw [eU9]; exact Xi_ne (by omega)).trans ((show Xi U8 904 66 = Xi T7 904 66 from by rw [eU8]; exact Xi_ne (by omega)))
  have w100 : Xi U9 904 69 = Xi T7 904 69 := (show Xi U9 904 69 = Xi U8 904 69 from by rw [eU9]; exact Xi_ne (by omega)).trans ((show Xi U8 904 69 = Xi T7 904 69 from by rw [eU8]; exact Xi_ne (by omega)))
  have w101 : Xi U9 904 8 = Xi T7 904 8 := (show Xi U9 904 8 = Xi U8 904 8 from by rw [eU9]; exact Xi_ne (by omega)).trans ((show Xi U8 904 8 = Xi T7 904 8 from by rw [eU8]; exact Xi_ne (by omega)))
  have w102 : Xi U9 904 93 = Xi T7 904 93 := (show Xi U9 904 93 = Xi U8 904 93 from by rw [eU9]; exact Xi_ne (by omega)).trans ((show Xi U8 904 93 = Xi T7 904 93 from by rw [eU8]; exact Xi_ne (by omega)))
  refine y_callV rfl rfl rfl (t_mo_take__p hHU9 fs ns 5 ⟨by omega, by omega⟩ (by first | assumption | exact (VLR_FR hFU9 rfl (by assumption : VLR S _ _))) (by first | assumption | exact (JR_FR (FR_e eU9) rfl rfl rfl (JR_FR (FR_e eU8) rfl rfl rfl (by assumption : JR T7 _ _)))) (rfl) (by decide) _) ?_
  rintro _ T10 ⟨hHT10, w107, rfl, w103, w104, w105⟩
  have hFT10 : FR md_mo_phrase__p S T10 := FR.tr hFU9 w107 rfl
  show Pl _ _ _ _ _ _ [] _ _
  have : Xi T10 904 65 = 0 → (fs : Int) ≤ Xi T10 904 8 ∧ Xi T10 904 8 ≤ fs + ns := JR.i (by assumption)
  have gp118 := w103
  try rw [FRR hFU9 rfl] at gp118
  try rw [show cu U9 fs = cu T7 fs from cu_eq (by omega) (by omega) (by omega)] at gp118
  try rw [show un7 5 = 102 from rfl] at gp118
  clear w103
  have GX : gSq (cu S fs) (gPhR (tR S fs ns)) = cu T10 fs := cu_og (by omega) (by rw [gPh_s (by omega)]; exact cu_go gp118 (by omega) (by omega))
  refine y_aload_n rfl rfl ?_
  refine y_dup rfl rfl ?_
  refine y_gfi rfl rfl rfl rfl rfl ?_
  have w108 : (Xi T10 904 93) = (Xi T7 904 93) := (show Xi T10 904 93 = Xi U9 904 93 from w107.x _ _ rfl).trans ( (show Xi U9 904 93 = Xi U8 904 93 from by rw [eU9]; exact Xi_ne (by omega)).trans ((show Xi U8 904 93 = Xi T7 904 93 from by rw [eU8]; exact Xi_ne (by omega))))
  rw [w108]
  refine y_iconst rfl ?_
  refine y_iadd rfl ?_
  refine y_pfi rfl rfl rfl rfl ?_
  obtain ⟨U11, eU11⟩ : ∃ T : sS, T = uI T10 904 93 (Int32.ofInt ((Xi T7 904 93) + 1)) := ⟨_, rfl⟩
  rw [← eU11]
  have hHU11 : RI U11 := by rw [eU11]; exact RI_w hHT10
  have hFU11 : FR md_mo_phrase__p S U11 := by rw [eU11]; exact FR.wI hFT10 (mdf_i (r := (904, 905, 93, 94)) (List.mem_of_getElem? (i := 5) rfl) (inR_i (by omega) (by omega) (by omega) (by omega)))
  have w109 : Xi U11 904 93 = ((Xi T7 904 93) + 1) := by rw [eU11]; exact Xi_same (by unfold rg; omega)
  refine y_goto rfl rfl ?_
  have w110 : Xi U11 904 65 = Xi T10 904 65 := (show Xi U11 904 65 = Xi T10 904 65 from by rw [eU11]; exact Xi_ne (by omega))
  have w111 : Xi U11 904 66 = Xi T10 904 66 := (show Xi U11 904 66 = Xi T10 904 66 from by rw [eU11]; exact Xi_ne (by omega))
  have w112 : Xi U11 904 69 = Xi T7 904 69 := (show Xi U11 904 69 = Xi T10 904 69 from by rw [eU11]; exact Xi_ne (by omega)).trans ( (show Xi T10 904 69 = Xi U9 904 69 from w107.x _ _ rfl).trans ( (show Xi U9 904 69 = Xi U8 904 69 from by rw [eU9]; exact Xi_ne (by omega)).trans ((show Xi U8 904 69 = Xi T7 904 69 from by rw [eU8]; exact Xi_ne (by omega)))))
  have w113 : Xi U11 904 8 = Xi T10 904 8 := (show Xi U11 904 8 = Xi T10 904 8 from by rw [eU11]; exact Xi_ne (by omega))
  exact Pl_weak (C409 U11 hHU11 hFU11  (by first | exact GX | exact GX.trans (cu_eq (by omega) (by omega) (by omega)).symm | exact cu_og (by omega) (by rw [gPh_t (by omega), G345]; exact cu_br (fun b => by rw [if_neg (n345.o.2 (by omega) b)]; exact cu_1 (by omega) (by omega)) (fun b => cu_eq (by omega) (by omega) (by omega))) | exact cu_st (by omega) (by omega) rfl (by rw [gPh_z (by omega)]; exact pe rfl (by omega))) (by first | exact JR.i (by first | assumption | exact (by assumption : JR U11 _ _)) | exact (fun b => by have q := JR.i J345 (by omega); omega) | exact (fun b => by omega)) (by omega) (by omega) (by omega)) (by omega) (And.intro rfl (True.intro))
set_option maxRecDepth 100000 in
theorem c134_mo_phrase__p {S : sS} (hH : RI S) (fs : Nat) (ns : Nat) (hvl : VLR S fs ns) (hJR : JR S fs ns) (d : Nat) (fu : Nat) : ∀  (T12 : sS) (_ : RI T12) (_ : FR md_mo_phrase__p S T12) (v1 : Int), (-2147483648 ≤ v1 ∧ v1 ≤ 2147483647) → (Xi T12 904 65 = 0) → (Xi S 904 65 = 0) → (Xi T12 904 8 = Xi S 904 8 + 1) → (Xi T12 904 69 = Xi S 904 69) → (Xi T12 904 93 = Xi S 904 93) → (0 ≤ Xi S 904 93 ∧ Xi S 904 93 ≤ 1699) → ((fs : Int) ≤ Xi S 904 8 ∧ Xi S 904 8 + 1 ≤ fs + ns) → (JR T12 fs ns) → (tR S fs ns (Xi S 904 8 - fs) = 44) → Pl fu lay0 (d + 6) m_mo_phrase 134 [(0, .ref 904), (1, iv v1)] [] T12 (Q_mo_phrase__p S fs ns) := by
  have C409 := c409_mo_phrase__p hH fs ns hvl hJR d  fu
  have hF : FR md_mo_phrase__p S S := FR.rf
  have w1 : -2147483648 ≤ Xi S 904 65 ∧ Xi S 904 65 ≤ 2147483647 := Xi_rgI
  have w2 : -2147483648 ≤ Xi S 904 66 ∧ Xi S 904 66 ≤ 2147483647 := Xi_rgI
  have w3 : -2147483648 ≤ Xi S 904 69 ∧ Xi S 904 69 ≤ 2147483647 := Xi_rgI
  have w4 : -2147483648 ≤ Xi S 904 8 ∧ Xi S 904 8 ≤ 2147483647 := Xi_rgI
  have w5 : -2147483648 ≤ Xi S 904 93 ∧ Xi S 904 93 ≤ 2147483647 := Xi_rgI
  have : Xi S 904 65 = 0 → (fs : Int) ≤ Xi S 904 8 ∧ Xi S 904 8 ≤ fs + ns := JR.i (by assumption)
  have hbd := hvl.2.2.2
  intro T12 hHT12 hFT12 v1 w114 w115 w116 w117 w118 w119 w120 r134 J134 a134
  have w121 : -2147483648 ≤ Xi T12 904 65 ∧ Xi T12 904 65 ≤ 2147483647 := Xi_rgI
  have w122 : -2147483648 ≤ Xi T12 904 66 ∧ Xi T12 904 66 ≤ 2147483647 := Xi_rgI
  have w123 : -2147483648 ≤ Xi T12 904 69 ∧ Xi T12 904 69 ≤ 2147483647 := Xi_rgI
  have w124 : -2147483648 ≤ Xi T12 904 8 ∧ Xi T12 904 8 ≤ 2147483647 := Xi_rgI
  have w125 : -2147483648 ≤ Xi T12 904 93 ∧ Xi T12 904 93 ≤ 2147483647 := Xi_rgI
  refine y_aload_n rfl rfl ?_
  refine y_gfr rfl rfl rfl rfl rfl (hHT12.r 904 95 963 rfl) ?_
  refine y_iload_n rfl rfl ?_
  refine y_iconst rfl ?_
  refine y_iastoreP (n := 1700) rfl rfl (by unfold rg; omega) (fun w126 w127 => ?_)
  obtain ⟨U13, eU13⟩ : ∃ T : sS, T = uI T12 963 ((v1).toNat) (Int32.ofInt 1) := ⟨_, rfl⟩
  rw [← eU13]
  have hHU13 : RI U13 := by rw [eU13]; exact RI_w hHT12
  have hFU13 : FR md_mo_phrase__p S U13 := by rw [eU13]; exact FR.wI hFT12 (mdf_i (r := (963, 964, 0, 100000)) (List.mem_of_getElem? (i := 23) rfl) (inR_i (by omega) (by omega) (by omega) (by omega)))
  have w128 : Xi U13 963 ((v1).toNat) = 1 := by rw [eU13]; exact Xi_same (by unfold rg; omega)
  refine y_aload_n rfl rfl ?_
  refine y_iconst rfl ?_
  have w129 : Xi U13 904 65 = Xi T12 904 65 := (show Xi U13 904 65 = Xi T12 904 65 from by rw [eU13]; exact Xi_ne (by omega))
  have w130 : Xi U13 904 66 = Xi T12 904 66 := (show Xi U13 904 66 = Xi T12 904 66 from by rw [eU13]; exact Xi_ne (by omega))
  have w131 : Xi U13 904 69 = Xi T12 904 69 := (show Xi U13 904 69 = Xi T12 904 69 from by rw [eU13]; exact Xi_ne (by omega))
  have w132 : Xi U13 904 8 = Xi T12 904 8 := (show Xi U13 904 8 = Xi T12 904 8 from by rw [eU13]; exact Xi_ne (by omega))
  have w133 : Xi U13 904 93 = Xi T12 904 93 := (show Xi U13 904 93 = Xi T12 904 93 from by rw [eU13]; exact Xi_ne (by omega))
  refine y_callV rfl rfl rfl (t_mo_test__p hHU13 fs ns 1 ⟨by omega, by omega⟩ (by first | assumption | exact (VLR_FR hFU13 rfl (by assumption : VLR S _ _))) (by first | assumption | exact (JR_FR (FR_e eU13) rfl rfl rfl (by assumption : JR T12 _ _))) _) ?_
  rintro _ T14 ⟨hHT14, w140, rfl, w134, w135, w136, w137, w138⟩
  have hFT14 : FR md_mo_phrase__p S T14 := FR.tr hFU13 w140 rfl
  show Pl _ _ _ _ _ _ [] _ _
  have : Xi T14 904 65 = 0 → (fs : Int) ≤ Xi T14 904 8 ∧ Xi T14 904 8 ≤ fs + ns := JR.i (by assumption)
  have gp143 := w134
  try rw [FRR hFU13 rfl] at gp143
  try rw [show cu U13 fs = cu T12 fs from cu_eq (by omega) (by omega) (by omega)] at gp143
  clear w134
  have GX : gSq (cu S fs) (gPhR (tR S fs ns)) = cu T14 fs := cu_og (by omega) (by rw [gPh_n (by omega)]; exact cu_go gp143 (by omega) (by omega))
  refine y_goto rfl rfl ?_
  exact Pl_weak (C409 T14 hHT14 hFT14  (by first | exact GX | exact GX.trans (cu_eq (by omega) (by omega) (by omega)).symm | exact cu_og (by omega) (by rw [gPh_t (by omega), G345]; exact cu_br (fun b => by rw [if_neg (n345.o.2 (by omega) b)]; exact cu_1 (by omega) (by omega)) (fun b => cu_eq (by omega) (by omega) (by omega))) | exact cu_st (by omega) (by omega) rfl (by rw [gPh_z (by omega)]; exact pe rfl (by omega))) (by first | exact JR.i (by first | assumption | exact (by assumption : JR T14 _ _)) | exact (fun b => by have q := JR.i J345 (by omega); omega) | exact (fun b => by omega)) (by omega) (by omega) (by omega)) (by omega) (And.intro rfl (True.intro))
set_option maxRecDepth 100000 in
theorem c149_mo_phrase__p {S : sS} (hH : RI S) (fs : Nat) (ns : Nat) (hvl : VLR S fs ns) (hJR : JR S fs ns) (d : Nat) (fu : Nat) : ∀  (T15 : sS) (_ : RI T15) (_ : FR md_mo_phrase__p S T15) (v1 : Int), (-2147483648 ≤ v1 ∧ v1 ≤ 2147483647) → (Xi T15 904 65 = 0) → (Xi S 904 65 = 0) → (Xi T15 904 8 = Xi S 904 8 + 1) → (Xi T15 904 69 = Xi S 904 69) → (Xi T15 904 93 = Xi S 904 93) → (0 ≤ Xi S 904 93 ∧ Xi S 904 93 ≤ 1699) → ((fs : Int) ≤ Xi S 904 8 ∧ Xi S 904 8 + 1 ≤ fs + ns) → (JR T15 fs ns) → (tR S fs ns (Xi S 904 8 - fs) = 45) → Pl fu lay0 (d + 6) m_mo_phrase 149 [(0, .ref 904), (1, iv v1)] [] T15 (Q_mo_phrase__p S fs ns) := by
  have C409 := c409_mo_phrase__p hH fs ns hvl hJR d  fu
  have hF : FR md_mo_phrase__p S S := FR.rf
  have w1 : -2147483648 ≤ Xi S 904 65 ∧ Xi S 904 65 ≤ 2147483647 := Xi_rgI
  have w2 : -2147483648 ≤ Xi S 904 66 ∧ Xi S 904 66 ≤ 2147483647 := Xi_rgI
  have w3 : -2147483648 ≤ Xi S 904 69 ∧ Xi S 904 69 ≤ 2147483647 := Xi_rgI
  have w4 : -2147483648 ≤ Xi S 904 8 ∧ Xi S 904 8 ≤ 2147483647 := Xi_rgI
  have w5 : -2147483648 ≤ Xi S 904 93 ∧ Xi S 904 93 ≤ 2147483647 := Xi_rgI
  have : Xi S 904 65 = 0 → (fs : Int) ≤ Xi S 904 8 ∧ Xi S 904 8 ≤ fs + ns := JR.i (by assumption)
  have hbd := hvl.2.2.2
  intro T15 hHT15 hFT15 v1 w141 w142 w143 w144 w145 w146 w147 r149 J149 a149
  have w148 : -2147483648 ≤ Xi T15 904 65 ∧ Xi T15 904 65 ≤ 2147483647 := Xi_rgI
  have w149 : -2147483648 ≤ Xi T15 904 66 ∧ Xi T15 904 66 ≤ 2147483647 := Xi_rgI
  have w150 : -2147483648 ≤ Xi T15 904 69 ∧ Xi T15 904 69 ≤ 2147483647 := Xi_rgI
  have w151 : -2147483648 ≤ Xi T15 904 8 ∧ Xi T15 904 8 ≤ 2147483647 := Xi_rgI
  have w152 : -2147483648 ≤ Xi T15 904 93 ∧ Xi T15 904 93 ≤ 2147483647 := Xi_rgI
  refine y_aload_n rfl rfl ?_
  refine y_gfr rfl rfl rfl rfl rfl (hHT15.r 904 95 963 rfl) ?_
  refine y_iload_n rfl rfl ?_
  refine y_iconst rfl ?_
  refine y_iastoreP (n := 1700) rfl rfl (by unfold rg; omega) (fun w153 w154 => ?_)
  obtain ⟨U16, eU16⟩ : ∃ T : sS, T = uI T15 963 ((v1).toNat) (Int32.ofInt 2) := ⟨_, rfl⟩
  rw [← eU16]
  have hHU16 : RI U16 := by rw [eU16]; exact RI_w hHT15
  have hFU16 : FR md_mo_phrase__p S U16 := by rw [eU16]; exact FR.wI hFT15 (mdf_i (r := (963, 964, 0, 100000)) (List.mem_of_getElem? (i := 23) rfl) (inR_i (by omega) (by omega) (by omega) (by omega)))
  have w155 : Xi U16 963 ((v1).toNat) = 2 := by rw [eU16]; exact Xi_same (by unfold rg; omega)
  refine y_aload_n rfl rfl ?_
  have w156 : Xi U16 904 65 = Xi T15 904 65 := (show Xi U16 904 65 = Xi T15 904 65 from by rw [eU16]; exact Xi_ne (by omega))
  have w157 : Xi U16 904 66 = Xi T15 904 66 := (show Xi U16 904 66 = Xi T15 904 66 from by rw [eU16]; exact Xi_ne (by omega))
  have w158 : Xi U16 904 69 = Xi T15 904 69 := (show Xi U16 904 69 = Xi T15 904 69 from by rw [eU16]; exact Xi_ne (by omega))
  have w159 : Xi U16 904 8 = Xi T15 904 8 := (show Xi U16 904 8 = Xi T15 904 8 from by rw [eU16]; exact Xi_ne (by omega))
  have w160 : Xi U16 904 93 = Xi T15 904 93 := (show Xi U16 904 93 = Xi T15 904 93 from by rw [eU16]; exact Xi_ne (by omega))
  refine y_callV rfl rfl rfl (t_mo_thingOfTest__p hHU16 fs ns (by first | assumption | exact (VLR_FR hFU16 rfl (by assumption : VLR S _ _))) (by first | assumption | exact (JR_FR (FR_e eU16) rfl rfl rfl (by assumption : JR T15 _ _))) _) ?_
  rintro _ T17 ⟨hHT17, w166, rfl, w161, w162, w163, w164⟩
  have hFT17 : FR md_mo_phrase__p S T17 := FR.tr hFU16 w166 rfl
  show Pl _ _ _ _ _ _ [] _ _
  have : Xi T17 904 65 = 0 → (fs : Int) ≤ Xi T17 904 8 ∧ Xi T17 904 8 ≤ fs + ns := JR.i (by assumption)
  have gp157 := w161
  try rw [FRR hFU16 rfl] at gp157
  try rw [show cu U16 fs = cu T15 fs from cu_eq (by omega) (by omega) (by omega)] at gp157
  clear w161
  refine y_aload_n rfl rfl ?_
  refine y_bipush rfl rfl ?_
  have w167 : Xi T17 904 93 = Xi T15 904 93 := (show Xi T17 904 93 = Xi U16 904 93 from w166.x _ _ rfl).trans ((show Xi U16 904 93 = Xi T15 904 93 from by rw [eU16]; exact Xi_ne (by omega)))
  refine y_callV rfl rfl rfl (t_mo_take__p hHT17 fs ns 111 ⟨by omega, by omega⟩ (by first | assumption | exact (VLR_FR hFT17 rfl (by assumption : VLR S _ _))) (by first | assumption | exact (by assumption : JR T17 _ _)) (rfl) (by decide) _) ?_
  rintro _ T18 ⟨hHT18, w172, rfl, w168, w169, w170⟩
  have hFT18 : FR md_mo_phrase__p S T18 := FR.tr hFT17 w172 rfl
  show Pl _ _ _ _ _ _ [] _ _
  have : Xi T18 904 65 = 0 → (fs : Int) ≤ Xi T18 904 8 ∧ Xi T18 904 8 ≤ fs + ns := JR.i (by assumption)
  have gp163 := w168
  try rw [FRR hFT17 rfl] at gp163
  try rw [show un7 111 = 11 from rfl] at gp163
  clear w168
  refine y_aload_n rfl rfl ?_
  have w173 : Xi T18 904 69 = Xi T17 904 69 := (show Xi T18 904 69 = Xi T17 904 69 from w172.x _ _ rfl)
  have w174 : Xi T18 904 93 = Xi T15 904 93 := (show Xi T18 904 93 = Xi T17 904 93 from w172.x _ _ rfl).trans ( (show Xi T17 904 93 = Xi U16 904 93 from w166.x _ _ rfl).trans ((show Xi U16 904 93 = Xi T15 904 93 from by rw [eU16]; exact Xi_ne (by omega))))
  refine y_callV rfl rfl rfl (t_mo_thing__p hHT18 fs ns (by first | assumption | exact (VLR_FR hFT18 rfl (by assumption : VLR S _ _))) (by first | assumption | exact (by assumption : JR T18 _ _)) _) ?_
  rintro _ T19 ⟨hHT19, w181, rfl, w175, w176, w177, w178, w179⟩
  have hFT19 : FR md_mo_phrase__p S T19 := FR.tr hFT18 w181 rfl
  show Pl _ _ _ _ _ _ [] _ _
  have : Xi T19 904 65 = 0 → (fs : Int) ≤ Xi T19 904 8 ∧ Xi T19 904 8 ≤ fs + ns := JR.i (by assumption)
  have gp167 := w175
  try rw [FRR hFT18 rfl] at gp167
  clear w175
  have GX : gSq (cu S fs) (gPhR (tR S fs ns)) = cu T19 fs := cu_og (by omega) (by rw [gPh_m (by omega), cu_go gp157 (by omega) (by omega), gp163, gp167])
  refine y_aload_n rfl rfl ?_
  refine y_gfr rfl rfl rfl rfl rfl (hHT19.r 904 89 959 rfl) ?_
  refine y_aload_n rfl rfl ?_
  refine y_gfi rfl rfl rfl rfl rfl ?_
  have w182 : (Xi T19 904 93) = (Xi T15 904 93) := (show Xi T19 904 93 = Xi T18 904 93 from w181.x _ _ rfl).trans ( (show Xi T18 904 93 = Xi T17 904 93 from w172.x _ _ rfl).trans ( (show Xi T17 904 93 = Xi U16 904 93 from w166.x _ _ rfl).trans ((show Xi U16 904 93 = Xi T15 904 93 from by rw [eU16]; exact Xi_ne (by omega)))))
  rw [w182]
  refine y_aload_n rfl rfl ?_
  refine y_gfi rfl rfl rfl rfl rfl ?_
  have w183 : -2147483648 ≤ (Xi T19 904 100) ∧ (Xi T19 904 100) ≤ 2147483647 := Xi_rgI
  refine y_sipush rfl rfl ?_
  refine y_imul rfl ?_
  refine y_aload_n rfl rfl ?_
  refine y_gfi rfl rfl rfl rfl rfl ?_
  have w184 : -2147483648 ≤ (Xi T19 904 101) ∧ (Xi T19 904 101) ≤ 2147483647 := Xi_rgI
  refine y_iadd rfl ?_
  refine y_iastoreP (n := 1700) rfl rfl (by unfold rg; omega) (fun w185 w186 => ?_)
  obtain ⟨U20, eU20⟩ : ∃ T : sS, T = uI T19 959 (((Xi T15 904 93)).toNat) (Int32.ofInt (((Xi T19 904 100) * 10000) + (Xi T19 904 101))) := ⟨_, rfl⟩
  rw [← eU20]
  have hHU20 : RI U20 := by rw [eU20]; exact RI_w hHT19
  have hFU20 : FR md_mo_phrase__p S U20 := by rw [eU20]; exact FR.wI hFT19 (mdf_i (r := (959, 960, 0, 100000)) (List.mem_of_getElem? (i := 19) rfl) (inR_i (by omega) (by omega) (by omega) (by omega)))
  refine y_aload_n rfl rfl ?_
  refine y_gfr rfl rfl rfl rfl rfl (hHU20.r 904 90 960 rfl) ?_
  refine y_aload_n rfl rfl ?_
  refine y_gfi rfl rfl rfl rfl rfl ?_
  have w187 : (Xi U20 904 93) = (Xi T15 904 93) := (show Xi U20 904 93 = Xi T19 904 93 from by rw [eU20]; exact Xi_ne (by omega)).trans ( (show Xi T19 904 93 = Xi T18 904 93 from w181.x _ _ rfl).trans ( (show Xi T18 904 93 = Xi T17 904 93 from w172.x _ _ rfl).trans ( (show Xi T17 904 93 = Xi U16 904 93 from w166.x _ _ rfl).trans ((show Xi U16 904 93 = Xi T15 904 93 from by rw [eU16]; exact Xi_ne (by omega))))))
  rw [w187]
  refine y_aload_n rfl rfl ?_
  refine y_gfi rfl rfl rfl rfl rfl ?_
  have w188 : -2147483648 ≤ (Xi U20 904 99) ∧ (Xi U20 904 99) ≤ 2147483647 := Xi_rgI
  refine y_iastoreP (n := 1700) rfl rfl (by unfold rg; omega) (fun w189 w190 => ?_)
  obtain ⟨U21, eU21⟩ : ∃ T : sS, T = uI U20 960 (((Xi T15 904 93)).toNat) (Int32.ofInt (Xi U20 904 99)) := ⟨_, rfl⟩
  rw [← eU21]
  have hHU21 : RI U21 := by rw [eU21]; exact RI_w hHU20
  have hFU21 : FR md_mo_phrase__p S U21 := by rw [eU21]; exact FR.wI hFU20 (mdf_i (r := (960, 961, 0, 100000)) (List.mem_of_getElem? (i := 20) rfl) (inR_i (by omega) (by omega) (by omega) (by omega)))
  have w191 : Xi U21 960 (((Xi T15 904 93)).toNat) = (Xi U20 904 99) := by rw [eU21]; exact Xi_same (by unfold rg; omega)
  refine y_aload_n rfl rfl ?_
  refine y_dup rfl rfl ?_
  refine y_gfi rfl rfl rfl rfl rfl ?_
  have w192 : (Xi U21 904 93) = (Xi T15 904 93) := (show Xi U21 904 93 = Xi U20 904 93 from by rw [eU21]; exact Xi_ne (by omega)).trans ( (show Xi U20 904 93 = Xi T19 904 93 from by rw [eU20]; exact Xi_ne (by omega)).trans ( (show Xi T19 904 93 = Xi T18 904 93 from w181.x _ _ rfl).trans ( (show Xi T18 904 93 = Xi T17 904 93 from w172.x _ _ rfl).trans ( (show Xi T17 904 93 = Xi U16 904 93 from w166.x _ _ rfl).trans ((show Xi U16 904 93 = Xi T15 904 93 from by rw [eU16]; exact Xi_ne (by omega)))))))
  rw [w192]
  refine y_iconst rfl ?_
  refine y_iadd rfl ?_
  refine y_pfi rfl rfl rfl rfl ?_
  obtain ⟨U22, eU22⟩ : ∃ T : sS, T = uI U21 904 93 (Int32.ofInt ((Xi T15 904 93) + 1)) := ⟨_, rfl⟩
  rw [← eU22]
  have hHU22 : RI U22 := by rw [eU22]; exact RI_w hHU21
  have hFU22 : FR md_mo_phrase__p S U22 := by rw [eU22]; exact FR.wI hFU21 (mdf_i (r := (904, 905, 93, 94)) (List.mem_of_getElem? (i := 5) rfl) (inR_i (by omega) (by omega) (by omega) (by omega)))
  have w193 : Xi U22 904 93 = ((Xi T15 904 93) + 1) := by rw [eU22]; exact Xi_same (by unfold rg; omega)
  refine y_goto rfl rfl ?_
  have w194 : Xi U22 904 65 = Xi T19 904 65 := (show Xi U22 904 65 = Xi U21 904 65 from by rw [eU22]; exact Xi_ne (by omega)).trans ( (show Xi U21 904 65 = Xi U20 904 65 from by rw [eU21]; exact Xi_ne (by omega)).trans ((show Xi U20 904 65 = Xi T19 904 65 from by rw [eU20]; exact Xi_ne (by omega))))
  have w195 : Xi U22 904 66 = Xi T19 904 66 := (show Xi U22 904 66 = Xi U21 904 66 from by rw [eU22]; exact Xi_ne (by omega)).trans ( (show Xi U21 904 66 = Xi U20 904 66 from by rw [eU21]; exact Xi_ne (by omega)).trans ((show Xi U20 904 66 = Xi T19 904 66 from by rw [eU20]; exact Xi_ne (by omega))))
  have w196 : Xi U22 904 69 = Xi T19 904 69 := (show Xi U22 904 69 = Xi U21 904 69 from by rw [eU22]; exact Xi_ne (by omega)).trans ( (show Xi U21 904 69 = Xi U20 904 69 from by rw [eU21]; exact Xi_ne (by omega)).trans ((show Xi U20 904 69 = Xi T19 904 69 from by rw [eU20]; exact Xi_ne (by omega))))
  have w197 : Xi U22 904 8 = Xi T19 904 8 := (show Xi U22 904 8 = Xi U21 904 8 from by rw [eU22]; exact Xi_ne (by omega)).trans ( (show Xi U21 904 8 = Xi U20 904 8 from by rw [eU21]; exact Xi_ne (by omega)).trans ((show Xi U20 904 8 = Xi T19 904 8 from by rw [eU20]; exact Xi_ne (by omega))))
  exact Pl_weak (C409 U22 hHU22 hFU22  (by first | exact GX | exact GX.trans (cu_eq (by omega) (by omega) (by omega)).symm | exact cu_og (by omega) (by rw [gPh_t (by omega), G345]; exact cu_br (fun b => by rw [if_neg (n345.o.2 (by omega) b)]; exact cu_1 (by omega) (by omega)) (fun b => cu_eq (by omega) (by omega) (by omega))) | exact cu_st (by omega) (by omega) rfl (by rw [gPh_z (by omega)]; exact pe rfl (by omega))) (by first | exact JR.i (by first | assumption | exact (by assumption : JR U22 _ _)) | exact (fun b => by have q := JR.i J345 (by omega); omega) | exact (fun b => by omega)) (by omega) (by omega) (by omega)) (by omega) (And.intro rfl (True.intro))
set_option maxRecDepth 100000 in
theorem c236_mo_phrase__p {S : sS} (hH : RI S) (fs : Nat) (ns : Nat) (hvl : VLR S fs ns) (hJR : JR S fs ns) (d : Nat) (fu : Nat) : ∀  (T23 : sS) (_ : RI T23) (_ : FR md_mo_phrase__p S T23), (Xi T23 904 65 = 0) → (Xi S 904 65 = 0) → (Xi T23 904 8 = Xi S 904 8 + 1) → (Xi T23 904 69 = Xi S 904 69) → (Xi T23 904 93 = Xi S 904 93) → (0 ≤ Xi S 904 93 ∧ Xi S 904 93 ≤ 1699) → ((fs : Int) ≤ Xi S 904 8 ∧ Xi S 904 8 + 1 ≤ fs + ns) → (JR T23 fs ns) → (tR S fs ns (Xi S 904 8 - fs) = 46 ∨ tR S fs ns (Xi S 904 8 - fs) = 47) → Pl fu lay0 (d + 6) m_mo_phrase 236 [(0, .ref 904)] [] T23 (Q_mo_phrase__p S fs ns) := by
  have C409 := c409_mo_phrase__p hH fs ns hvl hJR d  fu
  have hF : FR md_mo_phrase__p S S := FR.rf
  have w1 : -2147483648 ≤ Xi S 904 65 ∧ Xi S 904 65 ≤ 2147483647 := Xi_rgI
  have w2 : -2147483648 ≤ Xi S 904 66 ∧ Xi S 904 66 ≤ 2147483647 := Xi_rgI
  have w3 : -2147483648 ≤ Xi S 904 69 ∧ Xi S 904 69 ≤ 2147483647 := Xi_rgI
  have w4 : -2147483648 ≤ Xi S 904 8 ∧ Xi S 904 8 ≤ 2147483647 := Xi_rgI
  have w5 : -2147483648 ≤ Xi S 904 93 ∧ Xi S 904 93 ≤ 2147483647 := Xi_rgI
  have : Xi S 904 65 = 0 → (fs : Int) ≤ Xi S 904 8 ∧ Xi S 904 8 ≤ fs + ns := JR.i (by assumption)
  have hbd := hvl.2.2.2
  intro T23 hHT23 hFT23 w198 w199 w200 w201 w202 w203 r236 J236 a236
  have w204 : -2147483648 ≤ Xi T23 904 65 ∧ Xi T23 904 65 ≤ 2147483647 := Xi_rgI
  have w205 : -2147483648 ≤ Xi T23 904 66 ∧ Xi T23 904 66 ≤ 2147483647 := Xi_rgI
  have w206 : -2147483648 ≤ Xi T23 904 69 ∧ Xi T23 904 69 ≤ 2147483647 := Xi_rgI
  have w207 : -2147483648 ≤ Xi T23 904 8 ∧ Xi T23 904 8 ≤ 2147483647 := Xi_rgI
  have w208 : -2147483648 ≤ Xi T23 904 93 ∧ Xi T23 904 93 ≤ 2147483647 := Xi_rgI
  refine y_aload_n rfl rfl ?_
  refine y_callV rfl rfl rfl (t_mo_property__p hHT23 fs ns (by first | assumption | exact (VLR_FR hFT23 rfl (by assumption : VLR S _ _))) (by first | assumption | exact (by assumption : JR T23 _ _)) _) ?_
  rintro _ T24 ⟨hHT24, w214, rfl, w209, w210, w211, w212⟩
  have hFT24 : FR md_mo_phrase__p S T24 := FR.tr hFT23 w214 rfl
  show Pl _ _ _ _ _ _ [] _ _
  have : Xi T24 904 65 = 0 → (fs : Int) ≤ Xi T24 904 8 ∧ Xi T24 904 8 ≤ fs + ns := JR.i (by assumption)
  have gp237 := w209
  try rw [FRR hFT23 rfl] at gp237
  clear w209
  refine y_aload_n rfl rfl ?_
  have w215 : Xi T24 904 93 = Xi T23 904 93 := (show Xi T24 904 93 = Xi T23 904 93 from w214.x _ _ rfl)
  refine y_callV rfl rfl rfl (t_mo_thingOfTest__p hHT24 fs ns (by first | assumption | exact (VLR_FR hFT24 rfl (by assumption : VLR S _ _))) (by first | assumption | exact (by assumption : JR T24 _ _)) _) ?_
  rintro _ T25 ⟨hHT25, w221, rfl, w216, w217, w218, w219⟩
  have hFT25 : FR md_mo_phrase__p S T25 := FR.tr hFT24 w221 rfl
  show Pl _ _ _ _ _ _ [] _ _
  have : Xi T25 904 65 = 0 → (fs : Int) ≤ Xi T25 904 8 ∧ Xi T25 904 8 ≤ fs + ns := JR.i (by assumption)
  have gp241 := w216
  try rw [FRR hFT24 rfl] at gp241
  clear w216
  refine y_aload_n rfl rfl ?_
  refine y_bipush rfl rfl ?_
  have w222 : Xi T25 904 93 = Xi T23 904 93 := (show Xi T25 904 93 = Xi T24 904 93 from w221.x _ _ rfl).trans ((show Xi T24 904 93 = Xi T23 904 93 from w214.x _ _ rfl))
  refine y_callV rfl rfl rfl (t_mo_take__p hHT25 fs ns 110 ⟨by omega, by omega⟩ (by first | assumption | exact (VLR_FR hFT25 rfl (by assumption : VLR S _ _))) (by first | assumption | exact (by assumption : JR T25 _ _)) (rfl) (by decide) _) ?_
  rintro _ T26 ⟨hHT26, w227, rfl, w223, w224, w225⟩
  have hFT26 : FR md_mo_phrase__p S T26 := FR.tr hFT25 w227 rfl
  show Pl _ _ _ _ _ _ [] _ _
  have : Xi T26 904 65 = 0 → (fs : Int) ≤ Xi T26 904 8 ∧ Xi T26 904 8 ≤ fs + ns := JR.i (by assumption)
  have gp247 := w223
  try rw [FRR hFT25 rfl] at gp247
  try rw [show un7 110 = 10 from rfl] at gp247
  clear w223
  refine y_aload_n rfl rfl ?_
  refine y_gfr rfl rfl rfl rfl rfl (hHT26.r 904 87 957 rfl) ?_
  refine y_aload_n rfl rfl ?_
  refine y_gfi rfl rfl rfl rfl rfl ?_
  have w228 : (Xi T26 904 93) = (Xi T23 904 93) := (show Xi T26 904 93 = Xi T25 904 93 from w227.x _ _ rfl).trans ( (show Xi T25 904 93 = Xi T24 904 93 from w221.x _ _ rfl).trans ((show Xi T24 904 93 = Xi T23 904 93 from w214.x _ _ rfl)))
  rw [w228]
  refine y_aload_n rfl rfl ?_
  refine y_gfi rfl rfl rfl rfl rfl ?_
  have w229 : -2147483648 ≤ (Xi T26 904 8) ∧ (Xi T26 904 8) ≤ 2147483647 := Xi_rgI
  refine y_iastoreP (n := 1700) rfl rfl (by unfold rg; omega) (fun w230 w231 => ?_)
  obtain ⟨U27, eU27⟩ : ∃ T : sS, T = uI T26 957 (((Xi T23 904 93)).toNat) (Int32.ofInt (Xi T26 904 8)) := ⟨_, rfl⟩
  rw [← eU27]
  have hHU27 : RI U27 := by rw [eU27]; exact RI_w hHT26
  have hFU27 : FR md_mo_phrase__p S U27 := by rw [eU27]; exact FR.wI hFT26 (mdf_i (r := (957, 958, 0, 100000)) (List.mem_of_getElem? (i := 17) rfl) (inR_i (by omega) (by omega) (by omega) (by omega)))
  have w232 : Xi U27 957 (((Xi T23 904 93)).toNat) = (Xi T26 904 8) := by rw [eU27]; exact Xi_same (by unfold rg; omega)
  refine y_aload_n rfl rfl ?_
  refine y_iconst rfl ?_
  have w233 : Xi U27 904 65 = Xi T26 904 65 := (show Xi U27 904 65 = Xi T26 904 65 from by rw [eU27]; exact Xi_ne (by omega))
  have w234 : Xi U27 904 66 = Xi T26 904 66 := (show Xi U27 904 66 = Xi T26 904 66 from by rw [eU27]; exact Xi_ne (by omega))
  have w235 : Xi U27 904 69 = Xi T25 904 69 := (show Xi U27 904 69 = Xi T26 904 69 from by rw [eU27]; exact Xi_ne (by omega)).trans ((show Xi T26 904 69 = Xi T25 904 69 from w227.x _ _ rfl))
  have w236 : Xi U27 904 8 = Xi T26 904 8 := (show Xi U27 904 8 = Xi T26 904 8 from by rw [eU27]; exact Xi_ne (by omega))
  have w237 : Xi U27 904 93 = Xi T23 904 93 := (show Xi U27 904 93 = Xi T26 904 93 from by rw [eU27]; exact Xi_ne (by omega)).trans ( (show Xi T26 904 93 = Xi T25 904 93 from w227.x _ _ rfl).trans ( (show Xi T25 904 93 = Xi T24 904 93 from w221.x _ _ rfl).trans ((show Xi T24 904 93 = Xi T23 904 93 from w214.x _ _ rfl))))
  refine y_callV rfl rfl rfl (t_mo_take__p hHU27 fs ns 4 ⟨by omega, by omega⟩ (by first | assumption | exact (VLR_FR hFU27 rfl (by assumption : VLR S _ _))) (by first | assumption | exact (JR_FR (FR_e eU27) rfl rfl rfl (by assumption : JR T26 _ _))) (rfl) (by decide) _) ?_
  rintro _ T28 ⟨hHT28, w242, rfl, w238, w239, w240⟩
  have hFT28 : FR md_mo_phrase__p S T28 := FR.tr hFU27 w242 rfl
  show Pl _ _ _ _ _ _ [] _ _
  have : Xi T28 904 65 = 0 → (fs : Int) ≤ Xi T28 904 8 ∧ Xi T28 904 8 ≤ fs + ns := JR.i (by assumption)
  have gp265 := w238
  try rw [FRR hFU27 rfl] at gp265
  try rw [show cu U27 fs = cu T26 fs from cu_eq (by omega) (by omega) (by omega)] at gp265
  try rw [show un7 4 = 101 from rfl] at gp265
  clear w238
  have GX : gSq (cu S fs) (gPhR (tR S fs ns)) = cu T28 fs := cu_og (by omega) (by rw [gPh_i (by omega), cu_go gp237 (by omega) (by omega), gp241, gp247, gp265])
  refine y_aload_n rfl rfl ?_
  refine y_dup rfl rfl ?_
  refine y_gfi rfl rfl rfl rfl rfl ?_
  have w243 : (Xi T28 904 93) = (Xi T23 904 93) := (show Xi T28 904 93 = Xi U27 904 93 from w242.x _ _ rfl).trans ( (show Xi U27 904 93 = Xi T26 904 93 from by rw [eU27]; exact Xi_ne (by omega)).trans ( (show Xi T26 904 93 = Xi T25 904 93 from w227.x _ _ rfl).trans ( (show Xi T25 904 93 = Xi T24 904 93 from w221.x _ _ rfl).trans ((show Xi T24 904 93 = Xi T23 904 93 from w214.x _ _ rfl)))))
  rw [w243]
  refine y_iconst rfl ?_
  refine y_iadd rfl ?_
  refine y_pfi rfl rfl rfl rfl ?_
  obtain ⟨U29, eU29⟩ : ∃ T : sS, T = uI T28 904 93 (Int32.ofInt ((Xi T23 904 93) + 1)) := ⟨_, rfl⟩
  rw [← eU29]
  have hHU29 : RI U29 := by rw [eU29]; exact RI_w hHT28
  have hFU29 : FR md_mo_phrase__p S U29 := by rw [eU29]; exact FR.wI hFT28 (mdf_i (r := (904, 905, 93, 94)) (List.mem_of_getElem? (i := 5) rfl) (inR_i (by omega) (by omega) (by omega) (by omega)))
  have w244 : Xi U29 904 93 = ((Xi T23 904 93) + 1) := by rw [eU29]; exact Xi_same (by unfold rg; omega)
  refine y_goto rfl rfl ?_
  have w245 : Xi U29 904 65 = Xi T28 904 65 := (show Xi U29 904 65 = Xi T28 904 65 from by rw [eU29]; exact Xi_ne (by omega))
  have w246 : Xi U29 904 66 = Xi T28 904 66 := (show Xi U29 904 66 = Xi T28 904 66 from by rw [eU29]; exact Xi_ne (by omega))
  have w247 : Xi U29 904 69 = Xi T25 904 69 := (show Xi U29 904 69 = Xi T28 904 69 from by rw [eU29]; exact Xi_ne (by omega)).trans ( (show Xi T28 904 69 = Xi U27 904 69 from w242.x _ _ rfl).trans ( (show Xi U27 904 69 = Xi T26 904 69 from by rw [eU27]; exact Xi_ne (by omega)).trans ((show Xi T26 904 69 = Xi T25 904 69 from w227.x _ _ rfl))))
  have w248 : Xi U29 904 8 = Xi T28 904 8 := (show Xi U29 904 8 = Xi T28 904 8 from by rw [eU29]; exact Xi_ne (by omega))
  exact Pl_weak (C409 U29 hHU29 hFU29  (by first | exact GX | exact GX.trans (cu_eq (by omega) (by omega) (by omega)).symm | exact cu_og (by omega) (by rw [gPh_t (by omega), G345]; exact cu_br (fun b => by rw [if_neg (n345.o.2 (by omega) b)]; exact cu_1 (by omega) (by omega)) (fun b => cu_eq (by omega) (by omega) (by omega))) | exact cu_st (by omega) (by omega) rfl (by rw [gPh_z (by omega)]; exact pe rfl (by omega))) (by first | exact JR.i (by first | assumption | exact (by assumption : JR U29 _ _)) | exact (fun b => by have q := JR.i J345 (by omega); omega) | exact (fun b => by omega)) (by omega) (by omega) (by omega)) (by omega) (And.intro rfl (True.intro))
set_option maxRecDepth 100000 in
theorem c218_mo_phrase__p {S : sS} (hH : RI S) (fs : Nat) (ns : Nat) (hvl : VLR S fs ns) (hJR : JR S fs ns) (d : Nat) (fu : Nat) : ∀  (T30 : sS) (_ : RI T30) (_ : FR md_mo_phrase__p S T30) (v1 : Int) (v2 : Int), (-2147483648 ≤ v1 ∧ v1 ≤ 2147483647) → (-2147483648 ≤ v2 ∧ v2 ≤ 2147483647) → (Xi T30 904 65 = 0) → (Xi S 904 65 = 0) → (Xi T30 904 8 = Xi S 904 8 + 1) → (Xi T30 904 69 = Xi S 904 69) → (Xi T30 904 93 = Xi S 904 93) → (0 ≤ Xi S 904 93 ∧ Xi S 904 93 ≤ 1699) → ((fs : Int) ≤ Xi S 904 8 ∧ Xi S 904 8 + 1 ≤ fs + ns) → (JR T30 fs ns) → ((tR S fs ns (Xi S 904 8 - fs) = 46 ∧ v2 = 146) ∨ (tR S fs ns (Xi S 904 8 - fs) = 47 ∧ v2 = 147)) → Pl fu lay0 (d + 6) m_mo_phrase 218 [(0, .ref 904), (1, iv v1), (2, iv v2)] [] T30 (Q_mo_phrase__p S fs ns) := by
  have C236 := c236_mo_phrase__p hH fs ns hvl hJR d  fu
  have hF : FR md_mo_phrase__p S S := FR.rf
  have w1 : -2147483648 ≤ Xi S 904 65 ∧ Xi S 904 65 ≤ 2147483647 := Xi_rgI
  have w2 : -2147483648 ≤ Xi S 904 66 ∧ Xi S 904 66 ≤ 2147483647 := Xi_rgI
  have w3 : -2147483648 ≤ Xi S 904 69 ∧ Xi S 904 69 ≤ 2147483647 := Xi_rgI
  have w4 : -2147483648 ≤ Xi S 904 8 ∧ Xi S 904 8 ≤ 2147483647 := Xi_rgI
  have w5 : -2147483648 ≤ Xi S 904 93 ∧ Xi S 904 93 ≤ 2147483647 := Xi_rgI
  have : Xi S 904 65 = 0 → (fs : Int) ≤ Xi S 904 8 ∧ Xi S 904 8 ≤ fs + ns := JR.i (by assumption)
  have hbd := hvl.2.2.2
  intro T30 hHT30 hFT30 v1 v2 w249 w250 w251 w252 w253 w254 w255 w256 r218 J218 a218
  have w257 : -2147483648 ≤ Xi T30 904 65 ∧ Xi T30 904 65 ≤ 2147483647 := Xi_rgI
  have w258 : -2147483648 ≤ Xi T30 904 66 ∧ Xi T30 904 66 ≤ 2147483647 := Xi_rgI
  have w259 : -2147483648 ≤ Xi T30 904 69 ∧ Xi T30 904 69 ≤ 2147483647 := Xi_rgI
  have w260 : -2147483648 ≤ Xi T30 904 8 ∧ Xi T30 904 8 ≤ 2147483647 := Xi_rgI
  have w261 : -2147483648 ≤ Xi T30 904 93 ∧ Xi T30 904 93 ≤ 2147483647 := Xi_rgI
  refine y_aload_n rfl rfl ?_
  refine y_gfr rfl rfl rfl rfl rfl (hHT30.r 904 95 963 rfl) ?_
  refine y_iload_n rfl rfl ?_
  refine y_iload_n rfl rfl ?_
  refine y_sipush rfl rfl ?_
  refine y_icmp_ne rfl rfl (by unfold rg; omega) (by unfold rg; omega) (fun w262 => ?_) (fun w263 => ?_)
  · refine y_iconst rfl ?_
    refine y_iastoreP (n := 1700) rfl rfl (by unfold rg; omega) (fun w264 w265 => ?_)
    obtain ⟨U31, eU31⟩ : ∃ T : sS, T = uI T30 963 ((v1).toNat) (Int32.ofInt 4) := ⟨_, rfl⟩
    rw [← eU31]
    have hHU31 : RI U31 := by rw [eU31]; exact RI_w hHT30
    have hFU31 : FR md_mo_phrase__p S U31 := by rw [eU31]; exact FR.wI hFT30 (mdf_i (r := (963, 964, 0, 100000)) (List.mem_of_getElem? (i := 23) rfl) (inR_i (by omega) (by omega) (by omega) (by omega)))
    have w266 : Xi U31 963 ((v1).toNat) = 4 := by rw [eU31]; exact Xi_same (by unfold rg; omega)
    have w267 : Xi U31 904 65 = Xi T30 904 65 := (show Xi U31 904 65 = Xi T30 904 65 from by rw [eU31]; exact Xi_ne (by omega))
    have w268 : Xi U31 904 66 = Xi T30 904 66 := (show Xi U31 904 66 = Xi T30 904 66 from by rw [eU31]; exact Xi_ne (by omega))
    have w269 : Xi U31 904 69 = Xi T30 904 69 := (show Xi U31 904 69 = Xi T30 904 69 from by rw [eU31]; exact Xi_ne (by omega))
    have w270 : Xi U31 904 8 = Xi T30 904 8 := (show Xi U31 904 8 = Xi T30 904 8 from by rw [eU31]; exact Xi_ne (by omega))
    have w271 : Xi U31 904 93 = Xi T30 904 93 := (show Xi U31 904 93 = Xi T30 904 93 from by rw [eU31]; exact Xi_ne (by omega))
    exact Pl_weak (C236 U31 hHU31 hFU31  (by omega) (by omega) (by omega) (by omega) (by omega) (by omega) (by first | exact r218 | exact ⟨by omega, in_u2 hvl (by omega) (by omega) (by omega) (by omega)⟩) (by first | exact jr_up (by assumption : JR T30 _ _) (VLR_FR hFT30 rfl (by assumption : VLR S _ _)) (show U31 = uI T30 904 8 (Int32.ofInt (_ + 1)) from eU31) (by omega) (fun b => by rw [FRR hFT30 rfl, show Xi T30 904 8 = Xi S 904 8 by omega]; omega) | assumption | exact (JR_FR (FR_e eU31) rfl rfl rfl (by assumption : JR T30 _ _))) (by omega)) (by omega) (And.intro rfl (True.intro))
  · refine y_iconst rfl ?_
    refine y_goto rfl rfl ?_
    refine y_iastoreP (n := 1700) rfl rfl (by unfold rg; omega) (fun w272 w273 => ?_)
    obtain ⟨U32, eU32⟩ : ∃ T : sS, T = uI T30 963 ((v1).toNat) (Int32.ofInt 3) := ⟨_, rfl⟩
    rw [← eU32]
    have hHU32 : RI U32 := by rw [eU32]; exact RI_w hHT30
    have hFU32 : FR md_mo_phrase__p S U32 := by rw [eU32]; exact FR.wI hFT30 (mdf_i (r := (963, 964, 0, 100000)) (List.mem_of_getElem? (i := 23) rfl) (inR_i (by omega) (by omega) (by omega) (by omega)))
    have w274 : Xi U32 963 ((v1).toNat) = 3 := by rw [eU32]; exact Xi_same (by unfold rg; omega)
    have w275 : Xi U32 904 65 = Xi T30 904 65 := (show Xi U32 904 65 = Xi T30 904 65 from by rw [eU32]; exact Xi_ne (by omega))
    have w276 : Xi U32 904 66 = Xi T30 904 66 := (show Xi U32 904 66 = Xi T30 904 66 from by rw [eU32]; exact Xi_ne (by omega))
    have w277 : Xi U32 904 69 = Xi T30 904 69 := (show Xi U32 904 69 = Xi T30 904 69 from by rw [eU32]; exact Xi_ne (by omega))
    have w278 : Xi U32 904 8 = Xi T30 904 8 := (show Xi U32 904 8 = Xi T30 904 8 from by rw [eU32]; exact Xi_ne (by omega))
    have w279 : Xi U32 904 93 = Xi T30 904 93 := (show Xi U32 904 93 = Xi T30 904 93 from by rw [eU32]; exact Xi_ne (by omega))
    exact Pl_weak (C236 U32 hHU32 hFU32  (by omega) (by omega) (by omega) (by omega) (by omega) (by omega) (by first | exact r218 | exact ⟨by omega, in_u2 hvl (by omega) (by omega) (by omega) (by omega)⟩) (by first | exact jr_up (by assumption : JR T30 _ _) (VLR_FR hFT30 rfl (by assumption : VLR S _ _)) (show U32 = uI T30 904 8 (Int32.ofInt (_ + 1)) from eU32) (by omega) (fun b => by rw [FRR hFT30 rfl, show Xi T30 904 8 = Xi S 904 8 by omega]; omega) | assumption | exact (JR_FR (FR_e eU32) rfl rfl rfl (by assumption : JR T30 _ _))) (by omega)) (by omega) (And.intro rfl (True.intro))
set_option maxRecDepth 100000 in
theorem c374_mo_phrase__p {S : sS} (hH : RI S) (fs : Nat) (ns : Nat) (hvl : VLR S fs ns) (hJR : JR S fs ns) (d : Nat) (fu : Nat) : ∀  (T33 : sS) (_ : RI T33) (_ : FR md_mo_phrase__p S T33) (v1 : Int), (-2147483648 ≤ v1 ∧ v1 ≤ 2147483647) → (Xi T33 904 65 = 0) → (Xi S 904 65 = 0) → (Xi T33 904 8 = Xi S 904 8 + 1) → (Xi T33 904 69 = Xi S 904 69) → (Xi T33 904 93 = Xi S 904 93) → (0 ≤ Xi S 904 93 ∧ Xi S 904 93 ≤ 1699) → ((fs : Int) ≤ Xi S 904 8 ∧ Xi S 904 8 + 1 ≤ fs + ns) → (JR T33 fs ns) → (tR S fs ns (Xi S 904 8 - fs) = 48) → Pl fu lay0 (d + 6) m_mo_phrase 374 [(0, .ref 904), (1, iv v1)] [] T33 (Q_mo_phrase__p S fs ns) := by
  have C409 := c409_mo_phrase__p hH fs ns hvl hJR d  fu
  have hF : FR md_mo_phrase__p S S := FR.rf
  have w1 : -2147483648 ≤ Xi S 904 65 ∧ Xi S 904 65 ≤ 2147483647 := Xi_rgI
  have w2 : -2147483648 ≤ Xi S 904 66 ∧ Xi S 904 66 ≤ 2147483647 := Xi_rgI
  have w3 : -2147483648 ≤ Xi S 904 69 ∧ Xi S 904 69 ≤ 2147483647 := Xi_rgI
  have w4 : -2147483648 ≤ Xi S 904 8 ∧ Xi S 904 8 ≤ 2147483647 := Xi_rgI
  have w5 : -2147483648 ≤ Xi S 904 93 ∧ Xi S 904 93 ≤ 2147483647 := Xi_rgI
  have : Xi S 904 65 = 0 → (fs : Int) ≤ Xi S 904 8 ∧ Xi S 904 8 ≤ fs + ns := JR.i (by assumption)
  have hbd := hvl.2.2.2
  intro T33 hHT33 hFT33 v1 w280 w281 w282 w283 w284 w285 w286 r374 J374 a374
  have w287 : -2147483648 ≤ Xi T33 904 65 ∧ Xi T33 904 65 ≤ 2147483647 := Xi_rgI
  have w288 : -2147483648 ≤ Xi T33 904 66 ∧ Xi T33 904 66 ≤ 2147483647 := Xi_rgI
  have w289 : -2147483648 ≤ Xi T33 904 69 ∧ Xi T33 904 69 ≤ 2147483647 := Xi_rgI
  have w290 : -2147483648 ≤ Xi T33 904 8 ∧ Xi T33 904 8 ≤ 2147483647 := Xi_rgI
  have w291 : -2147483648 ≤ Xi T33 904 93 ∧ Xi T33 904 93 ≤ 2147483647 := Xi_rgI
  refine y_aload_n rfl rfl ?_
  refine y_gfr rfl rfl rfl rfl rfl (hHT33.r 904 95 963 rfl) ?_
  refine y_iload_n rfl rfl ?_
  refine y_bipush rfl rfl ?_
  refine y_iastoreP (n := 1700) rfl rfl (by unfold rg; omega) (fun w292 w293 => ?_)
  obtain ⟨U34, eU34⟩ : ∃ T : sS, T = uI T33 963 ((v1).toNat) (Int32.ofInt 6) := ⟨_, rfl⟩
  rw [← eU34]
  have hHU34 : RI U34 := by rw [eU34]; exact RI_w hHT33
  have hFU34 : FR md_mo_phrase__p S U34 := by rw [eU34]; exact FR.wI hFT33 (mdf_i (r := (963, 964, 0, 100000)) (List.mem_of_getElem? (i := 23) rfl) (inR_i (by omega) (by omega) (by omega) (by omega)))
  have w294 : Xi U34 963 ((v1).toNat) = 6 := by rw [eU34]; exact Xi_same (by unfold rg; omega)
  refine y_aload_n rfl rfl ?_
  refine y_dup rfl rfl ?_
  refine y_gfi rfl rfl rfl rfl rfl ?_
  have w295 : (Xi U34 904 93) = (Xi T33 904 93) := (show Xi U34 904 93 = Xi T33 904 93 from by rw [eU34]; exact Xi_ne (by omega))
  rw [w295]
  refine y_iconst rfl ?_
  refine y_iadd rfl ?_
  refine y_pfi rfl rfl rfl rfl ?_
  obtain ⟨U35, eU35⟩ : ∃ T : sS, T = uI U34 904 93 (Int32.ofInt ((Xi T33 904 93) + 1)) := ⟨_, rfl⟩
  rw [← eU35]
  have hHU35 : RI U35 := by rw [eU35]; exact RI_w hHU34
  have hFU35 : FR md_mo_phrase__p S U35 := by rw [eU35]; exact FR.wI hFU34 (mdf_i (r := (904, 905, 93, 94)) (List.mem_of_getElem? (i := 5) rfl) (inR_i (by omega) (by omega) (by omega) (by omega)))
  have w296 : Xi U35 904 93 = ((Xi T33 904 93) + 1) := by rw [eU35]; exact Xi_same (by unfold rg; omega)
  refine y_goto rfl rfl ?_
  have w297 : Xi U35 904 65 = Xi T33 904 65 := (show Xi U35 904 65 = Xi U34 904 65 from by rw [eU35]; exact Xi_ne (by omega)).trans ((show Xi U34 904 65 = Xi T33 904 65 from by rw [eU34]; exact Xi_ne (by omega)))
  have w298 : Xi U35 904 66 = Xi T33 904 66 := (show Xi U35 904 66 = Xi U34 904 66 from by rw [eU35]; exact Xi_ne (by omega)).trans ((show Xi U34 904 66 = Xi T33 904 66 from by rw [eU34]; exact Xi_ne (by omega)))
  have w299 : Xi U35 904 69 = Xi T33 904 69 := (show Xi U35 904 69 = Xi U34 904 69 from by rw [eU35]; exact Xi_ne (by omega)).trans ((show Xi U34 904 69 = Xi T33 904 69 from by rw [eU34]; exact Xi_ne (by omega)))
  have w300 : Xi U35 904 8 = Xi T33 904 8 := (show Xi U35 904 8 = Xi U34 904 8 from by rw [eU35]; exact Xi_ne (by omega)).trans ((show Xi U34 904 8 = Xi T33 904 8 from by rw [eU34]; exact Xi_ne (by omega)))
  exact Pl_weak (C409 U35 hHU35 hFU35  (by first | exact GX | exact GX.trans (cu_eq (by omega) (by omega) (by omega)).symm | exact cu_og (by omega) (by rw [gPh_t (by omega), G345]; exact cu_br (fun b => by rw [if_neg (n345.o.2 (by omega) b)]; exact cu_1 (by omega) (by omega)) (fun b => cu_eq (by omega) (by omega) (by omega))) | exact cu_st (by omega) (by omega) rfl (by rw [gPh_z (by omega)]; exact pe rfl (by omega))) (by first | exact JR.i (by first | assumption | exact (by assumption : JR U35 _ _)) | exact (fun b => by have q := JR.i J345 (by omega); omega) | exact (fun b => by omega)) (by omega) (by omega) (by omega)) (by omega) (And.intro rfl (True.intro))
set_option maxRecDepth 100000 in
theorem c345_mo_phrase__p {S : sS} (hH : RI S) (fs : Nat) (ns : Nat) (hvl : VLR S fs ns) (hJR : JR S fs ns) (d : Nat) (fu : Nat) : ∀  (T36 : sS) (_ : RI T36) (_ : FR md_mo_phrase__p S T36), (Xi S 904 65 = 0) → (Xi T36 904 65 = 0 → Xi S 904 8 ≤ Xi T36 904 8) → (Xi S 904 69 ≤ Xi T36 904 69) → (Xi T36 904 93 = Xi S 904 93) → (0 ≤ Xi S 904 93 ∧ Xi S 904 93 ≤ 1699) → (JR T36 fs ns) → (gR (tR S fs ns) (Xi S 904 8 - fs + 1) = cu T36 fs) → (Hid ((Xi T36 953 (Xi S 904 93).toNat ≠ 0 → Xi T36 904 65 = 0 ∧ th7 (tR S fs ns (Xi T36 904 8 - fs))) ∧ (Xi T36 953 (Xi S 904 93).toNat = 0 → Xi T36 904 65 = 0 → ¬ th7 (tR S fs ns (Xi T36 904 8 - fs))))) → (tR S fs ns (Xi S 904 8 - fs) = 49) → Pl fu lay0 (d + 6) m_mo_phrase 345 [(0, .ref 904)] [] T36 (Q_mo_phrase__p S fs ns) := by
  have C409 := c409_mo_phrase__p hH fs ns hvl hJR d  fu
  have hF : FR md_mo_phrase__p S S := FR.rf
  have w1 : -2147483648 ≤ Xi S 904 65 ∧ Xi S 904 65 ≤ 2147483647 := Xi_rgI
  have w2 : -2147483648 ≤ Xi S 904 66 ∧ Xi S 904 66 ≤ 2147483647 := Xi_rgI
  have w3 : -2147483648 ≤ Xi S 904 69 ∧ Xi S 904 69 ≤ 2147483647 := Xi_rgI
  have w4 : -2147483648 ≤ Xi S 904 8 ∧ Xi S 904 8 ≤ 2147483647 := Xi_rgI
  have w5 : -2147483648 ≤ Xi S 904 93 ∧ Xi S 904 93 ≤ 2147483647 := Xi_rgI
  have : Xi S 904 65 = 0 → (fs : Int) ≤ Xi S 904 8 ∧ Xi S 904 8 ≤ fs + ns := JR.i (by assumption)
  have hbd := hvl.2.2.2
  intro T36 hHT36 hFT36 w301 w302 w303 w304 w305 J345 G345 n345 a345
  have w306 : -2147483648 ≤ Xi T36 904 65 ∧ Xi T36 904 65 ≤ 2147483647 := Xi_rgI
  have w307 : -2147483648 ≤ Xi T36 904 66 ∧ Xi T36 904 66 ≤ 2147483647 := Xi_rgI
  have w308 : -2147483648 ≤ Xi T36 904 69 ∧ Xi T36 904 69 ≤ 2147483647 := Xi_rgI
  have w309 : -2147483648 ≤ Xi T36 904 8 ∧ Xi T36 904 8 ≤ 2147483647 := Xi_rgI
  have w310 : -2147483648 ≤ Xi T36 904 93 ∧ Xi T36 904 93 ≤ 2147483647 := Xi_rgI
  refine y_aload_n rfl rfl ?_
  refine y_gfr rfl rfl rfl rfl rfl (hHT36.r 904 83 953 rfl) ?_
  refine y_aload_n rfl rfl ?_
  refine y_gfi rfl rfl rfl rfl rfl ?_
  refine y_baloadP (n := 1700) rfl rfl rfl (by decide) (by unfold rg; omega) (fun w311 w312 => ?_)
  have w313 : -2147483648 ≤ (Xi T36 953 (((Xi T36 904 93)).toNat)) ∧ (Xi T36 953 (((Xi T36 904 93)).toNat)) ≤ 2147483647 := Xi_rgI
  have e353_ : (Xi T36 953 (((Xi T36 904 93)).toNat)) = Xi T36 953 (Xi S 904 93).toNat := congrArg (fun t : Int => Xi T36 953 t.toNat) (by omega)
  refine y_if_eq rfl rfl (by unfold rg; omega) (fun w314 => ?_) (fun w315 => ?_)
  · refine y_aload_n rfl rfl ?_
    refine y_dup rfl rfl ?_
    refine y_gfi rfl rfl rfl rfl rfl ?_
    refine y_iconst rfl ?_
    refine y_iadd rfl ?_
    refine y_pfi rfl rfl rfl rfl ?_
    obtain ⟨U37, eU37⟩ : ∃ T : sS, T = uI T36 904 93 (Int32.ofInt ((Xi T36 904 93) + 1)) := ⟨_, rfl⟩
    rw [← eU37]
    have hHU37 : RI U37 := by rw [eU37]; exact RI_w hHT36
    have hFU37 : FR md_mo_phrase__p S U37 := by rw [eU37]; exact FR.wI hFT36 (mdf_i (r := (904, 905, 93, 94)) (List.mem_of_getElem? (i := 5) rfl) (inR_i (by omega) (by omega) (by omega) (by omega)))
    have w316 : Xi U37 904 93 = ((Xi T36 904 93) + 1) := by rw [eU37]; exact Xi_same (by unfold rg; omega)
    refine y_goto rfl rfl ?_
    have w317 : Xi U37 904 65 = Xi T36 904 65 := (show Xi U37 904 65 = Xi T36 904 65 from by rw [eU37]; exact Xi_ne (by omega))
    have w318 : Xi U37 904 66 = Xi T36 904 66 := (show Xi U37 904 66 = Xi T36 904 66 from by rw [eU37]; exact Xi_ne (by omega))
    have w319 : Xi U37 904 69 = Xi T36 904 69 := (show Xi U37 904 69 = Xi T36 904 69 from by rw [eU37]; exact Xi_ne (by omega))
    have w320 : Xi U37 904 8 = Xi T36 904 8 := (show Xi U37 904 8 = Xi T36 904 8 from by rw [eU37]; exact Xi_ne (by omega))
    exact Pl_weak (C409 U37 hHU37 hFU37  (by first | exact GX | exact GX.trans (cu_eq (by omega) (by omega) (by omega)).symm | exact cu_og (by omega) (by rw [gPh_t (by omega), G345]; exact cu_br (fun b => by rw [if_neg (n345.o.2 (by omega) b)]; exact cu_1 (by omega) (by omega)) (fun b => cu_eq (by omega) (by omega) (by omega))) | exact cu_st (by omega) (by omega) rfl (by rw [gPh_z (by omega)]; exact pe rfl (by omega))) (by first | exact JR.i (by first | assumption | exact (by assumption : JR U37 _ _)) | exact (fun b => by have q := JR.i J345 (by omega); omega) | exact (fun b => by omega)) (by omega) (by omega) (by omega)) (by omega) (And.intro rfl (True.intro))
  · refine y_aload_n rfl rfl ?_
    have e353 : Xi T36 953 (Xi S 904 93).toNat ≠ 0 := by omega
    refine y_callV rfl rfl rfl (t_mo_thingOfTest__p hHT36 fs ns (by first | assumption | exact (VLR_FR hFT36 rfl (by assumption : VLR S _ _))) (by first | assumption | exact (by assumption : JR T36 _ _)) _) ?_
    rintro _ T38 ⟨hHT38, w326, rfl, w321, w322, w323, w324⟩
    have hFT38 : FR md_mo_phrase__p S T38 := FR.tr hFT36 w326 rfl
    show Pl _ _ _ _ _ _ [] _ _
    have : Xi T38 904 65 = 0 → (fs : Int) ≤ Xi T38 904 8 ∧ Xi T38 904 8 ≤ fs + ns := JR.i (by assumption)
    have gp358 := w321
    try rw [FRR hFT36 rfl] at gp358
    clear w321
    have GX : gSq (cu S fs) (gPhR (tR S fs ns)) = cu T38 fs := cu_og (by omega) (by rw [gPh_t (by omega), G345]; exact cu_br (fun b => by rw [if_pos (n345.o.1 e353).2]; exact cu_go gp358 (by omega) rfl) (fun b => absurd (n345.o.1 e353).1 b))
    refine y_aload_n rfl rfl ?_
    refine y_dup rfl rfl ?_
    refine y_gfi rfl rfl rfl rfl rfl ?_
    have w327 : (Xi T38 904 93) = (Xi T36 904 93) := (show Xi T38 904 93 = Xi T36 904 93 from w326.x _ _ rfl)
    rw [w327]
    refine y_iconst rfl ?_
    refine y_iadd rfl ?_
    refine y_pfi rfl rfl rfl rfl ?_
    obtain ⟨U39, eU39⟩ : ∃ T : sS, T = uI T38 904 93 (Int32.ofInt ((Xi T36 904 93) + 1)) := ⟨_, rfl⟩
    rw [← eU39]
    have hHU39 : RI U39 := by rw [eU39]; exact RI_w hHT38
    have hFU39 : FR md_mo_phrase__p S U39 := by rw [eU39]; exact FR.wI hFT38 (mdf_i (r := (904, 905, 93, 94)) (List.mem_of_getElem? (i := 5) rfl) (inR_i (by omega) (by omega) (by omega) (by omega)))
    have w328 : Xi U39 904 93 = ((Xi T36 904 93) + 1) := by rw [eU39]; exact Xi_same (by unfold rg; omega)
    refine y_goto rfl rfl ?_
    have w329 : Xi U39 904 65 = Xi T38 904 65 := (show Xi U39 904 65 = Xi T38 904 65 from by rw [eU39]; exact Xi_ne (by omega))
    have w330 : Xi U39 904 66 = Xi T38 904 66 := (show Xi U39 904 66 = Xi T38 904 66 from by rw [eU39]; exact Xi_ne (by omega))
    have w331 : Xi U39 904 69 = Xi T38 904 69 := (show Xi U39 904 69 = Xi T38 904 69 from by rw [eU39]; exact Xi_ne (by omega))
    have w332 : Xi U39 904 8 = Xi T38 904 8 := (show Xi U39 904 8 = Xi T38 904 8 from by rw [eU39]; exact Xi_ne (by omega))
    exact Pl_weak (C409 U39 hHU39 hFU39  (by first | exact GX | exact GX.trans (cu_eq (by omega) (by omega) (by omega)).symm | exact cu_og (by omega) (by rw [gPh_t (by omega), G345]; exact cu_br (fun b => by rw [if_neg (n345.o.2 (by omega) b)]; exact cu_1 (by omega) (by omega)) (fun b => cu_eq (by omega) (by omega) (by omega))) | exact cu_st (by omega) (by omega) rfl (by rw [gPh_z (by omega)]; exact pe rfl (by omega))) (by first | exact JR.i (by first | assumption | exact (by assumption : JR U39 _ _)) | exact (fun b => by have q := JR.i J345 (by omega); omega) | exact (fun b => by omega)) (by omega) (by omega) (by omega)) (by omega) (And.intro rfl (True.intro))
set_option maxRecDepth 100000 in
theorem c281_mo_phrase__p {S : sS} (hH : RI S) (fs : Nat) (ns : Nat) (hvl : VLR S fs ns) (hJR : JR S fs ns) (d : Nat) (fu : Nat) : ∀  (T40 : sS) (_ : RI T40) (_ : FR md_mo_phrase__p S T40) (v1 : Int), (-2147483648 ≤ v1 ∧ v1 ≤ 2147483647) → (Xi T40 904 65 = 0) → (Xi S 904 65 = 0) → (Xi T40 904 8 = Xi S 904 8 + 1) → (Xi T40 904 69 = Xi S 904 69) → (Xi T40 904 93 = Xi S 904 93) → (0 ≤ Xi S 904 93 ∧ Xi S 904 93 ≤ 1699) → ((fs : Int) ≤ Xi S 904 8 ∧ Xi S 904 8 + 1 ≤ fs + ns) → (JR T40 fs ns) → (tR S fs ns (Xi S 904 8 - fs) = 49) → Pl fu lay0 (d + 6) m_mo_phrase 281 [(0, .ref 904), (1, iv v1)] [] T40 (Q_mo_phrase__p S fs ns) := by
  have C345 := c345_mo_phrase__p hH fs ns hvl hJR d  fu
  have hF : FR md_mo_phrase__p S S := FR.rf
  have w1 : -2147483648 ≤ Xi S 904 65 ∧ Xi S 904 65 ≤ 2147483647 := Xi_rgI
  have w2 : -2147483648 ≤ Xi S 904 66 ∧ Xi S 904 66 ≤ 2147483647 := Xi_rgI
  have w3 : -2147483648 ≤ Xi S 904 69 ∧ Xi S 904 69 ≤ 2147483647 := Xi_rgI
  have w4 : -2147483648 ≤ Xi S 904 8 ∧ Xi S 904 8 ≤ 2147483647 := Xi_rgI
  have w5 : -2147483648 ≤ Xi S 904 93 ∧ Xi S 904 93 ≤ 2147483647 := Xi_rgI
  have : Xi S 904 65 = 0 → (fs : Int) ≤ Xi S 904 8 ∧ Xi S 904 8 ≤ fs + ns := JR.i (by assumption)
  have hbd := hvl.2.2.2
  intro T40 hHT40 hFT40 v1 w333 w334 w335 w336 w337 w338 w339 r281 J281 a281
  have w340 : -2147483648 ≤ Xi T40 904 65 ∧ Xi T40 904 65 ≤ 2147483647 := Xi_rgI
  have w341 : -2147483648 ≤ Xi T40 904 66 ∧ Xi T40 904 66 ≤ 2147483647 := Xi_rgI
  have w342 : -2147483648 ≤ Xi T40 904 69 ∧ Xi T40 904 69 ≤ 2147483647 := Xi_rgI
  have w343 : -2147483648 ≤ Xi T40 904 8 ∧ Xi T40 904 8 ≤ 2147483647 := Xi_rgI
  have w344 : -2147483648 ≤ Xi T40 904 93 ∧ Xi T40 904 93 ≤ 2147483647 := Xi_rgI
  refine y_aload_n rfl rfl ?_
  refine y_gfr rfl rfl rfl rfl rfl (hHT40.r 904 95 963 rfl) ?_
  refine y_iload_n rfl rfl ?_
  refine y_iconst rfl ?_
  refine y_iastoreP (n := 1700) rfl rfl (by unfold rg; omega) (fun w345 w346 => ?_)
  obtain ⟨U41, eU41⟩ : ∃ T : sS, T = uI T40 963 ((v1).toNat) (Int32.ofInt 5) := ⟨_, rfl⟩
  rw [← eU41]
  have hHU41 : RI U41 := by rw [eU41]; exact RI_w hHT40
  have hFU41 : FR md_mo_phrase__p S U41 := by rw [eU41]; exact FR.wI hFT40 (mdf_i (r := (963, 964, 0, 100000)) (List.mem_of_getElem? (i := 23) rfl) (inR_i (by omega) (by omega) (by omega) (by omega)))
  have w347 : Xi U41 963 ((v1).toNat) = 5 := by rw [eU41]; exact Xi_same (by unfold rg; omega)
  refine y_aload_n rfl rfl ?_
  refine y_gfr rfl rfl rfl rfl rfl (hHU41.r 904 86 956 rfl) ?_
  refine y_aload_n rfl rfl ?_
  refine y_gfi rfl rfl rfl rfl rfl ?_
  have w348 : (Xi U41 904 93) = (Xi T40 904 93) := (show Xi U41 904 93 = Xi T40 904 93 from by rw [eU41]; exact Xi_ne (by omega))
  rw [w348]
  refine y_aload_n rfl rfl ?_
  have w349 : Xi U41 904 65 = Xi T40 904 65 := (show Xi U41 904 65 = Xi T40 904 65 from by rw [eU41]; exact Xi_ne (by omega))
  have w351 : Xi U41 904 69 = Xi T40 904 69 := (show Xi U41 904 69 = Xi T40 904 69 from by rw [eU41]; exact Xi_ne (by omega))
  have w352 : Xi U41 904 8 = Xi T40 904 8 := (show Xi U41 904 8 = Xi T40 904 8 from by rw [eU41]; exact Xi_ne (by omega))
  refine y_callV rfl rfl rfl (t_mo_run__p hHU41 fs ns (by first | assumption | exact (VLR_FR hFU41 rfl (by assumption : VLR S _ _))) (by first | assumption | exact (JR_FR (FR_e eU41) rfl rfl rfl (by assumption : JR T40 _ _))) _) ?_
  rintro _ T42 ⟨hHT42, w361, z360, rfl, w360, w354, w355, w356, w357, w358, w359⟩
  have hFT42 : FR md_mo_phrase__p S T42 := FR.tr hFU41 w361 rfl
  show Pl _ _ _ _ _ _ [iv z360, iv (Xi T40 904 93), .ref 956] _ _
  have : Xi T42 904 65 = 0 → (fs : Int) ≤ Xi T42 904 8 ∧ Xi T42 904 8 ≤ fs + ns := JR.i (by assumption)
  have gp297 := w354
  try rw [FRR hFU41 rfl] at gp297
  try rw [show cu U41 fs = cu T40 fs from cu_eq (by omega) (by omega) (by omega)] at gp297
  clear w354
  refine y_iastoreP (n := 1700) rfl rfl (by unfold rg; omega) (fun w362 w363 => ?_)
  obtain ⟨U43, eU43⟩ : ∃ T : sS, T = uI T42 956 (((Xi T40 904 93)).toNat) (Int32.ofInt z360) := ⟨_, rfl⟩
  rw [← eU43]
  have hHU43 : RI U43 := by rw [eU43]; exact RI_w hHT42
  have hFU43 : FR md_mo_phrase__p S U43 := by rw [eU43]; exact FR.wI hFT42 (mdf_i (r := (956, 957, 0, 100000)) (List.mem_of_getElem? (i := 16) rfl) (inR_i (by omega) (by omega) (by omega) (by omega)))
  have w364 : Xi U43 956 (((Xi T40 904 93)).toNat) = z360 := by rw [eU43]; exact Xi_same (by unfold rg; omega)
  refine y_aload_n rfl rfl ?_
  refine y_gfr rfl rfl rfl rfl rfl (hHU43.r 904 83 953 rfl) ?_
  refine y_aload_n rfl rfl ?_
  refine y_gfi rfl rfl rfl rfl rfl ?_
  have w365 : (Xi U43 904 93) = (Xi T40 904 93) := (show Xi U43 904 93 = Xi T42 904 93 from by rw [eU43]; exact Xi_ne (by omega)).trans ( (show Xi T42 904 93 = Xi U41 904 93 from w361.x _ _ rfl).trans ((show Xi U41 904 93 = Xi T40 904 93 from by rw [eU41]; exact Xi_ne (by omega))))
  rw [w365]
  refine y_aload_n rfl rfl ?_
  refine y_sipush rfl rfl ?_
  have w366 : Xi U43 904 65 = Xi T42 904 65 := (show Xi U43 904 65 = Xi T42 904 65 from by rw [eU43]; exact Xi_ne (by omega))
  have w369 : Xi U43 904 8 = Xi T42 904 8 := (show Xi U43 904 8 = Xi T42 904 8 from by rw [eU43]; exact Xi_ne (by omega))
  refine y_callV rfl rfl rfl (t_mo_isNext__p hHU43 fs ns 154 ⟨by omega, by omega⟩ (by first | assumption | exact (VLR_FR hFU43 rfl (by assumption : VLR S _ _))) (by first | assumption | exact JR.i (by first | assumption | exact (JR_FR (FR_e eU43) rfl rfl rfl (by assumption : JR T42 _ _)))) (rfl) _) ?_
  rintro _ _ ⟨rfl, z372, rfl, w372, w371⟩
  show Pl _ _ _ _ _ _ [iv z372, iv (Xi T40 904 93), .ref 953] _ _
  have gb313 := w371
  try rw [FRR hFU43 rfl] at gb313
  try rw [show Xi U43 904 8 = Xi T42 904 8 by omega] at gb313
  try rw [show un7 154 = 54 from rfl] at gb313
  clear w371
  refine y_if_ne rfl rfl (by unfold rg; omega) (fun w373 => ?_) (fun w374 => ?_)
  · refine y_iconst rfl ?_
    refine y_goto rfl rfl ?_
    refine y_bastoreZP (n := 1700) rfl rfl (by unfold rg; omega) ⟨by omega, by omega⟩ (fun w375 w376 => ?_)
    obtain ⟨U44, eU44⟩ : ∃ T : sS, T = uI U43 953 (((Xi T40 904 93)).toNat) (Int32.ofInt 1) := ⟨_, rfl⟩
    rw [← eU44]
    have hHU44 : RI U44 := by rw [eU44]; exact RI_w hHU43
    have hFU44 : FR md_mo_phrase__p S U44 := by rw [eU44]; exact FR.wI hFU43 (mdf_i (r := (953, 954, 0, 100000)) (List.mem_of_getElem? (i := 13) rfl) (inR_i (by omega) (by omega) (by omega) (by omega)))
    have w377 : Xi U44 953 (((Xi T40 904 93)).toNat) = 1 := by rw [eU44]; exact Xi_same (by unfold rg; omega)
    have w378 : Xi U44 904 65 = Xi T42 904 65 := (show Xi U44 904 65 = Xi U43 904 65 from by rw [eU44]; exact Xi_ne (by omega)).trans ((show Xi U43 904 65 = Xi T42 904 65 from by rw [eU43]; exact Xi_ne (by omega)))
    have w379 : Xi U44 904 66 = Xi T42 904 66 := (show Xi U44 904 66 = Xi U43 904 66 from by rw [eU44]; exact Xi_ne (by omega)).trans ((show Xi U43 904 66 = Xi T42 904 66 from by rw [eU43]; exact Xi_ne (by omega)))
    have w380 : Xi U44 904 69 = Xi T42 904 69 := (show Xi U44 904 69 = Xi U43 904 69 from by rw [eU44]; exact Xi_ne (by omega)).trans ((show Xi U43 904 69 = Xi T42 904 69 from by rw [eU43]; exact Xi_ne (by omega)))
    have w381 : Xi U44 904 8 = Xi T42 904 8 := (show Xi U44 904 8 = Xi U43 904 8 from by rw [eU44]; exact Xi_ne (by omega)).trans ((show Xi U43 904 8 = Xi T42 904 8 from by rw [eU43]; exact Xi_ne (by omega)))
    have w382 : Xi U44 904 93 = Xi T40 904 93 := (show Xi U44 904 93 = Xi U43 904 93 from by rw [eU44]; exact Xi_ne (by omega)).trans ( (show Xi U43 904 93 = Xi T42 904 93 from by rw [eU43]; exact Xi_ne (by omega)).trans ( (show Xi T42 904 93 = Xi U41 904 93 from w361.x _ _ rfl).trans ((show Xi U41 904 93 = Xi T40 904 93 from by rw [eU41]; exact Xi_ne (by omega)))))
    exact Pl_weak (C345 U44 hHU44 hFU44  (by omega) (by omega) (by omega) (by omega) (by omega) (by first | assumption | exact (JR_FR (FR_e eU44) rfl rfl rfl (JR_FR (FR_e eU43) rfl rfl rfl (by assumption : JR T42 _ _)))) ((cu_go gp297 (by omega) (by omega)).trans (cu_eq (by omega) (by omega) (by omega)).symm) (by rw [show Xi S 904 93 = Xi T40 904 93 by omega, show Xi U44 904 8 = Xi T42 904 8 by omega]; unfold Hid th7 art7; omega) (by omega)) (by omega) (And.intro rfl (True.intro))
  · refine y_aload_n rfl rfl ?_
    refine y_sipush rfl rfl ?_
    refine y_callV rfl rfl rfl (t_mo_isNext__p hHU43 fs ns 153 ⟨by omega, by omega⟩ (by first | assumption | exact (VLR_FR hFU43 rfl (by assumption : VLR S _ _))) (by first | assumption | exact JR.i (by first | assumption | exact (JR_FR (FR_e eU43) rfl rfl rfl (by assumption : JR T42 _ _)))) (rfl) _) ?_
    rintro _ _ ⟨rfl, z389, rfl, w389, w388⟩
    show Pl _ _ _ _ _ _ [iv z389, iv (Xi T40 904 93), .ref 953] _ _
    have gb323 := w388
    try rw [FRR hFU43 rfl] at gb323
    try rw [show Xi U43 904 8 = Xi T42 904 8 by omega] at gb323
    try rw [show un7 153 = 53 from rfl] at gb323
    clear w388
    refine y_if_ne rfl rfl (by unfold rg; omega) (fun w390 => ?_) (fun w391 => ?_)
    · refine y_iconst rfl ?_
      refine y_goto rfl rfl ?_
      refine y_bastoreZP (n := 1700) rfl rfl (by unfold rg; omega) ⟨by omega, by omega⟩ (fun w392 w393 => ?_)
      obtain ⟨U45, eU45⟩ : ∃ T : sS, T = uI U43 953 (((Xi T40 904 93)).toNat) (Int32.ofInt 1) := ⟨_, rfl⟩
      rw [← eU45]
      have hHU45 : RI U45 := by rw [eU45]; exact RI_w hHU43
      have hFU45 : FR md_mo_phrase__p S U45 := by rw [eU45]; exact FR.wI hFU43 (mdf_i (r := (953, 954, 0, 100000)) (List.mem_of_getElem? (i := 13) rfl) (inR_i (by omega) (by omega) (by omega) (by omega)))
      have w394 : Xi U45 953 (((Xi T40 904 93)).toNat) = 1 := by rw [eU45]; exact Xi_same (by unfold rg; omega)
      have w395 : Xi U45 904 65 = Xi T42 904 65 := (show Xi U45 904 65 = Xi U43 904 65 from by rw [eU45]; exact Xi_ne (by omega)).trans ((show Xi U43 904 65 = Xi T42 904 65 from by rw [eU43]; exact Xi_ne (by omega)))
      have w396 : Xi U45 904 66 = Xi T42 904 66 := (show Xi U45 904 66 = Xi U43 904 66 from by rw [eU45]; exact Xi_ne (by omega)).trans ((show Xi U43 904 66 = Xi T42 904 66 from by rw [eU43]; exact Xi_ne (by omega)))
      have w397 : Xi U45 904 69 = Xi T42 904 69 := (show Xi U45 904 69 = Xi U43 904 69 from by rw [eU45]; exact Xi_ne (by omega)).trans ((show Xi U43 904 69 = Xi T42 904 69 from by rw [eU43]; exact Xi_ne (by omega)))
      have w398 : Xi U45 904 8 = Xi T42 904 8 := (show Xi U45 904 8 = Xi U43 904 8 from by rw [eU45]; exact Xi_ne (by omega)).trans ((show Xi U43 904 8 = Xi T42 904 8 from by rw [eU43]; exact Xi_ne (by omega)))
      have w399 : Xi U45 904 93 = Xi T40 904 93 := (show Xi U45 904 93 = Xi U43 904 93 from by rw [eU45]; exact Xi_ne (by omega)).trans ( (show Xi U43 904 93 = Xi T42 904 93 from by rw [eU43]; exact Xi_ne (by omega)).trans ( (show Xi T42 904 93 = Xi U41 904 93 from w361.x _ _ rfl).trans ((show Xi U41 904 93 = Xi T40 904 93 from by rw [eU41]; exact Xi_ne (by omega)))))
      exact Pl_weak (C345 U45 hHU45 hFU45  (by omega) (by omega) (by omega) (by omega) (by omega) (by first | assumption | exact (JR_FR (FR_e eU45) rfl rfl rfl (JR_FR (FR_e eU43) rfl rfl rfl (by assumption : JR T42 _ _)))) ((cu_go gp297 (by omega) (by omega)).trans (cu_eq (by omega) (by omega) (by omega)).symm) (by rw [show Xi S 904 93 = Xi T40 904 93 by omega, show Xi U45 904 8 = Xi T42 904 8 by omega]; unfold Hid th7 art7; omega) (by omega)) (by omega) (And.intro rfl (True.intro))
    · refine y_aload_n rfl rfl ?_
      refine y_callV rfl rfl rfl (t_mo_look__p hHU43 fs ns (by first | assumption | exact (VLR_FR hFU43 rfl (by assumption : VLR S _ _))) (by first | assumption | exact JR.i (by first | assumption | exact (JR_FR (FR_e eU43) rfl rfl rfl (by assumption : JR T42 _ _)))) _) ?_
      rintro _ _ ⟨rfl, z406, rfl, w406, w405⟩
      show Pl _ _ _ _ _ _ [iv z406, iv (Xi T40 904 93), .ref 953] _ _
      have := un_ab z406
      have gb330 := w405
      try rw [FRR hFU43 rfl] at gb330
      try rw [show Xi U43 904 8 = Xi T42 904 8 by omega] at gb330
      clear w405
      refine y_callS rfl rfl (by decide) rfl (t_mo_isArt__p hHU43 z406 ⟨by omega, by omega⟩ _) ?_
      rintro _ _ ⟨rfl, z414, rfl, w414, w412, w413⟩
      show Pl _ _ _ _ _ _ [iv z414, iv (Xi T40 904 93), .ref 953] _ _
      refine y_if_eq rfl rfl (by unfold rg; omega) (fun w415 => ?_) (fun w416 => ?_)
      · refine y_iconst rfl ?_
        refine y_bastoreZP (n := 1700) rfl rfl (by unfold rg; omega) ⟨by omega, by omega⟩ (fun w417 w418 => ?_)
        obtain ⟨U46, eU46⟩ : ∃ T : sS, T = uI U43 953 (((Xi T40 904 93)).toNat) (Int32.ofInt 0) := ⟨_, rfl⟩
        rw [← eU46]
        have hHU46 : RI U46 := by rw [eU46]; exact RI_w hHU43
        have hFU46 : FR md_mo_phrase__p S U46 := by rw [eU46]; exact FR.wI hFU43 (mdf_i (r := (953, 954, 0, 100000)) (List.mem_of_getElem? (i := 13) rfl) (inR_i (by omega) (by omega) (by omega) (by omega)))
        have w419 : Xi U46 953 (((Xi T40 904 93)).toNat) = 0 := by rw [eU46]; exact Xi_same (by unfold rg; omega)
        have w420 : Xi U46 904 65 = Xi T42 904 65 := (show Xi U46 904 65 = Xi U43 904 65 from by rw [eU46]; exact Xi_ne (by omega)).trans ((show Xi U43 904 65 = Xi T42 904 65 from by rw [eU43]; exact Xi_ne (by omega)))
        have w421 : Xi U46 904 66 = Xi T42 904 66 := (show Xi U46 904 66 = Xi U43 904 66 from by rw [eU46]; exact Xi_ne (by omega)).trans ((show Xi U43 904 66 = Xi T42 904 66 from by rw [eU43]; exact Xi_ne (by omega)))
        have w422 : Xi U46 904 69 = Xi T42 904 69 := (show Xi U46 904 69 = Xi U43 904 69 from by rw [eU46]; exact Xi_ne (by omega)).trans ((show Xi U43 904 69 = Xi T42 904 69 from by rw [eU43]; exact Xi_ne (by omega)))
        have w423 : Xi U46 904 8 = Xi T42 904 8 := (show Xi U46 904 8 = Xi U43 904 8 from by rw [eU46]; exact Xi_ne (by omega)).trans ((show Xi U43 904 8 = Xi T42 904 8 from by rw [eU43]; exact Xi_ne (by omega)))
        have w424 : Xi U46 904 93 = Xi T40 904 93 := (show Xi U46 904 93 = Xi U43 904 93 from by rw [eU46]; exact Xi_ne (by omega)).trans ( (show Xi U43 904 93 = Xi T42 904 93 from by rw [eU43]; exact Xi_ne (by omega)).trans ( (show Xi T42 904 93 = Xi U41 904 93 from w361.x _ _ rfl).trans ((show Xi U41 904 93 = Xi T40 904 93 from by rw [eU41]; exact Xi_ne (by omega)))))
        exact Pl_weak (C345 U46 hHU46 hFU46  (by omega) (by omega) (by omega) (by omega) (by omega) (by first | assumption | exact (JR_FR (FR_e eU46) rfl rfl rfl (JR_FR (FR_e eU43) rfl rfl rfl (by assumption : JR T42 _ _)))) ((cu_go gp297 (by omega) (by omega)).trans (cu_eq (by omega) (by omega) (by omega)).symm) (by rw [show Xi S 904 93 = Xi T40 904 93 by omega, show Xi U46 904 8 = Xi T42 904 8 by omega]; unfold Hid th7 art7; omega) (by omega)) (by omega) (And.intro rfl (True.intro))
      · refine y_iconst rfl ?_
        refine y_goto rfl rfl ?_
        refine y_bastoreZP (n := 1700) rfl rfl (by unfold rg; omega) ⟨by omega, by omega⟩ (fun w425 w426 => ?_)
        obtain ⟨U47, eU47⟩ : ∃ T : sS, T = uI U43 953 (((Xi T40 904 93)).toNat) (Int32.ofInt 1) := ⟨_, rfl⟩
        rw [← eU47]
        have hHU47 : RI U47 := by rw [eU47]; exact RI_w hHU43
        have hFU47 : FR md_mo_phrase__p S U47 := by rw [eU47]; exact FR.wI hFU43 (mdf_i (r := (953, 954, 0, 100000)) (List.mem_of_getElem? (i := 13) rfl) (inR_i (by omega) (by omega) (by omega) (by omega)))
        have w427 : Xi U47 953 (((Xi T40 904 93)).toNat) = 1 := by rw [eU47]; exact Xi_same (by unfold rg; omega)
        have w428 : Xi U47 904 65 = Xi T42 904 65 := (show Xi U47 904 65 = Xi U43 904 65 from by rw [eU47]; exact Xi_ne (by omega)).trans ((show Xi U43 904 65 = Xi T42 904 65 from by rw [eU43]; exact Xi_ne (by omega)))
        have w429 : Xi U47 904 66 = Xi T42 904 66 := (show Xi U47 904 66 = Xi U43 904 66 from by rw [eU47]; exact Xi_ne (by omega)).trans ((show Xi U43 904 66 = Xi T42 904 66 from by rw [eU43]; exact Xi_ne (by omega)))
        have w430 : Xi U47 904 69 = Xi T42 904 69 := (show Xi U47 904 69 = Xi U43 904 69 from by rw [eU47]; exact Xi_ne (by omega)).trans ((show Xi U43 904 69 = Xi T42 904 69 from by rw [eU43]; exact Xi_ne (by omega)))
        have w431 : Xi U47 904 8 = Xi T42 904 8 := (show Xi U47 904 8 = Xi U43 904 8 from by rw [eU47]; exact Xi_ne (by omega)).trans ((show Xi U43 904 8 = Xi T42 904 8 from by rw [eU43]; exact Xi_ne (by omega)))
        have w432 : Xi U47 904 93 = Xi T40 904 93 := (show Xi U47 904 93 = Xi U43 904 93 from by rw [eU47]; exact Xi_ne (by omega)).trans ( (show Xi U43 904 93 = Xi T42 904 93 from by rw [eU43]; exact Xi_ne (by omega)).trans ( (show Xi T42 904 93 = Xi U41 904 93 from w361.x _ _ rfl).trans ((show Xi U41 904 93 = Xi T40 904 93 from by rw [eU41]; exact Xi_ne (by omega)))))
        exact Pl_weak (C345 U47 hHU47 hFU47  (by omega) (by omega) (by omega) (by omega) (by omega) (by first | assumption | exact (JR_FR (FR_e eU47) rfl rfl rfl (JR_FR (FR_e eU43) rfl rfl rfl (by assumption : JR T42 _ _)))) ((cu_go gp297 (by omega) (by omega)).trans (cu_eq (by omega) (by omega) (by omega)).symm) (by rw [show Xi S 904 93 = Xi T40 904 93 by omega, show Xi U47 904 8 = Xi T42 904 8 by omega]; unfold Hid th7 art7; omega) (by omega)) (by omega) (And.intro rfl (True.intro))
set_option maxRecDepth 100000 in
theorem t_mo_phrase__p {S : sS} (hH : RI S) (fs : Nat) (ns : Nat) (hvl : VLR S fs ns) (hJR : JR S fs ns) (d : Nat) : Mp lay0 (d + 7) m_mo_phrase [.ref 904] S (Q_mo_phrase__p S fs ns) := by
  refine Mp_R rfl rfl (fun fu => ?_)
  have C409 := c409_mo_phrase__p hH fs ns hvl hJR d  fu
  have C395 := c395_mo_phrase__p hH fs ns hvl hJR d  fu
  have C96 := c96_mo_phrase__p hH fs ns hvl hJR d  fu
  have C134 := c134_mo_phrase__p hH fs ns hvl hJR d  fu
  have C149 := c149_mo_phrase__p hH fs ns hvl hJR d  fu
  have C236 := c236_mo_phrase__p hH fs ns hvl hJR d  fu
  have C218 := c218_mo_phrase__p hH fs ns hvl hJR d  fu
  have C374 := c374_mo_phrase__p hH fs ns hvl hJR d  fu
  have C345 := c345_mo_phrase__p hH fs ns hvl hJR d  fu
  have C281 := c281_mo_phrase__p hH fs ns hvl hJR d  fu
  have hF : FR md_mo_phrase__p S S := FR.rf
  have w1 : -2147483648 ≤ Xi S 904 65 ∧ Xi S 904 65 ≤ 2147483647 := Xi_rgI
  have w2 : -2147483648 ≤ Xi S 904 66 ∧ Xi S 904 66 ≤ 2147483647 := Xi_rgI
  have w3 : -2147483648 ≤ Xi S 904 69 ∧ Xi S 904 69 ≤ 2147483647 := Xi_rgI
  have w4 : -2147483648 ≤ Xi S 904 8 ∧ Xi S 904 8 ≤ 2147483647 := Xi_rgI
  have w5 : -2147483648 ≤ Xi S 904 93 ∧ Xi S 904 93 ≤ 2147483647 := Xi_rgI
  have : Xi S 904 65 = 0 → (fs : Int) ≤ Xi S 904 8 ∧ Xi S 904 8 ≤ fs + ns := JR.i (by assumption)
  have hbd := hvl.2.2.2
  refine y_aload_n rfl rfl ?_
  refine y_gfi rfl rfl rfl rfl rfl ?_
  have w433 : -2147483648 ≤ (Xi S 904 98) ∧ (Xi S 904 98) ≤ 2147483647 := Xi_rgI
  refine y_istore_n rfl rfl rfl ?_
  refine y_aload_n rfl rfl ?_
  refine y_gfr rfl rfl rfl rfl rfl (hH.r 904 97 965 rfl) ?_
  refine y_iload_n rfl rfl ?_
  refine y_aload_n rfl rfl ?_
  refine y_gfi rfl rfl rfl rfl rfl ?_
  refine y_iastoreP (n := 1700) rfl rfl (by unfold rg; omega) (fun w434 w435 => ?_)
  obtain ⟨U48, eU48⟩ : ∃ T : sS, T = uI S 965 (((Xi S 904 98)).toNat) (Int32.ofInt (Xi S 904 8)) := ⟨_, rfl⟩
  rw [← eU48]
  have hHU48 : RI U48 := by rw [eU48]; exact RI_w hH
  have hFU48 : FR md_mo_phrase__p S U48 := by rw [eU48]; exact FR.wI hF (mdf_i (r := (965, 966, 0, 100000)) (List.mem_of_getElem? (i := 25) rfl) (inR_i (by omega) (by omega) (by omega) (by omega)))
  have w436 : Xi U48 965 (((Xi S 904 98)).toNat) = (Xi S 904 8) := by rw [eU48]; exact Xi_same (by unfold rg; omega)
  refine y_aload_n rfl rfl ?_
  refine y_gfr rfl rfl rfl rfl rfl (hHU48.r 904 96 964 rfl) ?_
  refine y_iload_n rfl rfl ?_
  refine y_aload_n rfl rfl ?_
  refine y_gfi rfl rfl rfl rfl rfl ?_
  have w437 : (Xi U48 904 93) = (Xi S 904 93) := (show Xi U48 904 93 = Xi S 904 93 from by rw [eU48]; exact Xi_ne (by omega))
  rw [w437]
  refine y_iastoreP (n := 1700) rfl rfl (by unfold rg; omega) (fun w438 w439 => ?_)
  obtain ⟨U49, eU49⟩ : ∃ T : sS, T = uI U48 964 (((Xi S 904 98)).toNat) (Int32.ofInt (Xi S 904 93)) := ⟨_, rfl⟩
  rw [← eU49]
  have hHU49 : RI U49 := by rw [eU49]; exact RI_w hHU48
  have hFU49 : FR md_mo_phrase__p S U49 := by rw [eU49]; exact FR.wI hFU48 (mdf_i (r := (964, 965, 0, 100000)) (List.mem_of_getElem? (i := 24) rfl) (inR_i (by omega) (by omega) (by omega) (by omega)))
  have w440 : Xi U49 964 (((Xi S 904 98)).toNat) = (Xi S 904 93) := by rw [eU49]; exact Xi_same (by unfold rg; omega)
  refine y_aload_n rfl rfl ?_
  refine y_gfr rfl rfl rfl rfl rfl (hHU49.r 904 91 961 rfl) ?_
  refine y_aload_n rfl rfl ?_
  refine y_gfi rfl rfl rfl rfl rfl ?_
  have w441 : (Xi U49 904 93) = (Xi S 904 93) := (show Xi U49 904 93 = Xi U48 904 93 from by rw [eU49]; exact Xi_ne (by omega)).trans ((show Xi U48 904 93 = Xi S 904 93 from by rw [eU48]; exact Xi_ne (by omega)))
  rw [w441]
  refine y_aload_n rfl rfl ?_
  refine y_gfi rfl rfl rfl rfl rfl ?_
  have w442 : (Xi U49 904 8) = (Xi S 904 8) := (show Xi U49 904 8 = Xi U48 904 8 from by rw [eU49]; exact Xi_ne (by omega)).trans ((show Xi U48 904 8 = Xi S 904 8 from by rw [eU48]; exact Xi_ne (by omega)))
  rw [w442]
  refine y_iastoreP (n := 1700) rfl rfl (by unfold rg; omega) (fun w443 w444 => ?_)
  obtain ⟨U50, eU50⟩ : ∃ T : sS, T = uI U49 961 (((Xi S 904 93)).toNat) (Int32.ofInt (Xi S 904 8)) := ⟨_, rfl⟩
  rw [← eU50]
  have hHU50 : RI U50 := by rw [eU50]; exact RI_w hHU49
  have hFU50 : FR md_mo_phrase__p S U50 := by rw [eU50]; exact FR.wI hFU49 (mdf_i (r := (961, 962, 0, 100000)) (List.mem_of_getElem? (i := 21) rfl) (inR_i (by omega) (by omega) (by omega) (by omega)))
  have w445 : Xi U50 961 (((Xi S 904 93)).toNat) = (Xi S 904 8) := by rw [eU50]; exact Xi_same (by unfold rg; omega)
  refine y_aload_n rfl rfl ?_
  have w446 : Xi U50 904 65 = Xi S 904 65 := (show Xi U50 904 65 = Xi U49 904 65 from by rw [eU50]; exact Xi_ne (by omega)).trans ( (show Xi U49 904 65 = Xi U48 904 65 from by rw [eU49]; exact Xi_ne (by omega)).trans ((show Xi U48 904 65 = Xi S 904 65 from by rw [eU48]; exact Xi_ne (by omega))))
  have w449 : Xi U50 904 8 = Xi S 904 8 := (show Xi U50 904 8 = Xi U49 904 8 from by rw [eU50]; exact Xi_ne (by omega)).trans ( (show Xi U49 904 8 = Xi U48 904 8 from by rw [eU49]; exact Xi_ne (by omega)).trans ((show Xi U48 904 8 = Xi S 904 8 from by rw [eU48]; exact Xi_ne (by omega))))
  refine y_callV rfl rfl rfl (t_mo_look__p hHU50 fs ns (by first | assumption | exact (VLR_FR hFU50 rfl (by assumption : VLR S _ _))) (by first | assumption | exact JR.i (by first | assumption | exact (JR_FR (FR_e eU50) rfl rfl rfl (JR_FR (FR_e eU49) rfl rfl rfl (JR_FR (FR_e eU48) rfl rfl rfl (by assumption : JR S _ _)))))) _) ?_
  rintro _ _ ⟨rfl, z452, rfl, w452, w451⟩
  show Pl _ _ _ _ _ _ [iv z452] _ _
  have := un_ab z452
  have gb39 := w451
  try rw [FRR hFU50 rfl] at gb39
  try rw [show Xi U50 904 8 = Xi S 904 8 by omega] at gb39
  clear w451
  refine y_istore_n rfl rfl rfl ?_
  refine y_aload_n rfl rfl ?_
  refine y_dup rfl rfl ?_
  refine y_gfi rfl rfl rfl rfl rfl ?_
  have w453 : (Xi U50 904 8) = (Xi S 904 8) := (show Xi U50 904 8 = Xi U49 904 8 from by rw [eU50]; exact Xi_ne (by omega)).trans ( (show Xi U49 904 8 = Xi U48 904 8 from by rw [eU49]; exact Xi_ne (by omega)).trans ((show Xi U48 904 8 = Xi S 904 8 from by rw [eU48]; exact Xi_ne (by omega))))
  rw [w453]
  refine y_iconst rfl ?_
  refine y_iadd rfl ?_
  refine y_pfi rfl rfl rfl rfl ?_
  obtain ⟨U51, eU51⟩ : ∃ T : sS, T = uI U50 904 8 (Int32.ofInt ((Xi S 904 8) + 1)) := ⟨_, rfl⟩
  rw [← eU51]
  have hHU51 : RI U51 := by rw [eU51]; exact RI_w hHU50
  have hFU51 : FR md_mo_phrase__p S U51 := by rw [eU51]; exact FR.wI hFU50 (mdf_i (r := (904, 905, 8, 9)) (List.mem_of_getElem? (i := 0) rfl) (inR_i (by omega) (by omega) (by omega) (by omega)))
  have x50 : Xi S 904 65 = 0 → Xi U51 904 8 = Xi S 904 8 + 1 := fun b => by rw [eU51]; exact (Xi_same (by unfold rg; omega)).trans (by omega)
  refine y_iload_n rfl rfl ?_
  refine y_tsw rfl rfl rfl rfl (by unfold rg; omega) (fun w454 => ?_) (fun ii tt hii w454 => ?_)
  · have w455 : Xi U51 904 65 = Xi S 904 65 := (show Xi U51 904 65 = Xi U50 904 65 from by rw [eU51]; exact Xi_ne (by omega)).trans ( (show Xi U50 904 65 = Xi U49 904 65 from by rw [eU50]; exact Xi_ne (by omega)).trans ( (show Xi U49 904 65 = Xi U48 904 65 from by rw [eU49]; exact Xi_ne (by omega)).trans ((show Xi U48 904 65 = Xi S 904 65 from by rw [eU48]; exact Xi_ne (by omega)))))
    have w456 : Xi U51 904 66 = Xi S 904 66 := (show Xi U51 904 66 = Xi U50 904 66 from by rw [eU51]; exact Xi_ne (by omega)).trans ( (show Xi U50 904 66 = Xi U49 904 66 from by rw [eU50]; exact Xi_ne (by omega)).trans ( (show Xi U49 904 66 = Xi U48 904 66 from by rw [eU49]; exact Xi_ne (by omega)).trans ((show Xi U48 904 66 = Xi S 904 66 from by rw [eU48]; exact Xi_ne (by omega)))))
    have w457 : Xi U51 904 69 = Xi S 904 69 := (show Xi U51 904 69 = Xi U50 904 69 from by rw [eU51]; exact Xi_ne (by omega)).trans ( (show Xi U50 904 69 = Xi U49 904 69 from by rw [eU50]; exact Xi_ne (by omega)).trans ( (show Xi U49 904 69 = Xi U48 904 69 from by rw [eU49]; exact Xi_ne (by omega)).trans ((show Xi U48 904 69 = Xi S 904 69 from by rw [eU48]; exact Xi_ne (by omega)))))
    have w458 : Xi U51 904 93 = Xi S 904 93 := (show Xi U51 904 93 = Xi U50 904 93 from by rw [eU51]; exact Xi_ne (by omega)).trans ( (show Xi U50 904 93 = Xi U49 904 93 from by rw [eU50]; exact Xi_ne (by omega)).trans ( (show Xi U49 904 93 = Xi U48 904 93 from by rw [eU49]; exact Xi_ne (by omega)).trans ((show Xi U48 904 93 = Xi S 904 93 from by rw [eU48]; exact Xi_ne (by omega)))))
    exact Pl_weak (C395 U51 hHU51 hFU51  (by omega) (by omega) (by omega) (by omega) (fun b => by omega)) (by omega) (And.intro rfl (True.intro))
  · match ii, hii with
    | 0, hii =>
      cases hii
      have w459 : z452 = 143 := by simpa using w454
      have w460 : Xi U51 904 65 = Xi S 904 65 := (show Xi U51 904 65 = Xi U50 904 65 from by rw [eU51]; exact Xi_ne (by omega)).trans ( (show Xi U50 904 65 = Xi U49 904 65 from by rw [eU50]; exact Xi_ne (by omega)).trans ( (show Xi U49 904 65 = Xi U48 904 65 from by rw [eU49]; exact Xi_ne (by omega)).trans ((show Xi U48 904 65 = Xi S 904 65 from by rw [eU48]; exact Xi_ne (by omega)))))
      have w461 : Xi U51 904 66 = Xi S 904 66 := (show Xi U51 904 66 = Xi U50 904 66 from by rw [eU51]; exact Xi_ne (by omega)).trans ( (show Xi U50 904 66 = Xi U49 904 66 from by rw [eU50]; exact Xi_ne (by omega)).trans ( (show Xi U49 904 66 = Xi U48 904 66 from by rw [eU49]; exact Xi_ne (by omega)).trans ((show Xi U48 904 66 = Xi S 904 66 from by rw [eU48]; exact Xi_ne (by omega)))))
      have w462 : Xi U51 904 69 = Xi S 904 69 := (show Xi U51 904 69 = Xi U50 904 69 from by rw [eU51]; exact Xi_ne (by omega)).trans ( (show Xi U50 904 69 = Xi U49 904 69 from by rw [eU50]; exact Xi_ne (by omega)).trans ( (show Xi U49 904 69 = Xi U48 904 69 from by rw [eU49]; exact Xi_ne (by omega)).trans ((show Xi U48 904 69 = Xi S 904 69 from by rw [eU48]; exact Xi_ne (by omega)))))
      have w463 : Xi U51 904 93 = Xi S 904 93 := (show Xi U51 904 93 = Xi U50 904 93 from by rw [eU51]; exact Xi_ne (by omega)).trans ( (show Xi U50 904 93 = Xi U49 904 93 from by rw [eU50]; exact Xi_ne (by omega)).trans ( (show Xi U49 904 93 = Xi U48 904 93 from by rw [eU49]; exact Xi_ne (by omega)).trans ((show Xi U48 904 93 = Xi S 904 93 from by rw [eU48]; exact Xi_ne (by omega)))))
      exact Pl_weak (C96 U51 hHU51 hFU51 ((Xi S 904 98)) (by omega) (by omega) (by omega) (by omega) (by omega) (by omega) (by omega) (by first | exact r218 | exact ⟨by omega, in_u2 hvl (by omega) (by omega) (by omega) (by omega)⟩) (by first | exact jr_up (JR_FR (FR_e eU50) rfl rfl rfl (JR_FR (FR_e eU49) rfl rfl rfl (JR_FR (FR_e eU48) rfl rfl rfl (by assumption : JR S _ _)))) (VLR_FR hFU50 rfl (by assumption : VLR S _ _)) (show U51 = uI U50 904 8 (Int32.ofInt (_ + 1)) from eU51) (by omega) (fun b => by rw [FRR hFU50 rfl, show Xi U50 904 8 = Xi S 904 8 by omega]; omega) | assumption | exact (by assumption : JR U51 _ _)) (by omega)) (by omega) (And.intro rfl (And.intro rfl (True.intro)))
    | 1, hii =>
      cases hii
      have w464 : z452 = 144 := by simpa using w454
      have w465 : Xi U51 904 65 = Xi S 904 65 := (show Xi U51 904 65 = Xi U50 904 65 from by rw [eU51]; exact Xi_ne (by omega)).trans ( (show Xi U50 904 65 = Xi U49 904 65 from by rw [eU50]; exact Xi_ne (by omega)).trans ( (show Xi U49 904 65 = Xi U48 904 65 from by rw [eU49]; exact Xi_ne (by omega)).trans ((show Xi U48 904 65 = Xi S 904 65 from by rw [eU48]; exact Xi_ne (by omega)))))
      have w466 : Xi U51 904 66 = Xi S 904 66 := (show Xi U51 904 66 = Xi U50 904 66 from by rw [eU51]; exact Xi_ne (by omega)).trans ( (show Xi U50 904 66 = Xi U49 904 66 from by rw [eU50]; exact Xi_ne (by omega)).trans ( (show Xi U49 904 66 = Xi U48 904 66 from by rw [eU49]; exact Xi_ne (by omega)).trans ((show Xi U48 904 66 = Xi S 904 66 from by rw [eU48]; exact Xi_ne (by omega)))))
      have w467 : Xi U51 904 69 = Xi S 904 69 := (show Xi U51 904 69 = Xi U50 904 69 from by rw [eU51]; exact Xi_ne (by omega)).trans ( (show Xi U50 904 69 = Xi U49 904 69 from by rw [eU50]; exact Xi_ne (by omega)).trans ( (show Xi U49 904 69 = Xi U48 904 69 from by rw [eU49]; exact Xi_ne (by omega)).trans ((show Xi U48 904 69 = Xi S 904 69 from by rw [eU48]; exact Xi_ne (by omega)))))
      have w468 : Xi U51 904 93 = Xi S 904 93 := (show Xi U51 904 93 = Xi U50 904 93 from by rw [eU51]; exact Xi_ne (by omega)).trans ( (show Xi U50 904 93 = Xi U49 904 93 from by rw [eU50]; exact Xi_ne (by omega)).trans ( (show Xi U49 904 93 = Xi U48 904 93 from by rw [eU49]; exact Xi_ne (by omega)).trans ((show Xi U48 904 93 = Xi S 904 93 from by rw [eU48]; exact Xi_ne (by omega)))))
      exact Pl_weak (C134 U51 hHU51 hFU51 ((Xi S 904 98)) (by omega) (by omega) (by omega) (by omega) (by omega) (by omega) (by omega) (by first | exact r218 | exact ⟨by omega, in_u2 hvl (by omega) (by omega) (by omega) (by omega)⟩) (by first | exact jr_up (JR_FR (FR_e eU50) rfl rfl rfl (JR_FR (FR_e eU49) rfl rfl rfl (JR_FR (FR_e eU48) rfl rfl rfl (by assumption : JR S _ _)))) (VLR_FR hFU50 rfl (by assumption : VLR S _ _)) (show U51 = uI U50 904 8 (Int32.ofInt (_ + 1)) from eU51) (by omega) (fun b => by rw [FRR hFU50 rfl, show Xi U50 904 8 = Xi S 904 8 by omega]; omega) | assumption | exact (by assumption : JR U51 _ _)) (by omega)) (by omega) (And.intro rfl (And.intro rfl (True.intro)))
    | 2, hii =>
      cases hii
      have w469 : z452 = 145 := by simpa using w454
      have w470 : Xi U51 904 65 = Xi S 904 65 := (show Xi U51 904 65 = Xi U50 904 65 from by rw [eU51]; exact Xi_ne (by omega)).trans ( (show Xi U50 904 65 = Xi U49 904 65 from by rw [eU50]; exact Xi_ne (by omega)).trans ( (show Xi U49 904 65 = Xi U48 904 65 from by rw [eU49]; exact Xi_ne (by omega)).trans ((show Xi U48 904 65 = Xi S 904 65 from by rw [eU48]; exact Xi_ne (by omega)))))
      have w471 : Xi U51 904 66 = Xi S 904 66 := (show Xi U51 904 66 = Xi U50 904 66 from by rw [eU51]; exact Xi_ne (by omega)).trans ( (show Xi U50 904 66 = Xi U49 904 66 from by rw [eU50]; exact Xi_ne (by omega)).trans ( (show Xi U49 904 66 = Xi U48 904 66 from by rw [eU49]; exact Xi_ne (by omega)).trans ((show Xi U48 904 66 = Xi S 904 66 from by rw [eU48]; exact Xi_ne (by omega)))))
      have w472 : Xi U51 904 69 = Xi S 904 69 := (show Xi U51 904 69 = Xi U50 904 69 from by rw [eU51]; exact Xi_ne (by omega)).trans ( (show Xi U50 904 69 = Xi U49 904 69 from by rw [eU50]; exact Xi_ne (by omega)).trans ( (show Xi U49 904 69 = Xi U48 904 69 from by rw [eU49]; exact Xi_ne (by omega)).trans ((show Xi U48 904 69 = Xi S 904 69 from by rw [eU48]; exact Xi_ne (by omega)))))
      have w473 : Xi U51 904 93 = Xi S 904 93 := (show Xi U51 904 93 = Xi U50 904 93 from by rw [eU51]; exact Xi_ne (by omega)).trans ( (show Xi U50 904 93 = Xi U49 904 93 from by rw [eU50]; exact Xi_ne (by omega)).trans ( (show Xi U49 904 93 = Xi U48 904 93 from by rw [eU49]; exact Xi_ne (by omega)).trans ((show Xi U48 904 93 = Xi S 904 93 from by rw [eU48]; exact Xi_ne (by omega)))))
      exact Pl_weak (C149 U51 hHU51 hFU51 ((Xi S 904 98)) (by omega) (by omega) (by omega) (by omega) (by omega) (by omega) (by omega) (by first | exact r218 | exact ⟨by omega, in_u2 hvl (by omega) (by omega) (by omega) (by omega)⟩) (by first | exact jr_up (JR_FR (FR_e eU50) rfl rfl rfl (JR_FR (FR_e eU49) rfl rfl rfl (JR_FR (FR_e eU48) rfl rfl rfl (by assumption : JR S _ _)))) (VLR_FR hFU50 rfl (by assumption : VLR S _ _)) (show U51 = uI U50 904 8 (Int32.ofInt (_ + 1)) from eU51) (by omega) (fun b => by rw [FRR hFU50 rfl, show Xi U50 904 8 = Xi S 904 8 by omega]; omega) | assumption | exact (by assumption : JR U51 _ _)) (by omega)) (by omega) (And.intro rfl (And.intro rfl (True.intro)))
    | 3, hii =>
      cases hii
      have w474 : z452 = 146 := by simpa using w454
      have w475 : Xi U51 904 65 = Xi S 904 65 := (show Xi U51 904 65 = Xi U50 904 65 from by rw [eU51]; exact Xi_ne (by omega)).trans ( (show Xi U50 904 65 = Xi U49 904 65 from by rw [eU50]; exact Xi_ne (by omega)).trans ( (show Xi U49 904 65 = Xi U48 904 65 from by rw [eU49]; exact Xi_ne (by omega)).trans ((show Xi U48 904 65 = Xi S 904 65 from by rw [eU48]; exact Xi_ne (by omega)))))
      have w476 : Xi U51 904 66 = Xi S 904 66 := (show Xi U51 904 66 = Xi U50 904 66 from by rw [eU51]; exact Xi_ne (by omega)).trans ( (show Xi U50 904 66 = Xi U49 904 66 from by rw [eU50]; exact Xi_ne (by omega)).trans ( (show Xi U49 904 66 = Xi U48 904 66 from by rw [eU49]; exact Xi_ne (by omega)).trans ((show Xi U48 904 66 = Xi S 904 66 from by rw [eU48]; exact Xi_ne (by omega)))))
      have w477 : Xi U51 904 69 = Xi S 904 69 := (show Xi U51 904 69 = Xi U50 904 69 from by rw [eU51]; exact Xi_ne (by omega)).trans ( (show Xi U50 904 69 = Xi U49 904 69 from by rw [eU50]; exact Xi_ne (by omega)).trans ( (show Xi U49 904 69 = Xi U48 904 69 from by rw [eU49]; exact Xi_ne (by omega)).trans ((show Xi U48 904 69 = Xi S 904 69 from by rw [eU48]; exact Xi_ne (by omega)))))
      have w478 : Xi U51 904 93 = Xi S 904 93 := (show Xi U51 904 93 = Xi U50 904 93 from by rw [eU51]; exact Xi_ne (by omega)).trans ( (show Xi U50 904 93 = Xi U49 904 93 from by rw [eU50]; exact Xi_ne (by omega)).trans ( (show Xi U49 904 93 = Xi U48 904 93 from by rw [eU49]; exact Xi_ne (by omega)).trans ((show Xi U48 904 93 = Xi S 904 93 from by rw [eU48]; exact Xi_ne (by omega)))))
      exact Pl_weak (C218 U51 hHU51 hFU51 ((Xi S 904 98)) (z452) (by omega) (by omega) (by omega) (by omega) (by omega) (by omega) (by omega) (by omega) (by first | exact r218 | exact ⟨by omega, in_u2 hvl (by omega) (by omega) (by omega) (by omega)⟩) (by first | exact jr_up (JR_FR (FR_e eU50) rfl rfl rfl (JR_FR (FR_e eU49) rfl rfl rfl (JR_FR (FR_e eU48) rfl rfl rfl (by assumption : JR S _ _)))) (VLR_FR hFU50 rfl (by assumption : VLR S _ _)) (show U51 = uI U50 904 8 (Int32.ofInt (_ + 1)) from eU51) (by omega) (fun b => by rw [FRR hFU50 rfl, show Xi U50 904 8 = Xi S 904 8 by omega]; omega) | assumption | exact (by assumption : JR U51 _ _)) (by omega)) (by omega) (And.intro rfl (And.intro rfl (And.intro rfl (True.intro))))
    | 4, hii =>
      cases hii
      have w479 : z452 = 147 := by simpa using w454
      have w480 : Xi U51 904 65 = Xi S 904 65 := (show Xi U51 904 65 = Xi U50 904 65 from by rw [eU51]; exact Xi_ne (by omega)).trans ( (show Xi U50 904 65 = Xi U49 904 65 from by rw [eU50]; exact Xi_ne (by omega)).trans ( (show Xi U49 904 65 = Xi U48 904 65 from by rw [eU49]; exact Xi_ne (by omega)).trans ((show Xi U48 904 65 = Xi S 904 65 from by rw [eU48]; exact Xi_ne (by omega)))))
      have w481 : Xi U51 904 66 = Xi S 904 66 := (show Xi U51 904 66 = Xi U50 904 66 from by rw [eU51]; exact Xi_ne (by omega)).trans ( (show Xi U50 904 66 = Xi U49 904 66 from by rw [eU50]; exact Xi_ne (by omega)).trans ( (show Xi U49 904 66 = Xi U48 904 66 from by rw [eU49]; exact Xi_ne (by omega)).trans ((show Xi U48 904 66 = Xi S 904 66 from by rw [eU48]; exact Xi_ne (by omega)))))
      have w482 : Xi U51 904 69 = Xi S 904 69 := (show Xi U51 904 69 = Xi U50 904 69 from by rw [eU51]; exact Xi_ne (by omega)).trans ( (show Xi U50 904 69 = Xi U49 904 69 from by rw [eU50]; exact Xi_ne (by omega)).trans ( (show Xi U49 904 69 = Xi U48 904 69 from by rw [eU49]; exact Xi_ne (by omega)).trans ((show Xi U48 904 69 = Xi S 904 69 from by rw [eU48]; exact Xi_ne (by omega)))))
      have w483 : Xi U51 904 93 = Xi S 904 93 := (show Xi U51 904 93 = Xi U50 904 93 from by rw [eU51]; exact Xi_ne (by omega)).trans ( (show Xi U50 904 93 = Xi U49 904 93 from by rw [eU50]; exact Xi_ne (by omega)).trans ( (show Xi U49 904 93 = Xi U48 904 93 from by rw [eU49]; exact Xi_ne (by omega)).trans ((show Xi U48 904 93 = Xi S 904 93 from by rw [eU48]; exact Xi_ne (by omega)))))
      exact Pl_weak (C218 U51 hHU51 hFU51 ((Xi S 904 98)) (z452) (by omega) (by omega) (by omega) (by omega) (by omega) (by omega) (by omega) (by omega) (by first | exact r218 | exact ⟨by omega, in_u2 hvl (by omega) (by omega) (by omega) (by omega)⟩) (by first | exact jr_up (JR_FR (FR_e eU50) rfl rfl rfl (JR_FR (FR_e eU49) rfl rfl rfl (JR_FR (FR_e eU48) rfl rfl rfl (by assumption : JR S _ _)))) (VLR_FR hFU50 rfl (by assumption : VLR S _ _)) (show U51 = uI U50 904 8 (Int32.ofInt (_ + 1)) from eU51) (by omega) (fun b => by rw [FRR hFU50 rfl, show Xi U50 904 8 = Xi S 904 8 by omega]; omega) | assumption | exact (by assumption : JR U51 _ _)) (by omega)) (by omega) (And.intro rfl (And.intro rfl (And.intro rfl (True.intro))))
    | 5, hii =>
      cases hii
      have w484 : z452 = 148 := by simpa using w454
      have w485 : Xi U51 904 65 = Xi S 904 65 := (show Xi U51 904 65 = Xi U50 904 65 from by rw [eU51]; exact Xi_ne (by omega)).trans ( (show Xi U50 904 65 = Xi U49 904 65 from by rw [eU50]; exact Xi_ne (by omega)).trans ( (show Xi U49 904 65 = Xi U48 904 65 from by rw [eU49]; exact Xi_ne (by omega)).trans ((show Xi U48 904 65 = Xi S 904 65 from by rw [eU48]; exact Xi_ne (by omega)))))
      have w486 : Xi U51 904 66 = Xi S 904 66 := (show Xi U51 904 66 = Xi U50 904 66 from by rw [eU51]; exact Xi_ne (by omega)).trans ( (show Xi U50 904 66 = Xi U49 904 66 from by rw [eU50]; exact Xi_ne (by omega)).trans ( (show Xi U49 904 66 = Xi U48 904 66 from by rw [eU49]; exact Xi_ne (by omega)).trans ((show Xi U48 904 66 = Xi S 904 66 from by rw [eU48]; exact Xi_ne (by omega)))))
      have w487 : Xi U51 904 69 = Xi S 904 69 := (show Xi U51 904 69 = Xi U50 904 69 from by rw [eU51]; exact Xi_ne (by omega)).trans ( (show Xi U50 904 69 = Xi U49 904 69 from by rw [eU50]; exact Xi_ne (by omega)).trans ( (show Xi U49 904 69 = Xi U48 904 69 from by rw [eU49]; exact Xi_ne (by omega)).trans ((show Xi U48 904 69 = Xi S 904 69 from by rw [eU48]; exact Xi_ne (by omega)))))
      have w488 : Xi U51 904 93 = Xi S 904 93 := (show Xi U51 904 93 = Xi U50 904 93 from by rw [eU51]; exact Xi_ne (by omega)).trans ( (show Xi U50 904 93 = Xi U49 904 93 from by rw [eU50]; exact Xi_ne (by omega)).trans ( (show Xi U49 904 93 = Xi U48 904 93 from by rw [eU49]; exact Xi_ne (by omega)).trans ((show Xi U48 904 93 = Xi S 904 93 from by rw [eU48]; exact Xi_ne (by omega)))))
      exact Pl_weak (C374 U51 hHU51 hFU51 ((Xi S 904 98)) (by omega) (by omega) (by omega) (by omega) (by omega) (by omega) (by omega) (by first | exact r218 | exact ⟨by omega, in_u2 hvl (by omega) (by omega) (by omega) (by omega)⟩) (by first | exact jr_up (JR_FR (FR_e eU50) rfl rfl rfl (JR_FR (FR_e eU49) rfl rfl rfl (JR_FR (FR_e eU48) rfl rfl rfl (by assumption : JR S _ _)))) (VLR_FR hFU50 rfl (by assumption : VLR S _ _)) (show U51 = uI U50 904 8 (Int32.ofInt (_ + 1)) from eU51) (by omega) (fun b => by rw [FRR hFU50 rfl, show Xi U50 904 8 = Xi S 904 8 by omega]; omega) | assumption | exact (by assumption : JR U51 _ _)) (by omega)) (by omega) (And.intro rfl (And.intro rfl (True.intro)))
    | 6, hii =>
      cases hii
      have w489 : z452 = 149 := by simpa using w454
      have w490 : Xi U51 904 65 = Xi S 904 65 := (show Xi U51 904 65 = Xi U50 904 65 from by rw [eU51]; exact Xi_ne (by omega)).trans ( (show Xi U50 904 65 = Xi U49 904 65 from by rw [eU50]; exact Xi_ne (by omega)).trans ( (show Xi U49 904 65 = Xi U48 904 65 from by rw [eU49]; exact Xi_ne (by omega)).trans ((show Xi U48 904 65 = Xi S 904 65 from by rw [eU48]; exact Xi_ne (by omega)))))
      have w491 : Xi U51 904 66 = Xi S 904 66 := (show Xi U51 904 66 = Xi U50 904 66 from by rw [eU51]; exact Xi_ne (by omega)).trans ( (show Xi U50 904 66 = Xi U49 904 66 from by rw [eU50]; exact Xi_ne (by omega)).trans ( (show Xi U49 904 66 = Xi U48 904 66 from by rw [eU49]; exact Xi_ne (by omega)).trans ((show Xi U48 904 66 = Xi S 904 66 from by rw [eU48]; exact Xi_ne (by omega)))))
      have w492 : Xi U51 904 69 = Xi S 904 69 := (show Xi U51 904 69 = Xi U50 904 69 from by rw [eU51]; exact Xi_ne (by omega)).trans ( (show Xi U50 904 69 = Xi U49 904 69 from by rw [eU50]; exact Xi_ne (by omega)).trans ( (show Xi U49 904 69 = Xi U48 904 69 from by rw [eU49]; exact Xi_ne (by omega)).trans ((show Xi U48 904 69 = Xi S 904 69 from by rw [eU48]; exact Xi_ne (by omega)))))
      have w493 : Xi U51 904 93 = Xi S 904 93 := (show Xi U51 904 93 = Xi U50 904 93 from by rw [eU51]; exact Xi_ne (by omega)).trans ( (show Xi U50 904 93 = Xi U49 904 93 from by rw [eU50]; exact Xi_ne (by omega)).trans ( (show Xi U49 904 93 = Xi U48 904 93 from by rw [eU49]; exact Xi_ne (by omega)).trans ((show Xi U48 904 93 = Xi S 904 93 from by rw [eU48]; exact Xi_ne (by omega)))))
      exact Pl_weak (C281 U51 hHU51 hFU51 ((Xi S 904 98)) (by omega) (by omega) (by omega) (by omega) (by omega) (by omega) (by omega) (by first | exact r218 | exact ⟨by omega, in_u2 hvl (by omega) (by omega) (by omega) (by omega)⟩) (by first | exact jr_up (JR_FR (FR_e eU50) rfl rfl rfl (JR_FR (FR_e eU49) rfl rfl rfl (JR_FR (FR_e eU48) rfl rfl rfl (by assumption : JR S _ _)))) (VLR_FR hFU50 rfl (by assumption : VLR S _ _)) (show U51 = uI U50 904 8 (Int32.ofInt (_ + 1)) from eU51) (by omega) (fun b => by rw [FRR hFU50 rfl, show Xi U50 904 8 = Xi S 904 8 by omega]; omega) | assumption | exact (by assumption : JR U51 _ _)) (by omega)) (by omega) (And.intro rfl (And.intro rfl (True.intro)))
    | n + 7, hii => exact absurd hii (by simp)
def md_mo_phrases__p : List rec := [(904, 905, 8, 9), (904, 905, 65, 66), (904, 905, 66, 67), (904, 905, 69, 70), (904, 905, 78, 79), (904, 905, 93, 94), (904, 905, 98, 99), (904, 905, 99, 100), (904, 905, 100, 101), (904, 905, 101, 102), (950, 951, 0, 100000), (951, 952, 0, 100000), (952, 953, 0, 100000), (953, 954, 0, 100000), (954, 955, 0, 100000), (955, 956, 0, 100000), (956, 957, 0, 100000), (957, 958, 0, 100000), (958, 959, 0, 100000), (959, 960, 0, 100000), (960, 961, 0, 100000), (961, 962, 0, 100000), (962, 963, 0, 100000), (963, 964, 0, 100000), (964, 965, 0, 100000), (965, 966, 0, 100000)]
abbrev Q_mo_phrases__p (S : sS) (fs : Nat) (ns : Nat) : pst := fun r S1 => RI S1 ∧ FR md_mo_phrases__p S S1 ∧ (r = none ∧ (gSq (cu S fs) (gPsR (tR S fs ns)) = cu S1 fs) ∧ (Xi S 904 69 ≤ Xi S1 904 69) ∧ (Xi S1 904 65 = 0 → Xi S 904 65 = 0 ∧ Xi S 904 8 ≤ Xi S1 904 8) ∧ (JR S1 fs ns))
set_option maxRecDepth 100000 in
theorem t_mo_phrases__p {S : sS} (hH : RI S) (fs : Nat) (ns : Nat) (hvl : VLR S fs ns) (hJR : JR S fs ns) (d : Nat) : Mp lay0 (d + 8) m_mo_phrases [.ref 904] S (Q_mo_phrases__p S fs ns) := by
  refine Mp_R rfl rfl (fun fu => ?_)
  have hF : FR md_mo_phrases__p S S := FR.rf
  have w1 : -2147483648 ≤ Xi S 904 65 ∧ Xi S 904 65 ≤ 2147483647 := Xi_rgI
  have w2 : -2147483648 ≤ Xi S 904 66 ∧ Xi S 904 66 ≤ 2147483647 := Xi_rgI
  have w3 : -2147483648 ≤ Xi S 904 69 ∧ Xi S 904 69 ≤ 2147483647 := Xi_rgI
  have w4 : -2147483648 ≤ Xi S 904 8 ∧ Xi S 904 8 ≤ 2147483647 := Xi_rgI
  have w5 : -2147483648 ≤ Xi S 904 93 ∧ Xi S 904 93 ≤ 2147483647 := Xi_rgI
  have : Xi S 904 65 = 0 → (fs : Int) ≤ Xi S 904 8 ∧ Xi S 904 8 ≤ fs + ns := JR.i (by assumption)
  have hbd := hvl.2.2.2
  have C4 : ∀ (n4 : Nat) (_ : n4 ≤ fu) (T1 : sS) (_ : RI T1) (_ : FR md_mo_phrases__p S T1), (JR T1 fs ns) → (Xi T1 904 65 = 0 → (fs : Int) ≤ Xi T1 904 8 ∧ Xi T1 904 8 ≤ fs + ns) → (Xi T1 904 65 = 0 → Xi S 904 65 = 0 ∧ Xi S 904 8 ≤ Xi T1 904 8) → (Xi S 904 69 ≤ Xi T1 904 69) → (FUL (gSq (cu S fs) (gPsR (tR S fs ns))) (gPsn7 (tR S fs ns)) ns T1 fs) → Pl n4 lay0 (d + 7) m_mo_phrases 4 [(0, .ref 904)] [] T1 (Q_mo_phrases__p S fs ns) := by
    intro n4
    induction n4 with
    | zero => intros; exact Pl_0
    | succ n4 ih4 =>
      intro hm4 T1 hHT1 hFT1 J4 j4 w6 w7 U4
      have w8 : -2147483648 ≤ Xi T1 904 65 ∧ Xi T1 904 65 ≤ 2147483647 := Xi_rgI
      have w9 : -2147483648 ≤ Xi T1 904 66 ∧ Xi T1 904 66 ≤ 2147483647 := Xi_rgI
      have w10 : -2147483648 ≤ Xi T1 904 69 ∧ Xi T1 904 69 ≤ 2147483647 := Xi_rgI
      have w11 : -2147483648 ≤ Xi T1 904 8 ∧ Xi T1 904 8 ≤ 2147483647 := Xi_rgI
      have w12 : -2147483648 ≤ Xi T1 904 93 ∧ Xi T1 904 93 ≤ 2147483647 := Xi_rgI
      refine ys_aload_n rfl rfl ?_
      refine y_bipush rfl rfl ?_
      refine y_callV rfl rfl rfl (t_mo_isNext__p hHT1 fs ns 59 ⟨by omega, by omega⟩ (by first | assumption | exact (VLR_FR hFT1 rfl (by assumption : VLR S _ _))) (by first | assumption | exact JR.i (by first | assumption | exact (by assumption : JR T1 _ _))) (rfl) _) ?_
      rintro _ _ ⟨rfl, z14, rfl, w14, w13⟩
      show Pl _ _ _ _ _ _ [iv z14] _ _
      have gb7 := w13
      try rw [FRR hFT1 rfl] at gb7
      try rw [show un7 59 = 105 from rfl] at gb7
      clear w13
      refine y_if_eq rfl rfl (by unfold rg; omega) (fun w15 => ?_) (fun w16 => ?_)
      · refine y_return rfl rfl ?_
        exact ⟨hHT1, hFT1, rfl, ((FU_e U4 (by omega) (fun b k => gPsn_0 (by omega))).trans (cu_eq (by omega) (by omega) (by omega)).symm), (by omega), (by omega), (by first | assumption | exact (by assumption : JR T1 _ _))⟩
      · refine y_aload_n rfl rfl ?_
        refine y_dup rfl rfl ?_
        refine y_gfi rfl rfl rfl rfl rfl ?_
        refine y_iconst rfl ?_
        refine y_iadd rfl ?_
        refine y_pfi rfl rfl rfl rfl ?_
        obtain ⟨U2, eU2⟩ : ∃ T : sS, T = uI T1 904 8 (Int32.ofInt ((Xi T1 904 8) + 1)) := ⟨_, rfl⟩
        rw [← eU2]
        have hHU2 : RI U2 := by rw [eU2]; exact RI_w hHT1
        have hFU2 : FR md_mo_phrases__p S U2 := by rw [eU2]; exact FR.wI hFT1 (mdf_i (r := (904, 905, 8, 9)) (List.mem_of_getElem? (i := 0) rfl) (inR_i (by omega) (by omega) (by omega) (by omega)))
        have w17 : Xi U2 904 8 = ((Xi T1 904 8) + 1) := by rw [eU2]; exact Xi_same (by unfold rg; omega)
        have b20_ : Xi U2 904 65 = Xi T1 904 65 := (by rw [eU2, Xi_ne (by omega)]); have J20 : JR U2 fs ns := jr_up (by assumption : JR T1 _ _) ((VLR_FR hFT1 rfl (by assumption : VLR S _ _))) eU2 (by omega) (fun b => by first | omega | (rw [FRR hFT1 rfl]; omega) | (rw [FRR hFT1 rfl, show Xi T1 904 8 = Xi S 904 8 by omega]; omega))
        have : Xi U2 904 65 = 0 → (fs : Int) ≤ Xi U2 904 8 ∧ Xi U2 904 8 ≤ fs + ns := JR.i (by assumption)
        refine y_aload_n rfl rfl ?_
        have w18 : Xi U2 904 65 = Xi T1 904 65 := (show Xi U2 904 65 = Xi T1 904 65 from by rw [eU2]; exact Xi_ne (by omega))
        have w20 : Xi U2 904 69 = Xi T1 904 69 := (show Xi U2 904 69 = Xi T1 904 69 from by rw [eU2]; exact Xi_ne (by omega))
        refine y_callV rfl rfl rfl (t_mo_phrase__p hHU2 fs ns (by first | assumption | exact (VLR_FR hFU2 rfl (by assumption : VLR S _ _))) (by first | assumption | exact (by assumption : JR U2 _ _)) _) ?_
        rintro _ T3 ⟨hHT3, w27, rfl, w22, w23, w24, w25⟩
        have hFT3 : FR md_mo_phrases__p S T3 := FR.tr hFU2 w27 rfl
        show Pl _ _ _ _ _ _ [] _ _
        have : Xi T3 904 65 = 0 → (fs : Int) ≤ Xi T3 904 8 ∧ Xi T3 904 8 ≤ fs + ns := JR.i (by assumption)
        have gp24 := w22
        try rw [FRR hFU2 rfl] at gp24
        clear w22
        refine y_goto rfl rfl ?_
        exact Pl_weak (ih4 (by omega) T3 hHT3 hFT3  (by first | assumption | exact (by assumption : JR T3 _ _)) (by omega) (by omega) (by omega) (by first | exact FU_0 (by have t := cu_ch gp1 (rfl : gSq (cu T3 fs) (gPsn7 (tR S fs ns) 5200) = _); exact t) (by omega) | exact FU_s U4 (by omega) (by omega) (fun k => by rw [gPsn_1 (by omega), cu_go gp24 (by omega) (by omega)]) (by omega))) (by omega) (And.intro rfl (True.intro))
  refine y_aload_n rfl rfl ?_
  refine y_callV rfl rfl rfl (t_mo_phrase__p hH fs ns (by first | assumption | exact (VLR_FR hF rfl (by assumption : VLR S _ _))) (by first | assumption | exact (by assumption : JR S _ _)) _) ?_
  rintro _ T4 ⟨hHT4, w33, rfl, w28, w29, w30, w31⟩
  have hFT4 : FR md_mo_phrases__p S T4 := FR.tr hF w33 rfl
  show Pl _ _ _ _ _ _ [] _ _
  have : Xi T4 904 65 = 0 → (fs : Int) ≤ Xi T4 904 8 ∧ Xi T4 904 8 ≤ fs + ns := JR.i (by assumption)
  have gp1 := w28
  clear w28
  exact Pl_weak (C4 fu (by omega) T4 hHT4 hFT4  (by first | assumption | exact (by assumption : JR T4 _ _)) (by omega) (by omega) (by omega) (by first | exact FU_0 (by have t := cu_ch gp1 (rfl : gSq (cu T4 fs) (gPsn7 (tR S fs ns) 5200) = _); exact t) (by omega) | exact FU_s U4 (by omega) (by omega) (fun k => by rw [gPsn_1 (by omega), cu_go gp24 (by omega) (by omega)]) (by omega))) (by omega) (And.intro rfl (True.intro))
end
