/-- out of omega's sight -/
def Hid (p : Prop) : Prop := p
theorem Hid.o {p : Prop} (h : Hid p) : p := h
theorem cu_nt1 {V U W : sS} {f : Nat} {T : Int → Int} {x : Int} (e : U = uI V 904 8 (Int32.ofInt (x + 1))) (hx : x = Xi V 904 8) (hc : cu V f = cu W f) (h : Xi V 904 65 = 0 → T (x - f) = 6 ∧ x < 2147483647) : gSq (cu W f) (fun b => (1, gTn T b)) = cu U f := by
  subst hx
  rw [← hc]
  refine cu_nt (by rw [e, Xi_ne (by omega)]) (by rw [e, Xi_ne (by omega)]) (fun b => ?_)
  obtain ⟨h1, h2⟩ := h b
  have r := (Xi_rgI : -2147483648 ≤ Xi V 904 8 ∧ Xi V 904 8 ≤ 2147483647)
  unfold gTn
  rw [if_pos h1, e, show Xi (uI V 904 8 (Int32.ofInt (Xi V 904 8 + 1))) 904 8 = Xi V 904 8 + 1 from Xi_same (by unfold rg; omega)]
  omega
theorem cu_nt0 {V U W : sS} {f : Nat} {T : Int → Int} {x : Int} (e : U = uI V 904 8 (Int32.ofInt (x + 0))) (hx : x = Xi V 904 8) (hc : cu V f = cu W f) (h : Xi V 904 65 = 0 → T (x - f) ≠ 6) : gSq (cu W f) (fun b => (1, gTn T b)) = cu U f := by
  subst hx
  rw [← hc]
  refine cu_nt (by rw [e, Xi_ne (by omega)]) (by rw [e, Xi_ne (by omega)]) (fun b => ?_)
  have r := (Xi_rgI : -2147483648 ≤ Xi V 904 8 ∧ Xi V 904 8 ≤ 2147483647)
  unfold gTn
  rw [if_neg (h b), e, show Xi (uI V 904 8 (Int32.ofInt (Xi V 904 8 + 0))) 904 8 = Xi V 904 8 from (Xi_same (by unfold rg; omega)).trans (by omega)]

def md_mo_test__p : List rec := [(904, 905, 8, 9), (904, 905, 65, 66), (904, 905, 66, 67), (904, 905, 69, 70), (904, 905, 78, 79), (904, 905, 93, 94), (904, 905, 99, 100), (904, 905, 100, 101), (904, 905, 101, 102), (950, 951, 0, 100000), (951, 952, 0, 100000), (952, 953, 0, 100000), (953, 954, 0, 100000), (954, 955, 0, 100000), (955, 956, 0, 100000), (956, 957, 0, 100000), (957, 958, 0, 100000), (958, 959, 0, 100000), (959, 960, 0, 100000), (960, 961, 0, 100000), (961, 962, 0, 100000), (962, 963, 0, 100000)]
abbrev Q_mo_test__p (S : sS) (fs : Nat) (ns : Nat) (isNow : Int) : pst := fun r S1 => RI S1 ∧ FR md_mo_test__p S S1 ∧ (r = none ∧ (gSq (cu S fs) (gTtR (tR S fs ns) isNow) = cu S1 fs) ∧ (Xi S 904 69 ≤ Xi S1 904 69) ∧ (Xi S1 904 65 = 0 → Xi S 904 65 = 0 ∧ Xi S 904 8 ≤ Xi S1 904 8) ∧ (Xi S1 904 93 = Xi S 904 93 + 1 ∧ 0 ≤ Xi S 904 93) ∧ (JR S1 fs ns))
set_option maxRecDepth 100000 in
theorem c351_mo_test__p {S : sS} (hH : RI S) (fs : Nat) (ns : Nat) (isNow : Int) (hisNow : 0 ≤ isNow ∧ isNow ≤ 1) (hvl : VLR S fs ns) (hJR : JR S fs ns) (d : Nat) (fu : Nat) : ∀  (T1 : sS) (_ : RI T1) (_ : FR md_mo_test__p S T1), (gSq (cu S fs) (gTm (tR S fs ns) isNow) = cu T1 fs) → (INR T1 fs ns) → (Xi T1 904 65 = 0 → (fs : Int) ≤ Xi T1 904 8 ∧ Xi T1 904 8 ≤ fs + ns) → (Xi T1 904 93 = Xi S 904 93) → (0 ≤ Xi S 904 93) → (Xi T1 904 65 = 0 → Xi S 904 65 = 0 ∧ Xi S 904 8 ≤ Xi T1 904 8) → (Xi S 904 69 ≤ Xi T1 904 69) → Pl fu lay0 (d + 5) m_mo_test 351 [(0, .ref 904), (1, iv isNow)] [] T1 (Q_mo_test__p S fs ns isNow) := by
  have hF : FR md_mo_test__p S S := FR.rf
  have w1 : -2147483648 ≤ Xi S 904 65 ∧ Xi S 904 65 ≤ 2147483647 := Xi_rgI
  have w2 : -2147483648 ≤ Xi S 904 66 ∧ Xi S 904 66 ≤ 2147483647 := Xi_rgI
  have w3 : -2147483648 ≤ Xi S 904 69 ∧ Xi S 904 69 ≤ 2147483647 := Xi_rgI
  have w4 : -2147483648 ≤ Xi S 904 8 ∧ Xi S 904 8 ≤ 2147483647 := Xi_rgI
  have w5 : -2147483648 ≤ Xi S 904 93 ∧ Xi S 904 93 ≤ 2147483647 := Xi_rgI
  have : Xi S 904 65 = 0 → (fs : Int) ≤ Xi S 904 8 ∧ Xi S 904 8 ≤ fs + ns := JR.i (by assumption)
  have hbd := hvl.2.2.2
  intro T1 hHT1 hFT1 G351 I351 i351 w6 w7 w8 w9
  have w10 : -2147483648 ≤ Xi T1 904 65 ∧ Xi T1 904 65 ≤ 2147483647 := Xi_rgI
  have w11 : -2147483648 ≤ Xi T1 904 66 ∧ Xi T1 904 66 ≤ 2147483647 := Xi_rgI
  have w12 : -2147483648 ≤ Xi T1 904 69 ∧ Xi T1 904 69 ≤ 2147483647 := Xi_rgI
  have w13 : -2147483648 ≤ Xi T1 904 8 ∧ Xi T1 904 8 ≤ 2147483647 := Xi_rgI
  have w14 : -2147483648 ≤ Xi T1 904 93 ∧ Xi T1 904 93 ≤ 2147483647 := Xi_rgI
  refine y_aload_n rfl rfl ?_
  refine y_gfr rfl rfl rfl rfl rfl (hHT1.r 904 92 962 rfl) ?_
  refine y_aload_n rfl rfl ?_
  refine y_gfi rfl rfl rfl rfl rfl ?_
  refine y_aload_n rfl rfl ?_
  refine y_gfi rfl rfl rfl rfl rfl ?_
  refine y_iastoreP (n := 1700) rfl rfl (by unfold rg; omega) (fun w15 w16 => ?_)
  obtain ⟨U2, eU2⟩ : ∃ T : sS, T = uI T1 962 (((Xi T1 904 93)).toNat) (Int32.ofInt (Xi T1 904 8)) := ⟨_, rfl⟩
  rw [← eU2]
  have hHU2 : RI U2 := by rw [eU2]; exact RI_w hHT1
  have hFU2 : FR md_mo_test__p S U2 := by rw [eU2]; exact FR.wI hFT1 (mdf_i (r := (962, 963, 0, 100000)) (List.mem_of_getElem? (i := 21) rfl) (inR_i (by omega) (by omega) (by omega) (by omega)))
  have w17 : Xi U2 962 (((Xi T1 904 93)).toNat) = (Xi T1 904 8) := by rw [eU2]; exact Xi_same (by unfold rg; omega)
  refine y_aload_n rfl rfl ?_
  refine y_gfi rfl rfl rfl rfl rfl ?_
  have w18 : (Xi U2 904 65) = (Xi T1 904 65) := (show Xi U2 904 65 = Xi T1 904 65 from by rw [eU2]; exact Xi_ne (by omega))
  rw [w18]
  refine y_if_ne rfl rfl (by unfold rg; omega) (fun w19 => ?_) (fun w20 => ?_)
  · refine y_aload_n rfl rfl ?_
    refine y_dup rfl rfl ?_
    refine y_gfi rfl rfl rfl rfl rfl ?_
    have w21 : (Xi U2 904 93) = (Xi T1 904 93) := (show Xi U2 904 93 = Xi T1 904 93 from by rw [eU2]; exact Xi_ne (by omega))
    rw [w21]
    refine y_iconst rfl ?_
    refine y_iadd rfl ?_
    refine y_pfi rfl rfl rfl rfl ?_
    obtain ⟨U3, eU3⟩ : ∃ T : sS, T = uI U2 904 93 (Int32.ofInt ((Xi T1 904 93) + 1)) := ⟨_, rfl⟩
    rw [← eU3]
    have hHU3 : RI U3 := by rw [eU3]; exact RI_w hHU2
    have hFU3 : FR md_mo_test__p S U3 := by rw [eU3]; exact FR.wI hFU2 (mdf_i (r := (904, 905, 93, 94)) (List.mem_of_getElem? (i := 5) rfl) (inR_i (by omega) (by omega) (by omega) (by omega)))
    have w22 : Xi U3 904 93 = ((Xi T1 904 93) + 1) := by rw [eU3]; exact Xi_same (by unfold rg; omega)
    refine y_return rfl rfl ?_
    have w23 : Xi U3 904 65 = Xi T1 904 65 := (show Xi U3 904 65 = Xi U2 904 65 from by rw [eU3]; exact Xi_ne (by omega)).trans ((show Xi U2 904 65 = Xi T1 904 65 from by rw [eU2]; exact Xi_ne (by omega)))
    have w24 : Xi U3 904 66 = Xi T1 904 66 := (show Xi U3 904 66 = Xi U2 904 66 from by rw [eU3]; exact Xi_ne (by omega)).trans ((show Xi U2 904 66 = Xi T1 904 66 from by rw [eU2]; exact Xi_ne (by omega)))
    have w25 : Xi U3 904 69 = Xi T1 904 69 := (show Xi U3 904 69 = Xi U2 904 69 from by rw [eU3]; exact Xi_ne (by omega)).trans ((show Xi U2 904 69 = Xi T1 904 69 from by rw [eU2]; exact Xi_ne (by omega)))
    have w26 : Xi U3 904 8 = Xi T1 904 8 := (show Xi U3 904 8 = Xi U2 904 8 from by rw [eU3]; exact Xi_ne (by omega)).trans ((show Xi U2 904 8 = Xi T1 904 8 from by rw [eU2]; exact Xi_ne (by omega)))
    exact ⟨hHU3, hFU3, rfl, (by first | exact en_0 (B := T1) (E := gEt (tR S fs ns) isNow) G351 (by omega) (gE_0 (E382.1 (by omega))) gp389 (cu_eqb (by omega) (fun b => by omega) (by omega)) (cu_eq (by omega) (by omega) (by omega)) | exact en_1 (B := T1) (E := gEt (tR S fs ns) isNow) G351 (cu_eq (by omega) (by omega) (by omega)) (fun b => gE_1 (E382.2 (by omega))) | exact en_1 (B := T1) (E := gEt (tR S fs ns) isNow) G351 (cu_eq (by omega) (by omega) (by omega)) (fun b => absurd b (by omega))), (by omega), (by omega), (by omega), (jr_tc (fun b => by omega) (by omega))⟩
  · refine y_aload_n rfl rfl ?_
    refine y_aload_n rfl rfl ?_
    refine y_gfr rfl rfl rfl rfl rfl (hHU2.r 904 4 907 rfl) ?_
    refine y_aload_n rfl rfl ?_
    refine y_gfi rfl rfl rfl rfl rfl ?_
    have w27 : (Xi U2 904 8) = (Xi T1 904 8) := (show Xi U2 904 8 = Xi T1 904 8 from by rw [eU2]; exact Xi_ne (by omega))
    rw [w27]
    refine y_ialoadP (n := 5002) rfl rfl (by unfold rg; omega) (fun w28 w29 => ?_)
    have w30 : -2147483648 ≤ (Xi U2 907 (((Xi T1 904 8)).toNat)) ∧ (Xi U2 907 (((Xi T1 904 8)).toNat)) ≤ 2147483647 := Xi_rgI
    have U380 := et_of (now := isNow) (z := (Xi U2 907 (((Xi T1 904 8)).toNat))) (a := Xi T1 904 8) hvl (by omega) (by omega) (by first | exact ((hFU2.cx 907 rfl _).1).symm | rfl)
    refine y_iload_n rfl rfl ?_
    have w31 : Xi U2 904 65 = Xi T1 904 65 := (show Xi U2 904 65 = Xi T1 904 65 from by rw [eU2]; exact Xi_ne (by omega))
    have w32 : Xi U2 904 66 = Xi T1 904 66 := (show Xi U2 904 66 = Xi T1 904 66 from by rw [eU2]; exact Xi_ne (by omega))
    have w33 : Xi U2 904 69 = Xi T1 904 69 := (show Xi U2 904 69 = Xi T1 904 69 from by rw [eU2]; exact Xi_ne (by omega))
    have w34 : Xi U2 904 8 = Xi T1 904 8 := (show Xi U2 904 8 = Xi T1 904 8 from by rw [eU2]; exact Xi_ne (by omega))
    have w35 : Xi U2 904 93 = Xi T1 904 93 := (show Xi U2 904 93 = Xi T1 904 93 from by rw [eU2]; exact Xi_ne (by omega))
    refine y_callV rfl rfl rfl (t_mo_endsTest__p hHU2 (Xi U2 907 (((Xi T1 904 8)).toNat)) isNow ⟨by omega, by omega⟩ ⟨by omega, by omega⟩ _) ?_
    rintro _ _ ⟨rfl, z38, rfl, w38, w36, w37⟩
    show Pl _ _ _ _ _ _ [iv z38] _ _
    have E382 : (z38 = 0 → ¬ et7 isNow (tR S fs ns (Xi T1 904 8 - fs))) ∧ (z38 = 1 → et7 isNow (tR S fs ns (Xi T1 904 8 - fs))) := ⟨fun q r => absurd (U380.1 r) (by omega), fun q => U380.2 (by omega)⟩
    refine y_if_ne rfl rfl (by unfold rg; omega) (fun w39 => ?_) (fun w40 => ?_)
    · refine y_aload_n rfl rfl ?_
      refine y_dup rfl rfl ?_
      refine y_gfi rfl rfl rfl rfl rfl ?_
      have w41 : (Xi U2 904 93) = (Xi T1 904 93) := (show Xi U2 904 93 = Xi T1 904 93 from by rw [eU2]; exact Xi_ne (by omega))
      rw [w41]
      refine y_iconst rfl ?_
      refine y_iadd rfl ?_
      refine y_pfi rfl rfl rfl rfl ?_
      obtain ⟨U4, eU4⟩ : ∃ T : sS, T = uI U2 904 93 (Int32.ofInt ((Xi T1 904 93) + 1)) := ⟨_, rfl⟩
      rw [← eU4]
      have hHU4 : RI U4 := by rw [eU4]; exact RI_w hHU2
      have hFU4 : FR md_mo_test__p S U4 := by rw [eU4]; exact FR.wI hFU2 (mdf_i (r := (904, 905, 93, 94)) (List.mem_of_getElem? (i := 5) rfl) (inR_i (by omega) (by omega) (by omega) (by omega)))
      have w42 : Xi U4 904 93 = ((Xi T1 904 93) + 1) := by rw [eU4]; exact Xi_same (by unfold rg; omega)
      refine y_return rfl rfl ?_
      have w43 : Xi U4 904 65 = Xi T1 904 65 := (show Xi U4 904 65 = Xi U2 904 65 from by rw [eU4]; exact Xi_ne (by omega)).trans ((show Xi U2 904 65 = Xi T1 904 65 from by rw [eU2]; exact Xi_ne (by omega)))
      have w44 : Xi U4 904 66 = Xi T1 904 66 := (show Xi U4 904 66 = Xi U2 904 66 from by rw [eU4]; exact Xi_ne (by omega)).trans ((show Xi U2 904 66 = Xi T1 904 66 from by rw [eU2]; exact Xi_ne (by omega)))
      have w45 : Xi U4 904 69 = Xi T1 904 69 := (show Xi U4 904 69 = Xi U2 904 69 from by rw [eU4]; exact Xi_ne (by omega)).trans ((show Xi U2 904 69 = Xi T1 904 69 from by rw [eU2]; exact Xi_ne (by omega)))
      have w46 : Xi U4 904 8 = Xi T1 904 8 := (show Xi U4 904 8 = Xi U2 904 8 from by rw [eU4]; exact Xi_ne (by omega)).trans ((show Xi U2 904 8 = Xi T1 904 8 from by rw [eU2]; exact Xi_ne (by omega)))
      exact ⟨hHU4, hFU4, rfl, (by first | exact en_0 (B := T1) (E := gEt (tR S fs ns) isNow) G351 (by omega) (gE_0 (E382.1 (by omega))) gp389 (cu_eqb (by omega) (fun b => by omega) (by omega)) (cu_eq (by omega) (by omega) (by omega)) | exact en_1 (B := T1) (E := gEt (tR S fs ns) isNow) G351 (cu_eq (by omega) (by omega) (by omega)) (fun b => gE_1 (E382.2 (by omega))) | exact en_1 (B := T1) (E := gEt (tR S fs ns) isNow) G351 (cu_eq (by omega) (by omega) (by omega)) (fun b => absurd b (by omega))), (by omega), (by omega), (by omega), (jr_tc (fun b => by omega) (by omega))⟩
    · refine y_aload_n rfl rfl ?_
      refine y_callV rfl rfl rfl (t_mo_odd__p hHU2 fs ns _) ?_
      rintro _ T5 ⟨hHT5, w56, rfl, w52, w53, w54⟩
      have hFT5 : FR md_mo_test__p S T5 := FR.tr hFU2 w56 rfl
      show Pl _ _ _ _ _ _ [] _ _
      have gp389 := w52
      try rw [FRR hFU2 rfl] at gp389
      try rw [show cu U2 fs = cu T1 fs from cu_eq (by omega) (by omega) (by omega)] at gp389
      clear w52
      refine y_aload_n rfl rfl ?_
      refine y_dup rfl rfl ?_
      refine y_gfi rfl rfl rfl rfl rfl ?_
      have w57 : (Xi T5 904 93) = (Xi T1 904 93) := (show Xi T5 904 93 = Xi U2 904 93 from w56.x _ _ rfl).trans ((show Xi U2 904 93 = Xi T1 904 93 from by rw [eU2]; exact Xi_ne (by omega)))
      rw [w57]
      refine y_iconst rfl ?_
      refine y_iadd rfl ?_
      refine y_pfi rfl rfl rfl rfl ?_
      obtain ⟨U6, eU6⟩ : ∃ T : sS, T = uI T5 904 93 (Int32.ofInt ((Xi T1 904 93) + 1)) := ⟨_, rfl⟩
      rw [← eU6]
      have hHU6 : RI U6 := by rw [eU6]; exact RI_w hHT5
      have hFU6 : FR md_mo_test__p S U6 := by rw [eU6]; exact FR.wI hFT5 (mdf_i (r := (904, 905, 93, 94)) (List.mem_of_getElem? (i := 5) rfl) (inR_i (by omega) (by omega) (by omega) (by omega)))
      have w58 : Xi U6 904 93 = ((Xi T1 904 93) + 1) := by rw [eU6]; exact Xi_same (by unfold rg; omega)
      refine y_return rfl rfl ?_
      have w59 : Xi U6 904 65 = Xi T5 904 65 := (show Xi U6 904 65 = Xi T5 904 65 from by rw [eU6]; exact Xi_ne (by omega))
      have w60 : Xi U6 904 66 = Xi T5 904 66 := (show Xi U6 904 66 = Xi T5 904 66 from by rw [eU6]; exact Xi_ne (by omega))
      have w61 : Xi U6 904 69 = Xi T1 904 69 := (show Xi U6 904 69 = Xi T5 904 69 from by rw [eU6]; exact Xi_ne (by omega)).trans ( (show Xi T5 904 69 = Xi U2 904 69 from w56.x _ _ rfl).trans ((show Xi U2 904 69 = Xi T1 904 69 from by rw [eU2]; exact Xi_ne (by omega))))
      have w62 : Xi U6 904 8 = Xi T1 904 8 := (show Xi U6 904 8 = Xi T5 904 8 from by rw [eU6]; exact Xi_ne (by omega)).trans ( (show Xi T5 904 8 = Xi U2 904 8 from w56.x _ _ rfl).trans ((show Xi U2 904 8 = Xi T1 904 8 from by rw [eU2]; exact Xi_ne (by omega))))
      exact ⟨hHU6, hFU6, rfl, (by first | exact en_0 (B := T1) (E := gEt (tR S fs ns) isNow) G351 (by omega) (gE_0 (E382.1 (by omega))) gp389 (cu_eqb (by omega) (fun b => by omega) (by omega)) (cu_eq (by omega) (by omega) (by omega)) | exact en_1 (B := T1) (E := gEt (tR S fs ns) isNow) G351 (cu_eq (by omega) (by omega) (by omega)) (fun b => gE_1 (E382.2 (by omega))) | exact en_1 (B := T1) (E := gEt (tR S fs ns) isNow) G351 (cu_eq (by omega) (by omega) (by omega)) (fun b => absurd b (by omega))), (by omega), (by omega), (by omega), (jr_tc (fun b => by omega) (by omega))⟩
set_option maxRecDepth 100000 in
theorem c145_mo_test__p {S : sS} (hH : RI S) (fs : Nat) (ns : Nat) (isNow : Int) (hisNow : 0 ≤ isNow ∧ isNow ≤ 1) (hvl : VLR S fs ns) (hJR : JR S fs ns) (d : Nat) (fu : Nat) : ∀  (T7 : sS) (_ : RI T7) (_ : FR md_mo_test__p S T7) (v2 : Int), (-2147483648 ≤ v2 ∧ v2 ≤ 2147483647) → (v2 = Xi S 904 8) → (0 ≤ Xi S 904 93) → (Xi T7 904 65 = Xi S 904 65) → (Xi T7 904 66 = Xi S 904 66) → (Xi T7 904 69 = Xi S 904 69) → (Xi T7 904 93 = Xi S 904 93) → (Xi T7 904 65 = 0 → (fs : Int) ≤ Xi T7 904 8 ∧ Xi T7 904 8 ≤ fs + ns) → (Xi S 904 65 = 0 → Xi S 904 8 ≤ Xi T7 904 8) → (Xi S 904 65 ≠ 0 → Xi T7 904 8 = Xi S 904 8) → (Xi S 904 65 = 0 → fo7 (tR S fs ns) 4 (Xi S 904 8 - fs) (te8 (tR S fs ns) isNow (Xi S 904 8 - fs)) = -1) → (Xi S 904 65 = 0 → gLoF (tR S fs ns) 54 53 5000 (Xi S 904 8 - fs) = Xi T7 904 8 - fs) → Pl fu lay0 (d + 5) m_mo_test 145 [(0, .ref 904), (1, iv isNow), (2, iv v2)] [] T7 (Q_mo_test__p S fs ns isNow) := by
  have C351 := c351_mo_test__p hH fs ns isNow hisNow hvl hJR d  fu
  have hF : FR md_mo_test__p S S := FR.rf
  have w1 : -2147483648 ≤ Xi S 904 65 ∧ Xi S 904 65 ≤ 2147483647 := Xi_rgI
  have w2 : -2147483648 ≤ Xi S 904 66 ∧ Xi S 904 66 ≤ 2147483647 := Xi_rgI
  have w3 : -2147483648 ≤ Xi S 904 69 ∧ Xi S 904 69 ≤ 2147483647 := Xi_rgI
  have w4 : -2147483648 ≤ Xi S 904 8 ∧ Xi S 904 8 ≤ 2147483647 := Xi_rgI
  have w5 : -2147483648 ≤ Xi S 904 93 ∧ Xi S 904 93 ≤ 2147483647 := Xi_rgI
  have : Xi S 904 65 = 0 → (fs : Int) ≤ Xi S 904 8 ∧ Xi S 904 8 ≤ fs + ns := JR.i (by assumption)
  have hbd := hvl.2.2.2
  intro T7 hHT7 hFT7 v2 w63 w64 w65 w66 w67 w68 w69 i145 w70 w71 f145 e145
  have w72 : -2147483648 ≤ Xi T7 904 65 ∧ Xi T7 904 65 ≤ 2147483647 := Xi_rgI
  have w73 : -2147483648 ≤ Xi T7 904 66 ∧ Xi T7 904 66 ≤ 2147483647 := Xi_rgI
  have w74 : -2147483648 ≤ Xi T7 904 69 ∧ Xi T7 904 69 ≤ 2147483647 := Xi_rgI
  have w75 : -2147483648 ≤ Xi T7 904 8 ∧ Xi T7 904 8 ≤ 2147483647 := Xi_rgI
  have w76 : -2147483648 ≤ Xi T7 904 93 ∧ Xi T7 904 93 ≤ 2147483647 := Xi_rgI
  refine y_aload_n rfl rfl ?_
  refine y_gfi rfl rfl rfl rfl rfl ?_
  refine y_iload_n rfl rfl ?_
  refine y_icmp_ne rfl rfl (by unfold rg; omega) (by unfold rg; omega) (fun w77 => ?_) (fun w78 => ?_)
  · refine y_goto rfl rfl ?_
    exact Pl_weak (C351 T7 hHT7 hFT7  (by first | exact GX | exact GX.trans (cu_eq (by omega) (by omega) (by omega)).symm | exact cu_st (by omega) (by omega) rfl (by rw [gTm_s (f145 (by omega)), gLo_of (e145 (by omega)), if_pos (by omega)])) (fun b => by omega) (by omega) (by omega) (by omega) (by omega) (by omega)) (by omega) (And.intro rfl (And.intro rfl (True.intro)))
  · refine y_aload_n rfl rfl ?_
    refine y_callV rfl rfl rfl (t_mo_odd__p hHT7 fs ns _) ?_
    rintro _ T8 ⟨hHT8, w83, rfl, w79, w80, w81⟩
    have hFT8 : FR md_mo_test__p S T8 := FR.tr hFT7 w83 rfl
    show Pl _ _ _ _ _ _ [] _ _
    have gp154 := w79
    try rw [FRR hFT7 rfl] at gp154
    clear w79
    have GX : gSq (cu S fs) (gTm (tR S fs ns) isNow) = cu T8 fs := cu_od (gp154.trans (congrArg (fun c : Int × Int => ((0 : Int), c.2)) (cu_eq (by omega) (by omega) (by omega)))) (fun b => by rw [gTm_s (f145 b), gLo_of (e145 b), if_neg (by omega)]; exact pe rfl (by omega))
    refine y_goto rfl rfl ?_
    have w84 : Xi T8 904 69 = Xi T7 904 69 := (show Xi T8 904 69 = Xi T7 904 69 from w83.x _ _ rfl)
    have w85 : Xi T8 904 8 = Xi T7 904 8 := (show Xi T8 904 8 = Xi T7 904 8 from w83.x _ _ rfl)
    have w86 : Xi T8 904 93 = Xi T7 904 93 := (show Xi T8 904 93 = Xi T7 904 93 from w83.x _ _ rfl)
    exact Pl_weak (C351 T8 hHT8 hFT8  (by first | exact GX | exact GX.trans (cu_eq (by omega) (by omega) (by omega)).symm | exact cu_st (by omega) (by omega) rfl (by rw [gTm_s (f145 (by omega)), gLo_of (e145 (by omega)), if_pos (by omega)])) (fun b => by omega) (by omega) (by omega) (by omega) (by omega) (by omega)) (by omega) (And.intro rfl (And.intro rfl (True.intro)))
set_option maxRecDepth 100000 in
theorem c96_mo_test__p {S : sS} (hH : RI S) (fs : Nat) (ns : Nat) (isNow : Int) (hisNow : 0 ≤ isNow ∧ isNow ≤ 1) (hvl : VLR S fs ns) (hJR : JR S fs ns) (d : Nat) (fu : Nat) : ∀ (n96 : Nat) (_ : n96 ≤ fu) (T9 : sS) (_ : RI T9) (_ : FR md_mo_test__p S T9) (v2 : Int) (v4 : Int), (-2147483648 ≤ v2 ∧ v2 ≤ 2147483647) → (-2147483648 ≤ v4 ∧ v4 ≤ 2147483647) → (v2 = Xi S 904 8) → (0 ≤ Xi S 904 93) → (Xi T9 904 65 = Xi S 904 65) → (Xi T9 904 66 = Xi S 904 66) → (Xi T9 904 69 = Xi S 904 69) → (Xi T9 904 93 = Xi S 904 93) → (INR T9 fs ns) → (Xi T9 904 65 = 0 → (fs : Int) ≤ Xi T9 904 8 ∧ Xi T9 904 8 ≤ fs + ns) → (Xi S 904 65 = 0 → Xi S 904 8 ≤ Xi T9 904 8) → (Xi S 904 65 ≠ 0 → Xi T9 904 8 = Xi S 904 8) → (Xi S 904 65 = 0 → fo7 (tR S fs ns) 4 (Xi S 904 8 - fs) (te8 (tR S fs ns) isNow (Xi S 904 8 - fs)) = -1) → (Xi S 904 65 = 0 → gLoF (tR S fs ns) 54 53 5000 (Xi S 904 8 - fs) = gLoF (tR S fs ns) 54 53 (5000 - (Xi T9 904 8 - fs - (Xi S 904 8 - fs))).toNat (Xi T9 904 8 - fs)) → ((Xi S 904 65 = 0 → tR S fs ns (Xi T9 904 8 - fs) = un7 v4 ∧ v4 = tr7 (un7 v4)) ∧ (Xi S 904 65 ≠ 0 → v4 = 1)) → ((100 ≤ v4 → un7 v4 = v4 - 100) ∧ (v4 < 100 → 100 ≤ un7 v4) ∧ (v4 = 3 → un7 v4 = 100) ∧ (v4 ≠ 3 → v4 = tr7 (un7 v4) → un7 v4 ≠ 100)) → Pl n96 lay0 (d + 5) m_mo_test 96 [(0, .ref 904), (1, iv isNow), (2, iv v2), (4, iv v4)] [] T9 (Q_mo_test__p S fs ns isNow) := by
  have C145 := c145_mo_test__p hH fs ns isNow hisNow hvl hJR d  fu
  have hF : FR md_mo_test__p S S := FR.rf
  have w1 : -2147483648 ≤ Xi S 904 65 ∧ Xi S 904 65 ≤ 2147483647 := Xi_rgI
  have w2 : -2147483648 ≤ Xi S 904 66 ∧ Xi S 904 66 ≤ 2147483647 := Xi_rgI
  have w3 : -2147483648 ≤ Xi S 904 69 ∧ Xi S 904 69 ≤ 2147483647 := Xi_rgI
  have w4 : -2147483648 ≤ Xi S 904 8 ∧ Xi S 904 8 ≤ 2147483647 := Xi_rgI
  have w5 : -2147483648 ≤ Xi S 904 93 ∧ Xi S 904 93 ≤ 2147483647 := Xi_rgI
  have : Xi S 904 65 = 0 → (fs : Int) ≤ Xi S 904 8 ∧ Xi S 904 8 ≤ fs + ns := JR.i (by assumption)
  have hbd := hvl.2.2.2
  intro n96
  induction n96 with
  | zero => intros; exact Pl_0
  | succ n96 ih96 =>
    intro hm96 T9 hHT9 hFT9 v2 v4 w87 w88 w89 w90 w91 w92 w93 w94 I96 i96 w95 w96 f96 o96 q96 u96
    have w97 : -2147483648 ≤ Xi T9 904 65 ∧ Xi T9 904 65 ≤ 2147483647 := Xi_rgI
    have w98 : -2147483648 ≤ Xi T9 904 66 ∧ Xi T9 904 66 ≤ 2147483647 := Xi_rgI
    have w99 : -2147483648 ≤ Xi T9 904 69 ∧ Xi T9 904 69 ≤ 2147483647 := Xi_rgI
    have w100 : -2147483648 ≤ Xi T9 904 8 ∧ Xi T9 904 8 ≤ 2147483647 := Xi_rgI
    have w101 : -2147483648 ≤ Xi T9 904 93 ∧ Xi T9 904 93 ≤ 2147483647 := Xi_rgI
    refine ys_iload rfl rfl ?_
    refine y_iconst rfl ?_
    refine y_icmp_eq rfl rfl (by unfold rg; omega) (by unfold rg; omega) (fun w102 => ?_) (fun w103 => ?_)
    · refine y_aload_n rfl rfl ?_
      refine y_dup rfl rfl ?_
      refine y_gfi rfl rfl rfl rfl rfl ?_
      refine y_iconst rfl ?_
      refine y_iadd rfl ?_
      refine y_pfi rfl rfl rfl rfl ?_
      obtain ⟨U10, eU10⟩ : ∃ T : sS, T = uI T9 904 8 (Int32.ofInt ((Xi T9 904 8) + 1)) := ⟨_, rfl⟩
      rw [← eU10]
      have hHU10 : RI U10 := by rw [eU10]; exact RI_w hHT9
      have hFU10 : FR md_mo_test__p S U10 := by rw [eU10]; exact FR.wI hFT9 (mdf_i (r := (904, 905, 8, 9)) (List.mem_of_getElem? (i := 0) rfl) (inR_i (by omega) (by omega) (by omega) (by omega)))
      have w104 : Xi U10 904 8 = ((Xi T9 904 8) + 1) := by rw [eU10]; exact Xi_same (by unfold rg; omega)
      have I133 : INR U10 fs ns := fun b => (by have q := in_u2 hvl (a := Xi T9 904 8) (by omega) (by omega) (by omega) (by omega); omega)
      refine y_aload_n rfl rfl ?_
      have w105 : Xi U10 904 65 = Xi T9 904 65 := (show Xi U10 904 65 = Xi T9 904 65 from by rw [eU10]; exact Xi_ne (by omega))
      refine y_callV rfl rfl rfl (t_mo_look__p hHU10 fs ns (by first | assumption | exact (VLR_FR hFU10 rfl (by assumption : VLR S _ _))) (by first | assumption | exact JR.i (by first | assumption | exact (by assumption : JR U10 _ _))) _) ?_
      rintro _ _ ⟨rfl, z110, rfl, w110, w109⟩
      show Pl _ _ _ _ _ _ [iv z110] _ _
      have := un_ab z110
      have gb137 := w109
      try rw [FRR hFU10 rfl] at gb137
      clear w109
      refine y_istore rfl rfl rfl ?_
      refine y_goto rfl rfl ?_
      have w112 : Xi U10 904 66 = Xi T9 904 66 := (show Xi U10 904 66 = Xi T9 904 66 from by rw [eU10]; exact Xi_ne (by omega))
      have w113 : Xi U10 904 69 = Xi T9 904 69 := (show Xi U10 904 69 = Xi T9 904 69 from by rw [eU10]; exact Xi_ne (by omega))
      have w114 : Xi U10 904 93 = Xi T9 904 93 := (show Xi U10 904 93 = Xi T9 904 93 from by rw [eU10]; exact Xi_ne (by omega))
      exact Pl_weak (ih96 (by omega) U10 hHU10 hFU10 (v2) (z110) (by omega) (by omega) (by omega) (by omega) (by omega) (by omega) (by omega) (by omega) (by first | exact I133 | exact JR.i (by first | assumption | exact (by assumption : JR U10 _ _))) (by first | exact I133 | omega) (by omega) (by omega) (by first | exact f96 | exact fun b => (f56 b).1 (by omega)) (by first | exact (fun b => by have q133 := I133 (by omega); rw [show Xi U10 904 8 - (fs : Int) = Xi T9 904 8 - fs + 1 by omega]; exact (o96 b).trans (lo_s (by omega) (by omega) (by unfold art7; omega))) | exact (fun b => by rw [show Xi U10 904 8 = Xi S 904 8 by omega]; exact lo_0)) (by first | exact ⟨fun b => gb137.1 (by omega), fun b => gb137.2 (by omega)⟩ | (rw [show Xi U10 904 8 = Xi S 904 8 by omega]; exact ⟨fun b => gb91.1 (by omega), fun b => gb91.2 (by omega)⟩)) (un_a4 _)) (by omega) (And.intro rfl (And.intro rfl (And.intro rfl (And.intro rfl (True.intro)))))
    · refine y_iload rfl rfl ?_
      refine y_callS rfl rfl (by decide) rfl (t_mo_isArt__p hHT9 v4 ⟨by omega, by omega⟩ _) ?_
      rintro _ _ ⟨rfl, z117, rfl, w117, w115, w116⟩
      show Pl _ _ _ _ _ _ [iv z117] _ _
      refine y_if_ne rfl rfl (by unfold rg; omega) (fun w118 => ?_) (fun w119 => ?_)
      · refine y_aload_n rfl rfl ?_
        refine y_dup rfl rfl ?_
        refine y_gfi rfl rfl rfl rfl rfl ?_
        refine y_iconst rfl ?_
        refine y_iadd rfl ?_
        refine y_pfi rfl rfl rfl rfl ?_
        obtain ⟨U11, eU11⟩ : ∃ T : sS, T = uI T9 904 8 (Int32.ofInt ((Xi T9 904 8) + 1)) := ⟨_, rfl⟩
        rw [← eU11]
        have hHU11 : RI U11 := by rw [eU11]; exact RI_w hHT9
        have hFU11 : FR md_mo_test__p S U11 := by rw [eU11]; exact FR.wI hFT9 (mdf_i (r := (904, 905, 8, 9)) (List.mem_of_getElem? (i := 0) rfl) (inR_i (by omega) (by omega) (by omega) (by omega)))
        have w120 : Xi U11 904 8 = ((Xi T9 904 8) + 1) := by rw [eU11]; exact Xi_same (by unfold rg; omega)
        have I133 : INR U11 fs ns := fun b => (by have q := in_u2 hvl (a := Xi T9 904 8) (by omega) (by omega) (by omega) (by omega); omega)
        refine y_aload_n rfl rfl ?_
        have w121 : Xi U11 904 65 = Xi T9 904 65 := (show Xi U11 904 65 = Xi T9 904 65 from by rw [eU11]; exact Xi_ne (by omega))
        refine y_callV rfl rfl rfl (t_mo_look__p hHU11 fs ns (by first | assumption | exact (VLR_FR hFU11 rfl (by assumption : VLR S _ _))) (by first | assumption | exact JR.i (by first | assumption | exact (by assumption : JR U11 _ _))) _) ?_
        rintro _ _ ⟨rfl, z126, rfl, w126, w125⟩
        show Pl _ _ _ _ _ _ [iv z126] _ _
        have := un_ab z126
        have gb137 := w125
        try rw [FRR hFU11 rfl] at gb137
        clear w125
        refine y_istore rfl rfl rfl ?_
        refine y_goto rfl rfl ?_
        have w128 : Xi U11 904 66 = Xi T9 904 66 := (show Xi U11 904 66 = Xi T9 904 66 from by rw [eU11]; exact Xi_ne (by omega))
        have w129 : Xi U11 904 69 = Xi T9 904 69 := (show Xi U11 904 69 = Xi T9 904 69 from by rw [eU11]; exact Xi_ne (by omega))
        have w130 : Xi U11 904 93 = Xi T9 904 93 := (show Xi U11 904 93 = Xi T9 904 93 from by rw [eU11]; exact Xi_ne (by omega))
        exact Pl_weak (ih96 (by omega) U11 hHU11 hFU11 (v2) (z126) (by omega) (by omega) (by omega) (by omega) (by omega) (by omega) (by omega) (by omega) (by first | exact I133 | exact JR.i (by first | assumption | exact (by assumption : JR U11 _ _))) (by first | exact I133 | omega) (by omega) (by omega) (by first | exact f96 | exact fun b => (f56 b).1 (by omega)) (by first | exact (fun b => by have q133 := I133 (by omega); rw [show Xi U11 904 8 - (fs : Int) = Xi T9 904 8 - fs + 1 by omega]; exact (o96 b).trans (lo_s (by omega) (by omega) (by unfold art7; omega))) | exact (fun b => by rw [show Xi U11 904 8 = Xi S 904 8 by omega]; exact lo_0)) (by first | exact ⟨fun b => gb137.1 (by omega), fun b => gb137.2 (by omega)⟩ | (rw [show Xi U11 904 8 = Xi S 904 8 by omega]; exact ⟨fun b => gb91.1 (by omega), fun b => gb91.2 (by omega)⟩)) (un_a4 _)) (by omega) (And.intro rfl (And.intro rfl (And.intro rfl (And.intro rfl (True.intro)))))
      · refine y_iload rfl rfl ?_
        refine y_sipush rfl rfl ?_
        refine y_icmp_eq rfl rfl (by unfold rg; omega) (by unfold rg; omega) (fun w131 => ?_) (fun w132 => ?_)
        · refine y_aload_n rfl rfl ?_
          refine y_dup rfl rfl ?_
          refine y_gfi rfl rfl rfl rfl rfl ?_
          refine y_iconst rfl ?_
          refine y_iadd rfl ?_
          refine y_pfi rfl rfl rfl rfl ?_
          obtain ⟨U12, eU12⟩ : ∃ T : sS, T = uI T9 904 8 (Int32.ofInt ((Xi T9 904 8) + 1)) := ⟨_, rfl⟩
          rw [← eU12]
          have hHU12 : RI U12 := by rw [eU12]; exact RI_w hHT9
          have hFU12 : FR md_mo_test__p S U12 := by rw [eU12]; exact FR.wI hFT9 (mdf_i (r := (904, 905, 8, 9)) (List.mem_of_getElem? (i := 0) rfl) (inR_i (by omega) (by omega) (by omega) (by omega)))
          have w133 : Xi U12 904 8 = ((Xi T9 904 8) + 1) := by rw [eU12]; exact Xi_same (by unfold rg; omega)
          have I133 : INR U12 fs ns := fun b => (by have q := in_u2 hvl (a := Xi T9 904 8) (by omega) (by omega) (by omega) (by omega); omega)
          refine y_aload_n rfl rfl ?_
          have w134 : Xi U12 904 65 = Xi T9 904 65 := (show Xi U12 904 65 = Xi T9 904 65 from by rw [eU12]; exact Xi_ne (by omega))
          refine y_callV rfl rfl rfl (t_mo_look__p hHU12 fs ns (by first | assumption | exact (VLR_FR hFU12 rfl (by assumption : VLR S _ _))) (by first | assumption | exact JR.i (by first | assumption | exact (by assumption : JR U12 _ _))) _) ?_
          rintro _ _ ⟨rfl, z139, rfl, w139, w138⟩
          show Pl _ _ _ _ _ _ [iv z139] _ _
          have := un_ab z139
          have gb137 := w138
          try rw [FRR hFU12 rfl] at gb137
          clear w138
          refine y_istore rfl rfl rfl ?_
          refine y_goto rfl rfl ?_
          have w141 : Xi U12 904 66 = Xi T9 904 66 := (show Xi U12 904 66 = Xi T9 904 66 from by rw [eU12]; exact Xi_ne (by omega))
          have w142 : Xi U12 904 69 = Xi T9 904 69 := (show Xi U12 904 69 = Xi T9 904 69 from by rw [eU12]; exact Xi_ne (by omega))
          have w143 : Xi U12 904 93 = Xi T9 904 93 := (show Xi U12 904 93 = Xi T9 904 93 from by rw [eU12]; exact Xi_ne (by omega))
          exact Pl_weak (ih96 (by omega) U12 hHU12 hFU12 (v2) (z139) (by omega) (by omega) (by omega) (by omega) (by omega) (by omega) (by omega) (by omega) (by first | exact I133 | exact JR.i (by first | assumption | exact (by assumption : JR U12 _ _))) (by first | exact I133 | omega) (by omega) (by omega) (by first | exact f96 | exact fun b => (f56 b).1 (by omega)) (by first | exact (fun b => by have q133 := I133 (by omega); rw [show Xi U12 904 8 - (fs : Int) = Xi T9 904 8 - fs + 1 by omega]; exact (o96 b).trans (lo_s (by omega) (by omega) (by unfold art7; omega))) | exact (fun b => by rw [show Xi U12 904 8 = Xi S 904 8 by omega]; exact lo_0)) (by first | exact ⟨fun b => gb137.1 (by omega), fun b => gb137.2 (by omega)⟩ | (rw [show Xi U12 904 8 = Xi S 904 8 by omega]; exact ⟨fun b => gb91.1 (by omega), fun b => gb91.2 (by omega)⟩)) (un_a4 _)) (by omega) (And.intro rfl (And.intro rfl (And.intro rfl (And.intro rfl (True.intro)))))
        · refine y_iload rfl rfl ?_
          refine y_sipush rfl rfl ?_
          refine y_icmp_ne rfl rfl (by unfold rg; omega) (by unfold rg; omega) (fun w144 => ?_) (fun w145 => ?_)
          · exact Pl_weak (C145 T9 hHT9 hFT9 (v2) (by omega) (by omega) (by omega) (by omega) (by omega) (by omega) (by omega) (i96) (by omega) (by omega) (f96) (fun b => (o96 b).trans (lo_n (Or.inr (by unfold art7; omega))))) (by omega) (And.intro rfl (And.intro rfl (And.intro rfl (True.intro))))
          · refine y_aload_n rfl rfl ?_
            refine y_dup rfl rfl ?_
            refine y_gfi rfl rfl rfl rfl rfl ?_
            refine y_iconst rfl ?_
            refine y_iadd rfl ?_
            refine y_pfi rfl rfl rfl rfl ?_
            obtain ⟨U13, eU13⟩ : ∃ T : sS, T = uI T9 904 8 (Int32.ofInt ((Xi T9 904 8) + 1)) := ⟨_, rfl⟩
            rw [← eU13]
            have hHU13 : RI U13 := by rw [eU13]; exact RI_w hHT9
            have hFU13 : FR md_mo_test__p S U13 := by rw [eU13]; exact FR.wI hFT9 (mdf_i (r := (904, 905, 8, 9)) (List.mem_of_getElem? (i := 0) rfl) (inR_i (by omega) (by omega) (by omega) (by omega)))
            have w146 : Xi U13 904 8 = ((Xi T9 904 8) + 1) := by rw [eU13]; exact Xi_same (by unfold rg; omega)
            have I133 : INR U13 fs ns := fun b => (by have q := in_u2 hvl (a := Xi T9 904 8) (by omega) (by omega) (by omega) (by omega); omega)
            refine y_aload_n rfl rfl ?_
            have w147 : Xi U13 904 65 = Xi T9 904 65 := (show Xi U13 904 65 = Xi T9 904 65 from by rw [eU13]; exact Xi_ne (by omega))
            refine y_callV rfl rfl rfl (t_mo_look__p hHU13 fs ns (by first | assumption | exact (VLR_FR hFU13 rfl (by assumption : VLR S _ _))) (by first | assumption | exact JR.i (by first | assumption | exact (by assumption : JR U13 _ _))) _) ?_
            rintro _ _ ⟨rfl, z152, rfl, w152, w151⟩
            show Pl _ _ _ _ _ _ [iv z152] _ _
            have := un_ab z152
            have gb137 := w151
            try rw [FRR hFU13 rfl] at gb137
            clear w151
            refine y_istore rfl rfl rfl ?_
            refine y_goto rfl rfl ?_
            have w154 : Xi U13 904 66 = Xi T9 904 66 := (show Xi U13 904 66 = Xi T9 904 66 from by rw [eU13]; exact Xi_ne (by omega))
            have w155 : Xi U13 904 69 = Xi T9 904 69 := (show Xi U13 904 69 = Xi T9 904 69 from by rw [eU13]; exact Xi_ne (by omega))
            have w156 : Xi U13 904 93 = Xi T9 904 93 := (show Xi U13 904 93 = Xi T9 904 93 from by rw [eU13]; exact Xi_ne (by omega))
            exact Pl_weak (ih96 (by omega) U13 hHU13 hFU13 (v2) (z152) (by omega) (by omega) (by omega) (by omega) (by omega) (by omega) (by omega) (by omega) (by first | exact I133 | exact JR.i (by first | assumption | exact (by assumption : JR U13 _ _))) (by first | exact I133 | omega) (by omega) (by omega) (by first | exact f96 | exact fun b => (f56 b).1 (by omega)) (by first | exact (fun b => by have q133 := I133 (by omega); rw [show Xi U13 904 8 - (fs : Int) = Xi T9 904 8 - fs + 1 by omega]; exact (o96 b).trans (lo_s (by omega) (by omega) (by unfold art7; omega))) | exact (fun b => by rw [show Xi U13 904 8 = Xi S 904 8 by omega]; exact lo_0)) (by first | exact ⟨fun b => gb137.1 (by omega), fun b => gb137.2 (by omega)⟩ | (rw [show Xi U13 904 8 = Xi S 904 8 by omega]; exact ⟨fun b => gb91.1 (by omega), fun b => gb91.2 (by omega)⟩)) (un_a4 _)) (by omega) (And.intro rfl (And.intro rfl (And.intro rfl (And.intro rfl (True.intro)))))
set_option maxRecDepth 100000 in
theorem c171_mo_test__p {S : sS} (hH : RI S) (fs : Nat) (ns : Nat) (isNow : Int) (hisNow : 0 ≤ isNow ∧ isNow ≤ 1) (hvl : VLR S fs ns) (hJR : JR S fs ns) (d : Nat) (fu : Nat) : ∀  (T14 : sS) (_ : RI T14) (_ : FR md_mo_test__p S T14), (Xi T14 904 8 = Xi S 904 8) → (Xi T14 904 65 = Xi S 904 65) → (Xi T14 904 66 = Xi S 904 66) → (Xi T14 904 69 = Xi S 904 69) → (Xi T14 904 93 = Xi S 904 93) → (0 ≤ Xi S 904 93) → (JR T14 fs ns) → (Hid (Xi S 904 65 = 0 → fo7 (tR S fs ns) 4 (Xi S 904 8 - fs) (te8 (tR S fs ns) isNow (Xi S 904 8 - fs)) ≠ -1)) → (Hid (Xi S 904 65 = 0 → bp7 (tR S fs ns) (Xi S 904 8 - fs))) → Pl fu lay0 (d + 5) m_mo_test 171 [(0, .ref 904), (1, iv isNow)] [] T14 (Q_mo_test__p S fs ns isNow) := by
  have C351 := c351_mo_test__p hH fs ns isNow hisNow hvl hJR d  fu
  have hF : FR md_mo_test__p S S := FR.rf
  have w1 : -2147483648 ≤ Xi S 904 65 ∧ Xi S 904 65 ≤ 2147483647 := Xi_rgI
  have w2 : -2147483648 ≤ Xi S 904 66 ∧ Xi S 904 66 ≤ 2147483647 := Xi_rgI
  have w3 : -2147483648 ≤ Xi S 904 69 ∧ Xi S 904 69 ≤ 2147483647 := Xi_rgI
  have w4 : -2147483648 ≤ Xi S 904 8 ∧ Xi S 904 8 ≤ 2147483647 := Xi_rgI
  have w5 : -2147483648 ≤ Xi S 904 93 ∧ Xi S 904 93 ≤ 2147483647 := Xi_rgI
  have : Xi S 904 65 = 0 → (fs : Int) ≤ Xi S 904 8 ∧ Xi S 904 8 ≤ fs + ns := JR.i (by assumption)
  have hbd := hvl.2.2.2
  intro T14 hHT14 hFT14 w157 w158 w159 w160 w161 w162 J171 f171 b171
  have w163 : -2147483648 ≤ Xi T14 904 65 ∧ Xi T14 904 65 ≤ 2147483647 := Xi_rgI
  have w164 : -2147483648 ≤ Xi T14 904 66 ∧ Xi T14 904 66 ≤ 2147483647 := Xi_rgI
  have w165 : -2147483648 ≤ Xi T14 904 69 ∧ Xi T14 904 69 ≤ 2147483647 := Xi_rgI
  have w166 : -2147483648 ≤ Xi T14 904 8 ∧ Xi T14 904 8 ≤ 2147483647 := Xi_rgI
  have w167 : -2147483648 ≤ Xi T14 904 93 ∧ Xi T14 904 93 ≤ 2147483647 := Xi_rgI
  refine y_aload_n rfl rfl ?_
  refine y_callV rfl rfl rfl (t_mo_property__p hHT14 fs ns (by first | assumption | exact (VLR_FR hFT14 rfl (by assumption : VLR S _ _))) (by first | assumption | exact (by assumption : JR T14 _ _)) _) ?_
  rintro _ T15 ⟨hHT15, w173, rfl, w168, w169, w170, w171⟩
  have hFT15 : FR md_mo_test__p S T15 := FR.tr hFT14 w173 rfl
  show Pl _ _ _ _ _ _ [] _ _
  have : Xi T15 904 65 = 0 → (fs : Int) ≤ Xi T15 904 8 ∧ Xi T15 904 8 ≤ fs + ns := JR.i (by assumption)
  have gp172 := w168
  try rw [FRR hFT14 rfl] at gp172
  clear w168
  refine y_aload_n rfl rfl ?_
  have w174 : Xi T15 904 93 = Xi T14 904 93 := (show Xi T15 904 93 = Xi T14 904 93 from w173.x _ _ rfl)
  refine y_callV rfl rfl rfl (t_mo_thingOfTest__p hHT15 fs ns (by first | assumption | exact (VLR_FR hFT15 rfl (by assumption : VLR S _ _))) (by first | assumption | exact (by assumption : JR T15 _ _)) _) ?_
  rintro _ T16 ⟨hHT16, w180, rfl, w175, w176, w177, w178⟩
  have hFT16 : FR md_mo_test__p S T16 := FR.tr hFT15 w180 rfl
  show Pl _ _ _ _ _ _ [] _ _
  have : Xi T16 904 65 = 0 → (fs : Int) ≤ Xi T16 904 8 ∧ Xi T16 904 8 ≤ fs + ns := JR.i (by assumption)
  have gp176 := w175
  try rw [FRR hFT15 rfl] at gp176
  clear w175
  refine y_aload_n rfl rfl ?_
  refine y_bipush rfl rfl ?_
  have w181 : Xi T16 904 93 = Xi T14 904 93 := (show Xi T16 904 93 = Xi T15 904 93 from w180.x _ _ rfl).trans ((show Xi T15 904 93 = Xi T14 904 93 from w173.x _ _ rfl))
  refine y_callV rfl rfl rfl (t_mo_take__p hHT16 fs ns 104 ⟨by omega, by omega⟩ (by first | assumption | exact (VLR_FR hFT16 rfl (by assumption : VLR S _ _))) (by first | assumption | exact (by assumption : JR T16 _ _)) (rfl) (by decide) _) ?_
  rintro _ T17 ⟨hHT17, w186, rfl, w182, w183, w184⟩
  have hFT17 : FR md_mo_test__p S T17 := FR.tr hFT16 w186 rfl
  show Pl _ _ _ _ _ _ [] _ _
  have : Xi T17 904 65 = 0 → (fs : Int) ≤ Xi T17 904 8 ∧ Xi T17 904 8 ≤ fs + ns := JR.i (by assumption)
  have gp182 := w182
  try rw [FRR hFT16 rfl] at gp182
  try rw [show un7 104 = 4 from rfl] at gp182
  clear w182
  refine y_aload_n rfl rfl ?_
  refine y_iload_n rfl rfl ?_
  have w187 : Xi T17 904 69 = Xi T16 904 69 := (show Xi T17 904 69 = Xi T16 904 69 from w186.x _ _ rfl)
  have w188 : Xi T17 904 93 = Xi T14 904 93 := (show Xi T17 904 93 = Xi T16 904 93 from w186.x _ _ rfl).trans ( (show Xi T16 904 93 = Xi T15 904 93 from w180.x _ _ rfl).trans ((show Xi T15 904 93 = Xi T14 904 93 from w173.x _ _ rfl)))
  refine y_callV rfl rfl rfl (t_mo_testedWhat__p hHT17 fs ns isNow ⟨by omega, by omega⟩ (by first | assumption | exact (VLR_FR hFT17 rfl (by assumption : VLR S _ _))) (by first | assumption | exact (by assumption : JR T17 _ _)) _) ?_
  rintro _ T18 ⟨hHT18, w194, rfl, w189, w190, w191, w192⟩
  have hFT18 : FR md_mo_test__p S T18 := FR.tr hFT17 w194 rfl
  show Pl _ _ _ _ _ _ [] _ _
  have : Xi T18 904 65 = 0 → (fs : Int) ≤ Xi T18 904 8 ∧ Xi T18 904 8 ≤ fs + ns := JR.i (by assumption)
  have gp187 := w189
  try rw [FRR hFT17 rfl] at gp187
  clear w189
  have GX : gSq (cu S fs) (gTm (tR S fs ns) isNow) = cu T18 fs := cu_cge (cu_eq (by omega) (by omega) (by omega)) (by rw [← gSq4, gp172, gp176, gp182, gp187]) (fun b => gTm_p (f171.o b) (b171.o b))
  refine y_goto rfl rfl ?_
  have w195 : Xi T18 904 93 = Xi T14 904 93 := (show Xi T18 904 93 = Xi T17 904 93 from w194.x _ _ rfl).trans ( (show Xi T17 904 93 = Xi T16 904 93 from w186.x _ _ rfl).trans ( (show Xi T16 904 93 = Xi T15 904 93 from w180.x _ _ rfl).trans ((show Xi T15 904 93 = Xi T14 904 93 from w173.x _ _ rfl))))
  exact Pl_weak (C351 T18 hHT18 hFT18  (by first | exact GX | exact GX.trans (cu_eq (by omega) (by omega) (by omega)).symm | exact cu_st (by omega) (by omega) rfl (by rw [gTm_s (f145 (by omega)), gLo_of (e145 (by omega)), if_pos (by omega)])) (fun b => by omega) (by omega) (by omega) (by omega) (by omega) (by omega)) (by omega) (And.intro rfl (And.intro rfl (True.intro)))
set_option maxRecDepth 100000 in
theorem c244_mo_test__p {S : sS} (hH : RI S) (fs : Nat) (ns : Nat) (isNow : Int) (hisNow : 0 ≤ isNow ∧ isNow ≤ 1) (hvl : VLR S fs ns) (hJR : JR S fs ns) (d : Nat) (fu : Nat) : ∀  (T19 : sS) (_ : RI T19) (_ : FR md_mo_test__p S T19), (0 ≤ Xi S 904 93) → (JR T19 fs ns) → (Xi T19 904 65 = 0 → (fs : Int) ≤ Xi T19 904 8 ∧ Xi T19 904 8 ≤ fs + ns) → (Xi T19 904 93 = Xi S 904 93) → (Xi T19 904 65 = 0 → Xi S 904 65 = 0 ∧ Xi S 904 8 ≤ Xi T19 904 8) → (Xi S 904 69 ≤ Xi T19 904 69) → (Hid (Xi S 904 65 = 0 → fo7 (tR S fs ns) 4 (Xi S 904 8 - fs) (te8 (tR S fs ns) isNow (Xi S 904 8 - fs)) ≠ -1)) → (Hid (Xi S 904 65 = 0 → ¬ bp7 (tR S fs ns) (Xi S 904 8 - fs))) → (gSq (cu S fs) (fun a => gSq (gSq (gTh (tR S fs ns) a) (gT (tR S fs ns) 4)) (fun b => (1, gTn (tR S fs ns) b))) = cu T19 fs) → Pl fu lay0 (d + 5) m_mo_test 244 [(0, .ref 904), (1, iv isNow)] [] T19 (Q_mo_test__p S fs ns isNow) := by
  have C351 := c351_mo_test__p hH fs ns isNow hisNow hvl hJR d  fu
  have hF : FR md_mo_test__p S S := FR.rf
  have w1 : -2147483648 ≤ Xi S 904 65 ∧ Xi S 904 65 ≤ 2147483647 := Xi_rgI
  have w2 : -2147483648 ≤ Xi S 904 66 ∧ Xi S 904 66 ≤ 2147483647 := Xi_rgI
  have w3 : -2147483648 ≤ Xi S 904 69 ∧ Xi S 904 69 ≤ 2147483647 := Xi_rgI
  have w4 : -2147483648 ≤ Xi S 904 8 ∧ Xi S 904 8 ≤ 2147483647 := Xi_rgI
  have w5 : -2147483648 ≤ Xi S 904 93 ∧ Xi S 904 93 ≤ 2147483647 := Xi_rgI
  have : Xi S 904 65 = 0 → (fs : Int) ≤ Xi S 904 8 ∧ Xi S 904 8 ≤ fs + ns := JR.i (by assumption)
  have hbd := hvl.2.2.2
  intro T19 hHT19 hFT19 w196 J244 j244 w197 w198 w199 f244 b244 N244
  have w200 : -2147483648 ≤ Xi T19 904 65 ∧ Xi T19 904 65 ≤ 2147483647 := Xi_rgI
  have w201 : -2147483648 ≤ Xi T19 904 66 ∧ Xi T19 904 66 ≤ 2147483647 := Xi_rgI
  have w202 : -2147483648 ≤ Xi T19 904 69 ∧ Xi T19 904 69 ≤ 2147483647 := Xi_rgI
  have w203 : -2147483648 ≤ Xi T19 904 8 ∧ Xi T19 904 8 ≤ 2147483647 := Xi_rgI
  have w204 : -2147483648 ≤ Xi T19 904 93 ∧ Xi T19 904 93 ≤ 2147483647 := Xi_rgI
  refine y_aload_n rfl rfl ?_
  refine y_iconst rfl ?_
  refine y_callV rfl rfl rfl (t_mo_isNext__p hHT19 fs ns 3 ⟨by omega, by omega⟩ (by first | assumption | exact (VLR_FR hFT19 rfl (by assumption : VLR S _ _))) (by first | assumption | exact JR.i (by first | assumption | exact (by assumption : JR T19 _ _))) (rfl) _) ?_
  rintro _ _ ⟨rfl, z206, rfl, w206, w205⟩
  show Pl _ _ _ _ _ _ [iv z206] _ _
  have gb246 := w205
  try rw [FRR hFT19 rfl] at gb246
  try rw [show un7 3 = 100 from rfl] at gb246
  clear w205
  refine y_if_eq rfl rfl (by unfold rg; omega) (fun w207 => ?_) (fun w208 => ?_)
  · refine y_iload_n rfl rfl ?_
    refine y_if_eq rfl rfl (by unfold rg; omega) (fun w209 => ?_) (fun w210 => ?_)
    · refine y_aload_n rfl rfl ?_
      refine y_gfr rfl rfl rfl rfl rfl (hHT19.r 904 82 952 rfl) ?_
      refine y_aload_n rfl rfl ?_
      refine y_gfi rfl rfl rfl rfl rfl ?_
      refine y_iconst rfl ?_
      refine y_iastoreP (n := 1700) rfl rfl (by unfold rg; omega) (fun w211 w212 => ?_)
      obtain ⟨U20, eU20⟩ : ∃ T : sS, T = uI T19 952 (((Xi T19 904 93)).toNat) (Int32.ofInt 4) := ⟨_, rfl⟩
      rw [← eU20]
      have hHU20 : RI U20 := by rw [eU20]; exact RI_w hHT19
      have hFU20 : FR md_mo_test__p S U20 := by rw [eU20]; exact FR.wI hFT19 (mdf_i (r := (952, 953, 0, 100000)) (List.mem_of_getElem? (i := 11) rfl) (inR_i (by omega) (by omega) (by omega) (by omega)))
      have w213 : Xi U20 952 (((Xi T19 904 93)).toNat) = 4 := by rw [eU20]; exact Xi_same (by unfold rg; omega)
      refine y_aload_n rfl rfl ?_
      refine y_gfr rfl rfl rfl rfl rfl (hHU20.r 904 88 958 rfl) ?_
      refine y_aload_n rfl rfl ?_
      refine y_gfi rfl rfl rfl rfl rfl ?_
      have w214 : (Xi U20 904 93) = (Xi T19 904 93) := (show Xi U20 904 93 = Xi T19 904 93 from by rw [eU20]; exact Xi_ne (by omega))
      rw [w214]
      refine y_aload_n rfl rfl ?_
      have w215 : Xi U20 904 65 = Xi T19 904 65 := (show Xi U20 904 65 = Xi T19 904 65 from by rw [eU20]; exact Xi_ne (by omega))
      have w216 : Xi U20 904 66 = Xi T19 904 66 := (show Xi U20 904 66 = Xi T19 904 66 from by rw [eU20]; exact Xi_ne (by omega))
      have w217 : Xi U20 904 69 = Xi T19 904 69 := (show Xi U20 904 69 = Xi T19 904 69 from by rw [eU20]; exact Xi_ne (by omega))
      have w218 : Xi U20 904 8 = Xi T19 904 8 := (show Xi U20 904 8 = Xi T19 904 8 from by rw [eU20]; exact Xi_ne (by omega))
      have w219 : Xi U20 904 93 = Xi T19 904 93 := (show Xi U20 904 93 = Xi T19 904 93 from by rw [eU20]; exact Xi_ne (by omega))
      refine y_callV rfl rfl rfl (t_mo_placing__p hHU20 fs ns (by first | assumption | exact (VLR_FR hFU20 rfl (by assumption : VLR S _ _))) (by first | assumption | exact (JR_FR (FR_e eU20) rfl rfl rfl (by assumption : JR T19 _ _))) _) ?_
      rintro _ T21 ⟨hHT21, w225, z224, rfl, w224, w220, w221, w222, w223⟩
      have hFT21 : FR md_mo_test__p S T21 := FR.tr hFU20 w225 rfl
      show Pl _ _ _ _ _ _ [iv z224, iv (Xi T19 904 93), .ref 958] _ _
      have : Xi T21 904 65 = 0 → (fs : Int) ≤ Xi T21 904 8 ∧ Xi T21 904 8 ≤ fs + ns := JR.i (by assumption)
      have gp308 := w220
      try rw [FRR hFU20 rfl] at gp308
      try rw [show cu U20 fs = cu T19 fs from cu_eq (by omega) (by omega) (by omega)] at gp308
      clear w220
      refine y_iastoreP (n := 1700) rfl rfl (by unfold rg; omega) (fun w226 w227 => ?_)
      obtain ⟨U22, eU22⟩ : ∃ T : sS, T = uI T21 958 (((Xi T19 904 93)).toNat) (Int32.ofInt z224) := ⟨_, rfl⟩
      rw [← eU22]
      have hHU22 : RI U22 := by rw [eU22]; exact RI_w hHT21
      have hFU22 : FR md_mo_test__p S U22 := by rw [eU22]; exact FR.wI hFT21 (mdf_i (r := (958, 959, 0, 100000)) (List.mem_of_getElem? (i := 17) rfl) (inR_i (by omega) (by omega) (by omega) (by omega)))
      have w228 : Xi U22 958 (((Xi T19 904 93)).toNat) = z224 := by rw [eU22]; exact Xi_same (by unfold rg; omega)
      refine y_aload_n rfl rfl ?_
      have w229 : Xi U22 904 65 = Xi T21 904 65 := (show Xi U22 904 65 = Xi T21 904 65 from by rw [eU22]; exact Xi_ne (by omega))
      have w230 : Xi U22 904 66 = Xi T21 904 66 := (show Xi U22 904 66 = Xi T21 904 66 from by rw [eU22]; exact Xi_ne (by omega))
      have w231 : Xi U22 904 69 = Xi T19 904 69 := (show Xi U22 904 69 = Xi T21 904 69 from by rw [eU22]; exact Xi_ne (by omega)).trans ( (show Xi T21 904 69 = Xi U20 904 69 from w225.x _ _ rfl).trans ((show Xi U20 904 69 = Xi T19 904 69 from by rw [eU20]; exact Xi_ne (by omega))))
      have w232 : Xi U22 904 8 = Xi T21 904 8 := (show Xi U22 904 8 = Xi T21 904 8 from by rw [eU22]; exact Xi_ne (by omega))
      have w233 : Xi U22 904 93 = Xi T19 904 93 := (show Xi U22 904 93 = Xi T21 904 93 from by rw [eU22]; exact Xi_ne (by omega)).trans ( (show Xi T21 904 93 = Xi U20 904 93 from w225.x _ _ rfl).trans ((show Xi U20 904 93 = Xi T19 904 93 from by rw [eU20]; exact Xi_ne (by omega))))
      refine y_callV rfl rfl rfl (t_mo_thing__p hHU22 fs ns (by first | assumption | exact (VLR_FR hFU22 rfl (by assumption : VLR S _ _))) (by first | assumption | exact (JR_FR (FR_e eU22) rfl rfl rfl (by assumption : JR T21 _ _))) _) ?_
      rintro _ T23 ⟨hHT23, w240, rfl, w234, w235, w236, w237, w238⟩
      have hFT23 : FR md_mo_test__p S T23 := FR.tr hFU22 w240 rfl
      show Pl _ _ _ _ _ _ [] _ _
      have : Xi T23 904 65 = 0 → (fs : Int) ≤ Xi T23 904 8 ∧ Xi T23 904 8 ≤ fs + ns := JR.i (by assumption)
      have gp313 := w234
      try rw [FRR hFU22 rfl] at gp313
      try rw [show cu U22 fs = cu T21 fs from cu_eq (by omega) (by omega) (by omega)] at gp313
      clear w234
      have GX : gSq (cu S fs) (gTm (tR S fs ns) isNow) = cu T23 fs := cu_cg (cu_ch N244 (cu_cg (cu_ch gp308 gp313) (fun b => gTo_p (by omega) (by omega)))) (fun b => gTm_o (f244.o b) (b244.o b))
      refine y_aload_n rfl rfl ?_
      refine y_gfr rfl rfl rfl rfl rfl (hHT23.r 904 89 959 rfl) ?_
      refine y_aload_n rfl rfl ?_
      refine y_gfi rfl rfl rfl rfl rfl ?_
      have w241 : (Xi T23 904 93) = (Xi T19 904 93) := (show Xi T23 904 93 = Xi U22 904 93 from w240.x _ _ rfl).trans ( (show Xi U22 904 93 = Xi T21 904 93 from by rw [eU22]; exact Xi_ne (by omega)).trans ( (show Xi T21 904 93 = Xi U20 904 93 from w225.x _ _ rfl).trans ((show Xi U20 904 93 = Xi T19 904 93 from by rw [eU20]; exact Xi_ne (by omega)))))
      rw [w241]
      refine y_aload_n rfl rfl ?_
      refine y_gfi rfl rfl rfl rfl rfl ?_
      have w242 : -2147483648 ≤ (Xi T23 904 100) ∧ (Xi T23 904 100) ≤ 2147483647 := Xi_rgI
      refine y_sipush rfl rfl ?_
      refine y_imul rfl ?_
      refine y_aload_n rfl rfl ?_
      refine y_gfi rfl rfl rfl rfl rfl ?_
      have w243 : -2147483648 ≤ (Xi T23 904 101) ∧ (Xi T23 904 101) ≤ 2147483647 := Xi_rgI
      refine y_iadd rfl ?_
      refine y_iastoreP (n := 1700) rfl rfl (by unfold rg; omega) (fun w244 w245 => ?_)
      obtain ⟨U24, eU24⟩ : ∃ T : sS, T = uI T23 959 (((Xi T19 904 93)).toNat) (Int32.ofInt (((Xi T23 904 100) * 10000) + (Xi T23 904 101))) := ⟨_, rfl⟩
      rw [← eU24]
      have hHU24 : RI U24 := by rw [eU24]; exact RI_w hHT23
      have hFU24 : FR md_mo_test__p S U24 := by rw [eU24]; exact FR.wI hFT23 (mdf_i (r := (959, 960, 0, 100000)) (List.mem_of_getElem? (i := 18) rfl) (inR_i (by omega) (by omega) (by omega) (by omega)))
      refine y_aload_n rfl rfl ?_
      refine y_gfr rfl rfl rfl rfl rfl (hHU24.r 904 90 960 rfl) ?_
      refine y_aload_n rfl rfl ?_
      refine y_gfi rfl rfl rfl rfl rfl ?_
      have w246 : (Xi U24 904 93) = (Xi T19 904 93) := (show Xi U24 904 93 = Xi T23 904 93 from by rw [eU24]; exact Xi_ne (by omega)).trans ( (show Xi T23 904 93 = Xi U22 904 93 from w240.x _ _ rfl).trans ( (show Xi U22 904 93 = Xi T21 904 93 from by rw [eU22]; exact Xi_ne (by omega)).trans ( (show Xi T21 904 93 = Xi U20 904 93 from w225.x _ _ rfl).trans ((show Xi U20 904 93 = Xi T19 904 93 from by rw [eU20]; exact Xi_ne (by omega))))))
      rw [w246]
      refine y_aload_n rfl rfl ?_
      refine y_gfi rfl rfl rfl rfl rfl ?_
      have w247 : -2147483648 ≤ (Xi U24 904 99) ∧ (Xi U24 904 99) ≤ 2147483647 := Xi_rgI
      refine y_iastoreP (n := 1700) rfl rfl (by unfold rg; omega) (fun w248 w249 => ?_)
      obtain ⟨U25, eU25⟩ : ∃ T : sS, T = uI U24 960 (((Xi T19 904 93)).toNat) (Int32.ofInt (Xi U24 904 99)) := ⟨_, rfl⟩
      rw [← eU25]
      have hHU25 : RI U25 := by rw [eU25]; exact RI_w hHU24
      have hFU25 : FR md_mo_test__p S U25 := by rw [eU25]; exact FR.wI hFU24 (mdf_i (r := (960, 961, 0, 100000)) (List.mem_of_getElem? (i := 19) rfl) (inR_i (by omega) (by omega) (by omega) (by omega)))
      have w250 : Xi U25 960 (((Xi T19 904 93)).toNat) = (Xi U24 904 99) := by rw [eU25]; exact Xi_same (by unfold rg; omega)
      have w251 : Xi U25 904 65 = Xi T23 904 65 := (show Xi U25 904 65 = Xi U24 904 65 from by rw [eU25]; exact Xi_ne (by omega)).trans ((show Xi U24 904 65 = Xi T23 904 65 from by rw [eU24]; exact Xi_ne (by omega)))
      have w252 : Xi U25 904 66 = Xi T23 904 66 := (show Xi U25 904 66 = Xi U24 904 66 from by rw [eU25]; exact Xi_ne (by omega)).trans ((show Xi U24 904 66 = Xi T23 904 66 from by rw [eU24]; exact Xi_ne (by omega)))
      have w253 : Xi U25 904 69 = Xi T23 904 69 := (show Xi U25 904 69 = Xi U24 904 69 from by rw [eU25]; exact Xi_ne (by omega)).trans ((show Xi U24 904 69 = Xi T23 904 69 from by rw [eU24]; exact Xi_ne (by omega)))
      have w254 : Xi U25 904 8 = Xi T23 904 8 := (show Xi U25 904 8 = Xi U24 904 8 from by rw [eU25]; exact Xi_ne (by omega)).trans ((show Xi U24 904 8 = Xi T23 904 8 from by rw [eU24]; exact Xi_ne (by omega)))
      have w255 : Xi U25 904 93 = Xi T19 904 93 := (show Xi U25 904 93 = Xi U24 904 93 from by rw [eU25]; exact Xi_ne (by omega)).trans ( (show Xi U24 904 93 = Xi T23 904 93 from by rw [eU24]; exact Xi_ne (by omega)).trans ( (show Xi T23 904 93 = Xi U22 904 93 from w240.x _ _ rfl).trans ( (show Xi U22 904 93 = Xi T21 904 93 from by rw [eU22]; exact Xi_ne (by omega)).trans ( (show Xi T21 904 93 = Xi U20 904 93 from w225.x _ _ rfl).trans ((show Xi U20 904 93 = Xi T19 904 93 from by rw [eU20]; exact Xi_ne (by omega)))))))
      exact Pl_weak (C351 U25 hHU25 hFU25  (by first | exact GX | exact GX.trans (cu_eq (by omega) (by omega) (by omega)).symm | exact cu_st (by omega) (by omega) rfl (by rw [gTm_s (f145 (by omega)), gLo_of (e145 (by omega)), if_pos (by omega)])) (fun b => by omega) (by omega) (by omega) (by omega) (by omega) (by omega)) (by omega) (And.intro rfl (And.intro rfl (True.intro)))
    · refine y_aload_n rfl rfl ?_
      refine y_callV rfl rfl rfl (t_mo_odd__p hHT19 fs ns _) ?_
      rintro _ T26 ⟨hHT26, w260, rfl, w256, w257, w258⟩
      have hFT26 : FR md_mo_test__p S T26 := FR.tr hFT19 w260 rfl
      show Pl _ _ _ _ _ _ [] _ _
      have gp283 := w256
      try rw [FRR hFT19 rfl] at gp283
      clear w256
      have GX : gSq (cu S fs) (gTm (tR S fs ns) isNow) = cu T26 fs := cu_cg (cu_ch N244 (cu_od gp283 (fun b => gTo_o (by omega) (by omega)))) (fun b => gTm_o (f244.o b) (b244.o b))
      refine y_goto rfl rfl ?_
      have w261 : Xi T26 904 69 = Xi T19 904 69 := (show Xi T26 904 69 = Xi T19 904 69 from w260.x _ _ rfl)
      have w262 : Xi T26 904 8 = Xi T19 904 8 := (show Xi T26 904 8 = Xi T19 904 8 from w260.x _ _ rfl)
      have w263 : Xi T26 904 93 = Xi T19 904 93 := (show Xi T26 904 93 = Xi T19 904 93 from w260.x _ _ rfl)
      exact Pl_weak (C351 T26 hHT26 hFT26  (by first | exact GX | exact GX.trans (cu_eq (by omega) (by omega) (by omega)).symm | exact cu_st (by omega) (by omega) rfl (by rw [gTm_s (f145 (by omega)), gLo_of (e145 (by omega)), if_pos (by omega)])) (fun b => by omega) (by omega) (by omega) (by omega) (by omega) (by omega)) (by omega) (And.intro rfl (And.intro rfl (True.intro)))
  · refine y_aload_n rfl rfl ?_
    refine y_gfr rfl rfl rfl rfl rfl (hHT19.r 904 82 952 rfl) ?_
    refine y_aload_n rfl rfl ?_
    refine y_gfi rfl rfl rfl rfl rfl ?_
    refine y_iconst rfl ?_
    refine y_iastoreP (n := 1700) rfl rfl (by unfold rg; omega) (fun w264 w265 => ?_)
    obtain ⟨U27, eU27⟩ : ∃ T : sS, T = uI T19 952 (((Xi T19 904 93)).toNat) (Int32.ofInt 3) := ⟨_, rfl⟩
    rw [← eU27]
    have hHU27 : RI U27 := by rw [eU27]; exact RI_w hHT19
    have hFU27 : FR md_mo_test__p S U27 := by rw [eU27]; exact FR.wI hFT19 (mdf_i (r := (952, 953, 0, 100000)) (List.mem_of_getElem? (i := 11) rfl) (inR_i (by omega) (by omega) (by omega) (by omega)))
    have w266 : Xi U27 952 (((Xi T19 904 93)).toNat) = 3 := by rw [eU27]; exact Xi_same (by unfold rg; omega)
    refine y_aload_n rfl rfl ?_
    refine y_gfr rfl rfl rfl rfl rfl (hHU27.r 904 86 956 rfl) ?_
    refine y_aload_n rfl rfl ?_
    refine y_gfi rfl rfl rfl rfl rfl ?_
    have w267 : (Xi U27 904 93) = (Xi T19 904 93) := (show Xi U27 904 93 = Xi T19 904 93 from by rw [eU27]; exact Xi_ne (by omega))
    rw [w267]
    refine y_aload_n rfl rfl ?_
    have w268 : Xi U27 904 65 = Xi T19 904 65 := (show Xi U27 904 65 = Xi T19 904 65 from by rw [eU27]; exact Xi_ne (by omega))
    have w269 : Xi U27 904 66 = Xi T19 904 66 := (show Xi U27 904 66 = Xi T19 904 66 from by rw [eU27]; exact Xi_ne (by omega))
    have w270 : Xi U27 904 69 = Xi T19 904 69 := (show Xi U27 904 69 = Xi T19 904 69 from by rw [eU27]; exact Xi_ne (by omega))
    have w271 : Xi U27 904 8 = Xi T19 904 8 := (show Xi U27 904 8 = Xi T19 904 8 from by rw [eU27]; exact Xi_ne (by omega))
    have w272 : Xi U27 904 93 = Xi T19 904 93 := (show Xi U27 904 93 = Xi T19 904 93 from by rw [eU27]; exact Xi_ne (by omega))
    refine y_callV rfl rfl rfl (t_mo_run__p hHU27 fs ns (by first | assumption | exact (VLR_FR hFU27 rfl (by assumption : VLR S _ _))) (by first | assumption | exact (JR_FR (FR_e eU27) rfl rfl rfl (by assumption : JR T19 _ _))) _) ?_
    rintro _ T28 ⟨hHT28, w280, z279, rfl, w279, w273, w274, w275, w276, w277, w278⟩
    have hFT28 : FR md_mo_test__p S T28 := FR.tr hFU27 w280 rfl
    show Pl _ _ _ _ _ _ [iv z279, iv (Xi T19 904 93), .ref 956] _ _
    have : Xi T28 904 65 = 0 → (fs : Int) ≤ Xi T28 904 8 ∧ Xi T28 904 8 ≤ fs + ns := JR.i (by assumption)
    have gp271 := w273
    try rw [FRR hFU27 rfl] at gp271
    try rw [show cu U27 fs = cu T19 fs from cu_eq (by omega) (by omega) (by omega)] at gp271
    clear w273
    have GX : gSq (cu S fs) (gTm (tR S fs ns) isNow) = cu T28 fs := cu_cg (cu_ch N244 (cu_cg gp271 (fun b => gTo_r (by omega)))) (fun b => gTm_o (f244.o b) (b244.o b))
    refine y_iastoreP (n := 1700) rfl rfl (by unfold rg; omega) (fun w281 w282 => ?_)
    obtain ⟨U29, eU29⟩ : ∃ T : sS, T = uI T28 956 (((Xi T19 904 93)).toNat) (Int32.ofInt z279) := ⟨_, rfl⟩
    rw [← eU29]
    have hHU29 : RI U29 := by rw [eU29]; exact RI_w hHT28
    have hFU29 : FR md_mo_test__p S U29 := by rw [eU29]; exact FR.wI hFT28 (mdf_i (r := (956, 957, 0, 100000)) (List.mem_of_getElem? (i := 15) rfl) (inR_i (by omega) (by omega) (by omega) (by omega)))
    have w283 : Xi U29 956 (((Xi T19 904 93)).toNat) = z279 := by rw [eU29]; exact Xi_same (by unfold rg; omega)
    refine y_goto rfl rfl ?_
    have w284 : Xi U29 904 65 = Xi T28 904 65 := (show Xi U29 904 65 = Xi T28 904 65 from by rw [eU29]; exact Xi_ne (by omega))
    have w285 : Xi U29 904 66 = Xi T28 904 66 := (show Xi U29 904 66 = Xi T28 904 66 from by rw [eU29]; exact Xi_ne (by omega))
    have w286 : Xi U29 904 69 = Xi T28 904 69 := (show Xi U29 904 69 = Xi T28 904 69 from by rw [eU29]; exact Xi_ne (by omega))
    have w287 : Xi U29 904 8 = Xi T28 904 8 := (show Xi U29 904 8 = Xi T28 904 8 from by rw [eU29]; exact Xi_ne (by omega))
    have w288 : Xi U29 904 93 = Xi T19 904 93 := (show Xi U29 904 93 = Xi T28 904 93 from by rw [eU29]; exact Xi_ne (by omega)).trans ( (show Xi T28 904 93 = Xi U27 904 93 from w280.x _ _ rfl).trans ((show Xi U27 904 93 = Xi T19 904 93 from by rw [eU27]; exact Xi_ne (by omega))))
    exact Pl_weak (C351 U29 hHU29 hFU29  (by first | exact GX | exact GX.trans (cu_eq (by omega) (by omega) (by omega)).symm | exact cu_st (by omega) (by omega) rfl (by rw [gTm_s (f145 (by omega)), gLo_of (e145 (by omega)), if_pos (by omega)])) (fun b => by omega) (by omega) (by omega) (by omega) (by omega) (by omega)) (by omega) (And.intro rfl (And.intro rfl (True.intro)))
set_option maxRecDepth 100000 in
theorem c203_mo_test__p {S : sS} (hH : RI S) (fs : Nat) (ns : Nat) (isNow : Int) (hisNow : 0 ≤ isNow ∧ isNow ≤ 1) (hvl : VLR S fs ns) (hJR : JR S fs ns) (d : Nat) (fu : Nat) : ∀  (T30 : sS) (_ : RI T30) (_ : FR md_mo_test__p S T30), (0 ≤ Xi S 904 93) → (JR T30 fs ns) → (Xi T30 904 65 = 0 → (fs : Int) ≤ Xi T30 904 8 ∧ Xi T30 904 8 ≤ fs + ns) → (Xi T30 904 93 = Xi S 904 93) → (Xi T30 904 65 = 0 → Xi S 904 65 = 0 ∧ Xi S 904 8 ≤ Xi T30 904 8) → (Xi S 904 69 ≤ Xi T30 904 69) → (Hid (Xi S 904 65 = 0 → fo7 (tR S fs ns) 4 (Xi S 904 8 - fs) (te8 (tR S fs ns) isNow (Xi S 904 8 - fs)) ≠ -1)) → (Hid (Xi S 904 65 = 0 → ¬ bp7 (tR S fs ns) (Xi S 904 8 - fs))) → (gSq (gSq (cu S fs) (gTh (tR S fs ns))) (gT (tR S fs ns) 4) = cu T30 fs) → Pl fu lay0 (d + 5) m_mo_test 203 [(0, .ref 904), (1, iv isNow)] [] T30 (Q_mo_test__p S fs ns isNow) := by
  have C244 := c244_mo_test__p hH fs ns isNow hisNow hvl hJR d  fu
  have hF : FR md_mo_test__p S S := FR.rf
  have w1 : -2147483648 ≤ Xi S 904 65 ∧ Xi S 904 65 ≤ 2147483647 := Xi_rgI
  have w2 : -2147483648 ≤ Xi S 904 66 ∧ Xi S 904 66 ≤ 2147483647 := Xi_rgI
  have w3 : -2147483648 ≤ Xi S 904 69 ∧ Xi S 904 69 ≤ 2147483647 := Xi_rgI
  have w4 : -2147483648 ≤ Xi S 904 8 ∧ Xi S 904 8 ≤ 2147483647 := Xi_rgI
  have w5 : -2147483648 ≤ Xi S 904 93 ∧ Xi S 904 93 ≤ 2147483647 := Xi_rgI
  have : Xi S 904 65 = 0 → (fs : Int) ≤ Xi S 904 8 ∧ Xi S 904 8 ≤ fs + ns := JR.i (by assumption)
  have hbd := hvl.2.2.2
  intro T30 hHT30 hFT30 w289 J203 j203 w290 w291 w292 f203 b203 N203
  have w293 : -2147483648 ≤ Xi T30 904 65 ∧ Xi T30 904 65 ≤ 2147483647 := Xi_rgI
  have w294 : -2147483648 ≤ Xi T30 904 66 ∧ Xi T30 904 66 ≤ 2147483647 := Xi_rgI
  have w295 : -2147483648 ≤ Xi T30 904 69 ∧ Xi T30 904 69 ≤ 2147483647 := Xi_rgI
  have w296 : -2147483648 ≤ Xi T30 904 8 ∧ Xi T30 904 8 ≤ 2147483647 := Xi_rgI
  have w297 : -2147483648 ≤ Xi T30 904 93 ∧ Xi T30 904 93 ≤ 2147483647 := Xi_rgI
  refine y_aload_n rfl rfl ?_
  refine y_gfr rfl rfl rfl rfl rfl (hHT30.r 904 83 953 rfl) ?_
  refine y_aload_n rfl rfl ?_
  refine y_gfi rfl rfl rfl rfl rfl ?_
  refine y_aload_n rfl rfl ?_
  refine y_bipush rfl rfl ?_
  refine y_callV rfl rfl rfl (t_mo_isNext__p hHT30 fs ns 106 ⟨by omega, by omega⟩ (by first | assumption | exact (VLR_FR hFT30 rfl (by assumption : VLR S _ _))) (by first | assumption | exact JR.i (by first | assumption | exact (by assumption : JR T30 _ _))) (rfl) _) ?_
  rintro _ _ ⟨rfl, z299, rfl, w299, w298⟩
  show Pl _ _ _ _ _ _ [iv z299, iv (Xi T30 904 93), .ref 953] _ _
  have gb214 := w298
  try rw [FRR hFT30 rfl] at gb214
  try rw [show un7 106 = 6 from rfl] at gb214
  clear w298
  refine y_bastoreZP (n := 1700) rfl rfl (by unfold rg; omega) ⟨by omega, by omega⟩ (fun w300 w301 => ?_)
  obtain ⟨U31, eU31⟩ : ∃ T : sS, T = uI T30 953 (((Xi T30 904 93)).toNat) (Int32.ofInt z299) := ⟨_, rfl⟩
  rw [← eU31]
  have hHU31 : RI U31 := by rw [eU31]; exact RI_w hHT30
  have hFU31 : FR md_mo_test__p S U31 := by rw [eU31]; exact FR.wI hFT30 (mdf_i (r := (953, 954, 0, 100000)) (List.mem_of_getElem? (i := 12) rfl) (inR_i (by omega) (by omega) (by omega) (by omega)))
  have w302 : Xi U31 953 (((Xi T30 904 93)).toNat) = z299 := by rw [eU31]; exact Xi_same (by unfold rg; omega)
  refine y_aload_n rfl rfl ?_
  refine y_dup rfl rfl ?_
  refine y_gfi rfl rfl rfl rfl rfl ?_
  have w303 : (Xi U31 904 8) = (Xi T30 904 8) := (show Xi U31 904 8 = Xi T30 904 8 from by rw [eU31]; exact Xi_ne (by omega))
  rw [w303]
  refine y_aload_n rfl rfl ?_
  refine y_gfr rfl rfl rfl rfl rfl (hHU31.r 904 83 953 rfl) ?_
  refine y_aload_n rfl rfl ?_
  refine y_gfi rfl rfl rfl rfl rfl ?_
  have w304 : (Xi U31 904 93) = (Xi T30 904 93) := (show Xi U31 904 93 = Xi T30 904 93 from by rw [eU31]; exact Xi_ne (by omega))
  rw [w304]
  refine y_baloadP (n := 1700) rfl rfl rfl (by decide) (by unfold rg; omega) (fun w305 w306 => ?_)
  refine y_if_eq rfl rfl (by unfold rg; omega) (fun w307 => ?_) (fun w308 => ?_)
  · refine y_iconst rfl ?_
    refine y_iadd rfl ?_
    refine y_pfi rfl rfl rfl rfl ?_
    obtain ⟨U32, eU32⟩ : ∃ T : sS, T = uI U31 904 8 (Int32.ofInt ((Xi T30 904 8) + 0)) := ⟨_, rfl⟩
    rw [← eU32]
    have hHU32 : RI U32 := by rw [eU32]; exact RI_w hHU31
    have hFU32 : FR md_mo_test__p S U32 := by rw [eU32]; exact FR.wI hFU31 (mdf_i (r := (904, 905, 8, 9)) (List.mem_of_getElem? (i := 0) rfl) (inR_i (by omega) (by omega) (by omega) (by omega)))
    have w309 : Xi U32 904 8 = ((Xi T30 904 8) + 0) := by rw [eU32]; exact Xi_same (by unfold rg; omega)
    have b241_ : Xi U32 904 65 = Xi U31 904 65 := (by rw [eU32, Xi_ne (by omega)]); have J241 : JR U32 fs ns := by first | exact jr_same (JR_FR (FR_e eU31) rfl rfl rfl (by assumption : JR T30 _ _)) (show U32 = uI U31 904 8 (Int32.ofInt (_ + 0)) from eU32) (by omega) | exact jr_up (JR_FR (FR_e eU31) rfl rfl rfl (by assumption : JR T30 _ _)) (VLR_FR hFU31 rfl (by assumption : VLR S _ _)) eU32 (by omega) (fun b => by rw [FRR hFU31 rfl, show Xi U31 904 8 = Xi T30 904 8 by omega]; omega)
    have : Xi U32 904 65 = 0 → (fs : Int) ≤ Xi U32 904 8 ∧ Xi U32 904 8 ≤ fs + ns := JR.i (by assumption)
    have w310 : Xi U32 904 65 = Xi T30 904 65 := (show Xi U32 904 65 = Xi U31 904 65 from by rw [eU32]; exact Xi_ne (by omega)).trans ((show Xi U31 904 65 = Xi T30 904 65 from by rw [eU31]; exact Xi_ne (by omega)))
    have w311 : Xi U32 904 66 = Xi T30 904 66 := (show Xi U32 904 66 = Xi U31 904 66 from by rw [eU32]; exact Xi_ne (by omega)).trans ((show Xi U31 904 66 = Xi T30 904 66 from by rw [eU31]; exact Xi_ne (by omega)))
    have w312 : Xi U32 904 69 = Xi T30 904 69 := (show Xi U32 904 69 = Xi U31 904 69 from by rw [eU32]; exact Xi_ne (by omega)).trans ((show Xi U31 904 69 = Xi T30 904 69 from by rw [eU31]; exact Xi_ne (by omega)))
    have w313 : Xi U32 904 93 = Xi T30 904 93 := (show Xi U32 904 93 = Xi U31 904 93 from by rw [eU32]; exact Xi_ne (by omega)).trans ((show Xi U31 904 93 = Xi T30 904 93 from by rw [eU31]; exact Xi_ne (by omega)))
    exact Pl_weak (C244 U32 hHU32 hFU32  (by omega) (J241) (by omega) (by omega) (by omega) (by omega) (f203) (b203) (by rw [← gSq3, N203]; first | exact cu_nt0 eU32 (by omega) (cu_eq (by rw [eU31, Xi_ne (by omega)]) (by rw [eU31, Xi_ne (by omega)]) (by rw [eU31, Xi_ne (by omega)])) (fun b => by omega) | exact (cu_nt1 eU32 (by omega) (cu_eq (by rw [eU31, Xi_ne (by omega)]) (by rw [eU31, Xi_ne (by omega)]) (by rw [eU31, Xi_ne (by omega)])) (fun b => by omega)))) (by omega) (And.intro rfl (And.intro rfl (True.intro)))
  · refine y_iconst rfl ?_
    refine y_goto rfl rfl ?_
    refine y_iadd rfl ?_
    refine y_pfi rfl rfl rfl rfl ?_
    obtain ⟨U33, eU33⟩ : ∃ T : sS, T = uI U31 904 8 (Int32.ofInt ((Xi T30 904 8) + 1)) := ⟨_, rfl⟩
    rw [← eU33]
    have hHU33 : RI U33 := by rw [eU33]; exact RI_w hHU31
    have hFU33 : FR md_mo_test__p S U33 := by rw [eU33]; exact FR.wI hFU31 (mdf_i (r := (904, 905, 8, 9)) (List.mem_of_getElem? (i := 0) rfl) (inR_i (by omega) (by omega) (by omega) (by omega)))
    have w314 : Xi U33 904 8 = ((Xi T30 904 8) + 1) := by rw [eU33]; exact Xi_same (by unfold rg; omega)
    have b241_ : Xi U33 904 65 = Xi U31 904 65 := (by rw [eU33, Xi_ne (by omega)]); have J241 : JR U33 fs ns := by first | exact jr_same (JR_FR (FR_e eU31) rfl rfl rfl (by assumption : JR T30 _ _)) (show U33 = uI U31 904 8 (Int32.ofInt (_ + 0)) from eU33) (by omega) | exact jr_up (JR_FR (FR_e eU31) rfl rfl rfl (by assumption : JR T30 _ _)) (VLR_FR hFU31 rfl (by assumption : VLR S _ _)) eU33 (by omega) (fun b => by rw [FRR hFU31 rfl, show Xi U31 904 8 = Xi T30 904 8 by omega]; omega)
    have : Xi U33 904 65 = 0 → (fs : Int) ≤ Xi U33 904 8 ∧ Xi U33 904 8 ≤ fs + ns := JR.i (by assumption)
    have w315 : Xi U33 904 65 = Xi T30 904 65 := (show Xi U33 904 65 = Xi U31 904 65 from by rw [eU33]; exact Xi_ne (by omega)).trans ((show Xi U31 904 65 = Xi T30 904 65 from by rw [eU31]; exact Xi_ne (by omega)))
    have w316 : Xi U33 904 66 = Xi T30 904 66 := (show Xi U33 904 66 = Xi U31 904 66 from by rw [eU33]; exact Xi_ne (by omega)).trans ((show Xi U31 904 66 = Xi T30 904 66 from by rw [eU31]; exact Xi_ne (by omega)))
    have w317 : Xi U33 904 69 = Xi T30 904 69 := (show Xi U33 904 69 = Xi U31 904 69 from by rw [eU33]; exact Xi_ne (by omega)).trans ((show Xi U31 904 69 = Xi T30 904 69 from by rw [eU31]; exact Xi_ne (by omega)))
    have w318 : Xi U33 904 93 = Xi T30 904 93 := (show Xi U33 904 93 = Xi U31 904 93 from by rw [eU33]; exact Xi_ne (by omega)).trans ((show Xi U31 904 93 = Xi T30 904 93 from by rw [eU31]; exact Xi_ne (by omega)))
    exact Pl_weak (C244 U33 hHU33 hFU33  (by omega) (J241) (by omega) (by omega) (by omega) (by omega) (f203) (b203) (by rw [← gSq3, N203]; first | exact cu_nt0 eU33 (by omega) (cu_eq (by rw [eU31, Xi_ne (by omega)]) (by rw [eU31, Xi_ne (by omega)]) (by rw [eU31, Xi_ne (by omega)])) (fun b => by omega) | exact (cu_nt1 eU33 (by omega) (cu_eq (by rw [eU31, Xi_ne (by omega)]) (by rw [eU31, Xi_ne (by omega)]) (by rw [eU31, Xi_ne (by omega)])) (fun b => by omega)))) (by omega) (And.intro rfl (And.intro rfl (True.intro)))
set_option maxRecDepth 100000 in
theorem c193_mo_test__p {S : sS} (hH : RI S) (fs : Nat) (ns : Nat) (isNow : Int) (hisNow : 0 ≤ isNow ∧ isNow ≤ 1) (hvl : VLR S fs ns) (hJR : JR S fs ns) (d : Nat) (fu : Nat) : ∀  (T34 : sS) (_ : RI T34) (_ : FR md_mo_test__p S T34), (Xi T34 904 8 = Xi S 904 8) → (Xi T34 904 65 = Xi S 904 65) → (Xi T34 904 66 = Xi S 904 66) → (Xi T34 904 69 = Xi S 904 69) → (Xi T34 904 93 = Xi S 904 93) → (0 ≤ Xi S 904 93) → (JR T34 fs ns) → (Hid (Xi S 904 65 = 0 → fo7 (tR S fs ns) 4 (Xi S 904 8 - fs) (te8 (tR S fs ns) isNow (Xi S 904 8 - fs)) ≠ -1)) → (Hid (Xi S 904 65 = 0 → ¬ bp7 (tR S fs ns) (Xi S 904 8 - fs))) → Pl fu lay0 (d + 5) m_mo_test 193 [(0, .ref 904), (1, iv isNow)] [] T34 (Q_mo_test__p S fs ns isNow) := by
  have C203 := c203_mo_test__p hH fs ns isNow hisNow hvl hJR d  fu
  have hF : FR md_mo_test__p S S := FR.rf
  have w1 : -2147483648 ≤ Xi S 904 65 ∧ Xi S 904 65 ≤ 2147483647 := Xi_rgI
  have w2 : -2147483648 ≤ Xi S 904 66 ∧ Xi S 904 66 ≤ 2147483647 := Xi_rgI
  have w3 : -2147483648 ≤ Xi S 904 69 ∧ Xi S 904 69 ≤ 2147483647 := Xi_rgI
  have w4 : -2147483648 ≤ Xi S 904 8 ∧ Xi S 904 8 ≤ 2147483647 := Xi_rgI
  have w5 : -2147483648 ≤ Xi S 904 93 ∧ Xi S 904 93 ≤ 2147483647 := Xi_rgI
  have : Xi S 904 65 = 0 → (fs : Int) ≤ Xi S 904 8 ∧ Xi S 904 8 ≤ fs + ns := JR.i (by assumption)
  have hbd := hvl.2.2.2
  intro T34 hHT34 hFT34 w319 w320 w321 w322 w323 w324 J193 f193 b193
  have w325 : -2147483648 ≤ Xi T34 904 65 ∧ Xi T34 904 65 ≤ 2147483647 := Xi_rgI
  have w326 : -2147483648 ≤ Xi T34 904 66 ∧ Xi T34 904 66 ≤ 2147483647 := Xi_rgI
  have w327 : -2147483648 ≤ Xi T34 904 69 ∧ Xi T34 904 69 ≤ 2147483647 := Xi_rgI
  have w328 : -2147483648 ≤ Xi T34 904 8 ∧ Xi T34 904 8 ≤ 2147483647 := Xi_rgI
  have w329 : -2147483648 ≤ Xi T34 904 93 ∧ Xi T34 904 93 ≤ 2147483647 := Xi_rgI
  refine y_aload_n rfl rfl ?_
  refine y_callV rfl rfl rfl (t_mo_thingOfTest__p hHT34 fs ns (by first | assumption | exact (VLR_FR hFT34 rfl (by assumption : VLR S _ _))) (by first | assumption | exact (by assumption : JR T34 _ _)) _) ?_
  rintro _ T35 ⟨hHT35, w335, rfl, w330, w331, w332, w333⟩
  have hFT35 : FR md_mo_test__p S T35 := FR.tr hFT34 w335 rfl
  show Pl _ _ _ _ _ _ [] _ _
  have : Xi T35 904 65 = 0 → (fs : Int) ≤ Xi T35 904 8 ∧ Xi T35 904 8 ≤ fs + ns := JR.i (by assumption)
  have gp194 := w330
  try rw [FRR hFT34 rfl] at gp194
  clear w330
  refine y_aload_n rfl rfl ?_
  refine y_bipush rfl rfl ?_
  refine y_callV rfl rfl rfl (t_mo_take__p hHT35 fs ns 104 ⟨by omega, by omega⟩ (by first | assumption | exact (VLR_FR hFT35 rfl (by assumption : VLR S _ _))) (by first | assumption | exact (by assumption : JR T35 _ _)) (rfl) (by decide) _) ?_
  rintro _ T36 ⟨hHT36, w341, rfl, w337, w338, w339⟩
  have hFT36 : FR md_mo_test__p S T36 := FR.tr hFT35 w341 rfl
  show Pl _ _ _ _ _ _ [] _ _
  have : Xi T36 904 65 = 0 → (fs : Int) ≤ Xi T36 904 8 ∧ Xi T36 904 8 ≤ fs + ns := JR.i (by assumption)
  have gp200 := w337
  try rw [FRR hFT35 rfl] at gp200
  try rw [show un7 104 = 4 from rfl] at gp200
  clear w337
  have w342 : Xi T36 904 69 = Xi T35 904 69 := (show Xi T36 904 69 = Xi T35 904 69 from w341.x _ _ rfl)
  have w343 : Xi T36 904 93 = Xi T34 904 93 := (show Xi T36 904 93 = Xi T35 904 93 from w341.x _ _ rfl).trans ((show Xi T35 904 93 = Xi T34 904 93 from w335.x _ _ rfl))
  exact Pl_weak (C203 T36 hHT36 hFT36  (by omega) (by first | assumption | exact (by assumption : JR T36 _ _)) (by omega) (by omega) (by omega) (by omega) (f193) (b193) (by rw [show cu S fs = cu T34 fs from (cu_eq (by omega) (by omega) (by omega)).symm, gp194, gp200])) (by omega) (And.intro rfl (And.intro rfl (True.intro)))
set_option maxRecDepth 100000 in
theorem c56_mo_test__p {S : sS} (hH : RI S) (fs : Nat) (ns : Nat) (isNow : Int) (hisNow : 0 ≤ isNow ∧ isNow ≤ 1) (hvl : VLR S fs ns) (hJR : JR S fs ns) (d : Nat) (fu : Nat) : ∀  (v2 : Int) (v3 : Int), (-2147483648 ≤ v2 ∧ v2 ≤ 2147483647) → (0 ≤ v3 ∧ v3 ≤ 1) → (v2 = Xi S 904 8) → (Xi S 904 65 = 0 → (v3 = 0 → fo7 (tR S fs ns) 4 (Xi S 904 8 - fs) (te8 (tR S fs ns) isNow (Xi S 904 8 - fs)) = -1) ∧ (v3 ≠ 0 → fo7 (tR S fs ns) 4 (Xi S 904 8 - fs) (te8 (tR S fs ns) isNow (Xi S 904 8 - fs)) ≠ -1)) → Pl fu lay0 (d + 5) m_mo_test 56 [(0, .ref 904), (1, iv isNow), (2, iv v2), (3, iv v3)] [] S (Q_mo_test__p S fs ns isNow) := by
  have C96 := c96_mo_test__p hH fs ns isNow hisNow hvl hJR d  fu
  have C171 := c171_mo_test__p hH fs ns isNow hisNow hvl hJR d  fu
  have C193 := c193_mo_test__p hH fs ns isNow hisNow hvl hJR d  fu
  have hF : FR md_mo_test__p S S := FR.rf
  have w1 : -2147483648 ≤ Xi S 904 65 ∧ Xi S 904 65 ≤ 2147483647 := Xi_rgI
  have w2 : -2147483648 ≤ Xi S 904 66 ∧ Xi S 904 66 ≤ 2147483647 := Xi_rgI
  have w3 : -2147483648 ≤ Xi S 904 69 ∧ Xi S 904 69 ≤ 2147483647 := Xi_rgI
  have w4 : -2147483648 ≤ Xi S 904 8 ∧ Xi S 904 8 ≤ 2147483647 := Xi_rgI
  have w5 : -2147483648 ≤ Xi S 904 93 ∧ Xi S 904 93 ≤ 2147483647 := Xi_rgI
  have : Xi S 904 65 = 0 → (fs : Int) ≤ Xi S 904 8 ∧ Xi S 904 8 ≤ fs + ns := JR.i (by assumption)
  have hbd := hvl.2.2.2
  intro v2 v3 w344 w345 w346 f56
  refine y_aload_n rfl rfl ?_
  refine y_gfr rfl rfl rfl rfl rfl (hH.r 904 91 961 rfl) ?_
  refine y_aload_n rfl rfl ?_
  refine y_gfi rfl rfl rfl rfl rfl ?_
  refine y_iload_n rfl rfl ?_
  refine y_iastoreP (n := 1700) rfl rfl (by unfold rg; omega) (fun w347 w348 => ?_)
  obtain ⟨U37, eU37⟩ : ∃ T : sS, T = uI S 961 (((Xi S 904 93)).toNat) (Int32.ofInt v2) := ⟨_, rfl⟩
  rw [← eU37]
  have hHU37 : RI U37 := by rw [eU37]; exact RI_w hH
  have hFU37 : FR md_mo_test__p S U37 := by rw [eU37]; exact FR.wI hF (mdf_i (r := (961, 962, 0, 100000)) (List.mem_of_getElem? (i := 20) rfl) (inR_i (by omega) (by omega) (by omega) (by omega)))
  have w349 : Xi U37 961 (((Xi S 904 93)).toNat) = v2 := by rw [eU37]; exact Xi_same (by unfold rg; omega)
  refine y_aload_n rfl rfl ?_
  refine y_gfr rfl rfl rfl rfl rfl (hHU37.r 904 83 953 rfl) ?_
  refine y_aload_n rfl rfl ?_
  refine y_gfi rfl rfl rfl rfl rfl ?_
  have w350 : (Xi U37 904 93) = (Xi S 904 93) := (show Xi U37 904 93 = Xi S 904 93 from by rw [eU37]; exact Xi_ne (by omega))
  rw [w350]
  refine y_iconst rfl ?_
  refine y_bastoreZP (n := 1700) rfl rfl (by unfold rg; omega) ⟨by omega, by omega⟩ (fun w351 w352 => ?_)
  obtain ⟨U38, eU38⟩ : ∃ T : sS, T = uI U37 953 (((Xi S 904 93)).toNat) (Int32.ofInt 0) := ⟨_, rfl⟩
  rw [← eU38]
  have hHU38 : RI U38 := by rw [eU38]; exact RI_w hHU37
  have hFU38 : FR md_mo_test__p S U38 := by rw [eU38]; exact FR.wI hFU37 (mdf_i (r := (953, 954, 0, 100000)) (List.mem_of_getElem? (i := 12) rfl) (inR_i (by omega) (by omega) (by omega) (by omega)))
  have w353 : Xi U38 953 (((Xi S 904 93)).toNat) = 0 := by rw [eU38]; exact Xi_same (by unfold rg; omega)
  refine y_iload_n rfl rfl ?_
  refine y_if_ne rfl rfl (by unfold rg; omega) (fun w354 => ?_) (fun w355 => ?_)
  · refine y_aload_n rfl rfl ?_
    refine y_aload_n rfl rfl ?_
    refine y_gfi rfl rfl rfl rfl rfl ?_
    have w356 : (Xi U38 904 8) = (Xi S 904 8) := (show Xi U38 904 8 = Xi U37 904 8 from by rw [eU38]; exact Xi_ne (by omega)).trans ((show Xi U37 904 8 = Xi S 904 8 from by rw [eU37]; exact Xi_ne (by omega)))
    rw [w356]
    have w360 : Xi U38 904 8 = Xi S 904 8 := (show Xi U38 904 8 = Xi U37 904 8 from by rw [eU38]; exact Xi_ne (by omega)).trans ((show Xi U37 904 8 = Xi S 904 8 from by rw [eU37]; exact Xi_ne (by omega)))
    refine y_callV rfl rfl rfl (t_mo_beginsOf__p hHU38 fs ns (Xi S 904 8) ⟨by omega, by omega⟩ (by first | assumption | exact (VLR_FR hFU38 rfl (by assumption : VLR S _ _))) _) ?_
    rintro _ _ ⟨rfl, z363, rfl, w363, w362⟩
    show Pl _ _ _ _ _ _ [iv z363] _ _
    have gb165 := w362
    try rw [FRR hFU38 rfl] at gb165
    try rw [show Xi U38 904 8 = Xi S 904 8 by omega] at gb165
    clear w362
    refine y_if_eq rfl rfl (by unfold rg; omega) (fun w364 => ?_) (fun w365 => ?_)
    · have w366 : Xi U38 904 65 = Xi S 904 65 := (show Xi U38 904 65 = Xi U37 904 65 from by rw [eU38]; exact Xi_ne (by omega)).trans ((show Xi U37 904 65 = Xi S 904 65 from by rw [eU37]; exact Xi_ne (by omega)))
      have w367 : Xi U38 904 66 = Xi S 904 66 := (show Xi U38 904 66 = Xi U37 904 66 from by rw [eU38]; exact Xi_ne (by omega)).trans ((show Xi U37 904 66 = Xi S 904 66 from by rw [eU37]; exact Xi_ne (by omega)))
      have w368 : Xi U38 904 69 = Xi S 904 69 := (show Xi U38 904 69 = Xi U37 904 69 from by rw [eU38]; exact Xi_ne (by omega)).trans ((show Xi U37 904 69 = Xi S 904 69 from by rw [eU37]; exact Xi_ne (by omega)))
      have w370 : Xi U38 904 93 = Xi S 904 93 := (show Xi U38 904 93 = Xi U37 904 93 from by rw [eU38]; exact Xi_ne (by omega)).trans ((show Xi U37 904 93 = Xi S 904 93 from by rw [eU37]; exact Xi_ne (by omega)))
      exact Pl_weak (C193 U38 hHU38 hFU38  (by omega) (by omega) (by omega) (by omega) (by omega) (by omega) (by first | assumption | exact (JR_FR (FR_e eU38) rfl rfl rfl (JR_FR (FR_e eU37) rfl rfl rfl (by assumption : JR S _ _)))) (fun b => (f56 b).2 (by omega)) (fun b => (gb165 (by omega) (by omega)).2 (by omega))) (by omega) (And.intro rfl (And.intro rfl (True.intro)))
    · have w371 : Xi U38 904 65 = Xi S 904 65 := (show Xi U38 904 65 = Xi U37 904 65 from by rw [eU38]; exact Xi_ne (by omega)).trans ((show Xi U37 904 65 = Xi S 904 65 from by rw [eU37]; exact Xi_ne (by omega)))
      have w372 : Xi U38 904 66 = Xi S 904 66 := (show Xi U38 904 66 = Xi U37 904 66 from by rw [eU38]; exact Xi_ne (by omega)).trans ((show Xi U37 904 66 = Xi S 904 66 from by rw [eU37]; exact Xi_ne (by omega)))
      have w373 : Xi U38 904 69 = Xi S 904 69 := (show Xi U38 904 69 = Xi U37 904 69 from by rw [eU38]; exact Xi_ne (by omega)).trans ((show Xi U37 904 69 = Xi S 904 69 from by rw [eU37]; exact Xi_ne (by omega)))
      have w375 : Xi U38 904 93 = Xi S 904 93 := (show Xi U38 904 93 = Xi U37 904 93 from by rw [eU38]; exact Xi_ne (by omega)).trans ((show Xi U37 904 93 = Xi S 904 93 from by rw [eU37]; exact Xi_ne (by omega)))
      exact Pl_weak (C171 U38 hHU38 hFU38  (by omega) (by omega) (by omega) (by omega) (by omega) (by omega) (by first | assumption | exact (JR_FR (FR_e eU38) rfl rfl rfl (JR_FR (FR_e eU37) rfl rfl rfl (by assumption : JR S _ _)))) (fun b => (f56 b).2 (by omega)) (fun b => (gb165 (by omega) (by omega)).1 (by omega))) (by omega) (And.intro rfl (And.intro rfl (True.intro)))
  · refine y_aload_n rfl rfl ?_
    refine y_gfr rfl rfl rfl rfl rfl (hHU38.r 904 82 952 rfl) ?_
    refine y_aload_n rfl rfl ?_
    refine y_gfi rfl rfl rfl rfl rfl ?_
    have w376 : (Xi U38 904 93) = (Xi S 904 93) := (show Xi U38 904 93 = Xi U37 904 93 from by rw [eU38]; exact Xi_ne (by omega)).trans ((show Xi U37 904 93 = Xi S 904 93 from by rw [eU37]; exact Xi_ne (by omega)))
    rw [w376]
    refine y_iconst rfl ?_
    refine y_iastoreP (n := 1700) rfl rfl (by unfold rg; omega) (fun w377 w378 => ?_)
    obtain ⟨U39, eU39⟩ : ∃ T : sS, T = uI U38 952 (((Xi S 904 93)).toNat) (Int32.ofInt 5) := ⟨_, rfl⟩
    rw [← eU39]
    have hHU39 : RI U39 := by rw [eU39]; exact RI_w hHU38
    have hFU39 : FR md_mo_test__p S U39 := by rw [eU39]; exact FR.wI hFU38 (mdf_i (r := (952, 953, 0, 100000)) (List.mem_of_getElem? (i := 11) rfl) (inR_i (by omega) (by omega) (by omega) (by omega)))
    have w379 : Xi U39 952 (((Xi S 904 93)).toNat) = 5 := by rw [eU39]; exact Xi_same (by unfold rg; omega)
    refine y_aload_n rfl rfl ?_
    have w380 : Xi U39 904 65 = Xi S 904 65 := (show Xi U39 904 65 = Xi U38 904 65 from by rw [eU39]; exact Xi_ne (by omega)).trans ( (show Xi U38 904 65 = Xi U37 904 65 from by rw [eU38]; exact Xi_ne (by omega)).trans ((show Xi U37 904 65 = Xi S 904 65 from by rw [eU37]; exact Xi_ne (by omega))))
    have w383 : Xi U39 904 8 = Xi S 904 8 := (show Xi U39 904 8 = Xi U38 904 8 from by rw [eU39]; exact Xi_ne (by omega)).trans ( (show Xi U38 904 8 = Xi U37 904 8 from by rw [eU38]; exact Xi_ne (by omega)).trans ((show Xi U37 904 8 = Xi S 904 8 from by rw [eU37]; exact Xi_ne (by omega))))
    refine y_callV rfl rfl rfl (t_mo_look__p hHU39 fs ns (by first | assumption | exact (VLR_FR hFU39 rfl (by assumption : VLR S _ _))) (by first | assumption | exact JR.i (by first | assumption | exact (JR_FR (FR_e eU39) rfl rfl rfl (JR_FR (FR_e eU38) rfl rfl rfl (JR_FR (FR_e eU37) rfl rfl rfl (by assumption : JR S _ _)))))) _) ?_
    rintro _ _ ⟨rfl, z386, rfl, w386, w385⟩
    show Pl _ _ _ _ _ _ [iv z386] _ _
    have := un_ab z386
    have gb91 := w385
    try rw [FRR hFU39 rfl] at gb91
    try rw [show Xi U39 904 8 = Xi S 904 8 by omega] at gb91
    clear w385
    refine y_istore rfl rfl rfl ?_
    have w388 : Xi U39 904 66 = Xi S 904 66 := (show Xi U39 904 66 = Xi U38 904 66 from by rw [eU39]; exact Xi_ne (by omega)).trans ( (show Xi U38 904 66 = Xi U37 904 66 from by rw [eU38]; exact Xi_ne (by omega)).trans ((show Xi U37 904 66 = Xi S 904 66 from by rw [eU37]; exact Xi_ne (by omega))))
    have w389 : Xi U39 904 69 = Xi S 904 69 := (show Xi U39 904 69 = Xi U38 904 69 from by rw [eU39]; exact Xi_ne (by omega)).trans ( (show Xi U38 904 69 = Xi U37 904 69 from by rw [eU38]; exact Xi_ne (by omega)).trans ((show Xi U37 904 69 = Xi S 904 69 from by rw [eU37]; exact Xi_ne (by omega))))
    have w391 : Xi U39 904 93 = Xi S 904 93 := (show Xi U39 904 93 = Xi U38 904 93 from by rw [eU39]; exact Xi_ne (by omega)).trans ( (show Xi U38 904 93 = Xi U37 904 93 from by rw [eU38]; exact Xi_ne (by omega)).trans ((show Xi U37 904 93 = Xi S 904 93 from by rw [eU37]; exact Xi_ne (by omega))))
    exact Pl_weak (C96 fu (by omega) U39 hHU39 hFU39 (v2) (z386) (by omega) (by omega) (by omega) (by omega) (by omega) (by omega) (by omega) (by omega) (by first | exact I133 | exact JR.i (by first | assumption | exact (JR_FR (FR_e eU39) rfl rfl rfl (JR_FR (FR_e eU38) rfl rfl rfl (JR_FR (FR_e eU37) rfl rfl rfl (by assumption : JR S _ _)))))) (by first | exact I133 | omega) (by omega) (by omega) (by first | exact f96 | exact fun b => (f56 b).1 (by omega)) (by first | exact (fun b => by have q133 := I133 (by omega); rw [show Xi U39 904 8 - (fs : Int) = Xi S 904 8 - fs + 1 by omega]; exact (o96 b).trans (lo_s (by omega) (by omega) (by unfold art7; omega))) | exact (fun b => by rw [show Xi U39 904 8 = Xi S 904 8 by omega]; exact lo_0)) (by first | exact ⟨fun b => gb137.1 (by omega), fun b => gb137.2 (by omega)⟩ | (rw [show Xi U39 904 8 = Xi S 904 8 by omega]; exact ⟨fun b => gb91.1 (by omega), fun b => gb91.2 (by omega)⟩)) (un_a4 _)) (by omega) (And.intro rfl (And.intro rfl (And.intro rfl (And.intro rfl (True.intro)))))
set_option maxRecDepth 100000 in
theorem c13_mo_test__p {S : sS} (hH : RI S) (fs : Nat) (ns : Nat) (isNow : Int) (hisNow : 0 ≤ isNow ∧ isNow ≤ 1) (hvl : VLR S fs ns) (hJR : JR S fs ns) (d : Nat) (fu : Nat) : ∀ (n13 : Nat) (_ : n13 ≤ fu) (v2 : Int) (v3 : Int) (v4 : Int), (-2147483648 ≤ v2 ∧ v2 ≤ 2147483647) → (0 ≤ v3 ∧ v3 ≤ 1) → (-2147483648 ≤ v4 ∧ v4 ≤ 2147483647) → (v2 = Xi S 904 8) → (Xi S 904 65 = 0 → Xi S 904 8 ≤ v4 ∧ v4 ≤ fs + ns) → (Xi S 904 65 = 0 → te8 (tR S fs ns) isNow (Xi S 904 8 - fs) = te8F (tR S fs ns) isNow (5141 - (v4 - fs - (Xi S 904 8 - fs))).toNat (v4 - fs)) → (Xi S 904 65 = 0 → (v3 = 0 → nIz (tR S fs ns) (Xi S 904 8 - fs) (v4 - fs)) ∧ (v3 ≠ 0 → yIs (tR S fs ns) (Xi S 904 8 - fs) (v4 - fs))) → Pl n13 lay0 (d + 5) m_mo_test 13 [(0, .ref 904), (1, iv isNow), (2, iv v2), (3, iv v3), (4, iv v4)] [] S (Q_mo_test__p S fs ns isNow) := by
  have C56 := c56_mo_test__p hH fs ns isNow hisNow hvl hJR d  fu
  have hF : FR md_mo_test__p S S := FR.rf
  have w1 : -2147483648 ≤ Xi S 904 65 ∧ Xi S 904 65 ≤ 2147483647 := Xi_rgI
  have w2 : -2147483648 ≤ Xi S 904 66 ∧ Xi S 904 66 ≤ 2147483647 := Xi_rgI
  have w3 : -2147483648 ≤ Xi S 904 69 ∧ Xi S 904 69 ≤ 2147483647 := Xi_rgI
  have w4 : -2147483648 ≤ Xi S 904 8 ∧ Xi S 904 8 ≤ 2147483647 := Xi_rgI
  have w5 : -2147483648 ≤ Xi S 904 93 ∧ Xi S 904 93 ≤ 2147483647 := Xi_rgI
  have : Xi S 904 65 = 0 → (fs : Int) ≤ Xi S 904 8 ∧ Xi S 904 8 ≤ fs + ns := JR.i (by assumption)
  have hbd := hvl.2.2.2
  intro n13
  induction n13 with
  | zero => intros; exact Pl_0
  | succ n13 ih13 =>
    intro hm13 v2 v3 v4 w392 w393 w394 w395 r13 t13 i13
    refine ys_aload_n rfl rfl ?_
    refine y_aload_n rfl rfl ?_
    refine y_gfr rfl rfl rfl rfl rfl (hH.r 904 4 907 rfl) ?_
    refine y_iload rfl rfl ?_
    refine y_ialoadP (n := 5002) rfl rfl (by unfold rg; omega) (fun w396 w397 => ?_)
    have w398 : -2147483648 ≤ (Xi S 907 ((v4).toNat)) ∧ (Xi S 907 ((v4).toNat)) ≤ 2147483647 := Xi_rgI
    have U22 : Hid (Xi S 904 65 = 0 → (et7 isNow (tR S fs ns (v4 - fs)) → ((Xi S 907 ((v4).toNat)) = 46 ∨ (Xi S 907 ((v4).toNat)) = 59 ∨ (Xi S 907 ((v4).toNat)) = 1 ∨ (isNow = 0 ∧ ((Xi S 907 ((v4).toNat)) = 116 ∨ (Xi S 907 ((v4).toNat)) = 58)))) ∧ (((Xi S 907 ((v4).toNat)) = 46 ∨ (Xi S 907 ((v4).toNat)) = 59 ∨ (Xi S 907 ((v4).toNat)) = 1 ∨ (isNow = 0 ∧ ((Xi S 907 ((v4).toNat)) = 116 ∨ (Xi S 907 ((v4).toNat)) = 58))) → et7 isNow (tR S fs ns (v4 - fs)))) := fun b => et_of (now := isNow) (z := (Xi S 907 ((v4).toNat))) (a := v4) hvl (by omega) (by omega) rfl
    refine y_iload_n rfl rfl ?_
    refine y_callV rfl rfl rfl (t_mo_endsTest__p hH (Xi S 907 ((v4).toNat)) isNow ⟨by omega, by omega⟩ ⟨by omega, by omega⟩ _) ?_
    rintro _ _ ⟨rfl, z399, rfl, w399, e22, f22⟩
    show Pl _ _ _ _ _ _ [iv z399] _ _
    have E22 : Hid (Xi S 904 65 = 0 → (z399 = 0 → ¬ et7 isNow (tR S fs ns (v4 - fs))) ∧ (z399 = 1 → et7 isNow (tR S fs ns (v4 - fs)))) := fun b => ⟨fun q r => absurd ((U22.o b).1 r) (by omega), fun q => (U22.o b).2 (by omega)⟩
    have V22 : Hid (Xi S 904 65 = 0 → z399 = 0 → v4 + 1 ≤ fs + ns) := fun b q => in_u2 hvl (by omega) (by omega) (fun r => ((E22.o b).1 q) (Or.inl r)) (fun r => ((E22.o b).1 q) (Or.inr (Or.inr (Or.inl r))))
    clear e22 f22
    refine y_if_ne rfl rfl (by unfold rg; omega) (fun w400 => ?_) (fun w401 => ?_)
    · exact Pl_weak (C56 (v2) (v3) (by omega) (by omega) (by omega) (fun b => (by have e : te8 (tR S fs ns) isNow (Xi S 904 8 - fs) = v4 - fs := (t13 b).trans (te8_h (by omega) ((E22.o b).2 (by omega))); rw [e]; exact ⟨fun q => nIs_f ((i13 b).1 q), fun q => yIs_f (by omega) ((i13 b).2 q)⟩))) (by omega) (And.intro rfl (And.intro rfl (And.intro rfl (And.intro rfl (True.intro)))))
    · refine y_iload_n rfl rfl ?_
      refine y_if_ne rfl rfl (by unfold rg; omega) (fun w402 => ?_) (fun w403 => ?_)
      · refine y_iconst rfl ?_
        refine y_goto rfl rfl ?_
        refine y_istore_n rfl rfl rfl ?_
        refine y_iinc rfl rfl rfl rfl ?_
        refine y_goto rfl rfl ?_
        exact Pl_weak (ih13 (by omega) (v2) (1) ((v4 + 1)) (by omega) (by omega) (by omega) (by omega) (by first | exact (fun b => ⟨by omega, V22.o b (by omega)⟩) | omega) (by first | exact (fun _ => te8_0) | exact (fun b => by rw [show v4 + 1 - (fs : Int) = v4 - fs + 1 by omega]; exact (t13 b).trans (te8_s (by omega) (by omega) ((E22.o b).1 (by omega))))) (by first | exact (fun _ => ⟨fun _ => nIs_0, fun q => absurd rfl q⟩) | exact (fun b => by rw [show v4 + 1 - (fs : Int) = v4 - fs + 1 by omega]; exact ⟨fun q => by first | exact absurd q (by decide) | exact nIs_s ((i13 b).1 (by omega)) (fun z => absurd z ((T38 b).2 (by omega))), fun q => by first | exact absurd rfl q | exact yIs_s ((i13 b).2 (by omega)) | exact yIs_n (by omega) ((T38 b).1 (by omega))⟩))) (by omega) (And.intro rfl (And.intro rfl (And.intro rfl (And.intro rfl (And.intro rfl (True.intro))))))
      · refine y_aload_n rfl rfl ?_
        refine y_gfr rfl rfl rfl rfl rfl (hH.r 904 4 907 rfl) ?_
        refine y_iload rfl rfl ?_
        refine y_ialoadP (n := 5002) rfl rfl (by unfold rg; omega) (fun w404 w405 => ?_)
        have T38 : Xi S 904 65 = 0 → _ := fun b => tR_k (k := 104) (z := (Xi S 907 ((v4).toNat))) (a := v4) hvl (by omega) (by omega) rfl rfl
        refine y_bipush rfl rfl ?_
        refine y_icmp_ne rfl rfl (by unfold rg; omega) (by unfold rg; omega) (fun w406 => ?_) (fun w407 => ?_)
        · refine y_iconst rfl ?_
          refine y_istore_n rfl rfl rfl ?_
          refine y_iinc rfl rfl rfl rfl ?_
          refine y_goto rfl rfl ?_
          exact Pl_weak (ih13 (by omega) (v2) (0) ((v4 + 1)) (by omega) (by omega) (by omega) (by omega) (by first | exact (fun b => ⟨by omega, V22.o b (by omega)⟩) | omega) (by first | exact (fun _ => te8_0) | exact (fun b => by rw [show v4 + 1 - (fs : Int) = v4 - fs + 1 by omega]; exact (t13 b).trans (te8_s (by omega) (by omega) ((E22.o b).1 (by omega))))) (by first | exact (fun _ => ⟨fun _ => nIs_0, fun q => absurd rfl q⟩) | exact (fun b => by rw [show v4 + 1 - (fs : Int) = v4 - fs + 1 by omega]; exact ⟨fun q => by first | exact absurd q (by decide) | exact nIs_s ((i13 b).1 (by omega)) (fun z => absurd z ((T38 b).2 (by omega))), fun q => by first | exact absurd rfl q | exact yIs_s ((i13 b).2 (by omega)) | exact yIs_n (by omega) ((T38 b).1 (by omega))⟩))) (by omega) (And.intro rfl (And.intro rfl (And.intro rfl (And.intro rfl (And.intro rfl (True.intro))))))
        · refine y_iconst rfl ?_
          refine y_goto rfl rfl ?_
          refine y_istore_n rfl rfl rfl ?_
          refine y_iinc rfl rfl rfl rfl ?_
          refine y_goto rfl rfl ?_
          exact Pl_weak (ih13 (by omega) (v2) (1) ((v4 + 1)) (by omega) (by omega) (by omega) (by omega) (by first | exact (fun b => ⟨by omega, V22.o b (by omega)⟩) | omega) (by first | exact (fun _ => te8_0) | exact (fun b => by rw [show v4 + 1 - (fs : Int) = v4 - fs + 1 by omega]; exact (t13 b).trans (te8_s (by omega) (by omega) ((E22.o b).1 (by omega))))) (by first | exact (fun _ => ⟨fun _ => nIs_0, fun q => absurd rfl q⟩) | exact (fun b => by rw [show v4 + 1 - (fs : Int) = v4 - fs + 1 by omega]; exact ⟨fun q => by first | exact absurd q (by decide) | exact nIs_s ((i13 b).1 (by omega)) (fun z => absurd z ((T38 b).2 (by omega))), fun q => by first | exact absurd rfl q | exact yIs_s ((i13 b).2 (by omega)) | exact yIs_n (by omega) ((T38 b).1 (by omega))⟩))) (by omega) (And.intro rfl (And.intro rfl (And.intro rfl (And.intro rfl (And.intro rfl (True.intro))))))
set_option maxRecDepth 100000 in
theorem t_mo_test__p {S : sS} (hH : RI S) (fs : Nat) (ns : Nat) (isNow : Int) (hisNow : 0 ≤ isNow ∧ isNow ≤ 1) (hvl : VLR S fs ns) (hJR : JR S fs ns) (d : Nat) : Mp lay0 (d + 6) m_mo_test [.ref 904, iv isNow] S (Q_mo_test__p S fs ns isNow) := by
  refine Mp_R rfl rfl (fun fu => ?_)
  have C351 := c351_mo_test__p hH fs ns isNow hisNow hvl hJR d  fu
  have C145 := c145_mo_test__p hH fs ns isNow hisNow hvl hJR d  fu
  have C96 := c96_mo_test__p hH fs ns isNow hisNow hvl hJR d  fu
  have C171 := c171_mo_test__p hH fs ns isNow hisNow hvl hJR d  fu
  have C244 := c244_mo_test__p hH fs ns isNow hisNow hvl hJR d  fu
  have C203 := c203_mo_test__p hH fs ns isNow hisNow hvl hJR d  fu
  have C193 := c193_mo_test__p hH fs ns isNow hisNow hvl hJR d  fu
  have C56 := c56_mo_test__p hH fs ns isNow hisNow hvl hJR d  fu
  have C13 := c13_mo_test__p hH fs ns isNow hisNow hvl hJR d  fu
  have hF : FR md_mo_test__p S S := FR.rf
  have w1 : -2147483648 ≤ Xi S 904 65 ∧ Xi S 904 65 ≤ 2147483647 := Xi_rgI
  have w2 : -2147483648 ≤ Xi S 904 66 ∧ Xi S 904 66 ≤ 2147483647 := Xi_rgI
  have w3 : -2147483648 ≤ Xi S 904 69 ∧ Xi S 904 69 ≤ 2147483647 := Xi_rgI
  have w4 : -2147483648 ≤ Xi S 904 8 ∧ Xi S 904 8 ≤ 2147483647 := Xi_rgI
  have w5 : -2147483648 ≤ Xi S 904 93 ∧ Xi S 904 93 ≤ 2147483647 := Xi_rgI
  have : Xi S 904 65 = 0 → (fs : Int) ≤ Xi S 904 8 ∧ Xi S 904 8 ≤ fs + ns := JR.i (by assumption)
  have hbd := hvl.2.2.2
  refine y_aload_n rfl rfl ?_
  refine y_gfi rfl rfl rfl rfl rfl ?_
  refine y_istore_n rfl rfl rfl ?_
  refine y_iconst rfl ?_
  refine y_istore_n rfl rfl rfl ?_
  refine y_aload_n rfl rfl ?_
  refine y_gfi rfl rfl rfl rfl rfl ?_
  refine y_istore rfl rfl rfl ?_
  exact Pl_weak (C13 fu (by omega) ((Xi S 904 8)) (0) ((Xi S 904 8)) (by omega) (by omega) (by omega) (by omega) (by first | exact (fun b => ⟨by omega, V22.o b (by omega)⟩) | omega) (by first | exact (fun _ => te8_0) | exact (fun b => by rw [show v4 + 1 - (fs : Int) = v4 - fs + 1 by omega]; exact (t13 b).trans (te8_s (by omega) (by omega) ((E22.o b).1 (by omega))))) (by first | exact (fun _ => ⟨fun _ => nIs_0, fun q => absurd rfl q⟩) | exact (fun b => by rw [show v4 + 1 - (fs : Int) = v4 - fs + 1 by omega]; exact ⟨fun q => by first | exact absurd q (by decide) | exact nIs_s ((i13 b).1 (by omega)) (fun z => absurd z ((T38 b).2 (by omega))), fun q => by first | exact absurd rfl q | exact yIs_s ((i13 b).2 (by omega)) | exact yIs_n (by omega) ((T38 b).1 (by omega))⟩))) (by omega) (And.intro rfl (And.intro rfl (And.intro rfl (And.intro rfl (And.intro rfl (True.intro))))))
def md_mo_tests__p : List rec := [(904, 905, 8, 9), (904, 905, 65, 66), (904, 905, 66, 67), (904, 905, 69, 70), (904, 905, 78, 79), (904, 905, 93, 94), (904, 905, 94, 95), (904, 905, 99, 100), (904, 905, 100, 101), (904, 905, 101, 102), (950, 951, 0, 100000), (951, 952, 0, 100000), (952, 953, 0, 100000), (953, 954, 0, 100000), (954, 955, 0, 100000), (955, 956, 0, 100000), (956, 957, 0, 100000), (957, 958, 0, 100000), (958, 959, 0, 100000), (959, 960, 0, 100000), (960, 961, 0, 100000), (961, 962, 0, 100000), (962, 963, 0, 100000)]
abbrev Q_mo_tests__p (S : sS) (fs : Nat) (ns : Nat) : pst := fun r S1 => RI S1 ∧ FR md_mo_tests__p S S1 ∧ (r = none ∧ (gSq (cu S fs) (gTsR (tR S fs ns)) = cu S1 fs) ∧ (Xi S 904 69 ≤ Xi S1 904 69) ∧ (Xi S1 904 65 = 0 → Xi S 904 65 = 0 ∧ Xi S 904 8 ≤ Xi S1 904 8) ∧ (JR S1 fs ns))
set_option maxRecDepth 100000 in
theorem t_mo_tests__p {S : sS} (hH : RI S) (fs : Nat) (ns : Nat) (hvl : VLR S fs ns) (hJR : JR S fs ns) (d : Nat) : Mp lay0 (d + 7) m_mo_tests [.ref 904] S (Q_mo_tests__p S fs ns) := by
  refine Mp_R rfl rfl (fun fu => ?_)
  have hF : FR md_mo_tests__p S S := FR.rf
  have w1 : -2147483648 ≤ Xi S 904 65 ∧ Xi S 904 65 ≤ 2147483647 := Xi_rgI
  have w2 : -2147483648 ≤ Xi S 904 66 ∧ Xi S 904 66 ≤ 2147483647 := Xi_rgI
  have w3 : -2147483648 ≤ Xi S 904 69 ∧ Xi S 904 69 ≤ 2147483647 := Xi_rgI
  have w4 : -2147483648 ≤ Xi S 904 8 ∧ Xi S 904 8 ≤ 2147483647 := Xi_rgI
  have w5 : -2147483648 ≤ Xi S 904 93 ∧ Xi S 904 93 ≤ 2147483647 := Xi_rgI
  have : Xi S 904 65 = 0 → (fs : Int) ≤ Xi S 904 8 ∧ Xi S 904 8 ≤ fs + ns := JR.i (by assumption)
  have hbd := hvl.2.2.2
  have C5 : ∀ (n5 : Nat) (_ : n5 ≤ fu) (T1 : sS) (_ : RI T1) (_ : FR md_mo_tests__p S T1), (JR T1 fs ns) → (Xi T1 904 65 = 0 → (fs : Int) ≤ Xi T1 904 8 ∧ Xi T1 904 8 ≤ fs + ns) → (Xi T1 904 65 = 0 → Xi S 904 65 = 0 ∧ Xi S 904 8 ≤ Xi T1 904 8) → (Xi S 904 69 ≤ Xi T1 904 69) → (FUL (gSq (cu S fs) (gTsR (tR S fs ns))) (gTsn7 (tR S fs ns)) ns T1 fs) → Pl n5 lay0 (d + 6) m_mo_tests 5 [(0, .ref 904)] [] T1 (Q_mo_tests__p S fs ns) := by
    intro n5
    induction n5 with
    | zero => intros; exact Pl_0
    | succ n5 ih5 =>
      intro hm5 T1 hHT1 hFT1 J5 j5 w6 w7 U5
      have w8 : -2147483648 ≤ Xi T1 904 65 ∧ Xi T1 904 65 ≤ 2147483647 := Xi_rgI
      have w9 : -2147483648 ≤ Xi T1 904 66 ∧ Xi T1 904 66 ≤ 2147483647 := Xi_rgI
      have w10 : -2147483648 ≤ Xi T1 904 69 ∧ Xi T1 904 69 ≤ 2147483647 := Xi_rgI
      have w11 : -2147483648 ≤ Xi T1 904 8 ∧ Xi T1 904 8 ≤ 2147483647 := Xi_rgI
      have w12 : -2147483648 ≤ Xi T1 904 93 ∧ Xi T1 904 93 ≤ 2147483647 := Xi_rgI
      refine ys_aload_n rfl rfl ?_
      refine y_bipush rfl rfl ?_
      refine y_callV rfl rfl rfl (t_mo_isNext__p hHT1 fs ns 116 ⟨by omega, by omega⟩ (by first | assumption | exact (VLR_FR hFT1 rfl (by assumption : VLR S _ _))) (by first | assumption | exact JR.i (by first | assumption | exact (by assumption : JR T1 _ _))) (rfl) _) ?_
      rintro _ _ ⟨rfl, z14, rfl, w14, w13⟩
      show Pl _ _ _ _ _ _ [iv z14] _ _
      have gb8 := w13
      try rw [FRR hFT1 rfl] at gb8
      try rw [show un7 116 = 16 from rfl] at gb8
      clear w13
      refine y_if_eq rfl rfl (by unfold rg; omega) (fun w15 => ?_) (fun w16 => ?_)
      · refine y_aload_n rfl rfl ?_
        refine y_aload_n rfl rfl ?_
        refine y_gfi rfl rfl rfl rfl rfl ?_
        refine y_pfi rfl rfl rfl rfl ?_
        obtain ⟨U2, eU2⟩ : ∃ T : sS, T = uI T1 904 94 (Int32.ofInt (Xi T1 904 93)) := ⟨_, rfl⟩
        rw [← eU2]
        have hHU2 : RI U2 := by rw [eU2]; exact RI_w hHT1
        have hFU2 : FR md_mo_tests__p S U2 := by rw [eU2]; exact FR.wI hFT1 (mdf_i (r := (904, 905, 94, 95)) (List.mem_of_getElem? (i := 6) rfl) (inR_i (by omega) (by omega) (by omega) (by omega)))
        have w17 : Xi U2 904 94 = (Xi T1 904 93) := by rw [eU2]; exact Xi_same (by unfold rg; omega)
        refine y_return rfl rfl ?_
        have w18 : Xi U2 904 65 = Xi T1 904 65 := (show Xi U2 904 65 = Xi T1 904 65 from by rw [eU2]; exact Xi_ne (by omega))
        have w19 : Xi U2 904 66 = Xi T1 904 66 := (show Xi U2 904 66 = Xi T1 904 66 from by rw [eU2]; exact Xi_ne (by omega))
        have w20 : Xi U2 904 69 = Xi T1 904 69 := (show Xi U2 904 69 = Xi T1 904 69 from by rw [eU2]; exact Xi_ne (by omega))
        have w21 : Xi U2 904 8 = Xi T1 904 8 := (show Xi U2 904 8 = Xi T1 904 8 from by rw [eU2]; exact Xi_ne (by omega))
        have w22 : Xi U2 904 93 = Xi T1 904 93 := (show Xi U2 904 93 = Xi T1 904 93 from by rw [eU2]; exact Xi_ne (by omega))
        exact ⟨hHU2, hFU2, rfl, ((FU_e U5 (by omega) (fun b k => gTsn_0 (by omega))).trans (cu_eq (by omega) (by omega) (by omega)).symm), (by omega), (by omega), (by first | assumption | exact (JR_FR (FR_e eU2) rfl rfl rfl (by assumption : JR T1 _ _)))⟩
      · refine y_aload_n rfl rfl ?_
        refine y_dup rfl rfl ?_
        refine y_gfi rfl rfl rfl rfl rfl ?_
        refine y_iconst rfl ?_
        refine y_iadd rfl ?_
        refine y_pfi rfl rfl rfl rfl ?_
        obtain ⟨U3, eU3⟩ : ∃ T : sS, T = uI T1 904 8 (Int32.ofInt ((Xi T1 904 8) + 1)) := ⟨_, rfl⟩
        rw [← eU3]
        have hHU3 : RI U3 := by rw [eU3]; exact RI_w hHT1
        have hFU3 : FR md_mo_tests__p S U3 := by rw [eU3]; exact FR.wI hFT1 (mdf_i (r := (904, 905, 8, 9)) (List.mem_of_getElem? (i := 0) rfl) (inR_i (by omega) (by omega) (by omega) (by omega)))
        have w23 : Xi U3 904 8 = ((Xi T1 904 8) + 1) := by rw [eU3]; exact Xi_same (by unfold rg; omega)
        have b21_ : Xi U3 904 65 = Xi T1 904 65 := (by rw [eU3, Xi_ne (by omega)]); have J21 : JR U3 fs ns := jr_up (by assumption : JR T1 _ _) ((VLR_FR hFT1 rfl (by assumption : VLR S _ _))) eU3 (by omega) (fun b => by first | omega | (rw [FRR hFT1 rfl]; omega) | (rw [FRR hFT1 rfl, show Xi T1 904 8 = Xi S 904 8 by omega]; omega))
        have : Xi U3 904 65 = 0 → (fs : Int) ≤ Xi U3 904 8 ∧ Xi U3 904 8 ≤ fs + ns := JR.i (by assumption)
        refine y_aload_n rfl rfl ?_
        refine y_iconst rfl ?_
        have w24 : Xi U3 904 65 = Xi T1 904 65 := (show Xi U3 904 65 = Xi T1 904 65 from by rw [eU3]; exact Xi_ne (by omega))
        have w26 : Xi U3 904 69 = Xi T1 904 69 := (show Xi U3 904 69 = Xi T1 904 69 from by rw [eU3]; exact Xi_ne (by omega))
        have w27 : Xi U3 904 93 = Xi T1 904 93 := (show Xi U3 904 93 = Xi T1 904 93 from by rw [eU3]; exact Xi_ne (by omega))
        refine y_callV rfl rfl rfl (t_mo_test__p hHU3 fs ns 0 ⟨by omega, by omega⟩ (by first | assumption | exact (VLR_FR hFU3 rfl (by assumption : VLR S _ _))) (by first | assumption | exact (by assumption : JR U3 _ _)) _) ?_
        rintro _ T4 ⟨hHT4, w34, rfl, w28, w29, w30, w31, w32⟩
        have hFT4 : FR md_mo_tests__p S T4 := FR.tr hFU3 w34 rfl
        show Pl _ _ _ _ _ _ [] _ _
        have : Xi T4 904 65 = 0 → (fs : Int) ≤ Xi T4 904 8 ∧ Xi T4 904 8 ≤ fs + ns := JR.i (by assumption)
        have gp26 := w28
        try rw [FRR hFU3 rfl] at gp26
        clear w28
        refine y_goto rfl rfl ?_
        exact Pl_weak (ih5 (by omega) T4 hHT4 hFT4  (by first | assumption | exact (by assumption : JR T4 _ _)) (by omega) (by omega) (by omega) (by first | exact FU_0 (by have t := cu_ch gp2 (rfl : gSq (cu T4 fs) (gTsn7 (tR S fs ns) 5200) = _); exact t) (by omega) | exact FU_s U5 (by omega) (by omega) (fun k => by rw [gTsn_1 (by omega), cu_go gp26 (by omega) (by omega)]) (by omega))) (by omega) (And.intro rfl (True.intro))
  refine y_aload_n rfl rfl ?_
  refine y_iconst rfl ?_
  refine y_callV rfl rfl rfl (t_mo_test__p hH fs ns 0 ⟨by omega, by omega⟩ (by first | assumption | exact (VLR_FR hF rfl (by assumption : VLR S _ _))) (by first | assumption | exact (by assumption : JR S _ _)) _) ?_
  rintro _ T5 ⟨hHT5, w41, rfl, w35, w36, w37, w38, w39⟩
  have hFT5 : FR md_mo_tests__p S T5 := FR.tr hF w41 rfl
  show Pl _ _ _ _ _ _ [] _ _
  have : Xi T5 904 65 = 0 → (fs : Int) ≤ Xi T5 904 8 ∧ Xi T5 904 8 ≤ fs + ns := JR.i (by assumption)
  have gp2 := w35
  clear w35
  exact Pl_weak (C5 fu (by omega) T5 hHT5 hFT5  (by first | assumption | exact (by assumption : JR T5 _ _)) (by omega) (by omega) (by omega) (by first | exact FU_0 (by have t := cu_ch gp2 (rfl : gSq (cu T5 fs) (gTsn7 (tR S fs ns) 5200) = _); exact t) (by omega) | exact FU_s U5 (by omega) (by omega) (fun k => by rw [gTsn_1 (by omega), cu_go gp26 (by omega) (by omega)]) (by omega))) (by omega) (And.intro rfl (True.intro))
def md_mo_partTwo__p : List rec := [(904, 905, 8, 9), (904, 905, 65, 66), (904, 905, 66, 67), (904, 905, 69, 70), (904, 905, 78, 79), (904, 905, 93, 94), (904, 905, 94, 95), (904, 905, 99, 100), (904, 905, 100, 101), (904, 905, 101, 102), (950, 951, 0, 100000), (951, 952, 0, 100000), (952, 953, 0, 100000), (953, 954, 0, 100000), (954, 955, 0, 100000), (955, 956, 0, 100000), (956, 957, 0, 100000), (957, 958, 0, 100000), (958, 959, 0, 100000), (959, 960, 0, 100000), (960, 961, 0, 100000), (961, 962, 0, 100000), (962, 963, 0, 100000)]
abbrev Q_mo_partTwo__p (S : sS) (fs : Nat) (ns : Nat) : pst := fun r S1 => RI S1 ∧ FR md_mo_partTwo__p S S1 ∧ (r = none ∧ (gO2 (tR S fs ns) = cu S1 fs) ∧ (Xi S 904 69 ≤ Xi S1 904 69) ∧ (Xi S1 904 65 = 0 → Xi S 904 65 = 0 ∧ Xi S 904 8 ≤ Xi S1 904 8) ∧ (JR S1 fs ns))
set_option maxRecDepth 100000 in
theorem t_mo_partTwo__p {S : sS} (hH : RI S) (fs : Nat) (ns : Nat) (hvl : VLR S fs ns) (hJR : JR S fs ns) (hb : Xi S 904 65 = 0) (h0 : Xi S 904 8 = fs) (hk : tR S fs ns 0 ≠ 100 ∧ tR S fs ns 0 ≠ 103 ∧ tR S fs ns 0 ≠ 107) (d : Nat) : Mp lay0 (d + 8) m_mo_partTwo [.ref 904] S (Q_mo_partTwo__p S fs ns) := by
  refine Mp_R rfl rfl (fun fu => ?_)
  have hF : FR md_mo_partTwo__p S S := FR.rf
  have w1 : -2147483648 ≤ Xi S 904 65 ∧ Xi S 904 65 ≤ 2147483647 := Xi_rgI
  have w2 : -2147483648 ≤ Xi S 904 66 ∧ Xi S 904 66 ≤ 2147483647 := Xi_rgI
  have w3 : -2147483648 ≤ Xi S 904 69 ∧ Xi S 904 69 ≤ 2147483647 := Xi_rgI
  have w4 : -2147483648 ≤ Xi S 904 8 ∧ Xi S 904 8 ≤ 2147483647 := Xi_rgI
  have w5 : -2147483648 ≤ Xi S 904 93 ∧ Xi S 904 93 ≤ 2147483647 := Xi_rgI
  have : Xi S 904 65 = 0 → (fs : Int) ≤ Xi S 904 8 ∧ Xi S 904 8 ≤ fs + ns := JR.i (by assumption)
  have hbd := hvl.2.2.2
  refine y_aload_n rfl rfl ?_
  refine y_dup rfl rfl ?_
  refine y_gfi rfl rfl rfl rfl rfl ?_
  refine y_iconst rfl ?_
  refine y_iadd rfl ?_
  refine y_pfi rfl rfl rfl rfl ?_
  obtain ⟨U1, eU1⟩ : ∃ T : sS, T = uI S 904 8 (Int32.ofInt ((Xi S 904 8) + 1)) := ⟨_, rfl⟩
  rw [← eU1]
  have hHU1 : RI U1 := by rw [eU1]; exact RI_w hH
  have hFU1 : FR md_mo_partTwo__p S U1 := by rw [eU1]; exact FR.wI hF (mdf_i (r := (904, 905, 8, 9)) (List.mem_of_getElem? (i := 0) rfl) (inR_i (by omega) (by omega) (by omega) (by omega)))
  have w6 : Xi U1 904 8 = ((Xi S 904 8) + 1) := by rw [eU1]; exact Xi_same (by unfold rg; omega)
  have b7_ : Xi U1 904 65 = Xi S 904 65 := (by rw [eU1, Xi_ne (by omega)]); have J7 : JR U1 fs ns := jr_up (by assumption : JR S _ _) (VLR_FR hF rfl (by assumption : VLR S _ _)) eU1 (by omega) (fun b => by rw [FRR hF rfl, show Xi S 904 8 - (fs : Int) = 0 by omega]; omega)
  have : Xi U1 904 65 = 0 → (fs : Int) ≤ Xi U1 904 8 ∧ Xi U1 904 8 ≤ fs + ns := JR.i (by assumption)
  refine y_aload_n rfl rfl ?_
  refine y_bipush rfl rfl ?_
  have w7 : Xi U1 904 65 = Xi S 904 65 := (show Xi U1 904 65 = Xi S 904 65 from by rw [eU1]; exact Xi_ne (by omega))
  refine y_callV rfl rfl rfl (t_mo_take__p hHU1 fs ns 58 ⟨by omega, by omega⟩ (by first | assumption | exact (VLR_FR hFU1 rfl (by assumption : VLR S _ _))) (by first | assumption | exact (by assumption : JR U1 _ _)) (rfl) (by decide) _) ?_
  rintro _ T2 ⟨hHT2, w15, rfl, w11, w12, w13⟩
  have hFT2 : FR md_mo_partTwo__p S T2 := FR.tr hFU1 w15 rfl
  show Pl _ _ _ _ _ _ [] _ _
  have : Xi T2 904 65 = 0 → (fs : Int) ≤ Xi T2 904 8 ∧ Xi T2 904 8 ≤ fs + ns := JR.i (by assumption)
  have gp13 := w11
  try rw [FRR hFU1 rfl] at gp13
  try rw [show un7 58 = 106 from rfl] at gp13
  clear w11
  refine y_aload_n rfl rfl ?_
  refine y_callV rfl rfl rfl (t_mo_art__p hHT2 fs ns (by first | assumption | exact (VLR_FR hFT2 rfl (by assumption : VLR S _ _))) (by first | assumption | exact (by assumption : JR T2 _ _)) _) ?_
  rintro _ T3 ⟨hHT3, w22, rfl, w18, w19, w20⟩
  have hFT3 : FR md_mo_partTwo__p S T3 := FR.tr hFT2 w22 rfl
  show Pl _ _ _ _ _ _ [] _ _
  have : Xi T3 904 65 = 0 → (fs : Int) ≤ Xi T3 904 8 ∧ Xi T3 904 8 ≤ fs + ns := JR.i (by assumption)
  have gp17 := w18
  try rw [FRR hFT2 rfl] at gp17
  clear w18
  refine y_aload_n rfl rfl ?_
  have w23 : Xi T3 904 69 = Xi S 904 69 := (show Xi T3 904 69 = Xi T2 904 69 from w22.x _ _ rfl).trans ( (show Xi T2 904 69 = Xi U1 904 69 from w15.x _ _ rfl).trans ((show Xi U1 904 69 = Xi S 904 69 from by rw [eU1]; exact Xi_ne (by omega))))
  refine y_callV rfl rfl rfl (t_mo_run__p hHT3 fs ns (by first | assumption | exact (VLR_FR hFT3 rfl (by assumption : VLR S _ _))) (by first | assumption | exact (by assumption : JR T3 _ _)) _) ?_
  rintro _ T4 ⟨hHT4, w32, z31, rfl, w31, w25, w26, w27, w28, w29, w30⟩
  have hFT4 : FR md_mo_partTwo__p S T4 := FR.tr hFT3 w32 rfl
  show Pl _ _ _ _ _ _ [iv z31] _ _
  have : Xi T4 904 65 = 0 → (fs : Int) ≤ Xi T4 904 8 ∧ Xi T4 904 8 ≤ fs + ns := JR.i (by assumption)
  have gp21 := w25
  try rw [FRR hFT3 rfl] at gp21
  clear w25
  refine y_pop rfl rfl ?_
  refine y_aload_n rfl rfl ?_
  refine y_bipush rfl rfl ?_
  refine y_callV rfl rfl rfl (t_mo_take__p hHT4 fs ns 104 ⟨by omega, by omega⟩ (by first | assumption | exact (VLR_FR hFT4 rfl (by assumption : VLR S _ _))) (by first | assumption | exact (by assumption : JR T4 _ _)) (rfl) (by decide) _) ?_
  rintro _ T5 ⟨hHT5, w38, rfl, w34, w35, w36⟩
  have hFT5 : FR md_mo_partTwo__p S T5 := FR.tr hFT4 w38 rfl
  show Pl _ _ _ _ _ _ [] _ _
  have : Xi T5 904 65 = 0 → (fs : Int) ≤ Xi T5 904 8 ∧ Xi T5 904 8 ≤ fs + ns := JR.i (by assumption)
  have gp28 := w34
  try rw [FRR hFT4 rfl] at gp28
  try rw [show un7 104 = 4 from rfl] at gp28
  clear w34
  refine y_aload_n rfl rfl ?_
  have w39 : Xi T5 904 69 = Xi T4 904 69 := (show Xi T5 904 69 = Xi T4 904 69 from w38.x _ _ rfl)
  refine y_callV rfl rfl rfl (t_mo_run__p hHT5 fs ns (by first | assumption | exact (VLR_FR hFT5 rfl (by assumption : VLR S _ _))) (by first | assumption | exact (by assumption : JR T5 _ _)) _) ?_
  rintro _ T6 ⟨hHT6, w48, z47, rfl, w47, w41, w42, w43, w44, w45, w46⟩
  have hFT6 : FR md_mo_partTwo__p S T6 := FR.tr hFT5 w48 rfl
  show Pl _ _ _ _ _ _ [iv z47] _ _
  have : Xi T6 904 65 = 0 → (fs : Int) ≤ Xi T6 904 8 ∧ Xi T6 904 8 ≤ fs + ns := JR.i (by assumption)
  have gp32 := w41
  try rw [FRR hFT5 rfl] at gp32
  clear w41
  refine y_pop rfl rfl ?_
  refine y_aload_n rfl rfl ?_
  refine y_sipush rfl rfl ?_
  refine y_callV rfl rfl rfl (t_mo_take__p hHT6 fs ns 136 ⟨by omega, by omega⟩ (by first | assumption | exact (VLR_FR hFT6 rfl (by assumption : VLR S _ _))) (by first | assumption | exact (by assumption : JR T6 _ _)) (rfl) (by decide) _) ?_
  rintro _ T7 ⟨hHT7, w54, rfl, w50, w51, w52⟩
  have hFT7 : FR md_mo_partTwo__p S T7 := FR.tr hFT6 w54 rfl
  show Pl _ _ _ _ _ _ [] _ _
  have : Xi T7 904 65 = 0 → (fs : Int) ≤ Xi T7 904 8 ∧ Xi T7 904 8 ≤ fs + ns := JR.i (by assumption)
  have gp40 := w50
  try rw [FRR hFT6 rfl] at gp40
  try rw [show un7 136 = 36 from rfl] at gp40
  clear w50
  refine y_aload_n rfl rfl ?_
  have w55 : Xi T7 904 69 = Xi T6 904 69 := (show Xi T7 904 69 = Xi T6 904 69 from w54.x _ _ rfl)
  refine y_callV rfl rfl rfl (t_mo_tests__p hHT7 fs ns (by first | assumption | exact (VLR_FR hFT7 rfl (by assumption : VLR S _ _))) (by first | assumption | exact (by assumption : JR T7 _ _)) _) ?_
  rintro _ T8 ⟨hHT8, w62, rfl, w57, w58, w59, w60⟩
  have hFT8 : FR md_mo_partTwo__p S T8 := FR.tr hFT7 w62 rfl
  show Pl _ _ _ _ _ _ [] _ _
  have : Xi T8 904 65 = 0 → (fs : Int) ≤ Xi T8 904 8 ∧ Xi T8 904 8 ≤ fs + ns := JR.i (by assumption)
  have gp44 := w57
  try rw [FRR hFT7 rfl] at gp44
  clear w57
  refine y_return rfl rfl ?_
  exact ⟨hHT8, hFT8, rfl, (by unfold gO2; rw [cu_go gp13 (by omega) (by omega), gp17, gp21, gp28, gp32, gp40, gp44]), (by omega), (by omega), (by first | assumption | exact (by assumption : JR T8 _ _))⟩
def md_mo_take__q : List rec := [(904, 905, 8, 9), (904, 905, 65, 66), (904, 905, 66, 67)]
abbrev Q_mo_take__q (S : sS) (fs : Nat) (ns : Nat) (k : Int) : pst := fun r S1 => RI S1 ∧ FR md_mo_take__q S S1 ∧ (r = none ∧ (gSq (cu S fs) (gT (tR S fs ns) 103) = cu S1 fs) ∧ (Xi S1 904 65 = 0 → Xi S 904 65 = 0 ∧ Xi S1 904 8 = Xi S 904 8 + 1 ∧ tR S fs ns (Xi S 904 8 - fs) = 103))
set_option maxRecDepth 100000 in
theorem t_mo_take__q {S : sS} (hH : RI S) (fs : Nat) (ns : Nat) (k : Int) (hk : 2 ≤ k ∧ k ≤ 154) (hvl : VLR S fs ns) (hin : INR S fs ns) (hk : k = 46) (d : Nat) : Mp lay0 (d + 2) m_mo_take [.ref 904, iv k] S (Q_mo_take__q S fs ns k) := by
  refine Mp_R rfl rfl (fun fu => ?_)
  have hF : FR md_mo_take__q S S := FR.rf
  have w1 : -2147483648 ≤ Xi S 904 65 ∧ Xi S 904 65 ≤ 2147483647 := Xi_rgI
  have w2 : -2147483648 ≤ Xi S 904 66 ∧ Xi S 904 66 ≤ 2147483647 := Xi_rgI
  have w3 : -2147483648 ≤ Xi S 904 8 ∧ Xi S 904 8 ≤ 2147483647 := Xi_rgI
  have hji : Xi S 904 65 = 0 → (fs : Int) ≤ Xi S 904 8 ∧ Xi S 904 8 ≤ fs + ns := hin
  have hbd := hvl.2.2.2
  have hu46 : un7 k = 103 := by rw [hk]; rfl
  refine y_aload_n rfl rfl ?_
  refine y_iload_n rfl rfl ?_
  refine y_callV rfl rfl rfl (t_mo_isNext__p hH fs ns k ⟨by omega, by omega⟩ (by first | assumption | exact (VLR_FR hF rfl (by assumption : VLR S _ _))) (by first | assumption | exact JR.i (by first | assumption | exact (by assumption : JR S _ _))) (by rw [hk]; rfl) _) ?_
  rintro _ _ ⟨rfl, z5, rfl, w5, w4⟩
  show Pl _ _ _ _ _ _ [iv z5] _ _
  have gb2 := w4
  clear w4
  refine y_if_eq rfl rfl (by unfold rg; omega) (fun w6 => ?_) (fun w7 => ?_)
  · refine y_aload_n rfl rfl ?_
    refine y_callV rfl rfl rfl (t_mo_odd__p hH fs ns _) ?_
    rintro _ T1 ⟨hHT1, w12, rfl, w8, w9, w10⟩
    have hFT1 : FR md_mo_take__q S T1 := FR.tr hF w12 rfl
    show Pl _ _ _ _ _ _ [] _ _
    have gp22 := w8
    clear w8
    refine y_return rfl rfl ?_
    have w13 : Xi T1 904 8 = Xi S 904 8 := (show Xi T1 904 8 = Xi S 904 8 from w12.x _ _ rfl)
    exact ⟨hHT1, hFT1, rfl, (by first | exact cu_st (by omega) (by omega) (by assumption) (by rw [gT_1 (by omega)]; exact pe rfl (by omega)) | exact cu_od gp22 (fun b => gT_0 (by omega))), (by omega)⟩
  · refine y_aload_n rfl rfl ?_
    refine y_dup rfl rfl ?_
    refine y_gfi rfl rfl rfl rfl rfl ?_
    refine y_iconst rfl ?_
    refine y_iadd rfl ?_
    refine y_pfi rfl rfl rfl rfl ?_
    obtain ⟨U2, eU2⟩ : ∃ T : sS, T = uI S 904 8 (Int32.ofInt ((Xi S 904 8) + 1)) := ⟨_, rfl⟩
    rw [← eU2]
    have hHU2 : RI U2 := by rw [eU2]; exact RI_w hH
    have hFU2 : FR md_mo_take__q S U2 := by rw [eU2]; exact FR.wI hF (mdf_i (r := (904, 905, 8, 9)) (List.mem_of_getElem? (i := 0) rfl) (inR_i (by omega) (by omega) (by omega) (by omega)))
    have w14 : Xi U2 904 8 = ((Xi S 904 8) + 1) := by rw [eU2]; exact Xi_same (by unfold rg; omega)
    refine y_goto rfl rfl ?_
    refine y_return rfl rfl ?_
    have w15 : Xi U2 904 65 = Xi S 904 65 := (show Xi U2 904 65 = Xi S 904 65 from by rw [eU2]; exact Xi_ne (by omega))
    have w16 : Xi U2 904 66 = Xi S 904 66 := (show Xi U2 904 66 = Xi S 904 66 from by rw [eU2]; exact Xi_ne (by omega))
    exact ⟨hHU2, hFU2, rfl, (by first | exact cu_st (by omega) (by omega) (by assumption) (by rw [gT_1 (by omega)]; exact pe rfl (by omega)) | exact cu_od gp22 (fun b => gT_0 (by omega))), (by omega)⟩

