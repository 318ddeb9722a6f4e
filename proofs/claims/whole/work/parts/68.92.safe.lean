/-! SAFETY of methods: printed by wip/safe (vc.py, decl.py) -/
def md_mo_testedWhat__2 : List rec := [(904, 905, 8, 9), (904, 905, 65, 66), (904, 905, 66, 67), (904, 905, 69, 70), (904, 905, 78, 79), (950, 951, 0, 100000), (951, 952, 0, 100000), (952, 953, 0, 100000), (953, 954, 0, 100000), (957, 958, 0, 100000), (960, 961, 0, 100000)]
abbrev Q_mo_testedWhat__2 (S : sS) (n : Nat) (c : Nat) (isNow : Int) : pst := fun r S1 => HI S1 ∧ FR md_mo_testedWhat__2 S S1 ∧ (r = none ∧ (AT S1 n c) ∧ (Xi S 904 8 ≤ Xi S1 904 8 ∧ (Xi S1 904 8 ≤ n ∨ Xi S1 904 8 = Xi S 904 8)) ∧ (RNV S1 n) ∧ (Xi S1 904 65 = 0 → Xi S 904 65 = 0) ∧ (Xi S 904 69 ≤ Xi S1 904 69) ∧ (KT S1 S (Xi S 904 93)) ∧ (Xi S1 904 65 = 0 → Xi S1 952 (Xi S 904 93).toNat ≤ 2 ∧ Xi S1 957 (Xi S 904 93).toNat ≤ n ∧ (Xi S1 952 (Xi S 904 93).toNat = 0 → Xi S 907 (Xi S1 957 (Xi S 904 93).toNat).toNat ≠ 4 → Xi S 907 (Xi S1 957 (Xi S 904 93).toNat).toNat ≠ 5 → 0 ≤ Xi S1 960 (Xi S 904 93).toNat ∧ Xi S1 960 (Xi S 904 93).toNat < Xi S1 904 69)) ∧ (Xi S1 904 65 = 0 → isNow = 1 → Xi S1 952 (Xi S 904 93).toNat = 0) ∧ (BDA S1))
set_option maxRecDepth 100000 in
set_option maxHeartbeats 4000000 in
theorem c147_mo_testedWhat__2 {S : sS} (hH : HI S) (n : Nat) (c : Nat) (isNow : Int) (hisNow : 0 ≤ isNow ∧ isNow ≤ 1) (hT : TK S n) (hA : AT S n c) (hv : RNV S n) (tc : Xi S 904 93 ≤ 1699) (hBDA : BDA S) (d : Nat) : ∀  (T1 : sS) (_ : HI T1) (_ : FR md_mo_testedWhat__2 S T1), (AT T1 n c) → (RNV T1 n) → (Xi T1 904 65 = Xi S 904 65) → (Xi T1 904 69 = Xi S 904 69) → (Xi T1 904 93 = Xi S 904 93) → (Xi S 904 8 ≤ Xi T1 904 8 ∧ (Xi T1 904 8 ≤ n ∨ Xi T1 904 8 = Xi S 904 8)) → (Xi T1 952 (Xi S 904 93).toNat = 0) → (KT T1 S (Xi S 904 93)) → (BDA T1) → Rl lay0 (d + 3) m_mo_testedWhat 147 [(0, .ref 904)] [] T1 (Q_mo_testedWhat__2 S n c isNow) := by
  have hF : FR md_mo_testedWhat__2 S S := FR.rf
  have w1 : 0 ≤ Xi S 904 65 ∧ Xi S 904 65 ≤ 1 := hH.c _ _
  have w2 : 0 ≤ Xi S 904 69 ∧ Xi S 904 69 ≤ 2600 := hH.c _ _
  have w3 : 0 ≤ Xi S 904 8 ∧ Xi S 904 8 ≤ 5010 := hH.c _ _
  have w4 : 0 ≤ Xi S 904 93 ∧ Xi S 904 93 ≤ 1700 := hH.c _ _
  have hn5 := hT.1
  have hat := hA
  have h8 : 0 ≤ Xi S 904 8 ∧ Xi S 904 8 ≤ 5010 := hH.c _ _
  have h69 : 0 ≤ Xi S 904 69 ∧ Xi S 904 69 ≤ 2600 := hH.c _ _
  have ha0 : Xi S 904 65 = 0 → Xi S 904 8 ≤ n := fun q => (hA q).1
  have ha3 : Xi S 904 65 = 0 → 2 * Xi S 904 69 ≤ Xi S 904 8 + 1 := fun q => (hA q).2.1
  clear hat
  intro T1 hHT1 hFT1 A147 V147 w5 w6 w7 w8 w9 K147 BDA_147
  have w10 : Xi T1 904 93 = Xi S 904 93 := hFT1.x _ _ rfl
  have w11 : 0 ≤ Xi T1 904 65 ∧ Xi T1 904 65 ≤ 1 := hHT1.c _ _
  have w12 : 0 ≤ Xi T1 904 69 ∧ Xi T1 904 69 ≤ 2600 := hHT1.c _ _
  have w13 : 0 ≤ Xi T1 904 8 ∧ Xi T1 904 8 ≤ 5010 := hHT1.c _ _
  have w14 : 0 ≤ Xi T1 904 93 ∧ Xi T1 904 93 ≤ 1700 := hHT1.c _ _
  refine l_aload_n rfl rfl ?_
  have w17 : -2 ≤ Xi T1 904 78 ∧ Xi T1 904 78 ≤ 5010 := hHT1.c _ _
  refine l_callV rfl rfl rfl (t_mo_what__3 hHT1 n c (by first | assumption | exact (TK_FR hFT1 rfl (by assumption : TK S _))) (by first | assumption | exact (by assumption : AT T1 _ _)) (by first | assumption | exact (by assumption : RNV T1 _)) (by first | assumption | exact (by assumption : BDA T1)) _) ?_
  rintro _ T2 ⟨hHT2, w29, rfl, w20, w21, w22, w23, w24, w25, w26, w27⟩
  have hFT2 : FR md_mo_testedWhat__2 S T2 := FR.tr hFT1 w29 rfl
  show Rl _ _ _ _ _ [] _ _
  have l148 : Xi T1 904 65 = 0 → Xi T1 904 8 ≤ n := fun q => (A147 q).1
  have W148 : Xi T2 904 65 = 0 → ∀ x : Int, x = Xi T2 904 78 → Xi S 907 x.toNat ≠ 4 → Xi S 907 x.toNat ≠ 5 → Xi T1 904 69 < Xi T2 904 69 := fun q x e a b => by have t := (by assumption : Xi T2 904 65 = 0 → Xi T1 907 (Xi T1 904 8).toNat ≠ 4 → Xi T1 907 (Xi T1 904 8).toNat ≠ 5 → _) q; rw [(hFT1.cx 907 rfl _).1, show Xi T1 904 8 = x by omega] at t; exact t a b
  refine l_aload_n rfl rfl ?_
  refine l_gfr rfl rfl rfl rfl rfl (hHT2.r 904 87 957 rfl) ?_
  refine l_aload_n rfl rfl ?_
  refine l_gfi rfl rfl rfl rfl rfl ?_
  have w30 : (Xi T2 904 93) = (Xi T1 904 93) := (show Xi T2 904 93 = Xi T1 904 93 from w29.x _ _ rfl)
  rw [w30]
  refine l_aload_n rfl rfl ?_
  refine l_gfi rfl rfl rfl rfl rfl ?_
  have w31 : -2 ≤ (Xi T2 904 78) ∧ (Xi T2 904 78) ≤ 5010 := hHT2.c _ _
  refine l_iastore (n := 1700) rfl rfl (by omega) (by omega) (by unfold rg; omega) ?_
  obtain ⟨U3, eU3⟩ : ∃ T : sS, T = uI T2 957 (((Xi T1 904 93)).toNat) (Int32.ofInt (Xi T2 904 78)) := ⟨_, rfl⟩
  rw [← eU3]
  have hHU3 : HI U3 := by rw [eU3]; exact HI_w hHT2 (show 0 ≤ (Xi T2 904 78) by omega) (show (Xi T2 904 78) ≤ 5010 by omega)
  have hFU3 : FR md_mo_testedWhat__2 S U3 := by rw [eU3]; exact FR.wI hFT2 (mdf_i (r := (957, 958, 0, 100000)) (List.mem_of_getElem? (i := 9) rfl) (inR_i (by omega) (by omega) (by omega) (by omega)))
  have w32 : Xi U3 957 (((Xi T1 904 93)).toNat) = (Xi T2 904 78) := by rw [eU3]; exact Xi_same (by unfold rg; omega)
  have s163_69 : Xi U3 904 69 = Xi T2 904 69 := by rw [eU3, Xi_ne (by omega)]
  have c163 : Xi U3 957 (Xi S 904 93).toNat = Xi T2 904 78 := by rw [show (Xi S 904 93).toNat = (Xi T1 904 93).toNat by omega]; assumption
  refine l_aload_n rfl rfl ?_
  refine l_gfr rfl rfl rfl rfl rfl (hHU3.r 904 90 960 rfl) ?_
  refine l_aload_n rfl rfl ?_
  refine l_gfi rfl rfl rfl rfl rfl ?_
  have w33 : (Xi U3 904 93) = (Xi T1 904 93) := (show Xi U3 904 93 = Xi T2 904 93 from by rw [eU3]; exact Xi_ne (by omega)).trans ((show Xi T2 904 93 = Xi T1 904 93 from w29.x _ _ rfl))
  rw [w33]
  refine l_aload_n rfl rfl ?_
  refine l_gfi rfl rfl rfl rfl rfl ?_
  have w34 : 0 ≤ (Xi U3 904 69) ∧ (Xi U3 904 69) ≤ 2600 := hHU3.c _ _
  refine l_iconst rfl ?_
  refine l_isub rfl ?_
  refine l_iastore (n := 1700) rfl rfl (by omega) (by omega) (by unfold rg; omega) ?_
  obtain ⟨U4, eU4⟩ : ∃ T : sS, T = uI U3 960 (((Xi T1 904 93)).toNat) (Int32.ofInt ((Xi U3 904 69) - 1)) := ⟨_, rfl⟩
  rw [← eU4]
  have hHU4 : HI U4 := by rw [eU4]; exact HI_w hHU3 (show -1 ≤ ((Xi U3 904 69) - 1) by omega) (show ((Xi U3 904 69) - 1) ≤ 2600 by omega)
  have hFU4 : FR md_mo_testedWhat__2 S U4 := by rw [eU4]; exact FR.wI hFU3 (mdf_i (r := (960, 961, 0, 100000)) (List.mem_of_getElem? (i := 10) rfl) (inR_i (by omega) (by omega) (by omega) (by omega)))
  have w35 : Xi U4 960 (((Xi T1 904 93)).toNat) = ((Xi U3 904 69) - 1) := by rw [eU4]; exact Xi_same (by unfold rg; omega)
  have c178 : Xi U4 960 (Xi S 904 93).toNat = Xi U4 904 69 - 1 := by rw [show (Xi S 904 93).toNat = (Xi T1 904 93).toNat by omega]; have t : Xi U4 904 69 = Xi U3 904 69 := (by rw [eU4, Xi_ne (by omega)]); omega
  refine l_return rfl rfl ?_
  have w36 : Xi U4 952 (Xi S 904 93).toNat = Xi T1 952 (Xi S 904 93).toNat := (show Xi U4 952 (Xi S 904 93).toNat = Xi U3 952 (Xi S 904 93).toNat from by rw [eU4]; exact Xi_ne (by omega)).trans ( (show Xi U3 952 (Xi S 904 93).toNat = Xi T2 952 (Xi S 904 93).toNat from by rw [eU3]; exact Xi_ne (by omega)).trans ((show Xi T2 952 (Xi S 904 93).toNat = Xi T1 952 (Xi S 904 93).toNat from (w29.cx 952 rfl _).1)))
  have w37 : Xi U4 957 (Xi S 904 93).toNat = Xi U3 957 (Xi S 904 93).toNat := (show Xi U4 957 (Xi S 904 93).toNat = Xi U3 957 (Xi S 904 93).toNat from by rw [eU4]; exact Xi_ne (by omega))
  have w38 : Xi U4 904 65 = Xi T2 904 65 := (show Xi U4 904 65 = Xi U3 904 65 from by rw [eU4]; exact Xi_ne (by omega)).trans ((show Xi U3 904 65 = Xi T2 904 65 from by rw [eU3]; exact Xi_ne (by omega)))
  have w39 : 0 ≤ Xi T2 904 65 ∧ Xi T2 904 65 ≤ 1 := hHT2.c _ _
  have w40 : Xi U4 904 69 = Xi T2 904 69 := (show Xi U4 904 69 = Xi U3 904 69 from by rw [eU4]; exact Xi_ne (by omega)).trans ((show Xi U3 904 69 = Xi T2 904 69 from by rw [eU3]; exact Xi_ne (by omega)))
  have w41 : 0 ≤ Xi T2 904 69 ∧ Xi T2 904 69 ≤ 2600 := hHT2.c _ _
  have w44 : Xi U4 904 8 = Xi T2 904 8 := (show Xi U4 904 8 = Xi U3 904 8 from by rw [eU4]; exact Xi_ne (by omega)).trans ((show Xi U3 904 8 = Xi T2 904 8 from by rw [eU3]; exact Xi_ne (by omega)))
  have w45 : 0 ≤ Xi T2 904 8 ∧ Xi T2 904 8 ≤ 5010 := hHT2.c _ _
  have w46 : Xi U4 904 93 = Xi T1 904 93 := (show Xi U4 904 93 = Xi U3 904 93 from by rw [eU4]; exact Xi_ne (by omega)).trans ( (show Xi U3 904 93 = Xi T2 904 93 from by rw [eU3]; exact Xi_ne (by omega)).trans ((show Xi T2 904 93 = Xi T1 904 93 from w29.x _ _ rfl)))
  exact ⟨hHU4, hFU4, rfl, (by first | assumption | exact (AT_FR (FR_e eU4) rfl (AT_FR (FR_e eU3) rfl (by assumption : AT T2 _ _)))), (by omega), (by first | assumption | exact (RNV_FR (FR_e eU4) rfl (RNV_FR (FR_e eU3) rfl (by assumption : RNV T2 _)))), (by omega), (by omega), ((KT.w (KT.w (KT_FR w29 rfl (by assumption : KT T1 S _)) eU3 (by omega)) eU4 (by omega))), (by intro q; refine ⟨by omega, by omega, fun q0 => ?_⟩; first | (exfalso; omega) | (intro a b; have t := W148 (by omega) (Xi U4 957 (Xi S 904 93).toNat) (by omega) a b; omega)), (by omega), (by first | assumption | exact (BDA_FR (FR_e eU4) rfl (BDA_FR (FR_e eU3) rfl (by assumption : BDA T2))))⟩
set_option maxRecDepth 100000 in
set_option maxHeartbeats 4000000 in
theorem t_mo_testedWhat__2 {S : sS} (hH : HI S) (n : Nat) (c : Nat) (isNow : Int) (hisNow : 0 ≤ isNow ∧ isNow ≤ 1) (hT : TK S n) (hA : AT S n c) (hv : RNV S n) (tc : Xi S 904 93 ≤ 1699) (hBDA : BDA S) (d : Nat) : Mt lay0 (d + 4) m_mo_testedWhat [.ref 904, iv isNow] S (Q_mo_testedWhat__2 S n c isNow) := by
  refine Mt_R rfl rfl ?_
  have C147 := c147_mo_testedWhat__2 hH n c isNow hisNow hT hA hv tc hBDA d 
  have hF : FR md_mo_testedWhat__2 S S := FR.rf
  have w1 : 0 ≤ Xi S 904 65 ∧ Xi S 904 65 ≤ 1 := hH.c _ _
  have w2 : 0 ≤ Xi S 904 69 ∧ Xi S 904 69 ≤ 2600 := hH.c _ _
  have w3 : 0 ≤ Xi S 904 8 ∧ Xi S 904 8 ≤ 5010 := hH.c _ _
  have w4 : 0 ≤ Xi S 904 93 ∧ Xi S 904 93 ≤ 1700 := hH.c _ _
  have hn5 := hT.1
  have hat := hA
  have h8 : 0 ≤ Xi S 904 8 ∧ Xi S 904 8 ≤ 5010 := hH.c _ _
  have h69 : 0 ≤ Xi S 904 69 ∧ Xi S 904 69 ≤ 2600 := hH.c _ _
  have ha0 : Xi S 904 65 = 0 → Xi S 904 8 ≤ n := fun q => (hA q).1
  have ha3 : Xi S 904 65 = 0 → 2 * Xi S 904 69 ≤ Xi S 904 8 + 1 := fun q => (hA q).2.1
  clear hat
  refine l_iload_n rfl rfl ?_
  refine l_if_ne rfl rfl (by unfold rg; omega) (fun w48 => ?_) (fun w49 => ?_)
  · refine l_aload_n rfl rfl ?_
    refine l_gfr rfl rfl rfl rfl rfl (hH.r 904 82 952 rfl) ?_
    refine l_aload_n rfl rfl ?_
    refine l_gfi rfl rfl rfl rfl rfl ?_
    refine l_iconst rfl ?_
    refine l_iastore (n := 1700) rfl rfl (by omega) (by omega) (by unfold rg; omega) ?_
    obtain ⟨U5, eU5⟩ : ∃ T : sS, T = uI S 952 (((Xi S 904 93)).toNat) (Int32.ofInt 0) := ⟨_, rfl⟩
    rw [← eU5]
    have hHU5 : HI U5 := by rw [eU5]; exact HI_w hH (show 0 ≤ 0 by omega) (show 0 ≤ 5 by omega)
    have hFU5 : FR md_mo_testedWhat__2 S U5 := by rw [eU5]; exact FR.wI hF (mdf_i (r := (952, 953, 0, 100000)) (List.mem_of_getElem? (i := 7) rfl) (inR_i (by omega) (by omega) (by omega) (by omega)))
    have w50 : Xi U5 952 (((Xi S 904 93)).toNat) = 0 := by rw [eU5]; exact Xi_same (by unfold rg; omega)
    have s93_8 : Xi U5 904 8 = Xi S 904 8 := by rw [eU5, Xi_ne (by omega)]
    have s93_65 : Xi U5 904 65 = Xi S 904 65 := by rw [eU5, Xi_ne (by omega)]
    have s93_69 : Xi U5 904 69 = Xi S 904 69 := by rw [eU5, Xi_ne (by omega)]
    have s93_93 : Xi U5 904 93 = Xi S 904 93 := by rw [eU5, Xi_ne (by omega)]
    refine l_aload_n rfl rfl ?_
    refine l_gfr rfl rfl rfl rfl rfl (hHU5.r 904 83 953 rfl) ?_
    refine l_aload_n rfl rfl ?_
    refine l_gfi rfl rfl rfl rfl rfl ?_
    have w51 : (Xi U5 904 93) = (Xi S 904 93) := (show Xi U5 904 93 = Xi S 904 93 from by rw [eU5]; exact Xi_ne (by omega))
    rw [w51]
    refine l_iload_n rfl rfl ?_
    refine l_if_ne rfl rfl (by unfold rg; omega) (fun w52 => ?_) (fun w53 => ?_)
    · refine l_iconst rfl ?_
      refine l_bastoreZ1 (n := 1700) rfl rfl (by omega) (by omega) (by unfold rg; omega) ⟨by omega, by omega⟩ ?_
      obtain ⟨U6, eU6⟩ : ∃ T : sS, T = uI U5 953 (((Xi S 904 93)).toNat) (Int32.ofInt 0) := ⟨_, rfl⟩
      rw [← eU6]
      have hHU6 : HI U6 := by rw [eU6]; exact HI_w hHU5 (show 0 ≤ 0 by omega) (show 0 ≤ 1 by omega)
      have hFU6 : FR md_mo_testedWhat__2 S U6 := by rw [eU6]; exact FR.wI hFU5 (mdf_i (r := (953, 954, 0, 100000)) (List.mem_of_getElem? (i := 8) rfl) (inR_i (by omega) (by omega) (by omega) (by omega)))
      have w54 : Xi U6 953 (((Xi S 904 93)).toNat) = 0 := by rw [eU6]; exact Xi_same (by unfold rg; omega)
      have s120_8 : Xi U6 904 8 = Xi U5 904 8 := by rw [eU6, Xi_ne (by omega)]
      have s120_65 : Xi U6 904 65 = Xi U5 904 65 := by rw [eU6, Xi_ne (by omega)]
      have s120_69 : Xi U6 904 69 = Xi U5 904 69 := by rw [eU6, Xi_ne (by omega)]
      have s120_93 : Xi U6 904 93 = Xi U5 904 93 := by rw [eU6, Xi_ne (by omega)]
      have i120 : Xi U6 953 (Xi S 904 93).toNat ≠ 0 → Xi U6 904 65 = 0 ∧ Xi U6 907 (Xi U6 904 8).toNat ≠ 1 := fun q => by rw [(hFU6.cx 907 rfl _).1, show Xi U6 904 8 = Xi S 904 8 by omega]; omega
      refine l_aload_n rfl rfl ?_
      refine l_dup rfl rfl ?_
      refine l_gfi rfl rfl rfl rfl rfl ?_
      have w55 : (Xi U6 904 8) = (Xi S 904 8) := (show Xi U6 904 8 = Xi U5 904 8 from by rw [eU6]; exact Xi_ne (by omega)).trans ((show Xi U5 904 8 = Xi S 904 8 from by rw [eU5]; exact Xi_ne (by omega)))
      rw [w55]
      refine l_aload_n rfl rfl ?_
      refine l_gfr rfl rfl rfl rfl rfl (hHU6.r 904 83 953 rfl) ?_
      refine l_aload_n rfl rfl ?_
      refine l_gfi rfl rfl rfl rfl rfl ?_
      have w56 : (Xi U6 904 93) = (Xi S 904 93) := (show Xi U6 904 93 = Xi U5 904 93 from by rw [eU6]; exact Xi_ne (by omega)).trans ((show Xi U5 904 93 = Xi S 904 93 from by rw [eU5]; exact Xi_ne (by omega)))
      rw [w56]
      refine l_baload (n := 1700) rfl rfl rfl (by decide) (by omega) (by omega) (by unfold rg; omega) ?_
      refine l_if_eq rfl rfl (by unfold rg; omega) (fun w57 => ?_) (fun w58 => ?_)
      · refine l_iconst rfl ?_
        refine l_iadd rfl ?_
        refine l_pfi rfl rfl rfl rfl ?_
        obtain ⟨U7, eU7⟩ : ∃ T : sS, T = uI U6 904 8 (Int32.ofInt ((Xi S 904 8) + 0)) := ⟨_, rfl⟩
        rw [← eU7]
        have hHU7 : HI U7 := by rw [eU7]; exact HI_w hHU6 (show 0 ≤ ((Xi S 904 8) + 0) by omega) (show ((Xi S 904 8) + 0) ≤ 5010 by omega)
        have hFU7 : FR md_mo_testedWhat__2 S U7 := by rw [eU7]; exact FR.wI hFU6 (mdf_i (r := (904, 905, 8, 9)) (List.mem_of_getElem? (i := 0) rfl) (inR_i (by omega) (by omega) (by omega) (by omega)))
        have w59 : Xi U7 904 8 = ((Xi S 904 8) + 0) := by rw [eU7]; exact Xi_same (by unfold rg; omega)
        have t144 : AT U7 n c ∧ Xi U6 904 8 ≤ Xi U7 904 8 ∧ (Xi U7 904 8 ≤ n ∨ Xi U7 904 8 = Xi U6 904 8) := at_opt (TK_FR hFU6 rfl hT) (at_fr hA (fun j => (hFU6.cx 907 rfl j).1) (fun j => (hFU6.cx 908 rfl j).1) (by omega) (by omega) (by omega) (by omega)) eU7 (by omega) (by omega)
        have w60 : Xi U7 952 (Xi S 904 93).toNat = Xi U5 952 (Xi S 904 93).toNat := (show Xi U7 952 (Xi S 904 93).toNat = Xi U6 952 (Xi S 904 93).toNat from by rw [eU7]; exact Xi_ne (by omega)).trans ((show Xi U6 952 (Xi S 904 93).toNat = Xi U5 952 (Xi S 904 93).toNat from by rw [eU6]; exact Xi_ne (by omega)))
        have w61 : Xi U7 957 (Xi S 904 93).toNat = Xi S 957 (Xi S 904 93).toNat := (show Xi U7 957 (Xi S 904 93).toNat = Xi U6 957 (Xi S 904 93).toNat from by rw [eU7]; exact Xi_ne (by omega)).trans ( (show Xi U6 957 (Xi S 904 93).toNat = Xi U5 957 (Xi S 904 93).toNat from by rw [eU6]; exact Xi_ne (by omega)).trans ((show Xi U5 957 (Xi S 904 93).toNat = Xi S 957 (Xi S 904 93).toNat from by rw [eU5]; exact Xi_ne (by omega))))
        have w62 : Xi U7 960 (Xi S 904 93).toNat = Xi S 960 (Xi S 904 93).toNat := (show Xi U7 960 (Xi S 904 93).toNat = Xi U6 960 (Xi S 904 93).toNat from by rw [eU7]; exact Xi_ne (by omega)).trans ( (show Xi U6 960 (Xi S 904 93).toNat = Xi U5 960 (Xi S 904 93).toNat from by rw [eU6]; exact Xi_ne (by omega)).trans ((show Xi U5 960 (Xi S 904 93).toNat = Xi S 960 (Xi S 904 93).toNat from by rw [eU5]; exact Xi_ne (by omega))))
        have w63 : Xi U7 904 65 = Xi S 904 65 := (show Xi U7 904 65 = Xi U6 904 65 from by rw [eU7]; exact Xi_ne (by omega)).trans ( (show Xi U6 904 65 = Xi U5 904 65 from by rw [eU6]; exact Xi_ne (by omega)).trans ((show Xi U5 904 65 = Xi S 904 65 from by rw [eU5]; exact Xi_ne (by omega))))
        have w65 : Xi U7 904 69 = Xi S 904 69 := (show Xi U7 904 69 = Xi U6 904 69 from by rw [eU7]; exact Xi_ne (by omega)).trans ( (show Xi U6 904 69 = Xi U5 904 69 from by rw [eU6]; exact Xi_ne (by omega)).trans ((show Xi U5 904 69 = Xi S 904 69 from by rw [eU5]; exact Xi_ne (by omega))))
        have w67 : Xi U7 904 78 = Xi S 904 78 := (show Xi U7 904 78 = Xi U6 904 78 from by rw [eU7]; exact Xi_ne (by omega)).trans ( (show Xi U6 904 78 = Xi U5 904 78 from by rw [eU6]; exact Xi_ne (by omega)).trans ((show Xi U5 904 78 = Xi S 904 78 from by rw [eU5]; exact Xi_ne (by omega))))
        have w68 : -2 ≤ Xi S 904 78 ∧ Xi S 904 78 ≤ 5010 := hH.c _ _
        have w69 : 0 ≤ Xi U7 904 8 ∧ Xi U7 904 8 ≤ 5010 := hHU7.c _ _
        have w70 : Xi U7 904 93 = Xi S 904 93 := (show Xi U7 904 93 = Xi U6 904 93 from by rw [eU7]; exact Xi_ne (by omega)).trans ( (show Xi U6 904 93 = Xi U5 904 93 from by rw [eU6]; exact Xi_ne (by omega)).trans ((show Xi U5 904 93 = Xi S 904 93 from by rw [eU5]; exact Xi_ne (by omega))))
        exact Rl_weak (C147 U7 hHU7 hFU7  (t144.1) (by first | assumption | exact (RNV_FR (FR_e eU7) rfl (RNV_FR (FR_e eU6) rfl (RNV_FR (FR_e eU5) rfl (by assumption : RNV S _))))) (by omega) (by omega) (by omega) (by omega) (by omega) ((KT_FR (FR_e eU7) rfl (KT.w (KT.w KT.rf eU5 (by omega)) eU6 (by omega)))) (by first | assumption | exact (BDA_FR (FR_e eU7) rfl (BDA_FR (FR_e eU6) rfl (BDA_FR (FR_e eU5) rfl (by assumption : BDA S)))))) (And.intro rfl (True.intro))
      · refine l_iconst rfl ?_
        refine l_goto rfl rfl ?_
        refine l_iadd rfl ?_
        refine l_pfi rfl rfl rfl rfl ?_
        obtain ⟨U8, eU8⟩ : ∃ T : sS, T = uI U6 904 8 (Int32.ofInt ((Xi S 904 8) + 1)) := ⟨_, rfl⟩
        rw [← eU8]
        have hHU8 : HI U8 := by rw [eU8]; exact HI_w hHU6 (show 0 ≤ ((Xi S 904 8) + 1) by omega) (show ((Xi S 904 8) + 1) ≤ 5010 by omega)
        have hFU8 : FR md_mo_testedWhat__2 S U8 := by rw [eU8]; exact FR.wI hFU6 (mdf_i (r := (904, 905, 8, 9)) (List.mem_of_getElem? (i := 0) rfl) (inR_i (by omega) (by omega) (by omega) (by omega)))
        have w72 : Xi U8 904 8 = ((Xi S 904 8) + 1) := by rw [eU8]; exact Xi_same (by unfold rg; omega)
        have t144 : AT U8 n c ∧ Xi U6 904 8 ≤ Xi U8 904 8 ∧ (Xi U8 904 8 ≤ n ∨ Xi U8 904 8 = Xi U6 904 8) := at_opt (TK_FR hFU6 rfl hT) (at_fr hA (fun j => (hFU6.cx 907 rfl j).1) (fun j => (hFU6.cx 908 rfl j).1) (by omega) (by omega) (by omega) (by omega)) eU8 (by omega) (by omega)
        have w73 : Xi U8 952 (Xi S 904 93).toNat = Xi U5 952 (Xi S 904 93).toNat := (show Xi U8 952 (Xi S 904 93).toNat = Xi U6 952 (Xi S 904 93).toNat from by rw [eU8]; exact Xi_ne (by omega)).trans ((show Xi U6 952 (Xi S 904 93).toNat = Xi U5 952 (Xi S 904 93).toNat from by rw [eU6]; exact Xi_ne (by omega)))
        have w74 : Xi U8 957 (Xi S 904 93).toNat = Xi S 957 (Xi S 904 93).toNat := (show Xi U8 957 (Xi S 904 93).toNat = Xi U6 957 (Xi S 904 93).toNat from by rw [eU8]; exact Xi_ne (by omega)).trans ( (show Xi U6 957 (Xi S 904 93).toNat = Xi U5 957 (Xi S 904 93).toNat from by rw [eU6]; exact Xi_ne (by omega)).trans ((show Xi U5 957 (Xi S 904 93).toNat = Xi S 957 (Xi S 904 93).toNat from by rw [eU5]; exact Xi_ne (by omega))))
        have w75 : Xi U8 960 (Xi S 904 93).toNat = Xi S 960 (Xi S 904 93).toNat := (show Xi U8 960 (Xi S 904 93).toNat = Xi U6 960 (Xi S 904 93).toNat from by rw [eU8]; exact Xi_ne (by omega)).trans ( (show Xi U6 960 (Xi S 904 93).toNat = Xi U5 960 (Xi S 904 93).toNat from by rw [eU6]; exact Xi_ne (by omega)).trans ((show Xi U5 960 (Xi S 904 93).toNat = Xi S 960 (Xi S 904 93).toNat from by rw [eU5]; exact Xi_ne (by omega))))
        have w76 : Xi U8 904 65 = Xi S 904 65 := (show Xi U8 904 65 = Xi U6 904 65 from by rw [eU8]; exact Xi_ne (by omega)).trans ( (show Xi U6 904 65 = Xi U5 904 65 from by rw [eU6]; exact Xi_ne (by omega)).trans ((show Xi U5 904 65 = Xi S 904 65 from by rw [eU5]; exact Xi_ne (by omega))))
        have w78 : Xi U8 904 69 = Xi S 904 69 := (show Xi U8 904 69 = Xi U6 904 69 from by rw [eU8]; exact Xi_ne (by omega)).trans ( (show Xi U6 904 69 = Xi U5 904 69 from by rw [eU6]; exact Xi_ne (by omega)).trans ((show Xi U5 904 69 = Xi S 904 69 from by rw [eU5]; exact Xi_ne (by omega))))
        have w80 : Xi U8 904 78 = Xi S 904 78 := (show Xi U8 904 78 = Xi U6 904 78 from by rw [eU8]; exact Xi_ne (by omega)).trans ( (show Xi U6 904 78 = Xi U5 904 78 from by rw [eU6]; exact Xi_ne (by omega)).trans ((show Xi U5 904 78 = Xi S 904 78 from by rw [eU5]; exact Xi_ne (by omega))))
        have w81 : -2 ≤ Xi S 904 78 ∧ Xi S 904 78 ≤ 5010 := hH.c _ _
        have w82 : 0 ≤ Xi U8 904 8 ∧ Xi U8 904 8 ≤ 5010 := hHU8.c _ _
        have w83 : Xi U8 904 93 = Xi S 904 93 := (show Xi U8 904 93 = Xi U6 904 93 from by rw [eU8]; exact Xi_ne (by omega)).trans ( (show Xi U6 904 93 = Xi U5 904 93 from by rw [eU6]; exact Xi_ne (by omega)).trans ((show Xi U5 904 93 = Xi S 904 93 from by rw [eU5]; exact Xi_ne (by omega))))
        exact Rl_weak (C147 U8 hHU8 hFU8  (t144.1) (by first | assumption | exact (RNV_FR (FR_e eU8) rfl (RNV_FR (FR_e eU6) rfl (RNV_FR (FR_e eU5) rfl (by assumption : RNV S _))))) (by omega) (by omega) (by omega) (by omega) (by omega) ((KT_FR (FR_e eU8) rfl (KT.w (KT.w KT.rf eU5 (by omega)) eU6 (by omega)))) (by first | assumption | exact (BDA_FR (FR_e eU8) rfl (BDA_FR (FR_e eU6) rfl (BDA_FR (FR_e eU5) rfl (by assumption : BDA S)))))) (And.intro rfl (True.intro))
    · refine l_aload_n rfl rfl ?_
      refine l_bipush rfl rfl ?_
      have w85 : Xi U5 904 65 = Xi S 904 65 := (show Xi U5 904 65 = Xi S 904 65 from by rw [eU5]; exact Xi_ne (by omega))
      have w87 : Xi U5 904 69 = Xi S 904 69 := (show Xi U5 904 69 = Xi S 904 69 from by rw [eU5]; exact Xi_ne (by omega))
      have w91 : Xi U5 904 8 = Xi S 904 8 := (show Xi U5 904 8 = Xi S 904 8 from by rw [eU5]; exact Xi_ne (by omega))
      have w93 : Xi U5 904 93 = Xi S 904 93 := (show Xi U5 904 93 = Xi S 904 93 from by rw [eU5]; exact Xi_ne (by omega))
      refine l_callV rfl rfl rfl (t_mo_isNext hHU5 n c 106 ⟨by omega, by omega⟩ (by first | assumption | exact (TK_FR hFU5 rfl (by assumption : TK S _))) (by first | assumption | exact (AT_FR (FR_e eU5) rfl (by assumption : AT S _ _))) _) ?_
      rintro _ _ ⟨rfl, z97, rfl, w97, w95, w96⟩
      show Rl _ _ _ _ _ [iv z97, iv (Xi S 904 93), .ref 953] _ _
      have i109 : z97 = 1 → Xi S 904 65 = 0 ∧ Xi S 907 (Xi S 904 8).toNat = 106 := fun q => by have t := (by assumption : z97 = 1 → Xi U5 904 65 = 0 ∧ Xi U5 907 (Xi U5 904 8).toNat = 106) q; rw [show Xi U5 904 8 = Xi S 904 8 by omega, (hFU5.cx 907 rfl _).1] at t; exact ⟨by omega, t.2⟩
      refine l_if_eq rfl rfl (by unfold rg; omega) (fun w98 => ?_) (fun w99 => ?_)
      · refine l_iconst rfl ?_
        refine l_bastoreZ1 (n := 1700) rfl rfl (by omega) (by omega) (by unfold rg; omega) ⟨by omega, by omega⟩ ?_
        obtain ⟨U9, eU9⟩ : ∃ T : sS, T = uI U5 953 (((Xi S 904 93)).toNat) (Int32.ofInt 0) := ⟨_, rfl⟩
        rw [← eU9]
        have hHU9 : HI U9 := by rw [eU9]; exact HI_w hHU5 (show 0 ≤ 0 by omega) (show 0 ≤ 1 by omega)
        have hFU9 : FR md_mo_testedWhat__2 S U9 := by rw [eU9]; exact FR.wI hFU5 (mdf_i (r := (953, 954, 0, 100000)) (List.mem_of_getElem? (i := 8) rfl) (inR_i (by omega) (by omega) (by omega) (by omega)))
        have w100 : Xi U9 953 (((Xi S 904 93)).toNat) = 0 := by rw [eU9]; exact Xi_same (by unfold rg; omega)
        have s120_8 : Xi U9 904 8 = Xi U5 904 8 := by rw [eU9, Xi_ne (by omega)]
        have s120_65 : Xi U9 904 65 = Xi U5 904 65 := by rw [eU9, Xi_ne (by omega)]
        have s120_69 : Xi U9 904 69 = Xi U5 904 69 := by rw [eU9, Xi_ne (by omega)]
        have s120_93 : Xi U9 904 93 = Xi U5 904 93 := by rw [eU9, Xi_ne (by omega)]
        have i120 : Xi U9 953 (Xi S 904 93).toNat ≠ 0 → Xi U9 904 65 = 0 ∧ Xi U9 907 (Xi U9 904 8).toNat ≠ 1 := fun q => by rw [(hFU9.cx 907 rfl _).1, show Xi U9 904 8 = Xi S 904 8 by omega]; omega
        refine l_aload_n rfl rfl ?_
        refine l_dup rfl rfl ?_
        refine l_gfi rfl rfl rfl rfl rfl ?_
        have w101 : (Xi U9 904 8) = (Xi S 904 8) := (show Xi U9 904 8 = Xi U5 904 8 from by rw [eU9]; exact Xi_ne (by omega)).trans ((show Xi U5 904 8 = Xi S 904 8 from by rw [eU5]; exact Xi_ne (by omega)))
        rw [w101]
        refine l_aload_n rfl rfl ?_
        refine l_gfr rfl rfl rfl rfl rfl (hHU9.r 904 83 953 rfl) ?_
        refine l_aload_n rfl rfl ?_
        refine l_gfi rfl rfl rfl rfl rfl ?_
        have w102 : (Xi U9 904 93) = (Xi S 904 93) := (show Xi U9 904 93 = Xi U5 904 93 from by rw [eU9]; exact Xi_ne (by omega)).trans ((show Xi U5 904 93 = Xi S 904 93 from by rw [eU5]; exact Xi_ne (by omega)))
        rw [w102]
        refine l_baload (n := 1700) rfl rfl rfl (by decide) (by omega) (by omega) (by unfold rg; omega) ?_
        refine l_if_eq rfl rfl (by unfold rg; omega) (fun w103 => ?_) (fun w104 => ?_)
        · refine l_iconst rfl ?_
          refine l_iadd rfl ?_
          refine l_pfi rfl rfl rfl rfl ?_
          obtain ⟨U10, eU10⟩ : ∃ T : sS, T = uI U9 904 8 (Int32.ofInt ((Xi S 904 8) + 0)) := ⟨_, rfl⟩
          rw [← eU10]
          have hHU10 : HI U10 := by rw [eU10]; exact HI_w hHU9 (show 0 ≤ ((Xi S 904 8) + 0) by omega) (show ((Xi S 904 8) + 0) ≤ 5010 by omega)
          have hFU10 : FR md_mo_testedWhat__2 S U10 := by rw [eU10]; exact FR.wI hFU9 (mdf_i (r := (904, 905, 8, 9)) (List.mem_of_getElem? (i := 0) rfl) (inR_i (by omega) (by omega) (by omega) (by omega)))
          have w105 : Xi U10 904 8 = ((Xi S 904 8) + 0) := by rw [eU10]; exact Xi_same (by unfold rg; omega)
          have t144 : AT U10 n c ∧ Xi U9 904 8 ≤ Xi U10 904 8 ∧ (Xi U10 904 8 ≤ n ∨ Xi U10 904 8 = Xi U9 904 8) := at_opt (TK_FR hFU9 rfl hT) (at_fr hA (fun j => (hFU9.cx 907 rfl j).1) (fun j => (hFU9.cx 908 rfl j).1) (by omega) (by omega) (by omega) (by omega)) eU10 (by omega) (by omega)
          have w106 : Xi U10 952 (Xi S 904 93).toNat = Xi U5 952 (Xi S 904 93).toNat := (show Xi U10 952 (Xi S 904 93).toNat = Xi U9 952 (Xi S 904 93).toNat from by rw [eU10]; exact Xi_ne (by omega)).trans ((show Xi U9 952 (Xi S 904 93).toNat = Xi U5 952 (Xi S 904 93).toNat from by rw [eU9]; exact Xi_ne (by omega)))
          have w107 : Xi U10 957 (Xi S 904 93).toNat = Xi S 957 (Xi S 904 93).toNat := (show Xi U10 957 (Xi S 904 93).toNat = Xi U9 957 (Xi S 904 93).toNat from by rw [eU10]; exact Xi_ne (by omega)).trans ( (show Xi U9 957 (Xi S 904 93).toNat = Xi U5 957 (Xi S 904 93).toNat from by rw [eU9]; exact Xi_ne (by omega)).trans ((show Xi U5 957 (Xi S 904 93).toNat = Xi S 957 (Xi S 904 93).toNat from by rw [eU5]; exact Xi_ne (by omega))))
          have w108 : Xi U10 960 (Xi S 904 93).toNat = Xi S 960 (Xi S 904 93).toNat := (show Xi U10 960 (Xi S 904 93).toNat = Xi U9 960 (Xi S 904 93).toNat from by rw [eU10]; exact Xi_ne (by omega)).trans ( (show Xi U9 960 (Xi S 904 93).toNat = Xi U5 960 (Xi S 904 93).toNat from by rw [eU9]; exact Xi_ne (by omega)).trans ((show Xi U5 960 (Xi S 904 93).toNat = Xi S 960 (Xi S 904 93).toNat from by rw [eU5]; exact Xi_ne (by omega))))
          have w109 : Xi U10 904 65 = Xi S 904 65 := (show Xi U10 904 65 = Xi U9 904 65 from by rw [eU10]; exact Xi_ne (by omega)).trans ( (show Xi U9 904 65 = Xi U5 904 65 from by rw [eU9]; exact Xi_ne (by omega)).trans ((show Xi U5 904 65 = Xi S 904 65 from by rw [eU5]; exact Xi_ne (by omega))))
          have w111 : Xi U10 904 69 = Xi S 904 69 := (show Xi U10 904 69 = Xi U9 904 69 from by rw [eU10]; exact Xi_ne (by omega)).trans ( (show Xi U9 904 69 = Xi U5 904 69 from by rw [eU9]; exact Xi_ne (by omega)).trans ((show Xi U5 904 69 = Xi S 904 69 from by rw [eU5]; exact Xi_ne (by omega))))
          have w113 : Xi U10 904 78 = Xi S 904 78 := (show Xi U10 904 78 = Xi U9 904 78 from by rw [eU10]; exact Xi_ne (by omega)).trans ( (show Xi U9 904 78 = Xi U5 904 78 from by rw [eU9]; exact Xi_ne (by omega)).trans ((show Xi U5 904 78 = Xi S 904 78 from by rw [eU5]; exact Xi_ne (by omega))))
          have w114 : -2 ≤ Xi S 904 78 ∧ Xi S 904 78 ≤ 5010 := hH.c _ _
          have w115 : 0 ≤ Xi U10 904 8 ∧ Xi U10 904 8 ≤ 5010 := hHU10.c _ _
          have w116 : Xi U10 904 93 = Xi S 904 93 := (show Xi U10 904 93 = Xi U9 904 93 from by rw [eU10]; exact Xi_ne (by omega)).trans ( (show Xi U9 904 93 = Xi U5 904 93 from by rw [eU9]; exact Xi_ne (by omega)).trans ((show Xi U5 904 93 = Xi S 904 93 from by rw [eU5]; exact Xi_ne (by omega))))
          exact Rl_weak (C147 U10 hHU10 hFU10  (t144.1) (by first | assumption | exact (RNV_FR (FR_e eU10) rfl (RNV_FR (FR_e eU9) rfl (RNV_FR (FR_e eU5) rfl (by assumption : RNV S _))))) (by omega) (by omega) (by omega) (by omega) (by omega) ((KT_FR (FR_e eU10) rfl (KT.w (KT.w KT.rf eU5 (by omega)) eU9 (by omega)))) (by first | assumption | exact (BDA_FR (FR_e eU10) rfl (BDA_FR (FR_e eU9) rfl (BDA_FR (FR_e eU5) rfl (by assumption : BDA S)))))) (And.intro rfl (True.intro))
        · refine l_iconst rfl ?_
          refine l_goto rfl rfl ?_
          refine l_iadd rfl ?_
          refine l_pfi rfl rfl rfl rfl ?_
          obtain ⟨U11, eU11⟩ : ∃ T : sS, T = uI U9 904 8 (Int32.ofInt ((Xi S 904 8) + 1)) := ⟨_, rfl⟩
          rw [← eU11]
          have hHU11 : HI U11 := by rw [eU11]; exact HI_w hHU9 (show 0 ≤ ((Xi S 904 8) + 1) by omega) (show ((Xi S 904 8) + 1) ≤ 5010 by omega)
          have hFU11 : FR md_mo_testedWhat__2 S U11 := by rw [eU11]; exact FR.wI hFU9 (mdf_i (r := (904, 905, 8, 9)) (List.mem_of_getElem? (i := 0) rfl) (inR_i (by omega) (by omega) (by omega) (by omega)))
          have w118 : Xi U11 904 8 = ((Xi S 904 8) + 1) := by rw [eU11]; exact Xi_same (by unfold rg; omega)
          have t144 : AT U11 n c ∧ Xi U9 904 8 ≤ Xi U11 904 8 ∧ (Xi U11 904 8 ≤ n ∨ Xi U11 904 8 = Xi U9 904 8) := at_opt (TK_FR hFU9 rfl hT) (at_fr hA (fun j => (hFU9.cx 907 rfl j).1) (fun j => (hFU9.cx 908 rfl j).1) (by omega) (by omega) (by omega) (by omega)) eU11 (by omega) (by omega)
          have w119 : Xi U11 952 (Xi S 904 93).toNat = Xi U5 952 (Xi S 904 93).toNat := (show Xi U11 952 (Xi S 904 93).toNat = Xi U9 952 (Xi S 904 93).toNat from by rw [eU11]; exact Xi_ne (by omega)).trans ((show Xi U9 952 (Xi S 904 93).toNat = Xi U5 952 (Xi S 904 93).toNat from by rw [eU9]; exact Xi_ne (by omega)))
          have w120 : Xi U11 957 (Xi S 904 93).toNat = Xi S 957 (Xi S 904 93).toNat := (show Xi U11 957 (Xi S 904 93).toNat = Xi U9 957 (Xi S 904 93).toNat from by rw [eU11]; exact Xi_ne (by omega)).trans ( (show Xi U9 957 (Xi S 904 93).toNat = Xi U5 957 (Xi S 904 93).toNat from by rw [eU9]; exact Xi_ne (by omega)).trans ((show Xi U5 957 (Xi S 904 93).toNat = Xi S 957 (Xi S 904 93).toNat from by rw [eU5]; exact Xi_ne (by omega))))
          have w121 : Xi U11 960 (Xi S 904 93).toNat = Xi S 960 (Xi S 904 93).toNat := (show Xi U11 960 (Xi S 904 93).toNat = Xi U9 960 (Xi S 904 93).toNat from by rw [eU11]; exact Xi_ne (by omega)).trans ( (show Xi U9 960 (Xi S 904 93).toNat = Xi U5 960 (Xi S 904 93).toNat from by rw [eU9]; exact Xi_ne (by omega)).trans ((show Xi U5 960 (Xi S 904 93).toNat = Xi S 960 (Xi S 904 93).toNat from by rw [eU5]; exact Xi_ne (by omega))))
          have w122 : Xi U11 904 65 = Xi S 904 65 := (show Xi U11 904 65 = Xi U9 904 65 from by rw [eU11]; exact Xi_ne (by omega)).trans ( (show Xi U9 904 65 = Xi U5 904 65 from by rw [eU9]; exact Xi_ne (by omega)).trans ((show Xi U5 904 65 = Xi S 904 65 from by rw [eU5]; exact Xi_ne (by omega))))
          have w124 : Xi U11 904 69 = Xi S 904 69 := (show Xi U11 904 69 = Xi U9 904 69 from by rw [eU11]; exact Xi_ne (by omega)).trans ( (show Xi U9 904 69 = Xi U5 904 69 from by rw [eU9]; exact Xi_ne (by omega)).trans ((show Xi U5 904 69 = Xi S 904 69 from by rw [eU5]; exact Xi_ne (by omega))))
          have w126 : Xi U11 904 78 = Xi S 904 78 := (show Xi U11 904 78 = Xi U9 904 78 from by rw [eU11]; exact Xi_ne (by omega)).trans ( (show Xi U9 904 78 = Xi U5 904 78 from by rw [eU9]; exact Xi_ne (by omega)).trans ((show Xi U5 904 78 = Xi S 904 78 from by rw [eU5]; exact Xi_ne (by omega))))
          have w127 : -2 ≤ Xi S 904 78 ∧ Xi S 904 78 ≤ 5010 := hH.c _ _
          have w128 : 0 ≤ Xi U11 904 8 ∧ Xi U11 904 8 ≤ 5010 := hHU11.c _ _
          have w129 : Xi U11 904 93 = Xi S 904 93 := (show Xi U11 904 93 = Xi U9 904 93 from by rw [eU11]; exact Xi_ne (by omega)).trans ( (show Xi U9 904 93 = Xi U5 904 93 from by rw [eU9]; exact Xi_ne (by omega)).trans ((show Xi U5 904 93 = Xi S 904 93 from by rw [eU5]; exact Xi_ne (by omega))))
          exact Rl_weak (C147 U11 hHU11 hFU11  (t144.1) (by first | assumption | exact (RNV_FR (FR_e eU11) rfl (RNV_FR (FR_e eU9) rfl (RNV_FR (FR_e eU5) rfl (by assumption : RNV S _))))) (by omega) (by omega) (by omega) (by omega) (by omega) ((KT_FR (FR_e eU11) rfl (KT.w (KT.w KT.rf eU5 (by omega)) eU9 (by omega)))) (by first | assumption | exact (BDA_FR (FR_e eU11) rfl (BDA_FR (FR_e eU9) rfl (BDA_FR (FR_e eU5) rfl (by assumption : BDA S)))))) (And.intro rfl (True.intro))
      · refine l_iconst rfl ?_
        refine l_goto rfl rfl ?_
        refine l_bastoreZ1 (n := 1700) rfl rfl (by omega) (by omega) (by unfold rg; omega) ⟨by omega, by omega⟩ ?_
        obtain ⟨U12, eU12⟩ : ∃ T : sS, T = uI U5 953 (((Xi S 904 93)).toNat) (Int32.ofInt 1) := ⟨_, rfl⟩
        rw [← eU12]
        have hHU12 : HI U12 := by rw [eU12]; exact HI_w hHU5 (show 0 ≤ 1 by omega) (show 1 ≤ 1 by omega)
        have hFU12 : FR md_mo_testedWhat__2 S U12 := by rw [eU12]; exact FR.wI hFU5 (mdf_i (r := (953, 954, 0, 100000)) (List.mem_of_getElem? (i := 8) rfl) (inR_i (by omega) (by omega) (by omega) (by omega)))
        have w131 : Xi U12 953 (((Xi S 904 93)).toNat) = 1 := by rw [eU12]; exact Xi_same (by unfold rg; omega)
        have s120_8 : Xi U12 904 8 = Xi U5 904 8 := by rw [eU12, Xi_ne (by omega)]
        have s120_65 : Xi U12 904 65 = Xi U5 904 65 := by rw [eU12, Xi_ne (by omega)]
        have s120_69 : Xi U12 904 69 = Xi U5 904 69 := by rw [eU12, Xi_ne (by omega)]
        have s120_93 : Xi U12 904 93 = Xi U5 904 93 := by rw [eU12, Xi_ne (by omega)]
        have i120 : Xi U12 953 (Xi S 904 93).toNat ≠ 0 → Xi U12 904 65 = 0 ∧ Xi U12 907 (Xi U12 904 8).toNat ≠ 1 := fun q => by rw [(hFU12.cx 907 rfl _).1, show Xi U12 904 8 = Xi S 904 8 by omega]; omega
        refine l_aload_n rfl rfl ?_
        refine l_dup rfl rfl ?_
        refine l_gfi rfl rfl rfl rfl rfl ?_
        have w132 : (Xi U12 904 8) = (Xi S 904 8) := (show Xi U12 904 8 = Xi U5 904 8 from by rw [eU12]; exact Xi_ne (by omega)).trans ((show Xi U5 904 8 = Xi S 904 8 from by rw [eU5]; exact Xi_ne (by omega)))
        rw [w132]
        refine l_aload_n rfl rfl ?_
        refine l_gfr rfl rfl rfl rfl rfl (hHU12.r 904 83 953 rfl) ?_
        refine l_aload_n rfl rfl ?_
        refine l_gfi rfl rfl rfl rfl rfl ?_
        have w133 : (Xi U12 904 93) = (Xi S 904 93) := (show Xi U12 904 93 = Xi U5 904 93 from by rw [eU12]; exact Xi_ne (by omega)).trans ((show Xi U5 904 93 = Xi S 904 93 from by rw [eU5]; exact Xi_ne (by omega)))
        rw [w133]
        refine l_baload (n := 1700) rfl rfl rfl (by decide) (by omega) (by omega) (by unfold rg; omega) ?_
        refine l_if_eq rfl rfl (by unfold rg; omega) (fun w134 => ?_) (fun w135 => ?_)
        · refine l_iconst rfl ?_
          refine l_iadd rfl ?_
          refine l_pfi rfl rfl rfl rfl ?_
          obtain ⟨U13, eU13⟩ : ∃ T : sS, T = uI U12 904 8 (Int32.ofInt ((Xi S 904 8) + 0)) := ⟨_, rfl⟩
          rw [← eU13]
          have hHU13 : HI U13 := by rw [eU13]; exact HI_w hHU12 (show 0 ≤ ((Xi S 904 8) + 0) by omega) (show ((Xi S 904 8) + 0) ≤ 5010 by omega)
          have hFU13 : FR md_mo_testedWhat__2 S U13 := by rw [eU13]; exact FR.wI hFU12 (mdf_i (r := (904, 905, 8, 9)) (List.mem_of_getElem? (i := 0) rfl) (inR_i (by omega) (by omega) (by omega) (by omega)))
          have w136 : Xi U13 904 8 = ((Xi S 904 8) + 0) := by rw [eU13]; exact Xi_same (by unfold rg; omega)
          have t144 : AT U13 n c ∧ Xi U12 904 8 ≤ Xi U13 904 8 ∧ (Xi U13 904 8 ≤ n ∨ Xi U13 904 8 = Xi U12 904 8) := at_opt (TK_FR hFU12 rfl hT) (at_fr hA (fun j => (hFU12.cx 907 rfl j).1) (fun j => (hFU12.cx 908 rfl j).1) (by omega) (by omega) (by omega) (by omega)) eU13 (by omega) (by omega)
          have w137 : Xi U13 952 (Xi S 904 93).toNat = Xi U5 952 (Xi S 904 93).toNat := (show Xi U13 952 (Xi S 904 93).toNat = Xi U12 952 (Xi S 904 93).toNat from by rw [eU13]; exact Xi_ne (by omega)).trans ((show Xi U12 952 (Xi S 904 93).toNat = Xi U5 952 (Xi S 904 93).toNat from by rw [eU12]; exact Xi_ne (by omega)))
          have w138 : Xi U13 957 (Xi S 904 93).toNat = Xi S 957 (Xi S 904 93).toNat := (show Xi U13 957 (Xi S 904 93).toNat = Xi U12 957 (Xi S 904 93).toNat from by rw [eU13]; exact Xi_ne (by omega)).trans ( (show Xi U12 957 (Xi S 904 93).toNat = Xi U5 957 (Xi S 904 93).toNat from by rw [eU12]; exact Xi_ne (by omega)).trans ((show Xi U5 957 (Xi S 904 93).toNat = Xi S 957 (Xi S 904 93).toNat from by rw [eU5]; exact Xi_ne (by omega))))
          have w139 : Xi U13 960 (Xi S 904 93).toNat = Xi S 960 (Xi S 904 93).toNat := (show Xi U13 960 (Xi S 904 93).toNat = Xi U12 960 (Xi S 904 93).toNat from by rw [eU13]; exact Xi_ne (by omega)).trans ( (show Xi U12 960 (Xi S 904 93).toNat = Xi U5 960 (Xi S 904 93).toNat from by rw [eU12]; exact Xi_ne (by omega)).trans ((show Xi U5 960 (Xi S 904 93).toNat = Xi S 960 (Xi S 904 93).toNat from by rw [eU5]; exact Xi_ne (by omega))))
          have w140 : Xi U13 904 65 = Xi S 904 65 := (show Xi U13 904 65 = Xi U12 904 65 from by rw [eU13]; exact Xi_ne (by omega)).trans ( (show Xi U12 904 65 = Xi U5 904 65 from by rw [eU12]; exact Xi_ne (by omega)).trans ((show Xi U5 904 65 = Xi S 904 65 from by rw [eU5]; exact Xi_ne (by omega))))
          have w142 : Xi U13 904 69 = Xi S 904 69 := (show Xi U13 904 69 = Xi U12 904 69 from by rw [eU13]; exact Xi_ne (by omega)).trans ( (show Xi U12 904 69 = Xi U5 904 69 from by rw [eU12]; exact Xi_ne (by omega)).trans ((show Xi U5 904 69 = Xi S 904 69 from by rw [eU5]; exact Xi_ne (by omega))))
          have w144 : Xi U13 904 78 = Xi S 904 78 := (show Xi U13 904 78 = Xi U12 904 78 from by rw [eU13]; exact Xi_ne (by omega)).trans ( (show Xi U12 904 78 = Xi U5 904 78 from by rw [eU12]; exact Xi_ne (by omega)).trans ((show Xi U5 904 78 = Xi S 904 78 from by rw [eU5]; exact Xi_ne (by omega))))
          have w145 : -2 ≤ Xi S 904 78 ∧ Xi S 904 78 ≤ 5010 := hH.c _ _
          have w146 : 0 ≤ Xi U13 904 8 ∧ Xi U13 904 8 ≤ 5010 := hHU13.c _ _
          have w147 : Xi U13 904 93 = Xi S 904 93 := (show Xi U13 904 93 = Xi U12 904 93 from by rw [eU13]; exact Xi_ne (by omega)).trans ( (show Xi U12 904 93 = Xi U5 904 93 from by rw [eU12]; exact Xi_ne (by omega)).trans ((show Xi U5 904 93 = Xi S 904 93 from by rw [eU5]; exact Xi_ne (by omega))))
          exact Rl_weak (C147 U13 hHU13 hFU13  (t144.1) (by first | assumption | exact (RNV_FR (FR_e eU13) rfl (RNV_FR (FR_e eU12) rfl (RNV_FR (FR_e eU5) rfl (by assumption : RNV S _))))) (by omega) (by omega) (by omega) (by omega) (by omega) ((KT_FR (FR_e eU13) rfl (KT.w (KT.w KT.rf eU5 (by omega)) eU12 (by omega)))) (by first | assumption | exact (BDA_FR (FR_e eU13) rfl (BDA_FR (FR_e eU12) rfl (BDA_FR (FR_e eU5) rfl (by assumption : BDA S)))))) (And.intro rfl (True.intro))
        · refine l_iconst rfl ?_
          refine l_goto rfl rfl ?_
          refine l_iadd rfl ?_
          refine l_pfi rfl rfl rfl rfl ?_
          obtain ⟨U14, eU14⟩ : ∃ T : sS, T = uI U12 904 8 (Int32.ofInt ((Xi S 904 8) + 1)) := ⟨_, rfl⟩
          rw [← eU14]
          have hHU14 : HI U14 := by rw [eU14]; exact HI_w hHU12 (show 0 ≤ ((Xi S 904 8) + 1) by omega) (show ((Xi S 904 8) + 1) ≤ 5010 by omega)
          have hFU14 : FR md_mo_testedWhat__2 S U14 := by rw [eU14]; exact FR.wI hFU12 (mdf_i (r := (904, 905, 8, 9)) (List.mem_of_getElem? (i := 0) rfl) (inR_i (by omega) (by omega) (by omega) (by omega)))
          have w149 : Xi U14 904 8 = ((Xi S 904 8) + 1) := by rw [eU14]; exact Xi_same (by unfold rg; omega)
          have t144 : AT U14 n c ∧ Xi U12 904 8 ≤ Xi U14 904 8 ∧ (Xi U14 904 8 ≤ n ∨ Xi U14 904 8 = Xi U12 904 8) := at_opt (TK_FR hFU12 rfl hT) (at_fr hA (fun j => (hFU12.cx 907 rfl j).1) (fun j => (hFU12.cx 908 rfl j).1) (by omega) (by omega) (by omega) (by omega)) eU14 (by omega) (by omega)
          have w150 : Xi U14 952 (Xi S 904 93).toNat = Xi U5 952 (Xi S 904 93).toNat := (show Xi U14 952 (Xi S 904 93).toNat = Xi U12 952 (Xi S 904 93).toNat from by rw [eU14]; exact Xi_ne (by omega)).trans ((show Xi U12 952 (Xi S 904 93).toNat = Xi U5 952 (Xi S 904 93).toNat from by rw [eU12]; exact Xi_ne (by omega)))
          have w151 : Xi U14 957 (Xi S 904 93).toNat = Xi S 957 (Xi S 904 93).toNat := (show Xi U14 957 (Xi S 904 93).toNat = Xi U12 957 (Xi S 904 93).toNat from by rw [eU14]; exact Xi_ne (by omega)).trans ( (show Xi U12 957 (Xi S 904 93).toNat = Xi U5 957 (Xi S 904 93).toNat from by rw [eU12]; exact Xi_ne (by omega)).trans ((show Xi U5 957 (Xi S 904 93).toNat = Xi S 957 (Xi S 904 93).toNat from by rw [eU5]; exact Xi_ne (by omega))))
          have w152 : Xi U14 960 (Xi S 904 93).toNat = Xi S 960 (Xi S 904 93).toNat := (show Xi U14 960 (Xi S 904 93).toNat = Xi U12 960 (Xi S 904 93).toNat from by rw [eU14]; exact Xi_ne (by omega)).trans ( (show Xi U12 960 (Xi S 904 93).toNat = Xi U5 960 (Xi S 904 93).toNat from by rw [eU12]; exact Xi_ne (by omega)).trans ((show Xi U5 960 (Xi S 904 93).toNat = Xi S 960 (Xi S 904 93).toNat from by rw [eU5]; exact Xi_ne (by omega))))
          have w153 : Xi U14 904 65 = Xi S 904 65 := (show Xi U14 904 65 = Xi U12 904 65 from by rw [eU14]; exact Xi_ne (by omega)).trans ( (show Xi U12 904 65 = Xi U5 904 65 from by rw [eU12]; exact Xi_ne (by omega)).trans ((show Xi U5 904 65 = Xi S 904 65 from by rw [eU5]; exact Xi_ne (by omega))))
          have w155 : Xi U14 904 69 = Xi S 904 69 := (show Xi U14 904 69 = Xi U12 904 69 from by rw [eU14]; exact Xi_ne (by omega)).trans ( (show Xi U12 904 69 = Xi U5 904 69 from by rw [eU12]; exact Xi_ne (by omega)).trans ((show Xi U5 904 69 = Xi S 904 69 from by rw [eU5]; exact Xi_ne (by omega))))
          have w157 : Xi U14 904 78 = Xi S 904 78 := (show Xi U14 904 78 = Xi U12 904 78 from by rw [eU14]; exact Xi_ne (by omega)).trans ( (show Xi U12 904 78 = Xi U5 904 78 from by rw [eU12]; exact Xi_ne (by omega)).trans ((show Xi U5 904 78 = Xi S 904 78 from by rw [eU5]; exact Xi_ne (by omega))))
          have w158 : -2 ≤ Xi S 904 78 ∧ Xi S 904 78 ≤ 5010 := hH.c _ _
          have w159 : 0 ≤ Xi U14 904 8 ∧ Xi U14 904 8 ≤ 5010 := hHU14.c _ _
          have w160 : Xi U14 904 93 = Xi S 904 93 := (show Xi U14 904 93 = Xi U12 904 93 from by rw [eU14]; exact Xi_ne (by omega)).trans ( (show Xi U12 904 93 = Xi U5 904 93 from by rw [eU12]; exact Xi_ne (by omega)).trans ((show Xi U5 904 93 = Xi S 904 93 from by rw [eU5]; exact Xi_ne (by omega))))
          exact Rl_weak (C147 U14 hHU14 hFU14  (t144.1) (by first | assumption | exact (RNV_FR (FR_e eU14) rfl (RNV_FR (FR_e eU12) rfl (RNV_FR (FR_e eU5) rfl (by assumption : RNV S _))))) (by omega) (by omega) (by omega) (by omega) (by omega) ((KT_FR (FR_e eU14) rfl (KT.w (KT.w KT.rf eU5 (by omega)) eU12 (by omega)))) (by first | assumption | exact (BDA_FR (FR_e eU14) rfl (BDA_FR (FR_e eU12) rfl (BDA_FR (FR_e eU5) rfl (by assumption : BDA S)))))) (And.intro rfl (True.intro))
  · refine l_aload_n rfl rfl ?_
    refine l_sipush rfl rfl ?_
    refine l_callV rfl rfl rfl (t_mo_isNext hH n c 151 ⟨by omega, by omega⟩ (by first | assumption | exact (TK_FR hF rfl (by assumption : TK S _))) (by first | assumption | exact (by assumption : AT S _ _)) _) ?_
    rintro _ _ ⟨rfl, z169, rfl, w169, w167, w168⟩
    show Rl _ _ _ _ _ [iv z169] _ _
    have i8 : z169 = 1 → Xi S 904 65 = 0 ∧ Xi S 907 (Xi S 904 8).toNat = 151 := fun q => by have t := (by assumption : z169 = 1 → Xi S 904 65 = 0 ∧ Xi S 907 (Xi S 904 8).toNat = 151) q; rw [show Xi S 904 8 = Xi S 904 8 by omega, (hF.cx 907 rfl _).1] at t; exact ⟨by omega, t.2⟩
    refine l_if_ne rfl rfl (by unfold rg; omega) (fun w170 => ?_) (fun w171 => ?_)
    · refine l_aload_n rfl rfl ?_
      refine l_gfr rfl rfl rfl rfl rfl (hH.r 904 82 952 rfl) ?_
      refine l_aload_n rfl rfl ?_
      refine l_gfi rfl rfl rfl rfl rfl ?_
      refine l_aload_n rfl rfl ?_
      refine l_sipush rfl rfl ?_
      refine l_callV rfl rfl rfl (t_mo_isNext hH n c 151 ⟨by omega, by omega⟩ (by first | assumption | exact (TK_FR hF rfl (by assumption : TK S _))) (by first | assumption | exact (by assumption : AT S _ _)) _) ?_
      rintro _ _ ⟨rfl, z179, rfl, w179, w177, w178⟩
      show Rl _ _ _ _ _ [iv z179, iv (Xi S 904 93), .ref 952] _ _
      refine l_if_eq rfl rfl (by unfold rg; omega) (fun w180 => ?_) (fun w181 => ?_)
      · refine l_iconst rfl ?_
        refine l_iastore (n := 1700) rfl rfl (by omega) (by omega) (by unfold rg; omega) ?_
        obtain ⟨U15, eU15⟩ : ∃ T : sS, T = uI S 952 (((Xi S 904 93)).toNat) (Int32.ofInt 2) := ⟨_, rfl⟩
        rw [← eU15]
        have hHU15 : HI U15 := by rw [eU15]; exact HI_w hH (show 0 ≤ 2 by omega) (show 2 ≤ 5 by omega)
        have hFU15 : FR md_mo_testedWhat__2 S U15 := by rw [eU15]; exact FR.wI hF (mdf_i (r := (952, 953, 0, 100000)) (List.mem_of_getElem? (i := 7) rfl) (inR_i (by omega) (by omega) (by omega) (by omega)))
        have w182 : Xi U15 952 (((Xi S 904 93)).toNat) = 2 := by rw [eU15]; exact Xi_same (by unfold rg; omega)
        have s47_8 : Xi U15 904 8 = Xi S 904 8 := by rw [eU15, Xi_ne (by omega)]
        have s47_65 : Xi U15 904 65 = Xi S 904 65 := by rw [eU15, Xi_ne (by omega)]
        have s47_69 : Xi U15 904 69 = Xi S 904 69 := by rw [eU15, Xi_ne (by omega)]
        have s47_93 : Xi U15 904 93 = Xi S 904 93 := by rw [eU15, Xi_ne (by omega)]
        refine l_aload_n rfl rfl ?_
        refine l_dup rfl rfl ?_
        refine l_gfi rfl rfl rfl rfl rfl ?_
        have w183 : (Xi U15 904 8) = (Xi S 904 8) := (show Xi U15 904 8 = Xi S 904 8 from by rw [eU15]; exact Xi_ne (by omega))
        rw [w183]
        refine l_iconst rfl ?_
        refine l_iadd rfl ?_
        refine l_pfi rfl rfl rfl rfl ?_
        obtain ⟨U16, eU16⟩ : ∃ T : sS, T = uI U15 904 8 (Int32.ofInt ((Xi S 904 8) + 1)) := ⟨_, rfl⟩
        rw [← eU16]
        have hHU16 : HI U16 := by rw [eU16]; exact HI_w hHU15 (show 0 ≤ ((Xi S 904 8) + 1) by omega) (show ((Xi S 904 8) + 1) ≤ 5010 by omega)
        have hFU16 : FR md_mo_testedWhat__2 S U16 := by rw [eU16]; exact FR.wI hFU15 (mdf_i (r := (904, 905, 8, 9)) (List.mem_of_getElem? (i := 0) rfl) (inR_i (by omega) (by omega) (by omega) (by omega)))
        have w184 : Xi U16 904 8 = ((Xi S 904 8) + 1) := by rw [eU16]; exact Xi_same (by unfold rg; omega)
        have t55 : AT U16 n c ∧ _ := at_mv hT hA (fun j => (hFU15.cx 907 rfl j).1) (fun j => (hFU15.cx 908 rfl j).1) (by omega) (by omega) (by omega) (by omega) eU16 (by omega) (by omega) (by omega) (by omega) (Or.inl rfl)
        have a55 : AT U16 n c := t55.1
        refine l_aload_n rfl rfl ?_
        refine l_sipush rfl rfl ?_
        have w185 : Xi U16 904 65 = Xi S 904 65 := (show Xi U16 904 65 = Xi U15 904 65 from by rw [eU16]; exact Xi_ne (by omega)).trans ((show Xi U15 904 65 = Xi S 904 65 from by rw [eU15]; exact Xi_ne (by omega)))
        have w191 : 0 ≤ Xi U16 904 8 ∧ Xi U16 904 8 ≤ 5010 := hHU16.c _ _
        refine l_callV rfl rfl rfl (t_mo_take__3 hHU16 n c 150 ⟨by omega, by omega⟩ (by first | assumption | exact (TK_FR hFU16 rfl (by assumption : TK S _))) (by first | assumption | exact (by assumption : AT U16 _ _)) (by first | assumption | omega) (by first | assumption | exact (BDA_FR (FR_e eU16) rfl (BDA_FR (FR_e eU15) rfl (by assumption : BDA S)))) _) ?_
        rintro _ T17 ⟨hHT17, w200, rfl, w194, w195, w196, w197, w198⟩
        have hFT17 : FR md_mo_testedWhat__2 S T17 := FR.tr hFU16 w200 rfl
        show Rl _ _ _ _ _ [] _ _
        refine l_aload_n rfl rfl ?_
        refine l_gfr rfl rfl rfl rfl rfl (hHT17.r 904 87 957 rfl) ?_
        refine l_aload_n rfl rfl ?_
        refine l_gfi rfl rfl rfl rfl rfl ?_
        have w201 : (Xi T17 904 93) = (Xi S 904 93) := (show Xi T17 904 93 = Xi U16 904 93 from w200.x _ _ rfl).trans ( (show Xi U16 904 93 = Xi U15 904 93 from by rw [eU16]; exact Xi_ne (by omega)).trans ((show Xi U15 904 93 = Xi S 904 93 from by rw [eU15]; exact Xi_ne (by omega))))
        rw [w201]
        refine l_aload_n rfl rfl ?_
        refine l_gfi rfl rfl rfl rfl rfl ?_
        have w202 : 0 ≤ (Xi T17 904 8) ∧ (Xi T17 904 8) ≤ 5010 := hHT17.c _ _
        refine l_iastore (n := 1700) rfl rfl (by omega) (by omega) (by unfold rg; omega) ?_
        obtain ⟨U18, eU18⟩ : ∃ T : sS, T = uI T17 957 (((Xi S 904 93)).toNat) (Int32.ofInt (Xi T17 904 8)) := ⟨_, rfl⟩
        rw [← eU18]
        have hHU18 : HI U18 := by rw [eU18]; exact HI_w hHT17 (show 0 ≤ (Xi T17 904 8) by omega) (show (Xi T17 904 8) ≤ 5010 by omega)
        have hFU18 : FR md_mo_testedWhat__2 S U18 := by rw [eU18]; exact FR.wI hFT17 (mdf_i (r := (957, 958, 0, 100000)) (List.mem_of_getElem? (i := 9) rfl) (inR_i (by omega) (by omega) (by omega) (by omega)))
        have w203 : Xi U18 957 (((Xi S 904 93)).toNat) = (Xi T17 904 8) := by rw [eU18]; exact Xi_same (by unfold rg; omega)
        refine l_aload_n rfl rfl ?_
        refine l_iconst rfl ?_
        have w204 : Xi U18 904 65 = Xi T17 904 65 := (show Xi U18 904 65 = Xi T17 904 65 from by rw [eU18]; exact Xi_ne (by omega))
        have w205 : 0 ≤ Xi T17 904 65 ∧ Xi T17 904 65 ≤ 1 := hHT17.c _ _
        have w210 : Xi U18 904 8 = Xi T17 904 8 := (show Xi U18 904 8 = Xi T17 904 8 from by rw [eU18]; exact Xi_ne (by omega))
        have w211 : 0 ≤ Xi T17 904 8 ∧ Xi T17 904 8 ≤ 5010 := hHT17.c _ _
        refine l_callV rfl rfl rfl (t_mo_take__3 hHU18 n c 4 ⟨by omega, by omega⟩ (by first | assumption | exact (TK_FR hFU18 rfl (by assumption : TK S _))) (by first | assumption | exact (AT_FR (FR_e eU18) rfl (by assumption : AT T17 _ _))) (by first | assumption | omega) (by first | assumption | exact (BDA_FR (FR_e eU18) rfl (by assumption : BDA T17))) _) ?_
        rintro _ T19 ⟨hHT19, w220, rfl, w214, w215, w216, w217, w218⟩
        have hFT19 : FR md_mo_testedWhat__2 S T19 := FR.tr hFU18 w220 rfl
        show Rl _ _ _ _ _ [] _ _
        refine l_return rfl rfl ?_
        have w221 : Xi T19 952 (Xi S 904 93).toNat = Xi U15 952 (Xi S 904 93).toNat := (show Xi T19 952 (Xi S 904 93).toNat = Xi U18 952 (Xi S 904 93).toNat from (w220.cx 952 rfl _).1).trans ( (show Xi U18 952 (Xi S 904 93).toNat = Xi T17 952 (Xi S 904 93).toNat from by rw [eU18]; exact Xi_ne (by omega)).trans ( (show Xi T17 952 (Xi S 904 93).toNat = Xi U16 952 (Xi S 904 93).toNat from (w200.cx 952 rfl _).1).trans ((show Xi U16 952 (Xi S 904 93).toNat = Xi U15 952 (Xi S 904 93).toNat from by rw [eU16]; exact Xi_ne (by omega)))))
        have w222 : Xi T19 957 (Xi S 904 93).toNat = Xi U18 957 (Xi S 904 93).toNat := (show Xi T19 957 (Xi S 904 93).toNat = Xi U18 957 (Xi S 904 93).toNat from (w220.cx 957 rfl _).1)
        have w223 : Xi T19 960 (Xi S 904 93).toNat = Xi S 960 (Xi S 904 93).toNat := (show Xi T19 960 (Xi S 904 93).toNat = Xi U18 960 (Xi S 904 93).toNat from (w220.cx 960 rfl _).1).trans ( (show Xi U18 960 (Xi S 904 93).toNat = Xi T17 960 (Xi S 904 93).toNat from by rw [eU18]; exact Xi_ne (by omega)).trans ( (show Xi T17 960 (Xi S 904 93).toNat = Xi U16 960 (Xi S 904 93).toNat from (w200.cx 960 rfl _).1).trans ( (show Xi U16 960 (Xi S 904 93).toNat = Xi U15 960 (Xi S 904 93).toNat from by rw [eU16]; exact Xi_ne (by omega)).trans ((show Xi U15 960 (Xi S 904 93).toNat = Xi S 960 (Xi S 904 93).toNat from by rw [eU15]; exact Xi_ne (by omega))))))
        have w224 : 0 ≤ Xi T19 904 65 ∧ Xi T19 904 65 ≤ 1 := hHT19.c _ _
        have w225 : Xi T19 904 69 = Xi S 904 69 := (show Xi T19 904 69 = Xi U18 904 69 from w220.x _ _ rfl).trans ( (show Xi U18 904 69 = Xi T17 904 69 from by rw [eU18]; exact Xi_ne (by omega)).trans ( (show Xi T17 904 69 = Xi U16 904 69 from w200.x _ _ rfl).trans ( (show Xi U16 904 69 = Xi U15 904 69 from by rw [eU16]; exact Xi_ne (by omega)).trans ((show Xi U15 904 69 = Xi S 904 69 from by rw [eU15]; exact Xi_ne (by omega))))))
        have w229 : 0 ≤ Xi T19 904 8 ∧ Xi T19 904 8 ≤ 5010 := hHT19.c _ _
        have w230 : Xi T19 904 93 = Xi S 904 93 := (show Xi T19 904 93 = Xi U18 904 93 from w220.x _ _ rfl).trans ( (show Xi U18 904 93 = Xi T17 904 93 from by rw [eU18]; exact Xi_ne (by omega)).trans ( (show Xi T17 904 93 = Xi U16 904 93 from w200.x _ _ rfl).trans ( (show Xi U16 904 93 = Xi U15 904 93 from by rw [eU16]; exact Xi_ne (by omega)).trans ((show Xi U15 904 93 = Xi S 904 93 from by rw [eU15]; exact Xi_ne (by omega))))))
        exact ⟨hHT19, hFT19, rfl, (by first | assumption | exact (by assumption : AT T19 _ _)), (by omega), (by first | assumption | exact (RNV_FR w220 rfl (RNV_FR (FR_e eU18) rfl (RNV_FR w200 rfl (RNV_FR (FR_e eU16) rfl (RNV_FR (FR_e eU15) rfl (by assumption : RNV S _))))))), (by omega), (by omega), ((KT_FR w220 rfl (KT.w (KT_FR w200 rfl (KT_FR (FR_e eU16) rfl (KT.w KT.rf eU15 (by omega)))) eU18 (by omega)))), (by intro q; refine ⟨by omega, by omega, fun q0 => ?_⟩; first | (exfalso; omega) | (intro a b; have t := W148 (by omega) (Xi T19 957 (Xi S 904 93).toNat) (by omega) a b; omega)), (by omega), (by first | assumption | exact (by assumption : BDA T19))⟩
      · refine l_iconst rfl ?_
        refine l_goto rfl rfl ?_
        refine l_iastore (n := 1700) rfl rfl (by omega) (by omega) (by unfold rg; omega) ?_
        obtain ⟨U20, eU20⟩ : ∃ T : sS, T = uI S 952 (((Xi S 904 93)).toNat) (Int32.ofInt 1) := ⟨_, rfl⟩
        rw [← eU20]
        have hHU20 : HI U20 := by rw [eU20]; exact HI_w hH (show 0 ≤ 1 by omega) (show 1 ≤ 5 by omega)
        have hFU20 : FR md_mo_testedWhat__2 S U20 := by rw [eU20]; exact FR.wI hF (mdf_i (r := (952, 953, 0, 100000)) (List.mem_of_getElem? (i := 7) rfl) (inR_i (by omega) (by omega) (by omega) (by omega)))
        have w232 : Xi U20 952 (((Xi S 904 93)).toNat) = 1 := by rw [eU20]; exact Xi_same (by unfold rg; omega)
        have s47_8 : Xi U20 904 8 = Xi S 904 8 := by rw [eU20, Xi_ne (by omega)]
        have s47_65 : Xi U20 904 65 = Xi S 904 65 := by rw [eU20, Xi_ne (by omega)]
        have s47_69 : Xi U20 904 69 = Xi S 904 69 := by rw [eU20, Xi_ne (by omega)]
        have s47_93 : Xi U20 904 93 = Xi S 904 93 := by rw [eU20, Xi_ne (by omega)]
        refine l_aload_n rfl rfl ?_
        refine l_dup rfl rfl ?_
        refine l_gfi rfl rfl rfl rfl rfl ?_
        have w233 : (Xi U20 904 8) = (Xi S 904 8) := (show Xi U20 904 8 = Xi S 904 8 from by rw [eU20]; exact Xi_ne (by omega))
        rw [w233]
        refine l_iconst rfl ?_
        refine l_iadd rfl ?_
        refine l_pfi rfl rfl rfl rfl ?_
        obtain ⟨U21, eU21⟩ : ∃ T : sS, T = uI U20 904 8 (Int32.ofInt ((Xi S 904 8) + 1)) := ⟨_, rfl⟩
        rw [← eU21]
        have hHU21 : HI U21 := by rw [eU21]; exact HI_w hHU20 (show 0 ≤ ((Xi S 904 8) + 1) by omega) (show ((Xi S 904 8) + 1) ≤ 5010 by omega)
        have hFU21 : FR md_mo_testedWhat__2 S U21 := by rw [eU21]; exact FR.wI hFU20 (mdf_i (r := (904, 905, 8, 9)) (List.mem_of_getElem? (i := 0) rfl) (inR_i (by omega) (by omega) (by omega) (by omega)))
        have w234 : Xi U21 904 8 = ((Xi S 904 8) + 1) := by rw [eU21]; exact Xi_same (by unfold rg; omega)
        have t55 : AT U21 n c ∧ _ := at_mv hT hA (fun j => (hFU20.cx 907 rfl j).1) (fun j => (hFU20.cx 908 rfl j).1) (by omega) (by omega) (by omega) (by omega) eU21 (by omega) (by omega) (by omega) (by omega) (Or.inl rfl)
        have a55 : AT U21 n c := t55.1
        refine l_aload_n rfl rfl ?_
        refine l_sipush rfl rfl ?_
        have w235 : Xi U21 904 65 = Xi S 904 65 := (show Xi U21 904 65 = Xi U20 904 65 from by rw [eU21]; exact Xi_ne (by omega)).trans ((show Xi U20 904 65 = Xi S 904 65 from by rw [eU20]; exact Xi_ne (by omega)))
        have w241 : 0 ≤ Xi U21 904 8 ∧ Xi U21 904 8 ≤ 5010 := hHU21.c _ _
        refine l_callV rfl rfl rfl (t_mo_take__3 hHU21 n c 150 ⟨by omega, by omega⟩ (by first | assumption | exact (TK_FR hFU21 rfl (by assumption : TK S _))) (by first | assumption | exact (by assumption : AT U21 _ _)) (by first | assumption | omega) (by first | assumption | exact (BDA_FR (FR_e eU21) rfl (BDA_FR (FR_e eU20) rfl (by assumption : BDA S)))) _) ?_
        rintro _ T22 ⟨hHT22, w250, rfl, w244, w245, w246, w247, w248⟩
        have hFT22 : FR md_mo_testedWhat__2 S T22 := FR.tr hFU21 w250 rfl
        show Rl _ _ _ _ _ [] _ _
        refine l_aload_n rfl rfl ?_
        refine l_gfr rfl rfl rfl rfl rfl (hHT22.r 904 87 957 rfl) ?_
        refine l_aload_n rfl rfl ?_
        refine l_gfi rfl rfl rfl rfl rfl ?_
        have w251 : (Xi T22 904 93) = (Xi S 904 93) := (show Xi T22 904 93 = Xi U21 904 93 from w250.x _ _ rfl).trans ( (show Xi U21 904 93 = Xi U20 904 93 from by rw [eU21]; exact Xi_ne (by omega)).trans ((show Xi U20 904 93 = Xi S 904 93 from by rw [eU20]; exact Xi_ne (by omega))))
        rw [w251]
        refine l_aload_n rfl rfl ?_
        refine l_gfi rfl rfl rfl rfl rfl ?_
        have w252 : 0 ≤ (Xi T22 904 8) ∧ (Xi T22 904 8) ≤ 5010 := hHT22.c _ _
        refine l_iastore (n := 1700) rfl rfl (by omega) (by omega) (by unfold rg; omega) ?_
        obtain ⟨U23, eU23⟩ : ∃ T : sS, T = uI T22 957 (((Xi S 904 93)).toNat) (Int32.ofInt (Xi T22 904 8)) := ⟨_, rfl⟩
        rw [← eU23]
        have hHU23 : HI U23 := by rw [eU23]; exact HI_w hHT22 (show 0 ≤ (Xi T22 904 8) by omega) (show (Xi T22 904 8) ≤ 5010 by omega)
        have hFU23 : FR md_mo_testedWhat__2 S U23 := by rw [eU23]; exact FR.wI hFT22 (mdf_i (r := (957, 958, 0, 100000)) (List.mem_of_getElem? (i := 9) rfl) (inR_i (by omega) (by omega) (by omega) (by omega)))
        have w253 : Xi U23 957 (((Xi S 904 93)).toNat) = (Xi T22 904 8) := by rw [eU23]; exact Xi_same (by unfold rg; omega)
        refine l_aload_n rfl rfl ?_
        refine l_iconst rfl ?_
        have w254 : Xi U23 904 65 = Xi T22 904 65 := (show Xi U23 904 65 = Xi T22 904 65 from by rw [eU23]; exact Xi_ne (by omega))
        have w255 : 0 ≤ Xi T22 904 65 ∧ Xi T22 904 65 ≤ 1 := hHT22.c _ _
        have w260 : Xi U23 904 8 = Xi T22 904 8 := (show Xi U23 904 8 = Xi T22 904 8 from by rw [eU23]; exact Xi_ne (by omega))
        have w261 : 0 ≤ Xi T22 904 8 ∧ Xi T22 904 8 ≤ 5010 := hHT22.c _ _
        refine l_callV rfl rfl rfl (t_mo_take__3 hHU23 n c 4 ⟨by omega, by omega⟩ (by first | assumption | exact (TK_FR hFU23 rfl (by assumption : TK S _))) (by first | assumption | exact (AT_FR (FR_e eU23) rfl (by assumption : AT T22 _ _))) (by first | assumption | omega) (by first | assumption | exact (BDA_FR (FR_e eU23) rfl (by assumption : BDA T22))) _) ?_
        rintro _ T24 ⟨hHT24, w270, rfl, w264, w265, w266, w267, w268⟩
        have hFT24 : FR md_mo_testedWhat__2 S T24 := FR.tr hFU23 w270 rfl
        show Rl _ _ _ _ _ [] _ _
        refine l_return rfl rfl ?_
        have w271 : Xi T24 952 (Xi S 904 93).toNat = Xi U20 952 (Xi S 904 93).toNat := (show Xi T24 952 (Xi S 904 93).toNat = Xi U23 952 (Xi S 904 93).toNat from (w270.cx 952 rfl _).1).trans ( (show Xi U23 952 (Xi S 904 93).toNat = Xi T22 952 (Xi S 904 93).toNat from by rw [eU23]; exact Xi_ne (by omega)).trans ( (show Xi T22 952 (Xi S 904 93).toNat = Xi U21 952 (Xi S 904 93).toNat from (w250.cx 952 rfl _).1).trans ((show Xi U21 952 (Xi S 904 93).toNat = Xi U20 952 (Xi S 904 93).toNat from by rw [eU21]; exact Xi_ne (by omega)))))
        have w272 : Xi T24 957 (Xi S 904 93).toNat = Xi U23 957 (Xi S 904 93).toNat := (show Xi T24 957 (Xi S 904 93).toNat = Xi U23 957 (Xi S 904 93).toNat from (w270.cx 957 rfl _).1)
        have w273 : Xi T24 960 (Xi S 904 93).toNat = Xi S 960 (Xi S 904 93).toNat := (show Xi T24 960 (Xi S 904 93).toNat = Xi U23 960 (Xi S 904 93).toNat from (w270.cx 960 rfl _).1).trans ( (show Xi U23 960 (Xi S 904 93).toNat = Xi T22 960 (Xi S 904 93).toNat from by rw [eU23]; exact Xi_ne (by omega)).trans ( (show Xi T22 960 (Xi S 904 93).toNat = Xi U21 960 (Xi S 904 93).toNat from (w250.cx 960 rfl _).1).trans ( (show Xi U21 960 (Xi S 904 93).toNat = Xi U20 960 (Xi S 904 93).toNat from by rw [eU21]; exact Xi_ne (by omega)).trans ((show Xi U20 960 (Xi S 904 93).toNat = Xi S 960 (Xi S 904 93).toNat from by rw [eU20]; exact Xi_ne (by omega))))))
        have w274 : 0 ≤ Xi T24 904 65 ∧ Xi T24 904 65 ≤ 1 := hHT24.c _ _
        have w275 : Xi T24 904 69 = Xi S 904 69 := (show Xi T24 904 69 = Xi U23 904 69 from w270.x _ _ rfl).trans ( (show Xi U23 904 69 = Xi T22 904 69 from by rw [eU23]; exact Xi_ne (by omega)).trans ( (show Xi T22 904 69 = Xi U21 904 69 from w250.x _ _ rfl).trans ( (show Xi U21 904 69 = Xi U20 904 69 from by rw [eU21]; exact Xi_ne (by omega)).trans ((show Xi U20 904 69 = Xi S 904 69 from by rw [eU20]; exact Xi_ne (by omega))))))
        have w279 : 0 ≤ Xi T24 904 8 ∧ Xi T24 904 8 ≤ 5010 := hHT24.c _ _
        have w280 : Xi T24 904 93 = Xi S 904 93 := (show Xi T24 904 93 = Xi U23 904 93 from w270.x _ _ rfl).trans ( (show Xi U23 904 93 = Xi T22 904 93 from by rw [eU23]; exact Xi_ne (by omega)).trans ( (show Xi T22 904 93 = Xi U21 904 93 from w250.x _ _ rfl).trans ( (show Xi U21 904 93 = Xi U20 904 93 from by rw [eU21]; exact Xi_ne (by omega)).trans ((show Xi U20 904 93 = Xi S 904 93 from by rw [eU20]; exact Xi_ne (by omega))))))
        exact ⟨hHT24, hFT24, rfl, (by first | assumption | exact (by assumption : AT T24 _ _)), (by omega), (by first | assumption | exact (RNV_FR w270 rfl (RNV_FR (FR_e eU23) rfl (RNV_FR w250 rfl (RNV_FR (FR_e eU21) rfl (RNV_FR (FR_e eU20) rfl (by assumption : RNV S _))))))), (by omega), (by omega), ((KT_FR w270 rfl (KT.w (KT_FR w250 rfl (KT_FR (FR_e eU21) rfl (KT.w KT.rf eU20 (by omega)))) eU23 (by omega)))), (by intro q; refine ⟨by omega, by omega, fun q0 => ?_⟩; first | (exfalso; omega) | (intro a b; have t := W148 (by omega) (Xi T24 957 (Xi S 904 93).toNat) (by omega) a b; omega)), (by omega), (by first | assumption | exact (by assumption : BDA T24))⟩
    · refine l_aload_n rfl rfl ?_
      refine l_sipush rfl rfl ?_
      refine l_callV rfl rfl rfl (t_mo_isNext hH n c 152 ⟨by omega, by omega⟩ (by first | assumption | exact (TK_FR hF rfl (by assumption : TK S _))) (by first | assumption | exact (by assumption : AT S _ _)) _) ?_
      rintro _ _ ⟨rfl, z289, rfl, w289, w287, w288⟩
      show Rl _ _ _ _ _ [iv z289] _ _
      have i18 : z289 = 1 → Xi S 904 65 = 0 ∧ Xi S 907 (Xi S 904 8).toNat = 152 := fun q => by have t := (by assumption : z289 = 1 → Xi S 904 65 = 0 ∧ Xi S 907 (Xi S 904 8).toNat = 152) q; rw [show Xi S 904 8 = Xi S 904 8 by omega, (hF.cx 907 rfl _).1] at t; exact ⟨by omega, t.2⟩
      refine l_if_eq rfl rfl (by unfold rg; omega) (fun w290 => ?_) (fun w291 => ?_)
      · refine l_aload_n rfl rfl ?_
        refine l_gfr rfl rfl rfl rfl rfl (hH.r 904 82 952 rfl) ?_
        refine l_aload_n rfl rfl ?_
        refine l_gfi rfl rfl rfl rfl rfl ?_
        refine l_iconst rfl ?_
        refine l_iastore (n := 1700) rfl rfl (by omega) (by omega) (by unfold rg; omega) ?_
        obtain ⟨U25, eU25⟩ : ∃ T : sS, T = uI S 952 (((Xi S 904 93)).toNat) (Int32.ofInt 0) := ⟨_, rfl⟩
        rw [← eU25]
        have hHU25 : HI U25 := by rw [eU25]; exact HI_w hH (show 0 ≤ 0 by omega) (show 0 ≤ 5 by omega)
        have hFU25 : FR md_mo_testedWhat__2 S U25 := by rw [eU25]; exact FR.wI hF (mdf_i (r := (952, 953, 0, 100000)) (List.mem_of_getElem? (i := 7) rfl) (inR_i (by omega) (by omega) (by omega) (by omega)))
        have w292 : Xi U25 952 (((Xi S 904 93)).toNat) = 0 := by rw [eU25]; exact Xi_same (by unfold rg; omega)
        have s93_8 : Xi U25 904 8 = Xi S 904 8 := by rw [eU25, Xi_ne (by omega)]
        have s93_65 : Xi U25 904 65 = Xi S 904 65 := by rw [eU25, Xi_ne (by omega)]
        have s93_69 : Xi U25 904 69 = Xi S 904 69 := by rw [eU25, Xi_ne (by omega)]
        have s93_93 : Xi U25 904 93 = Xi S 904 93 := by rw [eU25, Xi_ne (by omega)]
        refine l_aload_n rfl rfl ?_
        refine l_gfr rfl rfl rfl rfl rfl (hHU25.r 904 83 953 rfl) ?_
        refine l_aload_n rfl rfl ?_
        refine l_gfi rfl rfl rfl rfl rfl ?_
        have w293 : (Xi U25 904 93) = (Xi S 904 93) := (show Xi U25 904 93 = Xi S 904 93 from by rw [eU25]; exact Xi_ne (by omega))
        rw [w293]
        refine l_iload_n rfl rfl ?_
        refine l_if_ne rfl rfl (by unfold rg; omega) (fun w294 => ?_) (fun w295 => ?_)
        · refine l_iconst rfl ?_
          refine l_bastoreZ1 (n := 1700) rfl rfl (by omega) (by omega) (by unfold rg; omega) ⟨by omega, by omega⟩ ?_
          obtain ⟨U26, eU26⟩ : ∃ T : sS, T = uI U25 953 (((Xi S 904 93)).toNat) (Int32.ofInt 0) := ⟨_, rfl⟩
          rw [← eU26]
          have hHU26 : HI U26 := by rw [eU26]; exact HI_w hHU25 (show 0 ≤ 0 by omega) (show 0 ≤ 1 by omega)
          have hFU26 : FR md_mo_testedWhat__2 S U26 := by rw [eU26]; exact FR.wI hFU25 (mdf_i (r := (953, 954, 0, 100000)) (List.mem_of_getElem? (i := 8) rfl) (inR_i (by omega) (by omega) (by omega) (by omega)))
          have w296 : Xi U26 953 (((Xi S 904 93)).toNat) = 0 := by rw [eU26]; exact Xi_same (by unfold rg; omega)
          have s120_8 : Xi U26 904 8 = Xi U25 904 8 := by rw [eU26, Xi_ne (by omega)]
          have s120_65 : Xi U26 904 65 = Xi U25 904 65 := by rw [eU26, Xi_ne (by omega)]
          have s120_69 : Xi U26 904 69 = Xi U25 904 69 := by rw [eU26, Xi_ne (by omega)]
          have s120_93 : Xi U26 904 93 = Xi U25 904 93 := by rw [eU26, Xi_ne (by omega)]
          have i120 : Xi U26 953 (Xi S 904 93).toNat ≠ 0 → Xi U26 904 65 = 0 ∧ Xi U26 907 (Xi U26 904 8).toNat ≠ 1 := fun q => by rw [(hFU26.cx 907 rfl _).1, show Xi U26 904 8 = Xi S 904 8 by omega]; omega
          refine l_aload_n rfl rfl ?_
          refine l_dup rfl rfl ?_
          refine l_gfi rfl rfl rfl rfl rfl ?_
          have w297 : (Xi U26 904 8) = (Xi S 904 8) := (show Xi U26 904 8 = Xi U25 904 8 from by rw [eU26]; exact Xi_ne (by omega)).trans ((show Xi U25 904 8 = Xi S 904 8 from by rw [eU25]; exact Xi_ne (by omega)))
          rw [w297]
          refine l_aload_n rfl rfl ?_
          refine l_gfr rfl rfl rfl rfl rfl (hHU26.r 904 83 953 rfl) ?_
          refine l_aload_n rfl rfl ?_
          refine l_gfi rfl rfl rfl rfl rfl ?_
          have w298 : (Xi U26 904 93) = (Xi S 904 93) := (show Xi U26 904 93 = Xi U25 904 93 from by rw [eU26]; exact Xi_ne (by omega)).trans ((show Xi U25 904 93 = Xi S 904 93 from by rw [eU25]; exact Xi_ne (by omega)))
          rw [w298]
          refine l_baload (n := 1700) rfl rfl rfl (by decide) (by omega) (by omega) (by unfold rg; omega) ?_
          refine l_if_eq rfl rfl (by unfold rg; omega) (fun w299 => ?_) (fun w300 => ?_)
          · refine l_iconst rfl ?_
            refine l_iadd rfl ?_
            refine l_pfi rfl rfl rfl rfl ?_
            obtain ⟨U27, eU27⟩ : ∃ T : sS, T = uI U26 904 8 (Int32.ofInt ((Xi S 904 8) + 0)) := ⟨_, rfl⟩
            rw [← eU27]
            have hHU27 : HI U27 := by rw [eU27]; exact HI_w hHU26 (show 0 ≤ ((Xi S 904 8) + 0) by omega) (show ((Xi S 904 8) + 0) ≤ 5010 by omega)
            have hFU27 : FR md_mo_testedWhat__2 S U27 := by rw [eU27]; exact FR.wI hFU26 (mdf_i (r := (904, 905, 8, 9)) (List.mem_of_getElem? (i := 0) rfl) (inR_i (by omega) (by omega) (by omega) (by omega)))
            have w301 : Xi U27 904 8 = ((Xi S 904 8) + 0) := by rw [eU27]; exact Xi_same (by unfold rg; omega)
            have t144 : AT U27 n c ∧ Xi U26 904 8 ≤ Xi U27 904 8 ∧ (Xi U27 904 8 ≤ n ∨ Xi U27 904 8 = Xi U26 904 8) := at_opt (TK_FR hFU26 rfl hT) (at_fr hA (fun j => (hFU26.cx 907 rfl j).1) (fun j => (hFU26.cx 908 rfl j).1) (by omega) (by omega) (by omega) (by omega)) eU27 (by omega) (by omega)
            have w302 : Xi U27 952 (Xi S 904 93).toNat = Xi U25 952 (Xi S 904 93).toNat := (show Xi U27 952 (Xi S 904 93).toNat = Xi U26 952 (Xi S 904 93).toNat from by rw [eU27]; exact Xi_ne (by omega)).trans ((show Xi U26 952 (Xi S 904 93).toNat = Xi U25 952 (Xi S 904 93).toNat from by rw [eU26]; exact Xi_ne (by omega)))
            have w303 : Xi U27 957 (Xi S 904 93).toNat = Xi S 957 (Xi S 904 93).toNat := (show Xi U27 957 (Xi S 904 93).toNat = Xi U26 957 (Xi S 904 93).toNat from by rw [eU27]; exact Xi_ne (by omega)).trans ( (show Xi U26 957 (Xi S 904 93).toNat = Xi U25 957 (Xi S 904 93).toNat from by rw [eU26]; exact Xi_ne (by omega)).trans ((show Xi U25 957 (Xi S 904 93).toNat = Xi S 957 (Xi S 904 93).toNat from by rw [eU25]; exact Xi_ne (by omega))))
            have w304 : Xi U27 960 (Xi S 904 93).toNat = Xi S 960 (Xi S 904 93).toNat := (show Xi U27 960 (Xi S 904 93).toNat = Xi U26 960 (Xi S 904 93).toNat from by rw [eU27]; exact Xi_ne (by omega)).trans ( (show Xi U26 960 (Xi S 904 93).toNat = Xi U25 960 (Xi S 904 93).toNat from by rw [eU26]; exact Xi_ne (by omega)).trans ((show Xi U25 960 (Xi S 904 93).toNat = Xi S 960 (Xi S 904 93).toNat from by rw [eU25]; exact Xi_ne (by omega))))
            have w305 : Xi U27 904 65 = Xi S 904 65 := (show Xi U27 904 65 = Xi U26 904 65 from by rw [eU27]; exact Xi_ne (by omega)).trans ( (show Xi U26 904 65 = Xi U25 904 65 from by rw [eU26]; exact Xi_ne (by omega)).trans ((show Xi U25 904 65 = Xi S 904 65 from by rw [eU25]; exact Xi_ne (by omega))))
            have w307 : Xi U27 904 69 = Xi S 904 69 := (show Xi U27 904 69 = Xi U26 904 69 from by rw [eU27]; exact Xi_ne (by omega)).trans ( (show Xi U26 904 69 = Xi U25 904 69 from by rw [eU26]; exact Xi_ne (by omega)).trans ((show Xi U25 904 69 = Xi S 904 69 from by rw [eU25]; exact Xi_ne (by omega))))
            have w309 : Xi U27 904 78 = Xi S 904 78 := (show Xi U27 904 78 = Xi U26 904 78 from by rw [eU27]; exact Xi_ne (by omega)).trans ( (show Xi U26 904 78 = Xi U25 904 78 from by rw [eU26]; exact Xi_ne (by omega)).trans ((show Xi U25 904 78 = Xi S 904 78 from by rw [eU25]; exact Xi_ne (by omega))))
            have w310 : -2 ≤ Xi S 904 78 ∧ Xi S 904 78 ≤ 5010 := hH.c _ _
            have w311 : 0 ≤ Xi U27 904 8 ∧ Xi U27 904 8 ≤ 5010 := hHU27.c _ _
            have w312 : Xi U27 904 93 = Xi S 904 93 := (show Xi U27 904 93 = Xi U26 904 93 from by rw [eU27]; exact Xi_ne (by omega)).trans ( (show Xi U26 904 93 = Xi U25 904 93 from by rw [eU26]; exact Xi_ne (by omega)).trans ((show Xi U25 904 93 = Xi S 904 93 from by rw [eU25]; exact Xi_ne (by omega))))
            exact Rl_weak (C147 U27 hHU27 hFU27  (t144.1) (by first | assumption | exact (RNV_FR (FR_e eU27) rfl (RNV_FR (FR_e eU26) rfl (RNV_FR (FR_e eU25) rfl (by assumption : RNV S _))))) (by omega) (by omega) (by omega) (by omega) (by omega) ((KT_FR (FR_e eU27) rfl (KT.w (KT.w KT.rf eU25 (by omega)) eU26 (by omega)))) (by first | assumption | exact (BDA_FR (FR_e eU27) rfl (BDA_FR (FR_e eU26) rfl (BDA_FR (FR_e eU25) rfl (by assumption : BDA S)))))) (And.intro rfl (True.intro))
          · refine l_iconst rfl ?_
            refine l_goto rfl rfl ?_
            refine l_iadd rfl ?_
            refine l_pfi rfl rfl rfl rfl ?_
            obtain ⟨U28, eU28⟩ : ∃ T : sS, T = uI U26 904 8 (Int32.ofInt ((Xi S 904 8) + 1)) := ⟨_, rfl⟩
            rw [← eU28]
            have hHU28 : HI U28 := by rw [eU28]; exact HI_w hHU26 (show 0 ≤ ((Xi S 904 8) + 1) by omega) (show ((Xi S 904 8) + 1) ≤ 5010 by omega)
            have hFU28 : FR md_mo_testedWhat__2 S U28 := by rw [eU28]; exact FR.wI hFU26 (mdf_i (r := (904, 905, 8, 9)) (List.mem_of_getElem? (i := 0) rfl) (inR_i (by omega) (by omega) (by omega) (by omega)))
            have w314 : Xi U28 904 8 = ((Xi S 904 8) + 1) := by rw [eU28]; exact Xi_same (by unfold rg; omega)
            have t144 : AT U28 n c ∧ Xi U26 904 8 ≤ Xi U28 904 8 ∧ (Xi U28 904 8 ≤ n ∨ Xi U28 904 8 = Xi U26 904 8) := at_opt (TK_FR hFU26 rfl hT) (at_fr hA (fun j => (hFU26.cx 907 rfl j).1) (fun j => (hFU26.cx 908 rfl j).1) (by omega) (by omega) (by omega) (by omega)) eU28 (by omega) (by omega)
            have w315 : Xi U28 952 (Xi S 904 93).toNat = Xi U25 952 (Xi S 904 93).toNat := (show Xi U28 952 (Xi S 904 93).toNat = Xi U26 952 (Xi S 904 93).toNat from by rw [eU28]; exact Xi_ne (by omega)).trans ((show Xi U26 952 (Xi S 904 93).toNat = Xi U25 952 (Xi S 904 93).toNat from by rw [eU26]; exact Xi_ne (by omega)))
            have w316 : Xi U28 957 (Xi S 904 93).toNat = Xi S 957 (Xi S 904 93).toNat := (show Xi U28 957 (Xi S 904 93).toNat = Xi U26 957 (Xi S 904 93).toNat from by rw [eU28]; exact Xi_ne (by omega)).trans ( (show Xi U26 957 (Xi S 904 93).toNat = Xi U25 957 (Xi S 904 93).toNat from by rw [eU26]; exact Xi_ne (by omega)).trans ((show Xi U25 957 (Xi S 904 93).toNat = Xi S 957 (Xi S 904 93).toNat from by rw [eU25]; exact Xi_ne (by omega))))
            have w317 : Xi U28 960 (Xi S 904 93).toNat = Xi S 960 (Xi S 904 93).toNat := (show Xi U28 960 (Xi S 904 93).toNat = Xi U26 960 (Xi S 904 93).toNat from by rw [eU28]; exact Xi_ne (by omega)).trans ( (show Xi U26 960 (Xi S 904 93).toNat = Xi U25 960 (Xi S 904 93).toNat from by rw [eU26]; exact Xi_ne (by omega)).trans ((show Xi U25 960 (Xi S 904 93).toNat = Xi S 960 (Xi S 904 93).toNat from by rw [eU25]; exact Xi_ne (by omega))))
            have w318 : Xi U28 904 65 = Xi S 904 65 := (show Xi U28 904 65 = Xi U26 904 65 from by rw [eU28]; exact Xi_ne (by omega)).trans ( (show Xi U26 904 65 = Xi U25 904 65 from by rw [eU26]; exact Xi_ne (by omega)).trans ((show Xi U25 904 65 = Xi S 904 65 from by rw [eU25]; exact Xi_ne (by omega))))
            have w320 : Xi U28 904 69 = Xi S 904 69 := (show Xi U28 904 69 = Xi U26 904 69 from by rw [eU28]; exact Xi_ne (by omega)).trans ( (show Xi U26 904 69 = Xi U25 904 69 from by rw [eU26]; exact Xi_ne (by omega)).trans ((show Xi U25 904 69 = Xi S 904 69 from by rw [eU25]; exact Xi_ne (by omega))))
            have w322 : Xi U28 904 78 = Xi S 904 78 := (show Xi U28 904 78 = Xi U26 904 78 from by rw [eU28]; exact Xi_ne (by omega)).trans ( (show Xi U26 904 78 = Xi U25 904 78 from by rw [eU26]; exact Xi_ne (by omega)).trans ((show Xi U25 904 78 = Xi S 904 78 from by rw [eU25]; exact Xi_ne (by omega))))
            have w323 : -2 ≤ Xi S 904 78 ∧ Xi S 904 78 ≤ 5010 := hH.c _ _
            have w324 : 0 ≤ Xi U28 904 8 ∧ Xi U28 904 8 ≤ 5010 := hHU28.c _ _
            have w325 : Xi U28 904 93 = Xi S 904 93 := (show Xi U28 904 93 = Xi U26 904 93 from by rw [eU28]; exact Xi_ne (by omega)).trans ( (show Xi U26 904 93 = Xi U25 904 93 from by rw [eU26]; exact Xi_ne (by omega)).trans ((show Xi U25 904 93 = Xi S 904 93 from by rw [eU25]; exact Xi_ne (by omega))))
            exact Rl_weak (C147 U28 hHU28 hFU28  (t144.1) (by first | assumption | exact (RNV_FR (FR_e eU28) rfl (RNV_FR (FR_e eU26) rfl (RNV_FR (FR_e eU25) rfl (by assumption : RNV S _))))) (by omega) (by omega) (by omega) (by omega) (by omega) ((KT_FR (FR_e eU28) rfl (KT.w (KT.w KT.rf eU25 (by omega)) eU26 (by omega)))) (by first | assumption | exact (BDA_FR (FR_e eU28) rfl (BDA_FR (FR_e eU26) rfl (BDA_FR (FR_e eU25) rfl (by assumption : BDA S)))))) (And.intro rfl (True.intro))
        · refine l_aload_n rfl rfl ?_
          refine l_bipush rfl rfl ?_
          have w327 : Xi U25 904 65 = Xi S 904 65 := (show Xi U25 904 65 = Xi S 904 65 from by rw [eU25]; exact Xi_ne (by omega))
          have w329 : Xi U25 904 69 = Xi S 904 69 := (show Xi U25 904 69 = Xi S 904 69 from by rw [eU25]; exact Xi_ne (by omega))
          have w333 : Xi U25 904 8 = Xi S 904 8 := (show Xi U25 904 8 = Xi S 904 8 from by rw [eU25]; exact Xi_ne (by omega))
          have w335 : Xi U25 904 93 = Xi S 904 93 := (show Xi U25 904 93 = Xi S 904 93 from by rw [eU25]; exact Xi_ne (by omega))
          refine l_callV rfl rfl rfl (t_mo_isNext hHU25 n c 106 ⟨by omega, by omega⟩ (by first | assumption | exact (TK_FR hFU25 rfl (by assumption : TK S _))) (by first | assumption | exact (AT_FR (FR_e eU25) rfl (by assumption : AT S _ _))) _) ?_
          rintro _ _ ⟨rfl, z339, rfl, w339, w337, w338⟩
          show Rl _ _ _ _ _ [iv z339, iv (Xi S 904 93), .ref 953] _ _
          have i109 : z339 = 1 → Xi S 904 65 = 0 ∧ Xi S 907 (Xi S 904 8).toNat = 106 := fun q => by have t := (by assumption : z339 = 1 → Xi U25 904 65 = 0 ∧ Xi U25 907 (Xi U25 904 8).toNat = 106) q; rw [show Xi U25 904 8 = Xi S 904 8 by omega, (hFU25.cx 907 rfl _).1] at t; exact ⟨by omega, t.2⟩
          refine l_if_eq rfl rfl (by unfold rg; omega) (fun w340 => ?_) (fun w341 => ?_)
          · refine l_iconst rfl ?_
            refine l_bastoreZ1 (n := 1700) rfl rfl (by omega) (by omega) (by unfold rg; omega) ⟨by omega, by omega⟩ ?_
            obtain ⟨U29, eU29⟩ : ∃ T : sS, T = uI U25 953 (((Xi S 904 93)).toNat) (Int32.ofInt 0) := ⟨_, rfl⟩
            rw [← eU29]
            have hHU29 : HI U29 := by rw [eU29]; exact HI_w hHU25 (show 0 ≤ 0 by omega) (show 0 ≤ 1 by omega)
            have hFU29 : FR md_mo_testedWhat__2 S U29 := by rw [eU29]; exact FR.wI hFU25 (mdf_i (r := (953, 954, 0, 100000)) (List.mem_of_getElem? (i := 8) rfl) (inR_i (by omega) (by omega) (by omega) (by omega)))
            have w342 : Xi U29 953 (((Xi S 904 93)).toNat) = 0 := by rw [eU29]; exact Xi_same (by unfold rg; omega)
            have s120_8 : Xi U29 904 8 = Xi U25 904 8 := by rw [eU29, Xi_ne (by omega)]
            have s120_65 : Xi U29 904 65 = Xi U25 904 65 := by rw [eU29, Xi_ne (by omega)]
            have s120_69 : Xi U29 904 69 = Xi U25 904 69 := by rw [eU29, Xi_ne (by omega)]
            have s120_93 : Xi U29 904 93 = Xi U25 904 93 := by rw [eU29, Xi_ne (by omega)]
            have i120 : Xi U29 953 (Xi S 904 93).toNat ≠ 0 → Xi U29 904 65 = 0 ∧ Xi U29 907 (Xi U29 904 8).toNat ≠ 1 := fun q => by rw [(hFU29.cx 907 rfl _).1, show Xi U29 904 8 = Xi S 904 8 by omega]; omega
            refine l_aload_n rfl rfl ?_
            refine l_dup rfl rfl ?_
            refine l_gfi rfl rfl rfl rfl rfl ?_
            have w343 : (Xi U29 904 8) = (Xi S 904 8) := (show Xi U29 904 8 = Xi U25 904 8 from by rw [eU29]; exact Xi_ne (by omega)).trans ((show Xi U25 904 8 = Xi S 904 8 from by rw [eU25]; exact Xi_ne (by omega)))
            rw [w343]
            refine l_aload_n rfl rfl ?_
            refine l_gfr rfl rfl rfl rfl rfl (hHU29.r 904 83 953 rfl) ?_
            refine l_aload_n rfl rfl ?_
            refine l_gfi rfl rfl rfl rfl rfl ?_
            have w344 : (Xi U29 904 93) = (Xi S 904 93) := (show Xi U29 904 93 = Xi U25 904 93 from by rw [eU29]; exact Xi_ne (by omega)).trans ((show Xi U25 904 93 = Xi S 904 93 from by rw [eU25]; exact Xi_ne (by omega)))
            rw [w344]
            refine l_baload (n := 1700) rfl rfl rfl (by decide) (by omega) (by omega) (by unfold rg; omega) ?_
            refine l_if_eq rfl rfl (by unfold rg; omega) (fun w345 => ?_) (fun w346 => ?_)
            · refine l_iconst rfl ?_
              refine l_iadd rfl ?_
              refine l_pfi rfl rfl rfl rfl ?_
              obtain ⟨U30, eU30⟩ : ∃ T : sS, T = uI U29 904 8 (Int32.ofInt ((Xi S 904 8) + 0)) := ⟨_, rfl⟩
              rw [← eU30]
              have hHU30 : HI U30 := by rw [eU30]; exact HI_w hHU29 (show 0 ≤ ((Xi S 904 8) + 0) by omega) (show ((Xi S 904 8) + 0) ≤ 5010 by omega)
              have hFU30 : FR md_mo_testedWhat__2 S U30 := by rw [eU30]; exact FR.wI hFU29 (mdf_i (r := (904, 905, 8, 9)) (List.mem_of_getElem? (i := 0) rfl) (inR_i (by omega) (by omega) (by omega) (by omega)))
              have w347 : Xi U30 904 8 = ((Xi S 904 8) + 0) := by rw [eU30]; exact Xi_same (by unfold rg; omega)
              have t144 : AT U30 n c ∧ Xi U29 904 8 ≤ Xi U30 904 8 ∧ (Xi U30 904 8 ≤ n ∨ Xi U30 904 8 = Xi U29 904 8) := at_opt (TK_FR hFU29 rfl hT) (at_fr hA (fun j => (hFU29.cx 907 rfl j).1) (fun j => (hFU29.cx 908 rfl j).1) (by omega) (by omega) (by omega) (by omega)) eU30 (by omega) (by omega)
              have w348 : Xi U30 952 (Xi S 904 93).toNat = Xi U25 952 (Xi S 904 93).toNat := (show Xi U30 952 (Xi S 904 93).toNat = Xi U29 952 (Xi S 904 93).toNat from by rw [eU30]; exact Xi_ne (by omega)).trans ((show Xi U29 952 (Xi S 904 93).toNat = Xi U25 952 (Xi S 904 93).toNat from by rw [eU29]; exact Xi_ne (by omega)))
              have w349 : Xi U30 957 (Xi S 904 93).toNat = Xi S 957 (Xi S 904 93).toNat := (show Xi U30 957 (Xi S 904 93).toNat = Xi U29 957 (Xi S 904 93).toNat from by rw [eU30]; exact Xi_ne (by omega)).trans ( (show Xi U29 957 (Xi S 904 93).toNat = Xi U25 957 (Xi S 904 93).toNat from by rw [eU29]; exact Xi_ne (by omega)).trans ((show Xi U25 957 (Xi S 904 93).toNat = Xi S 957 (Xi S 904 93).toNat from by rw [eU25]; exact Xi_ne (by omega))))
              have w350 : Xi U30 960 (Xi S 904 93).toNat = Xi S 960 (Xi S 904 93).toNat := (show Xi U30 960 (Xi S 904 93).toNat = Xi U29 960 (Xi S 904 93).toNat from by rw [eU30]; exact Xi_ne (by omega)).trans ( (show Xi U29 960 (Xi S 904 93).toNat = Xi U25 960 (Xi S 904 93).toNat from by rw [eU29]; exact Xi_ne (by omega)).trans ((show Xi U25 960 (Xi S 904 93).toNat = Xi S 960 (Xi S 904 93).toNat from by rw [eU25]; exact Xi_ne (by omega))))
              have w351 : Xi U30 904 65 = Xi S 904 65 := (show Xi U30 904 65 = Xi U29 904 65 from by rw [eU30]; exact Xi_ne (by omega)).trans ( (show Xi U29 904 65 = Xi U25 904 65 from by rw [eU29]; exact Xi_ne (by omega)).trans ((show Xi U25 904 65 = Xi S 904 65 from by rw [eU25]; exact Xi_ne (by omega))))
              have w353 : Xi U30 904 69 = Xi S 904 69 := (show Xi U30 904 69 = Xi U29 904 69 from by rw [eU30]; exact Xi_ne (by omega)).trans ( (show Xi U29 904 69 = Xi U25 904 69 from by rw [eU29]; exact Xi_ne (by omega)).trans ((show Xi U25 904 69 = Xi S 904 69 from by rw [eU25]; exact Xi_ne (by omega))))
              have w355 : Xi U30 904 78 = Xi S 904 78 := (show Xi U30 904 78 = Xi U29 904 78 from by rw [eU30]; exact Xi_ne (by omega)).trans ( (show Xi U29 904 78 = Xi U25 904 78 from by rw [eU29]; exact Xi_ne (by omega)).trans ((show Xi U25 904 78 = Xi S 904 78 from by rw [eU25]; exact Xi_ne (by omega))))
              have w356 : -2 ≤ Xi S 904 78 ∧ Xi S 904 78 ≤ 5010 := hH.c _ _
              have w357 : 0 ≤ Xi U30 904 8 ∧ Xi U30 904 8 ≤ 5010 := hHU30.c _ _
              have w358 : Xi U30 904 93 = Xi S 904 93 := (show Xi U30 904 93 = Xi U29 904 93 from by rw [eU30]; exact Xi_ne (by omega)).trans ( (show Xi U29 904 93 = Xi U25 904 93 from by rw [eU29]; exact Xi_ne (by omega)).trans ((show Xi U25 904 93 = Xi S 904 93 from by rw [eU25]; exact Xi_ne (by omega))))
              exact Rl_weak (C147 U30 hHU30 hFU30  (t144.1) (by first | assumption | exact (RNV_FR (FR_e eU30) rfl (RNV_FR (FR_e eU29) rfl (RNV_FR (FR_e eU25) rfl (by assumption : RNV S _))))) (by omega) (by omega) (by omega) (by omega) (by omega) ((KT_FR (FR_e eU30) rfl (KT.w (KT.w KT.rf eU25 (by omega)) eU29 (by omega)))) (by first | assumption | exact (BDA_FR (FR_e eU30) rfl (BDA_FR (FR_e eU29) rfl (BDA_FR (FR_e eU25) rfl (by assumption : BDA S)))))) (And.intro rfl (True.intro))
            · refine l_iconst rfl ?_
              refine l_goto rfl rfl ?_
              refine l_iadd rfl ?_
              refine l_pfi rfl rfl rfl rfl ?_
              obtain ⟨U31, eU31⟩ : ∃ T : sS, T = uI U29 904 8 (Int32.ofInt ((Xi S 904 8) + 1)) := ⟨_, rfl⟩
              rw [← eU31]
              have hHU31 : HI U31 := by rw [eU31]; exact HI_w hHU29 (show 0 ≤ ((Xi S 904 8) + 1) by omega) (show ((Xi S 904 8) + 1) ≤ 5010 by omega)
              have hFU31 : FR md_mo_testedWhat__2 S U31 := by rw [eU31]; exact FR.wI hFU29 (mdf_i (r := (904, 905, 8, 9)) (List.mem_of_getElem? (i := 0) rfl) (inR_i (by omega) (by omega) (by omega) (by omega)))
              have w360 : Xi U31 904 8 = ((Xi S 904 8) + 1) := by rw [eU31]; exact Xi_same (by unfold rg; omega)
              have t144 : AT U31 n c ∧ Xi U29 904 8 ≤ Xi U31 904 8 ∧ (Xi U31 904 8 ≤ n ∨ Xi U31 904 8 = Xi U29 904 8) := at_opt (TK_FR hFU29 rfl hT) (at_fr hA (fun j => (hFU29.cx 907 rfl j).1) (fun j => (hFU29.cx 908 rfl j).1) (by omega) (by omega) (by omega) (by omega)) eU31 (by omega) (by omega)
              have w361 : Xi U31 952 (Xi S 904 93).toNat = Xi U25 952 (Xi S 904 93).toNat := (show Xi U31 952 (Xi S 904 93).toNat = Xi U29 952 (Xi S 904 93).toNat from by rw [eU31]; exact Xi_ne (by omega)).trans ((show Xi U29 952 (Xi S 904 93).toNat = Xi U25 952 (Xi S 904 93).toNat from by rw [eU29]; exact Xi_ne (by omega)))
              have w362 : Xi U31 957 (Xi S 904 93).toNat = Xi S 957 (Xi S 904 93).toNat := (show Xi U31 957 (Xi S 904 93).toNat = Xi U29 957 (Xi S 904 93).toNat from by rw [eU31]; exact Xi_ne (by omega)).trans ( (show Xi U29 957 (Xi S 904 93).toNat = Xi U25 957 (Xi S 904 93).toNat from by rw [eU29]; exact Xi_ne (by omega)).trans ((show Xi U25 957 (Xi S 904 93).toNat = Xi S 957 (Xi S 904 93).toNat from by rw [eU25]; exact Xi_ne (by omega))))
              have w363 : Xi U31 960 (Xi S 904 93).toNat = Xi S 960 (Xi S 904 93).toNat := (show Xi U31 960 (Xi S 904 93).toNat = Xi U29 960 (Xi S 904 93).toNat from by rw [eU31]; exact Xi_ne (by omega)).trans ( (show Xi U29 960 (Xi S 904 93).toNat = Xi U25 960 (Xi S 904 93).toNat from by rw [eU29]; exact Xi_ne (by omega)).trans ((show Xi U25 960 (Xi S 904 93).toNat = Xi S 960 (Xi S 904 93).toNat from by rw [eU25]; exact Xi_ne (by omega))))
              have w364 : Xi U31 904 65 = Xi S 904 65 := (show Xi U31 904 65 = Xi U29 904 65 from by rw [eU31]; exact Xi_ne (by omega)).trans ( (show Xi U29 904 65 = Xi U25 904 65 from by rw [eU29]; exact Xi_ne (by omega)).trans ((show Xi U25 904 65 = Xi S 904 65 from by rw [eU25]; exact Xi_ne (by omega))))
              have w366 : Xi U31 904 69 = Xi S 904 69 := (show Xi U31 904 69 = Xi U29 904 69 from by rw [eU31]; exact Xi_ne (by omega)).trans ( (show Xi U29 904 69 = Xi U25 904 69 from by rw [eU29]; exact Xi_ne (by omega)).trans ((show Xi U25 904 69 = Xi S 904 69 from by rw [eU25]; exact Xi_ne (by omega))))
              have w368 : Xi U31 904 78 = Xi S 904 78 := (show Xi U31 904 78 = Xi U29 904 78 from by rw [eU31]; exact Xi_ne (by omega)).trans ( (show Xi U29 904 78 = Xi U25 904 78 from by rw [eU29]; exact Xi_ne (by omega)).trans ((show Xi U25 904 78 = Xi S 904 78 from by rw [eU25]; exact Xi_ne (by omega))))
              have w369 : -2 ≤ Xi S 904 78 ∧ Xi S 904 78 ≤ 5010 := hH.c _ _
              have w370 : 0 ≤ Xi U31 904 8 ∧ Xi U31 904 8 ≤ 5010 := hHU31.c _ _
              have w371 : Xi U31 904 93 = Xi S 904 93 := (show Xi U31 904 93 = Xi U29 904 93 from by rw [eU31]; exact Xi_ne (by omega)).trans ( (show Xi U29 904 93 = Xi U25 904 93 from by rw [eU29]; exact Xi_ne (by omega)).trans ((show Xi U25 904 93 = Xi S 904 93 from by rw [eU25]; exact Xi_ne (by omega))))
              exact Rl_weak (C147 U31 hHU31 hFU31  (t144.1) (by first | assumption | exact (RNV_FR (FR_e eU31) rfl (RNV_FR (FR_e eU29) rfl (RNV_FR (FR_e eU25) rfl (by assumption : RNV S _))))) (by omega) (by omega) (by omega) (by omega) (by omega) ((KT_FR (FR_e eU31) rfl (KT.w (KT.w KT.rf eU25 (by omega)) eU29 (by omega)))) (by first | assumption | exact (BDA_FR (FR_e eU31) rfl (BDA_FR (FR_e eU29) rfl (BDA_FR (FR_e eU25) rfl (by assumption : BDA S)))))) (And.intro rfl (True.intro))
          · refine l_iconst rfl ?_
            refine l_goto rfl rfl ?_
            refine l_bastoreZ1 (n := 1700) rfl rfl (by omega) (by omega) (by unfold rg; omega) ⟨by omega, by omega⟩ ?_
            obtain ⟨U32, eU32⟩ : ∃ T : sS, T = uI U25 953 (((Xi S 904 93)).toNat) (Int32.ofInt 1) := ⟨_, rfl⟩
            rw [← eU32]
            have hHU32 : HI U32 := by rw [eU32]; exact HI_w hHU25 (show 0 ≤ 1 by omega) (show 1 ≤ 1 by omega)
            have hFU32 : FR md_mo_testedWhat__2 S U32 := by rw [eU32]; exact FR.wI hFU25 (mdf_i (r := (953, 954, 0, 100000)) (List.mem_of_getElem? (i := 8) rfl) (inR_i (by omega) (by omega) (by omega) (by omega)))
            have w373 : Xi U32 953 (((Xi S 904 93)).toNat) = 1 := by rw [eU32]; exact Xi_same (by unfold rg; omega)
            have s120_8 : Xi U32 904 8 = Xi U25 904 8 := by rw [eU32, Xi_ne (by omega)]
            have s120_65 : Xi U32 904 65 = Xi U25 904 65 := by rw [eU32, Xi_ne (by omega)]
            have s120_69 : Xi U32 904 69 = Xi U25 904 69 := by rw [eU32, Xi_ne (by omega)]
            have s120_93 : Xi U32 904 93 = Xi U25 904 93 := by rw [eU32, Xi_ne (by omega)]
            have i120 : Xi U32 953 (Xi S 904 93).toNat ≠ 0 → Xi U32 904 65 = 0 ∧ Xi U32 907 (Xi U32 904 8).toNat ≠ 1 := fun q => by rw [(hFU32.cx 907 rfl _).1, show Xi U32 904 8 = Xi S 904 8 by omega]; omega
            refine l_aload_n rfl rfl ?_
            refine l_dup rfl rfl ?_
            refine l_gfi rfl rfl rfl rfl rfl ?_
            have w374 : (Xi U32 904 8) = (Xi S 904 8) := (show Xi U32 904 8 = Xi U25 904 8 from by rw [eU32]; exact Xi_ne (by omega)).trans ((show Xi U25 904 8 = Xi S 904 8 from by rw [eU25]; exact Xi_ne (by omega)))
            rw [w374]
            refine l_aload_n rfl rfl ?_
            refine l_gfr rfl rfl rfl rfl rfl (hHU32.r 904 83 953 rfl) ?_
            refine l_aload_n rfl rfl ?_
            refine l_gfi rfl rfl rfl rfl rfl ?_
            have w375 : (Xi U32 904 93) = (Xi S 904 93) := (show Xi U32 904 93 = Xi U25 904 93 from by rw [eU32]; exact Xi_ne (by omega)).trans ((show Xi U25 904 93 = Xi S 904 93 from by rw [eU25]; exact Xi_ne (by omega)))
            rw [w375]
            refine l_baload (n := 1700) rfl rfl rfl (by decide) (by omega) (by omega) (by unfold rg; omega) ?_
            refine l_if_eq rfl rfl (by unfold rg; omega) (fun w376 => ?_) (fun w377 => ?_)
            · refine l_iconst rfl ?_
              refine l_iadd rfl ?_
              refine l_pfi rfl rfl rfl rfl ?_
              obtain ⟨U33, eU33⟩ : ∃ T : sS, T = uI U32 904 8 (Int32.ofInt ((Xi S 904 8) + 0)) := ⟨_, rfl⟩
              rw [← eU33]
              have hHU33 : HI U33 := by rw [eU33]; exact HI_w hHU32 (show 0 ≤ ((Xi S 904 8) + 0) by omega) (show ((Xi S 904 8) + 0) ≤ 5010 by omega)
              have hFU33 : FR md_mo_testedWhat__2 S U33 := by rw [eU33]; exact FR.wI hFU32 (mdf_i (r := (904, 905, 8, 9)) (List.mem_of_getElem? (i := 0) rfl) (inR_i (by omega) (by omega) (by omega) (by omega)))
              have w378 : Xi U33 904 8 = ((Xi S 904 8) + 0) := by rw [eU33]; exact Xi_same (by unfold rg; omega)
              have t144 : AT U33 n c ∧ Xi U32 904 8 ≤ Xi U33 904 8 ∧ (Xi U33 904 8 ≤ n ∨ Xi U33 904 8 = Xi U32 904 8) := at_opt (TK_FR hFU32 rfl hT) (at_fr hA (fun j => (hFU32.cx 907 rfl j).1) (fun j => (hFU32.cx 908 rfl j).1) (by omega) (by omega) (by omega) (by omega)) eU33 (by omega) (by omega)
              have w379 : Xi U33 952 (Xi S 904 93).toNat = Xi U25 952 (Xi S 904 93).toNat := (show Xi U33 952 (Xi S 904 93).toNat = Xi U32 952 (Xi S 904 93).toNat from by rw [eU33]; exact Xi_ne (by omega)).trans ((show Xi U32 952 (Xi S 904 93).toNat = Xi U25 952 (Xi S 904 93).toNat from by rw [eU32]; exact Xi_ne (by omega)))
              have w380 : Xi U33 957 (Xi S 904 93).toNat = Xi S 957 (Xi S 904 93).toNat := (show Xi U33 957 (Xi S 904 93).toNat = Xi U32 957 (Xi S 904 93).toNat from by rw [eU33]; exact Xi_ne (by omega)).trans ( (show Xi U32 957 (Xi S 904 93).toNat = Xi U25 957 (Xi S 904 93).toNat from by rw [eU32]; exact Xi_ne (by omega)).trans ((show Xi U25 957 (Xi S 904 93).toNat = Xi S 957 (Xi S 904 93).toNat from by rw [eU25]; exact Xi_ne (by omega))))
              have w381 : Xi U33 960 (Xi S 904 93).toNat = Xi S 960 (Xi S 904 93).toNat := (show Xi U33 960 (Xi S 904 93).toNat = Xi U32 960 (Xi S 904 93).toNat from by rw [eU33]; exact Xi_ne (by omega)).trans ( (show Xi U32 960 (Xi S 904 93).toNat = Xi U25 960 (Xi S 904 93).toNat from by rw [eU32]; exact Xi_ne (by omega)).trans ((show Xi U25 960 (Xi S 904 93).toNat = Xi S 960 (Xi S 904 93).toNat from by rw [eU25]; exact Xi_ne (by omega))))
              have w382 : Xi U33 904 65 = Xi S 904 65 := (show Xi U33 904 65 = Xi U32 904 65 from by rw [eU33]; exact Xi_ne (by omega)).trans ( (show Xi U32 904 65 = Xi U25 904 65 from by rw [eU32]; exact Xi_ne (by omega)).trans ((show Xi U25 904 65 = Xi S 904 65 from by rw [eU25]; exact Xi_ne (by omega))))
              have w384 : Xi U33 904 69 = Xi S 904 69 := (show Xi U33 904 69 = Xi U32 904 69 from by rw [eU33]; exact Xi_ne (by omega)).trans ( (show Xi U32 904 69 = Xi U25 904 69 from by rw [eU32]; exact Xi_ne (by omega)).trans ((show Xi U25 904 69 = Xi S 904 69 from by rw [eU25]; exact Xi_ne (by omega))))
              have w386 : Xi U33 904 78 = Xi S 904 78 := (show Xi U33 904 78 = Xi U32 904 78 from by rw [eU33]; exact Xi_ne (by omega)).trans ( (show Xi U32 904 78 = Xi U25 904 78 from by rw [eU32]; exact Xi_ne (by omega)).trans ((show Xi U25 904 78 = Xi S 904 78 from by rw [eU25]; exact Xi_ne (by omega))))
              have w387 : -2 ≤ Xi S 904 78 ∧ Xi S 904 78 ≤ 5010 := hH.c _ _
              have w388 : 0 ≤ Xi U33 904 8 ∧ Xi U33 904 8 ≤ 5010 := hHU33.c _ _
              have w389 : Xi U33 904 93 = Xi S 904 93 := (show Xi U33 904 93 = Xi U32 904 93 from by rw [eU33]; exact Xi_ne (by omega)).trans ( (show Xi U32 904 93 = Xi U25 904 93 from by rw [eU32]; exact Xi_ne (by omega)).trans ((show Xi U25 904 93 = Xi S 904 93 from by rw [eU25]; exact Xi_ne (by omega))))
              exact Rl_weak (C147 U33 hHU33 hFU33  (t144.1) (by first | assumption | exact (RNV_FR (FR_e eU33) rfl (RNV_FR (FR_e eU32) rfl (RNV_FR (FR_e eU25) rfl (by assumption : RNV S _))))) (by omega) (by omega) (by omega) (by omega) (by omega) ((KT_FR (FR_e eU33) rfl (KT.w (KT.w KT.rf eU25 (by omega)) eU32 (by omega)))) (by first | assumption | exact (BDA_FR (FR_e eU33) rfl (BDA_FR (FR_e eU32) rfl (BDA_FR (FR_e eU25) rfl (by assumption : BDA S)))))) (And.intro rfl (True.intro))
            · refine l_iconst rfl ?_
              refine l_goto rfl rfl ?_
              refine l_iadd rfl ?_
              refine l_pfi rfl rfl rfl rfl ?_
              obtain ⟨U34, eU34⟩ : ∃ T : sS, T = uI U32 904 8 (Int32.ofInt ((Xi S 904 8) + 1)) := ⟨_, rfl⟩
              rw [← eU34]
              have hHU34 : HI U34 := by rw [eU34]; exact HI_w hHU32 (show 0 ≤ ((Xi S 904 8) + 1) by omega) (show ((Xi S 904 8) + 1) ≤ 5010 by omega)
              have hFU34 : FR md_mo_testedWhat__2 S U34 := by rw [eU34]; exact FR.wI hFU32 (mdf_i (r := (904, 905, 8, 9)) (List.mem_of_getElem? (i := 0) rfl) (inR_i (by omega) (by omega) (by omega) (by omega)))
              have w391 : Xi U34 904 8 = ((Xi S 904 8) + 1) := by rw [eU34]; exact Xi_same (by unfold rg; omega)
              have t144 : AT U34 n c ∧ Xi U32 904 8 ≤ Xi U34 904 8 ∧ (Xi U34 904 8 ≤ n ∨ Xi U34 904 8 = Xi U32 904 8) := at_opt (TK_FR hFU32 rfl hT) (at_fr hA (fun j => (hFU32.cx 907 rfl j).1) (fun j => (hFU32.cx 908 rfl j).1) (by omega) (by omega) (by omega) (by omega)) eU34 (by omega) (by omega)
              have w392 : Xi U34 952 (Xi S 904 93).toNat = Xi U25 952 (Xi S 904 93).toNat := (show Xi U34 952 (Xi S 904 93).toNat = Xi U32 952 (Xi S 904 93).toNat from by rw [eU34]; exact Xi_ne (by omega)).trans ((show Xi U32 952 (Xi S 904 93).toNat = Xi U25 952 (Xi S 904 93).toNat from by rw [eU32]; exact Xi_ne (by omega)))
              have w393 : Xi U34 957 (Xi S 904 93).toNat = Xi S 957 (Xi S 904 93).toNat := (show Xi U34 957 (Xi S 904 93).toNat = Xi U32 957 (Xi S 904 93).toNat from by rw [eU34]; exact Xi_ne (by omega)).trans ( (show Xi U32 957 (Xi S 904 93).toNat = Xi U25 957 (Xi S 904 93).toNat from by rw [eU32]; exact Xi_ne (by omega)).trans ((show Xi U25 957 (Xi S 904 93).toNat = Xi S 957 (Xi S 904 93).toNat from by rw [eU25]; exact Xi_ne (by omega))))
              have w394 : Xi U34 960 (Xi S 904 93).toNat = Xi S 960 (Xi S 904 93).toNat := (show Xi U34 960 (Xi S 904 93).toNat = Xi U32 960 (Xi S 904 93).toNat from by rw [eU34]; exact Xi_ne (by omega)).trans ( (show Xi U32 960 (Xi S 904 93).toNat = Xi U25 960 (Xi S 904 93).toNat from by rw [eU32]; exact Xi_ne (by omega)).trans ((show Xi U25 960 (Xi S 904 93).toNat = Xi S 960 (Xi S 904 93).toNat from by rw [eU25]; exact Xi_ne (by omega))))
              have w395 : Xi U34 904 65 = Xi S 904 65 := (show Xi U34 904 65 = Xi U32 904 65 from by rw [eU34]; exact Xi_ne (by omega)).trans ( (show Xi U32 904 65 = Xi U25 904 65 from by rw [eU32]; exact Xi_ne (by omega)).trans ((show Xi U25 904 65 = Xi S 904 65 from by rw [eU25]; exact Xi_ne (by omega))))
              have w397 : Xi U34 904 69 = Xi S 904 69 := (show Xi U34 904 69 = Xi U32 904 69 from by rw [eU34]; exact Xi_ne (by omega)).trans ( (show Xi U32 904 69 = Xi U25 904 69 from by rw [eU32]; exact Xi_ne (by omega)).trans ((show Xi U25 904 69 = Xi S 904 69 from by rw [eU25]; exact Xi_ne (by omega))))
              have w399 : Xi U34 904 78 = Xi S 904 78 := (show Xi U34 904 78 = Xi U32 904 78 from by rw [eU34]; exact Xi_ne (by omega)).trans ( (show Xi U32 904 78 = Xi U25 904 78 from by rw [eU32]; exact Xi_ne (by omega)).trans ((show Xi U25 904 78 = Xi S 904 78 from by rw [eU25]; exact Xi_ne (by omega))))
              have w400 : -2 ≤ Xi S 904 78 ∧ Xi S 904 78 ≤ 5010 := hH.c _ _
              have w401 : 0 ≤ Xi U34 904 8 ∧ Xi U34 904 8 ≤ 5010 := hHU34.c _ _
              have w402 : Xi U34 904 93 = Xi S 904 93 := (show Xi U34 904 93 = Xi U32 904 93 from by rw [eU34]; exact Xi_ne (by omega)).trans ( (show Xi U32 904 93 = Xi U25 904 93 from by rw [eU32]; exact Xi_ne (by omega)).trans ((show Xi U25 904 93 = Xi S 904 93 from by rw [eU25]; exact Xi_ne (by omega))))
              exact Rl_weak (C147 U34 hHU34 hFU34  (t144.1) (by first | assumption | exact (RNV_FR (FR_e eU34) rfl (RNV_FR (FR_e eU32) rfl (RNV_FR (FR_e eU25) rfl (by assumption : RNV S _))))) (by omega) (by omega) (by omega) (by omega) (by omega) ((KT_FR (FR_e eU34) rfl (KT.w (KT.w KT.rf eU25 (by omega)) eU32 (by omega)))) (by first | assumption | exact (BDA_FR (FR_e eU34) rfl (BDA_FR (FR_e eU32) rfl (BDA_FR (FR_e eU25) rfl (by assumption : BDA S)))))) (And.intro rfl (True.intro))
      · refine l_aload_n rfl rfl ?_
        refine l_gfr rfl rfl rfl rfl rfl (hH.r 904 82 952 rfl) ?_
        refine l_aload_n rfl rfl ?_
        refine l_gfi rfl rfl rfl rfl rfl ?_
        refine l_aload_n rfl rfl ?_
        refine l_sipush rfl rfl ?_
        refine l_callV rfl rfl rfl (t_mo_isNext hH n c 151 ⟨by omega, by omega⟩ (by first | assumption | exact (TK_FR hF rfl (by assumption : TK S _))) (by first | assumption | exact (by assumption : AT S _ _)) _) ?_
        rintro _ _ ⟨rfl, z411, rfl, w411, w409, w410⟩
        show Rl _ _ _ _ _ [iv z411, iv (Xi S 904 93), .ref 952] _ _
        refine l_if_eq rfl rfl (by unfold rg; omega) (fun w412 => ?_) (fun w413 => ?_)
        · refine l_iconst rfl ?_
          refine l_iastore (n := 1700) rfl rfl (by omega) (by omega) (by unfold rg; omega) ?_
          obtain ⟨U35, eU35⟩ : ∃ T : sS, T = uI S 952 (((Xi S 904 93)).toNat) (Int32.ofInt 2) := ⟨_, rfl⟩
          rw [← eU35]
          have hHU35 : HI U35 := by rw [eU35]; exact HI_w hH (show 0 ≤ 2 by omega) (show 2 ≤ 5 by omega)
          have hFU35 : FR md_mo_testedWhat__2 S U35 := by rw [eU35]; exact FR.wI hF (mdf_i (r := (952, 953, 0, 100000)) (List.mem_of_getElem? (i := 7) rfl) (inR_i (by omega) (by omega) (by omega) (by omega)))
          have w414 : Xi U35 952 (((Xi S 904 93)).toNat) = 2 := by rw [eU35]; exact Xi_same (by unfold rg; omega)
          have s47_8 : Xi U35 904 8 = Xi S 904 8 := by rw [eU35, Xi_ne (by omega)]
          have s47_65 : Xi U35 904 65 = Xi S 904 65 := by rw [eU35, Xi_ne (by omega)]
          have s47_69 : Xi U35 904 69 = Xi S 904 69 := by rw [eU35, Xi_ne (by omega)]
          have s47_93 : Xi U35 904 93 = Xi S 904 93 := by rw [eU35, Xi_ne (by omega)]
          refine l_aload_n rfl rfl ?_
          refine l_dup rfl rfl ?_
          refine l_gfi rfl rfl rfl rfl rfl ?_
          have w415 : (Xi U35 904 8) = (Xi S 904 8) := (show Xi U35 904 8 = Xi S 904 8 from by rw [eU35]; exact Xi_ne (by omega))
          rw [w415]
          refine l_iconst rfl ?_
          refine l_iadd rfl ?_
          refine l_pfi rfl rfl rfl rfl ?_
          obtain ⟨U36, eU36⟩ : ∃ T : sS, T = uI U35 904 8 (Int32.ofInt ((Xi S 904 8) + 1)) := ⟨_, rfl⟩
          rw [← eU36]
          have hHU36 : HI U36 := by rw [eU36]; exact HI_w hHU35 (show 0 ≤ ((Xi S 904 8) + 1) by omega) (show ((Xi S 904 8) + 1) ≤ 5010 by omega)
          have hFU36 : FR md_mo_testedWhat__2 S U36 := by rw [eU36]; exact FR.wI hFU35 (mdf_i (r := (904, 905, 8, 9)) (List.mem_of_getElem? (i := 0) rfl) (inR_i (by omega) (by omega) (by omega) (by omega)))
          have w416 : Xi U36 904 8 = ((Xi S 904 8) + 1) := by rw [eU36]; exact Xi_same (by unfold rg; omega)
          have t55 : AT U36 n c ∧ _ := at_mv hT hA (fun j => (hFU35.cx 907 rfl j).1) (fun j => (hFU35.cx 908 rfl j).1) (by omega) (by omega) (by omega) (by omega) eU36 (by omega) (by omega) (by omega) (by omega) (Or.inl rfl)
          have a55 : AT U36 n c := t55.1
          refine l_aload_n rfl rfl ?_
          refine l_sipush rfl rfl ?_
          have w417 : Xi U36 904 65 = Xi S 904 65 := (show Xi U36 904 65 = Xi U35 904 65 from by rw [eU36]; exact Xi_ne (by omega)).trans ((show Xi U35 904 65 = Xi S 904 65 from by rw [eU35]; exact Xi_ne (by omega)))
          have w423 : 0 ≤ Xi U36 904 8 ∧ Xi U36 904 8 ≤ 5010 := hHU36.c _ _
          refine l_callV rfl rfl rfl (t_mo_take__3 hHU36 n c 150 ⟨by omega, by omega⟩ (by first | assumption | exact (TK_FR hFU36 rfl (by assumption : TK S _))) (by first | assumption | exact (by assumption : AT U36 _ _)) (by first | assumption | omega) (by first | assumption | exact (BDA_FR (FR_e eU36) rfl (BDA_FR (FR_e eU35) rfl (by assumption : BDA S)))) _) ?_
          rintro _ T37 ⟨hHT37, w432, rfl, w426, w427, w428, w429, w430⟩
          have hFT37 : FR md_mo_testedWhat__2 S T37 := FR.tr hFU36 w432 rfl
          show Rl _ _ _ _ _ [] _ _
          refine l_aload_n rfl rfl ?_
          refine l_gfr rfl rfl rfl rfl rfl (hHT37.r 904 87 957 rfl) ?_
          refine l_aload_n rfl rfl ?_
          refine l_gfi rfl rfl rfl rfl rfl ?_
          have w433 : (Xi T37 904 93) = (Xi S 904 93) := (show Xi T37 904 93 = Xi U36 904 93 from w432.x _ _ rfl).trans ( (show Xi U36 904 93 = Xi U35 904 93 from by rw [eU36]; exact Xi_ne (by omega)).trans ((show Xi U35 904 93 = Xi S 904 93 from by rw [eU35]; exact Xi_ne (by omega))))
          rw [w433]
          refine l_aload_n rfl rfl ?_
          refine l_gfi rfl rfl rfl rfl rfl ?_
          have w434 : 0 ≤ (Xi T37 904 8) ∧ (Xi T37 904 8) ≤ 5010 := hHT37.c _ _
          refine l_iastore (n := 1700) rfl rfl (by omega) (by omega) (by unfold rg; omega) ?_
          obtain ⟨U38, eU38⟩ : ∃ T : sS, T = uI T37 957 (((Xi S 904 93)).toNat) (Int32.ofInt (Xi T37 904 8)) := ⟨_, rfl⟩
          rw [← eU38]
          have hHU38 : HI U38 := by rw [eU38]; exact HI_w hHT37 (show 0 ≤ (Xi T37 904 8) by omega) (show (Xi T37 904 8) ≤ 5010 by omega)
          have hFU38 : FR md_mo_testedWhat__2 S U38 := by rw [eU38]; exact FR.wI hFT37 (mdf_i (r := (957, 958, 0, 100000)) (List.mem_of_getElem? (i := 9) rfl) (inR_i (by omega) (by omega) (by omega) (by omega)))
          have w435 : Xi U38 957 (((Xi S 904 93)).toNat) = (Xi T37 904 8) := by rw [eU38]; exact Xi_same (by unfold rg; omega)
          refine l_aload_n rfl rfl ?_
          refine l_iconst rfl ?_
          have w436 : Xi U38 904 65 = Xi T37 904 65 := (show Xi U38 904 65 = Xi T37 904 65 from by rw [eU38]; exact Xi_ne (by omega))
          have w437 : 0 ≤ Xi T37 904 65 ∧ Xi T37 904 65 ≤ 1 := hHT37.c _ _
          have w442 : Xi U38 904 8 = Xi T37 904 8 := (show Xi U38 904 8 = Xi T37 904 8 from by rw [eU38]; exact Xi_ne (by omega))
          have w443 : 0 ≤ Xi T37 904 8 ∧ Xi T37 904 8 ≤ 5010 := hHT37.c _ _
          refine l_callV rfl rfl rfl (t_mo_take__3 hHU38 n c 4 ⟨by omega, by omega⟩ (by first | assumption | exact (TK_FR hFU38 rfl (by assumption : TK S _))) (by first | assumption | exact (AT_FR (FR_e eU38) rfl (by assumption : AT T37 _ _))) (by first | assumption | omega) (by first | assumption | exact (BDA_FR (FR_e eU38) rfl (by assumption : BDA T37))) _) ?_
          rintro _ T39 ⟨hHT39, w452, rfl, w446, w447, w448, w449, w450⟩
          have hFT39 : FR md_mo_testedWhat__2 S T39 := FR.tr hFU38 w452 rfl
          show Rl _ _ _ _ _ [] _ _
          refine l_return rfl rfl ?_
          have w453 : Xi T39 952 (Xi S 904 93).toNat = Xi U35 952 (Xi S 904 93).toNat := (show Xi T39 952 (Xi S 904 93).toNat = Xi U38 952 (Xi S 904 93).toNat from (w452.cx 952 rfl _).1).trans ( (show Xi U38 952 (Xi S 904 93).toNat = Xi T37 952 (Xi S 904 93).toNat from by rw [eU38]; exact Xi_ne (by omega)).trans ( (show Xi T37 952 (Xi S 904 93).toNat = Xi U36 952 (Xi S 904 93).toNat from (w432.cx 952 rfl _).1).trans ((show Xi U36 952 (Xi S 904 93).toNat = Xi U35 952 (Xi S 904 93).toNat from by rw [eU36]; exact Xi_ne (by omega)))))
          have w454 : Xi T39 957 (Xi S 904 93).toNat = Xi U38 957 (Xi S 904 93).toNat := (show Xi T39 957 (Xi S 904 93).toNat = Xi U38 957 (Xi S 904 93).toNat from (w452.cx 957 rfl _).1)
          have w455 : Xi T39 960 (Xi S 904 93).toNat = Xi S 960 (Xi S 904 93).toNat := (show Xi T39 960 (Xi S 904 93).toNat = Xi U38 960 (Xi S 904 93).toNat from (w452.cx 960 rfl _).1).trans ( (show Xi U38 960 (Xi S 904 93).toNat = Xi T37 960 (Xi S 904 93).toNat from by rw [eU38]; exact Xi_ne (by omega)).trans ( (show Xi T37 960 (Xi S 904 93).toNat = Xi U36 960 (Xi S 904 93).toNat from (w432.cx 960 rfl _).1).trans ( (show Xi U36 960 (Xi S 904 93).toNat = Xi U35 960 (Xi S 904 93).toNat from by rw [eU36]; exact Xi_ne (by omega)).trans ((show Xi U35 960 (Xi S 904 93).toNat = Xi S 960 (Xi S 904 93).toNat from by rw [eU35]; exact Xi_ne (by omega))))))
          have w456 : 0 ≤ Xi T39 904 65 ∧ Xi T39 904 65 ≤ 1 := hHT39.c _ _
          have w457 : Xi T39 904 69 = Xi S 904 69 := (show Xi T39 904 69 = Xi U38 904 69 from w452.x _ _ rfl).trans ( (show Xi U38 904 69 = Xi T37 904 69 from by rw [eU38]; exact Xi_ne (by omega)).trans ( (show Xi T37 904 69 = Xi U36 904 69 from w432.x _ _ rfl).trans ( (show Xi U36 904 69 = Xi U35 904 69 from by rw [eU36]; exact Xi_ne (by omega)).trans ((show Xi U35 904 69 = Xi S 904 69 from by rw [eU35]; exact Xi_ne (by omega))))))
          have w461 : 0 ≤ Xi T39 904 8 ∧ Xi T39 904 8 ≤ 5010 := hHT39.c _ _
          have w462 : Xi T39 904 93 = Xi S 904 93 := (show Xi T39 904 93 = Xi U38 904 93 from w452.x _ _ rfl).trans ( (show Xi U38 904 93 = Xi T37 904 93 from by rw [eU38]; exact Xi_ne (by omega)).trans ( (show Xi T37 904 93 = Xi U36 904 93 from w432.x _ _ rfl).trans ( (show Xi U36 904 93 = Xi U35 904 93 from by rw [eU36]; exact Xi_ne (by omega)).trans ((show Xi U35 904 93 = Xi S 904 93 from by rw [eU35]; exact Xi_ne (by omega))))))
          exact ⟨hHT39, hFT39, rfl, (by first | assumption | exact (by assumption : AT T39 _ _)), (by omega), (by first | assumption | exact (RNV_FR w452 rfl (RNV_FR (FR_e eU38) rfl (RNV_FR w432 rfl (RNV_FR (FR_e eU36) rfl (RNV_FR (FR_e eU35) rfl (by assumption : RNV S _))))))), (by omega), (by omega), ((KT_FR w452 rfl (KT.w (KT_FR w432 rfl (KT_FR (FR_e eU36) rfl (KT.w KT.rf eU35 (by omega)))) eU38 (by omega)))), (by intro q; refine ⟨by omega, by omega, fun q0 => ?_⟩; first | (exfalso; omega) | (intro a b; have t := W148 (by omega) (Xi T39 957 (Xi S 904 93).toNat) (by omega) a b; omega)), (by omega), (by first | assumption | exact (by assumption : BDA T39))⟩
        · refine l_iconst rfl ?_
          refine l_goto rfl rfl ?_
          refine l_iastore (n := 1700) rfl rfl (by omega) (by omega) (by unfold rg; omega) ?_
          obtain ⟨U40, eU40⟩ : ∃ T : sS, T = uI S 952 (((Xi S 904 93)).toNat) (Int32.ofInt 1) := ⟨_, rfl⟩
          rw [← eU40]
          have hHU40 : HI U40 := by rw [eU40]; exact HI_w hH (show 0 ≤ 1 by omega) (show 1 ≤ 5 by omega)
          have hFU40 : FR md_mo_testedWhat__2 S U40 := by rw [eU40]; exact FR.wI hF (mdf_i (r := (952, 953, 0, 100000)) (List.mem_of_getElem? (i := 7) rfl) (inR_i (by omega) (by omega) (by omega) (by omega)))
          have w464 : Xi U40 952 (((Xi S 904 93)).toNat) = 1 := by rw [eU40]; exact Xi_same (by unfold rg; omega)
          have s47_8 : Xi U40 904 8 = Xi S 904 8 := by rw [eU40, Xi_ne (by omega)]
          have s47_65 : Xi U40 904 65 = Xi S 904 65 := by rw [eU40, Xi_ne (by omega)]
          have s47_69 : Xi U40 904 69 = Xi S 904 69 := by rw [eU40, Xi_ne (by omega)]
          have s47_93 : Xi U40 904 93 = Xi S 904 93 := by rw [eU40, Xi_ne (by omega)]
          refine l_aload_n rfl rfl ?_
          refine l_dup rfl rfl ?_
          refine l_gfi rfl rfl rfl rfl rfl ?_
          have w465 : (Xi U40 904 8) = (Xi S 904 8) := (show Xi U40 904 8 = Xi S 904 8 from by rw [eU40]; exact Xi_ne (by omega))
          rw [w465]
          refine l_iconst rfl ?_
          refine l_iadd rfl ?_
          refine l_pfi rfl rfl rfl rfl ?_
          obtain ⟨U41, eU41⟩ : ∃ T : sS, T = uI U40 904 8 (Int32.ofInt ((Xi S 904 8) + 1)) := ⟨_, rfl⟩
          rw [← eU41]
          have hHU41 : HI U41 := by rw [eU41]; exact HI_w hHU40 (show 0 ≤ ((Xi S 904 8) + 1) by omega) (show ((Xi S 904 8) + 1) ≤ 5010 by omega)
          have hFU41 : FR md_mo_testedWhat__2 S U41 := by rw [eU41]; exact FR.wI hFU40 (mdf_i (r := (904, 905, 8, 9)) (List.mem_of_getElem? (i := 0) rfl) (inR_i (by omega) (by omega) (by omega) (by omega)))
          have w466 : Xi U41 904 8 = ((Xi S 904 8) + 1) := by rw [eU41]; exact Xi_same (by unfold rg; omega)
          have t55 : AT U41 n c ∧ _ := at_mv hT hA (fun j => (hFU40.cx 907 rfl j).1) (fun j => (hFU40.cx 908 rfl j).1) (by omega) (by omega) (by omega) (by omega) eU41 (by omega) (by omega) (by omega) (by omega) (Or.inl rfl)
          have a55 : AT U41 n c := t55.1
          refine l_aload_n rfl rfl ?_
          refine l_sipush rfl rfl ?_
          have w467 : Xi U41 904 65 = Xi S 904 65 := (show Xi U41 904 65 = Xi U40 904 65 from by rw [eU41]; exact Xi_ne (by omega)).trans ((show Xi U40 904 65 = Xi S 904 65 from by rw [eU40]; exact Xi_ne (by omega)))
          have w473 : 0 ≤ Xi U41 904 8 ∧ Xi U41 904 8 ≤ 5010 := hHU41.c _ _
          refine l_callV rfl rfl rfl (t_mo_take__3 hHU41 n c 150 ⟨by omega, by omega⟩ (by first | assumption | exact (TK_FR hFU41 rfl (by assumption : TK S _))) (by first | assumption | exact (by assumption : AT U41 _ _)) (by first | assumption | omega) (by first | assumption | exact (BDA_FR (FR_e eU41) rfl (BDA_FR (FR_e eU40) rfl (by assumption : BDA S)))) _) ?_
          rintro _ T42 ⟨hHT42, w482, rfl, w476, w477, w478, w479, w480⟩
          have hFT42 : FR md_mo_testedWhat__2 S T42 := FR.tr hFU41 w482 rfl
          show Rl _ _ _ _ _ [] _ _
          refine l_aload_n rfl rfl ?_
          refine l_gfr rfl rfl rfl rfl rfl (hHT42.r 904 87 957 rfl) ?_
          refine l_aload_n rfl rfl ?_
          refine l_gfi rfl rfl rfl rfl rfl ?_
          have w483 : (Xi T42 904 93) = (Xi S 904 93) := (show Xi T42 904 93 = Xi U41 904 93 from w482.x _ _ rfl).trans ( (show Xi U41 904 93 = Xi U40 904 93 from by rw [eU41]; exact Xi_ne (by omega)).trans ((show Xi U40 904 93 = Xi S 904 93 from by rw [eU40]; exact Xi_ne (by omega))))
          rw [w483]
          refine l_aload_n rfl rfl ?_
          refine l_gfi rfl rfl rfl rfl rfl ?_
          have w484 : 0 ≤ (Xi T42 904 8) ∧ (Xi T42 904 8) ≤ 5010 := hHT42.c _ _
          refine l_iastore (n := 1700) rfl rfl (by omega) (by omega) (by unfold rg; omega) ?_
          obtain ⟨U43, eU43⟩ : ∃ T : sS, T = uI T42 957 (((Xi S 904 93)).toNat) (Int32.ofInt (Xi T42 904 8)) := ⟨_, rfl⟩
          rw [← eU43]
          have hHU43 : HI U43 := by rw [eU43]; exact HI_w hHT42 (show 0 ≤ (Xi T42 904 8) by omega) (show (Xi T42 904 8) ≤ 5010 by omega)
          have hFU43 : FR md_mo_testedWhat__2 S U43 := by rw [eU43]; exact FR.wI hFT42 (mdf_i (r := (957, 958, 0, 100000)) (List.mem_of_getElem? (i := 9) rfl) (inR_i (by omega) (by omega) (by omega) (by omega)))
          have w485 : Xi U43 957 (((Xi S 904 93)).toNat) = (Xi T42 904 8) := by rw [eU43]; exact Xi_same (by unfold rg; omega)
          refine l_aload_n rfl rfl ?_
          refine l_iconst rfl ?_
          have w486 : Xi U43 904 65 = Xi T42 904 65 := (show Xi U43 904 65 = Xi T42 904 65 from by rw [eU43]; exact Xi_ne (by omega))
          have w487 : 0 ≤ Xi T42 904 65 ∧ Xi T42 904 65 ≤ 1 := hHT42.c _ _
          have w492 : Xi U43 904 8 = Xi T42 904 8 := (show Xi U43 904 8 = Xi T42 904 8 from by rw [eU43]; exact Xi_ne (by omega))
          have w493 : 0 ≤ Xi T42 904 8 ∧ Xi T42 904 8 ≤ 5010 := hHT42.c _ _
          refine l_callV rfl rfl rfl (t_mo_take__3 hHU43 n c 4 ⟨by omega, by omega⟩ (by first | assumption | exact (TK_FR hFU43 rfl (by assumption : TK S _))) (by first | assumption | exact (AT_FR (FR_e eU43) rfl (by assumption : AT T42 _ _))) (by first | assumption | omega) (by first | assumption | exact (BDA_FR (FR_e eU43) rfl (by assumption : BDA T42))) _) ?_
          rintro _ T44 ⟨hHT44, w502, rfl, w496, w497, w498, w499, w500⟩
          have hFT44 : FR md_mo_testedWhat__2 S T44 := FR.tr hFU43 w502 rfl
          show Rl _ _ _ _ _ [] _ _
          refine l_return rfl rfl ?_
          have w503 : Xi T44 952 (Xi S 904 93).toNat = Xi U40 952 (Xi S 904 93).toNat := (show Xi T44 952 (Xi S 904 93).toNat = Xi U43 952 (Xi S 904 93).toNat from (w502.cx 952 rfl _).1).trans ( (show Xi U43 952 (Xi S 904 93).toNat = Xi T42 952 (Xi S 904 93).toNat from by rw [eU43]; exact Xi_ne (by omega)).trans ( (show Xi T42 952 (Xi S 904 93).toNat = Xi U41 952 (Xi S 904 93).toNat from (w482.cx 952 rfl _).1).trans ((show Xi U41 952 (Xi S 904 93).toNat = Xi U40 952 (Xi S 904 93).toNat from by rw [eU41]; exact Xi_ne (by omega)))))
          have w504 : Xi T44 957 (Xi S 904 93).toNat = Xi U43 957 (Xi S 904 93).toNat := (show Xi T44 957 (Xi S 904 93).toNat = Xi U43 957 (Xi S 904 93).toNat from (w502.cx 957 rfl _).1)
          have w505 : Xi T44 960 (Xi S 904 93).toNat = Xi S 960 (Xi S 904 93).toNat := (show Xi T44 960 (Xi S 904 93).toNat = Xi U43 960 (Xi S 904 93).toNat from (w502.cx 960 rfl _).1).trans ( (show Xi U43 960 (Xi S 904 93).toNat = Xi T42 960 (Xi S 904 93).toNat from by rw [eU43]; exact Xi_ne (by omega)).trans ( (show Xi T42 960 (Xi S 904 93).toNat = Xi U41 960 (Xi S 904 93).toNat from (w482.cx 960 rfl _).1).trans ( (show Xi U41 960 (Xi S 904 93).toNat = Xi U40 960 (Xi S 904 93).toNat from by rw [eU41]; exact Xi_ne (by omega)).trans ((show Xi U40 960 (Xi S 904 93).toNat = Xi S 960 (Xi S 904 93).toNat from by rw [eU40]; exact Xi_ne (by omega))))))
          have w506 : 0 ≤ Xi T44 904 65 ∧ Xi T44 904 65 ≤ 1 := hHT44.c _ _
          have w507 : Xi T44 904 69 = Xi S 904 69 := (show Xi T44 904 69 = Xi U43 904 69 from w502.x _ _ rfl).trans ( (show Xi U43 904 69 = Xi T42 904 69 from by rw [eU43]; exact Xi_ne (by omega)).trans ( (show Xi T42 904 69 = Xi U41 904 69 from w482.x _ _ rfl).trans ( (show Xi U41 904 69 = Xi U40 904 69 from by rw [eU41]; exact Xi_ne (by omega)).trans ((show Xi U40 904 69 = Xi S 904 69 from by rw [eU40]; exact Xi_ne (by omega))))))
          have w511 : 0 ≤ Xi T44 904 8 ∧ Xi T44 904 8 ≤ 5010 := hHT44.c _ _
          have w512 : Xi T44 904 93 = Xi S 904 93 := (show Xi T44 904 93 = Xi U43 904 93 from w502.x _ _ rfl).trans ( (show Xi U43 904 93 = Xi T42 904 93 from by rw [eU43]; exact Xi_ne (by omega)).trans ( (show Xi T42 904 93 = Xi U41 904 93 from w482.x _ _ rfl).trans ( (show Xi U41 904 93 = Xi U40 904 93 from by rw [eU41]; exact Xi_ne (by omega)).trans ((show Xi U40 904 93 = Xi S 904 93 from by rw [eU40]; exact Xi_ne (by omega))))))
          exact ⟨hHT44, hFT44, rfl, (by first | assumption | exact (by assumption : AT T44 _ _)), (by omega), (by first | assumption | exact (RNV_FR w502 rfl (RNV_FR (FR_e eU43) rfl (RNV_FR w482 rfl (RNV_FR (FR_e eU41) rfl (RNV_FR (FR_e eU40) rfl (by assumption : RNV S _))))))), (by omega), (by omega), ((KT_FR w502 rfl (KT.w (KT_FR w482 rfl (KT_FR (FR_e eU41) rfl (KT.w KT.rf eU40 (by omega)))) eU43 (by omega)))), (by intro q; refine ⟨by omega, by omega, fun q0 => ?_⟩; first | (exfalso; omega) | (intro a b; have t := W148 (by omega) (Xi T44 957 (Xi S 904 93).toNat) (by omega) a b; omega)), (by omega), (by first | assumption | exact (by assumption : BDA T44))⟩
