/-! SAFETY of methods: printed by wip/safe (vc.py, decl.py) -/
def md_mo_testedWhat : List rec := [(904, 905, 8, 9), (904, 905, 65, 66), (904, 905, 66, 67), (904, 905, 69, 70), (904, 905, 78, 79), (950, 951, 0, 100000), (951, 952, 0, 100000), (952, 953, 0, 100000), (953, 954, 0, 100000), (957, 958, 0, 100000), (960, 961, 0, 100000)]
abbrev Q_mo_testedWhat (S : sS) (n : Nat) (c : Nat) (isNow : Int) : pst := fun r S1 => HI S1 ∧ FR md_mo_testedWhat S S1 ∧ (r = none ∧ (AT S1 n c) ∧ (Xi S 904 8 ≤ Xi S1 904 8 ∧ (Xi S1 904 8 ≤ n ∨ Xi S1 904 8 = Xi S 904 8)) ∧ (RNV S1 n) ∧ (Xi S1 904 65 = 0 → Xi S 904 65 = 0) ∧ (Xi S 904 69 ≤ Xi S1 904 69) ∧ (KT S1 S (Xi S 904 93)) ∧ (Xi S1 904 65 = 0 → Xi S1 952 (Xi S 904 93).toNat ≤ 2 ∧ Xi S1 957 (Xi S 904 93).toNat ≤ n ∧ (Xi S1 952 (Xi S 904 93).toNat = 0 → Xi S 907 (Xi S1 957 (Xi S 904 93).toNat).toNat ≠ 4 → Xi S 907 (Xi S1 957 (Xi S 904 93).toNat).toNat ≠ 5 → 0 ≤ Xi S1 960 (Xi S 904 93).toNat ∧ Xi S1 960 (Xi S 904 93).toNat < Xi S1 904 69)) ∧ (Xi S1 904 65 = 0 → isNow = 1 → Xi S1 952 (Xi S 904 93).toNat = 0))
set_option maxRecDepth 100000 in
set_option maxHeartbeats 4000000 in
theorem t_mo_testedWhat {S : sS} (hH : HI S) (n : Nat) (c : Nat) (isNow : Int) (hisNow : 0 ≤ isNow ∧ isNow ≤ 1) (hT : TK S n) (hA : AT S n c) (hv : RNV S n) (tc : Xi S 904 93 ≤ 1699) (d : Nat) : Mt lay0 (d + 4) m_mo_testedWhat [.ref 904, iv isNow] S (Q_mo_testedWhat S n c isNow) := by
  refine Mt_R rfl rfl ?_
  have hF : FR md_mo_testedWhat S S := FR.rf
  have w1 : 0 ≤ Xi S 904 65 ∧ Xi S 904 65 ≤ 1 := hH.c _ _
  have w2 : 0 ≤ Xi S 904 69 ∧ Xi S 904 69 ≤ 2600 := hH.c _ _
  have w3 : 0 ≤ Xi S 904 8 ∧ Xi S 904 8 ≤ 5010 := hH.c _ _
  have w4 : 0 ≤ Xi S 904 93 ∧ Xi S 904 93 ≤ 1700 := hH.c _ _
  have hn5 := hT.1
  have hat := hA
  have h8 : 0 ≤ Xi S 904 8 ∧ Xi S 904 8 ≤ 5010 := hH.c _ _
  have h69 : 0 ≤ Xi S 904 69 ∧ Xi S 904 69 ≤ 2600 := hH.c _ _
  have ha0 : Xi S 904 65 = 0 → Xi S 904 8 ≤ n := fun q => (hA q).1
  have ha3 : Xi S 904 65 = 0 → 2 * Xi S 904 69 ≤ Xi S 904 8 + 1 := fun q => (hA q).2.1
  clear hat
  have C147 : ∀  (T1 : sS) (_ : HI T1) (_ : FR md_mo_testedWhat S T1), (AT T1 n c) → (RNV T1 n) → (Xi T1 904 65 = Xi S 904 65) → (Xi T1 904 69 = Xi S 904 69) → (Xi T1 904 93 = Xi S 904 93) → (Xi S 904 8 ≤ Xi T1 904 8 ∧ (Xi T1 904 8 ≤ n ∨ Xi T1 904 8 = Xi S 904 8)) → (Xi T1 952 (Xi S 904 93).toNat = 0) → (KT T1 S (Xi S 904 93)) → Rl lay0 (d + 3) m_mo_testedWhat 147 [(0, .ref 904)] [] T1 (Q_mo_testedWhat S n c isNow) := by
    intro T1 hHT1 hFT1 A147 V147 w5 w6 w7 w8 w9 K147
    have w10 : Xi T1 904 93 = Xi S 904 93 := hFT1.x _ _ rfl
    have w11 : 0 ≤ Xi T1 904 65 ∧ Xi T1 904 65 ≤ 1 := hHT1.c _ _
    have w12 : 0 ≤ Xi T1 904 69 ∧ Xi T1 904 69 ≤ 2600 := hHT1.c _ _
    have w13 : 0 ≤ Xi T1 904 8 ∧ Xi T1 904 8 ≤ 5010 := hHT1.c _ _
    have w14 : 0 ≤ Xi T1 904 93 ∧ Xi T1 904 93 ≤ 1700 := hHT1.c _ _
    refine l_aload_n rfl rfl ?_
    have w15 : 0 ≤ Xi T1 904 65 ∧ Xi T1 904 65 ≤ 1 := hHT1.c _ _
    have w16 : 0 ≤ Xi T1 904 69 ∧ Xi T1 904 69 ≤ 2600 := hHT1.c _ _
    have w17 : -2 ≤ Xi T1 904 78 ∧ Xi T1 904 78 ≤ 5010 := hHT1.c _ _
    have w18 : 0 ≤ Xi T1 904 8 ∧ Xi T1 904 8 ≤ 5010 := hHT1.c _ _
    have w19 : 0 ≤ Xi T1 904 93 ∧ Xi T1 904 93 ≤ 1700 := hHT1.c _ _
    refine l_callV rfl rfl rfl (t_mo_what__2 hHT1 n c (by first | assumption | exact (TK_FR hFT1 rfl (by assumption : TK S _))) (by first | assumption | exact (by assumption : AT T1 _ _)) (by first | assumption | exact (by assumption : RNV T1 _)) _) ?_
    rintro _ T2 ⟨hHT2, w28, rfl, w20, w21, w22, w23, w24, w25, w26⟩
    have hFT2 : FR md_mo_testedWhat S T2 := FR.tr hFT1 w28 rfl
    show Rl _ _ _ _ _ [] _ _
    have l148 : Xi T1 904 65 = 0 → Xi T1 904 8 ≤ n := fun q => (A147 q).1
    have W148 : Xi T2 904 65 = 0 → ∀ x : Int, x = Xi T2 904 78 → Xi S 907 x.toNat ≠ 4 → Xi S 907 x.toNat ≠ 5 → Xi T1 904 69 < Xi T2 904 69 := fun q x e a b => by have t := (by assumption : Xi T2 904 65 = 0 → Xi T1 907 (Xi T1 904 8).toNat ≠ 4 → Xi T1 907 (Xi T1 904 8).toNat ≠ 5 → _) q; rw [(hFT1.cx 907 rfl _).1, show Xi T1 904 8 = x by omega] at t; exact t a b
    refine l_aload_n rfl rfl ?_
    refine l_gfr rfl rfl rfl rfl rfl (hHT2.r 904 87 957 rfl) ?_
    refine l_aload_n rfl rfl ?_
    refine l_gfi rfl rfl rfl rfl rfl ?_
    have w29 : (Xi T2 904 93) = (Xi T1 904 93) := (show Xi T2 904 93 = Xi T1 904 93 from w28.x _ _ rfl)
    rw [w29]
    refine l_aload_n rfl rfl ?_
    refine l_gfi rfl rfl rfl rfl rfl ?_
    have w30 : -2 ≤ (Xi T2 904 78) ∧ (Xi T2 904 78) ≤ 5010 := hHT2.c _ _
    refine l_iastore (n := 1700) rfl rfl (by omega) (by omega) (by unfold rg; omega) ?_
    obtain ⟨U3, eU3⟩ : ∃ T : sS, T = uI T2 957 (((Xi T1 904 93)).toNat) (Int32.ofInt (Xi T2 904 78)) := ⟨_, rfl⟩
    rw [← eU3]
    have hHU3 : HI U3 := by rw [eU3]; exact HI_w hHT2 (show 0 ≤ (Xi T2 904 78) by omega) (show (Xi T2 904 78) ≤ 5010 by omega)
    have hFU3 : FR md_mo_testedWhat S U3 := by rw [eU3]; exact FR.wI hFT2 (mdf_i (r := (957, 958, 0, 100000)) (List.mem_of_getElem? (i := 9) rfl) (inR_i (by omega) (by omega) (by omega) (by omega)))
    have w31 : Xi U3 957 (((Xi T1 904 93)).toNat) = (Xi T2 904 78) := by rw [eU3]; exact Xi_same (by unfold rg; omega)
    have s163_69 : Xi U3 904 69 = Xi T2 904 69 := by rw [eU3, Xi_ne (by omega)]
    have c163 : Xi U3 957 (Xi S 904 93).toNat = Xi T2 904 78 := by rw [show (Xi S 904 93).toNat = (Xi T1 904 93).toNat by omega]; assumption
    refine l_aload_n rfl rfl ?_
    refine l_gfr rfl rfl rfl rfl rfl (hHU3.r 904 90 960 rfl) ?_
    refine l_aload_n rfl rfl ?_
    refine l_gfi rfl rfl rfl rfl rfl ?_
    have w32 : (Xi U3 904 93) = (Xi T1 904 93) := (show Xi U3 904 93 = Xi T2 904 93 from by rw [eU3]; exact Xi_ne (by omega)).trans ((show Xi T2 904 93 = Xi T1 904 93 from w28.x _ _ rfl))
    rw [w32]
    refine l_aload_n rfl rfl ?_
    refine l_gfi rfl rfl rfl rfl rfl ?_
    have w33 : 0 ≤ (Xi U3 904 69) ∧ (Xi U3 904 69) ≤ 2600 := hHU3.c _ _
    refine l_iconst rfl ?_
    refine l_isub rfl ?_
    refine l_iastore (n := 1700) rfl rfl (by omega) (by omega) (by unfold rg; omega) ?_
    obtain ⟨U4, eU4⟩ : ∃ T : sS, T = uI U3 960 (((Xi T1 904 93)).toNat) (Int32.ofInt ((Xi U3 904 69) - 1)) := ⟨_, rfl⟩
    rw [← eU4]
    have hHU4 : HI U4 := by rw [eU4]; exact HI_w hHU3 (show -1 ≤ ((Xi U3 904 69) - 1) by omega) (show ((Xi U3 904 69) - 1) ≤ 2600 by omega)
    have hFU4 : FR md_mo_testedWhat S U4 := by rw [eU4]; exact FR.wI hFU3 (mdf_i (r := (960, 961, 0, 100000)) (List.mem_of_getElem? (i := 10) rfl) (inR_i (by omega) (by omega) (by omega) (by omega)))
    have w34 : Xi U4 960 (((Xi T1 904 93)).toNat) = ((Xi U3 904 69) - 1) := by rw [eU4]; exact Xi_same (by unfold rg; omega)
    have c178 : Xi U4 960 (Xi S 904 93).toNat = Xi U4 904 69 - 1 := by rw [show (Xi S 904 93).toNat = (Xi T1 904 93).toNat by omega]; have t : Xi U4 904 69 = Xi U3 904 69 := (by rw [eU4, Xi_ne (by omega)]); omega
    refine l_return rfl rfl ?_
    have w35 : Xi U4 952 (Xi S 904 93).toNat = Xi T1 952 (Xi S 904 93).toNat := (show Xi U4 952 (Xi S 904 93).toNat = Xi U3 952 (Xi S 904 93).toNat from by rw [eU4]; exact Xi_ne (by omega)).trans ( (show Xi U3 952 (Xi S 904 93).toNat = Xi T2 952 (Xi S 904 93).toNat from by rw [eU3]; exact Xi_ne (by omega)).trans ((show Xi T2 952 (Xi S 904 93).toNat = Xi T1 952 (Xi S 904 93).toNat from (w28.cx 952 rfl _).1)))
    have w36 : Xi U4 957 (Xi S 904 93).toNat = Xi U3 957 (Xi S 904 93).toNat := (show Xi U4 957 (Xi S 904 93).toNat = Xi U3 957 (Xi S 904 93).toNat from by rw [eU4]; exact Xi_ne (by omega))
    have w37 : Xi U4 904 65 = Xi T2 904 65 := (show Xi U4 904 65 = Xi U3 904 65 from by rw [eU4]; exact Xi_ne (by omega)).trans ((show Xi U3 904 65 = Xi T2 904 65 from by rw [eU3]; exact Xi_ne (by omega)))
    have w38 : 0 ≤ Xi T2 904 65 ∧ Xi T2 904 65 ≤ 1 := hHT2.c _ _
    have w39 : Xi U4 904 69 = Xi T2 904 69 := (show Xi U4 904 69 = Xi U3 904 69 from by rw [eU4]; exact Xi_ne (by omega)).trans ((show Xi U3 904 69 = Xi T2 904 69 from by rw [eU3]; exact Xi_ne (by omega)))
    have w40 : 0 ≤ Xi T2 904 69 ∧ Xi T2 904 69 ≤ 2600 := hHT2.c _ _
    have w41 : Xi U4 904 78 = Xi T2 904 78 := (show Xi U4 904 78 = Xi U3 904 78 from by rw [eU4]; exact Xi_ne (by omega)).trans ((show Xi U3 904 78 = Xi T2 904 78 from by rw [eU3]; exact Xi_ne (by omega)))
    have w42 : -2 ≤ Xi T2 904 78 ∧ Xi T2 904 78 ≤ 5010 := hHT2.c _ _
    have w43 : Xi U4 904 8 = Xi T2 904 8 := (show Xi U4 904 8 = Xi U3 904 8 from by rw [eU4]; exact Xi_ne (by omega)).trans ((show Xi U3 904 8 = Xi T2 904 8 from by rw [eU3]; exact Xi_ne (by omega)))
    have w44 : 0 ≤ Xi T2 904 8 ∧ Xi T2 904 8 ≤ 5010 := hHT2.c _ _
    have w45 : Xi U4 904 93 = Xi T1 904 93 := (show Xi U4 904 93 = Xi U3 904 93 from by rw [eU4]; exact Xi_ne (by omega)).trans ( (show Xi U3 904 93 = Xi T2 904 93 from by rw [eU3]; exact Xi_ne (by omega)).trans ((show Xi T2 904 93 = Xi T1 904 93 from w28.x _ _ rfl)))
    have w46 : 0 ≤ Xi T1 904 93 ∧ Xi T1 904 93 ≤ 1700 := hHT1.c _ _
    exact ⟨hHU4, hFU4, rfl, (by first | assumption | exact (AT_FR (FR_e eU4) rfl (AT_FR (FR_e eU3) rfl (by assumption : AT T2 _ _)))), (by omega), (by first | assumption | exact (RNV_FR (FR_e eU4) rfl (RNV_FR (FR_e eU3) rfl (by assumption : RNV T2 _)))), (by omega), (by omega), ((KT.w (KT.w (KT_FR w28 rfl (by assumption : KT T1 S _)) eU3 (by omega)) eU4 (by omega))), (by intro q; refine ⟨by omega, by omega, fun q0 => ?_⟩; first | (exfalso; omega) | (intro a b; have t := W148 (by omega) (Xi U4 957 (Xi S 904 93).toNat) (by omega) a b; omega)), (by omega)⟩
  refine l_iload_n rfl rfl ?_
  refine l_if_ne rfl rfl (by unfold rg; omega) (fun w47 => ?_) (fun w48 => ?_)
  · refine l_aload_n rfl rfl ?_
    refine l_gfr rfl rfl rfl rfl rfl (hH.r 904 82 952 rfl) ?_
    refine l_aload_n rfl rfl ?_
    refine l_gfi rfl rfl rfl rfl rfl ?_
    refine l_iconst rfl ?_
    refine l_iastore (n := 1700) rfl rfl (by omega) (by omega) (by unfold rg; omega) ?_
    obtain ⟨U5, eU5⟩ : ∃ T : sS, T = uI S 952 (((Xi S 904 93)).toNat) (Int32.ofInt 0) := ⟨_, rfl⟩
    rw [← eU5]
    have hHU5 : HI U5 := by rw [eU5]; exact HI_w hH (show 0 ≤ 0 by omega) (show 0 ≤ 5 by omega)
    have hFU5 : FR md_mo_testedWhat S U5 := by rw [eU5]; exact FR.wI hF (mdf_i (r := (952, 953, 0, 100000)) (List.mem_of_getElem? (i := 7) rfl) (inR_i (by omega) (by omega) (by omega) (by omega)))
    have w49 : Xi U5 952 (((Xi S 904 93)).toNat) = 0 := by rw [eU5]; exact Xi_same (by unfold rg; omega)
    have s93_8 : Xi U5 904 8 = Xi S 904 8 := by rw [eU5, Xi_ne (by omega)]
    have s93_65 : Xi U5 904 65 = Xi S 904 65 := by rw [eU5, Xi_ne (by omega)]
    have s93_69 : Xi U5 904 69 = Xi S 904 69 := by rw [eU5, Xi_ne (by omega)]
    have s93_93 : Xi U5 904 93 = Xi S 904 93 := by rw [eU5, Xi_ne (by omega)]
    refine l_aload_n rfl rfl ?_
    refine l_gfr rfl rfl rfl rfl rfl (hHU5.r 904 83 953 rfl) ?_
    refine l_aload_n rfl rfl ?_
    refine l_gfi rfl rfl rfl rfl rfl ?_
    have w50 : (Xi U5 904 93) = (Xi S 904 93) := (show Xi U5 904 93 = Xi S 904 93 from by rw [eU5]; exact Xi_ne (by omega))
    rw [w50]
    refine l_iload_n rfl rfl ?_
    refine l_if_ne rfl rfl (by unfold rg; omega) (fun w51 => ?_) (fun w52 => ?_)
    · refine l_iconst rfl ?_
      refine l_bastoreZ1 (n := 1700) rfl rfl (by omega) (by omega) (by unfold rg; omega) ⟨by omega, by omega⟩ ?_
      obtain ⟨U6, eU6⟩ : ∃ T : sS, T = uI U5 953 (((Xi S 904 93)).toNat) (Int32.ofInt 0) := ⟨_, rfl⟩
      rw [← eU6]
      have hHU6 : HI U6 := by rw [eU6]; exact HI_w hHU5 (show 0 ≤ 0 by omega) (show 0 ≤ 1 by omega)
      have hFU6 : FR md_mo_testedWhat S U6 := by rw [eU6]; exact FR.wI hFU5 (mdf_i (r := (953, 954, 0, 100000)) (List.mem_of_getElem? (i := 8) rfl) (inR_i (by omega) (by omega) (by omega) (by omega)))
      have w53 : Xi U6 953 (((Xi S 904 93)).toNat) = 0 := by rw [eU6]; exact Xi_same (by unfold rg; omega)
      have s120_8 : Xi U6 904 8 = Xi U5 904 8 := by rw [eU6, Xi_ne (by omega)]
      have s120_65 : Xi U6 904 65 = Xi U5 904 65 := by rw [eU6, Xi_ne (by omega)]
      have s120_69 : Xi U6 904 69 = Xi U5 904 69 := by rw [eU6, Xi_ne (by omega)]
      have s120_93 : Xi U6 904 93 = Xi U5 904 93 := by rw [eU6, Xi_ne (by omega)]
      have i120 : Xi U6 953 (Xi S 904 93).toNat ≠ 0 → Xi U6 904 65 = 0 ∧ Xi U6 907 (Xi U6 904 8).toNat ≠ 1 := fun q => by rw [(hFU6.cx 907 rfl _).1, show Xi U6 904 8 = Xi S 904 8 by omega]; omega
      refine l_aload_n rfl rfl ?_
      refine l_dup rfl rfl ?_
      refine l_gfi rfl rfl rfl rfl rfl ?_
      have w54 : (Xi U6 904 8) = (Xi S 904 8) := (show Xi U6 904 8 = Xi U5 904 8 from by rw [eU6]; exact Xi_ne (by omega)).trans ((show Xi U5 904 8 = Xi S 904 8 from by rw [eU5]; exact Xi_ne (by omega)))
      rw [w54]
      refine l_aload_n rfl rfl ?_
      refine l_gfr rfl rfl rfl rfl rfl (hHU6.r 904 83 953 rfl) ?_
      refine l_aload_n rfl rfl ?_
      refine l_gfi rfl rfl rfl rfl rfl ?_
      have w55 : (Xi U6 904 93) = (Xi S 904 93) := (show Xi U6 904 93 = Xi U5 904 93 from by rw [eU6]; exact Xi_ne (by omega)).trans ((show Xi U5 904 93 = Xi S 904 93 from by rw [eU5]; exact Xi_ne (by omega)))
      rw [w55]
      refine l_baload (n := 1700) rfl rfl rfl (by decide) (by omega) (by omega) (by unfold rg; omega) ?_
      refine l_if_eq rfl rfl (by unfold rg; omega) (fun w56 => ?_) (fun w57 => ?_)
      · refine l_iconst rfl ?_
        refine l_iadd rfl ?_
        refine l_pfi rfl rfl rfl rfl ?_
        obtain ⟨U7, eU7⟩ : ∃ T : sS, T = uI U6 904 8 (Int32.ofInt ((Xi S 904 8) + 0)) := ⟨_, rfl⟩
        rw [← eU7]
        have hHU7 : HI U7 := by rw [eU7]; exact HI_w hHU6 (show 0 ≤ ((Xi S 904 8) + 0) by omega) (show ((Xi S 904 8) + 0) ≤ 5010 by omega)
        have hFU7 : FR md_mo_testedWhat S U7 := by rw [eU7]; exact FR.wI hFU6 (mdf_i (r := (904, 905, 8, 9)) (List.mem_of_getElem? (i := 0) rfl) (inR_i (by omega) (by omega) (by omega) (by omega)))
        have w58 : Xi U7 904 8 = ((Xi S 904 8) + 0) := by rw [eU7]; exact Xi_same (by unfold rg; omega)
        have t144 : AT U7 n c ∧ Xi U6 904 8 ≤ Xi U7 904 8 ∧ (Xi U7 904 8 ≤ n ∨ Xi U7 904 8 = Xi U6 904 8) := at_opt (TK_FR hFU6 rfl hT) (at_fr hA (fun j => (hFU6.cx 907 rfl j).1) (fun j => (hFU6.cx 908 rfl j).1) (by omega) (by omega) (by omega) (by omega)) eU7 (by omega) (by omega)
        have w59 : Xi U7 952 (Xi S 904 93).toNat = Xi U5 952 (Xi S 904 93).toNat := (show Xi U7 952 (Xi S 904 93).toNat = Xi U6 952 (Xi S 904 93).toNat from by rw [eU7]; exact Xi_ne (by omega)).trans ((show Xi U6 952 (Xi S 904 93).toNat = Xi U5 952 (Xi S 904 93).toNat from by rw [eU6]; exact Xi_ne (by omega)))
        have w60 : Xi U7 957 (Xi S 904 93).toNat = Xi S 957 (Xi S 904 93).toNat := (show Xi U7 957 (Xi S 904 93).toNat = Xi U6 957 (Xi S 904 93).toNat from by rw [eU7]; exact Xi_ne (by omega)).trans ( (show Xi U6 957 (Xi S 904 93).toNat = Xi U5 957 (Xi S 904 93).toNat from by rw [eU6]; exact Xi_ne (by omega)).trans ((show Xi U5 957 (Xi S 904 93).toNat = Xi S 957 (Xi S 904 93).toNat from by rw [eU5]; exact Xi_ne (by omega))))
        have w61 : Xi U7 960 (Xi S 904 93).toNat = Xi S 960 (Xi S 904 93).toNat := (show Xi U7 960 (Xi S 904 93).toNat = Xi U6 960 (Xi S 904 93).toNat from by rw [eU7]; exact Xi_ne (by omega)).trans ( (show Xi U6 960 (Xi S 904 93).toNat = Xi U5 960 (Xi S 904 93).toNat from by rw [eU6]; exact Xi_ne (by omega)).trans ((show Xi U5 960 (Xi S 904 93).toNat = Xi S 960 (Xi S 904 93).toNat from by rw [eU5]; exact Xi_ne (by omega))))
        have w62 : Xi U7 904 65 = Xi S 904 65 := (show Xi U7 904 65 = Xi U6 904 65 from by rw [eU7]; exact Xi_ne (by omega)).trans ( (show Xi U6 904 65 = Xi U5 904 65 from by rw [eU6]; exact Xi_ne (by omega)).trans ((show Xi U5 904 65 = Xi S 904 65 from by rw [eU5]; exact Xi_ne (by omega))))
        have w63 : 0 ≤ Xi S 904 65 ∧ Xi S 904 65 ≤ 1 := hH.c _ _
        have w64 : Xi U7 904 69 = Xi S 904 69 := (show Xi U7 904 69 = Xi U6 904 69 from by rw [eU7]; exact Xi_ne (by omega)).trans ( (show Xi U6 904 69 = Xi U5 904 69 from by rw [eU6]; exact Xi_ne (by omega)).trans ((show Xi U5 904 69 = Xi S 904 69 from by rw [eU5]; exact Xi_ne (by omega))))
        have w65 : 0 ≤ Xi S 904 69 ∧ Xi S 904 69 ≤ 2600 := hH.c _ _
        have w66 : Xi U7 904 78 = Xi S 904 78 := (show Xi U7 904 78 = Xi U6 904 78 from by rw [eU7]; exact Xi_ne (by omega)).trans ( (show Xi U6 904 78 = Xi U5 904 78 from by rw [eU6]; exact Xi_ne (by omega)).trans ((show Xi U5 904 78 = Xi S 904 78 from by rw [eU5]; exact Xi_ne (by omega))))
        have w67 : -2 ≤ Xi S 904 78 ∧ Xi S 904 78 ≤ 5010 := hH.c _ _
        have w68 : 0 ≤ Xi U7 904 8 ∧ Xi U7 904 8 ≤ 5010 := hHU7.c _ _
        have w69 : Xi U7 904 93 = Xi S 904 93 := (show Xi U7 904 93 = Xi U6 904 93 from by rw [eU7]; exact Xi_ne (by omega)).trans ( (show Xi U6 904 93 = Xi U5 904 93 from by rw [eU6]; exact Xi_ne (by omega)).trans ((show Xi U5 904 93 = Xi S 904 93 from by rw [eU5]; exact Xi_ne (by omega))))
        have w70 : 0 ≤ Xi S 904 93 ∧ Xi S 904 93 ≤ 1700 := hH.c _ _
        exact Rl_weak (C147 U7 hHU7 hFU7  (t144.1) (by first | assumption | exact (RNV_FR (FR_e eU7) rfl (RNV_FR (FR_e eU6) rfl (RNV_FR (FR_e eU5) rfl (by assumption : RNV S _))))) (by omega) (by omega) (by omega) (by omega) (by omega) ((KT_FR (FR_e eU7) rfl (KT.w (KT.w KT.rf eU5 (by omega)) eU6 (by omega))))) (And.intro rfl (True.intro))
      · refine l_iconst rfl ?_
        refine l_goto rfl rfl ?_
        refine l_iadd rfl ?_
        refine l_pfi rfl rfl rfl rfl ?_
        obtain ⟨U8, eU8⟩ : ∃ T : sS, T = uI U6 904 8 (Int32.ofInt ((Xi S 904 8) + 1)) := ⟨_, rfl⟩
        rw [← eU8]
        have hHU8 : HI U8 := by rw [eU8]; exact HI_w hHU6 (show 0 ≤ ((Xi S 904 8) + 1) by omega) (show ((Xi S 904 8) + 1) ≤ 5010 by omega)
        have hFU8 : FR md_mo_testedWhat S U8 := by rw [eU8]; exact FR.wI hFU6 (mdf_i (r := (904, 905, 8, 9)) (List.mem_of_getElem? (i := 0) rfl) (inR_i (by omega) (by omega) (by omega) (by omega)))
        have w71 : Xi U8 904 8 = ((Xi S 904 8) + 1) := by rw [eU8]; exact Xi_same (by unfold rg; omega)
        have t144 : AT U8 n c ∧ Xi U6 904 8 ≤ Xi U8 904 8 ∧ (Xi U8 904 8 ≤ n ∨ Xi U8 904 8 = Xi U6 904 8) := at_opt (TK_FR hFU6 rfl hT) (at_fr hA (fun j => (hFU6.cx 907 rfl j).1) (fun j => (hFU6.cx 908 rfl j).1) (by omega) (by omega) (by omega) (by omega)) eU8 (by omega) (by omega)
        have w72 : Xi U8 952 (Xi S 904 93).toNat = Xi U5 952 (Xi S 904 93).toNat := (show Xi U8 952 (Xi S 904 93).toNat = Xi U6 952 (Xi S 904 93).toNat from by rw [eU8]; exact Xi_ne (by omega)).trans ((show Xi U6 952 (Xi S 904 93).toNat = Xi U5 952 (Xi S 904 93).toNat from by rw [eU6]; exact Xi_ne (by omega)))
        have w73 : Xi U8 957 (Xi S 904 93).toNat = Xi S 957 (Xi S 904 93).toNat := (show Xi U8 957 (Xi S 904 93).toNat = Xi U6 957 (Xi S 904 93).toNat from by rw [eU8]; exact Xi_ne (by omega)).trans ( (show Xi U6 957 (Xi S 904 93).toNat = Xi U5 957 (Xi S 904 93).toNat from by rw [eU6]; exact Xi_ne (by omega)).trans ((show Xi U5 957 (Xi S 904 93).toNat = Xi S 957 (Xi S 904 93).toNat from by rw [eU5]; exact Xi_ne (by omega))))
        have w74 : Xi U8 960 (Xi S 904 93).toNat = Xi S 960 (Xi S 904 93).toNat := (show Xi U8 960 (Xi S 904 93).toNat = Xi U6 960 (Xi S 904 93).toNat from by rw [eU8]; exact Xi_ne (by omega)).trans ( (show Xi U6 960 (Xi S 904 93).toNat = Xi U5 960 (Xi S 904 93).toNat from by rw [eU6]; exact Xi_ne (by omega)).trans ((show Xi U5 960 (Xi S 904 93).toNat = Xi S 960 (Xi S 904 93).toNat from by rw [eU5]; exact Xi_ne (by omega))))
        have w75 : Xi U8 904 65 = Xi S 904 65 := (show Xi U8 904 65 = Xi U6 904 65 from by rw [eU8]; exact Xi_ne (by omega)).trans ( (show Xi U6 904 65 = Xi U5 904 65 from by rw [eU6]; exact Xi_ne (by omega)).trans ((show Xi U5 904 65 = Xi S 904 65 from by rw [eU5]; exact Xi_ne (by omega))))
        have w76 : 0 ≤ Xi S 904 65 ∧ Xi S 904 65 ≤ 1 := hH.c _ _
        have w77 : Xi U8 904 69 = Xi S 904 69 := (show Xi U8 904 69 = Xi U6 904 69 from by rw [eU8]; exact Xi_ne (by omega)).trans ( (show Xi U6 904 69 = Xi U5 904 69 from by rw [eU6]; exact Xi_ne (by omega)).trans ((show Xi U5 904 69 = Xi S 904 69 from by rw [eU5]; exact Xi_ne (by omega))))
        have w78 : 0 ≤ Xi S 904 69 ∧ Xi S 904 69 ≤ 2600 := hH.c _ _
        have w79 : Xi U8 904 78 = Xi S 904 78 := (show Xi U8 904 78 = Xi U6 904 78 from by rw [eU8]; exact Xi_ne (by omega)).trans ( (show Xi U6 904 78 = Xi U5 904 78 from by rw [eU6]; exact Xi_ne (by omega)).trans ((show Xi U5 904 78 = Xi S 904 78 from by rw [eU5]; exact Xi_ne (by omega))))
        have w80 : -2 ≤ Xi S 904 78 ∧ Xi S 904 78 ≤ 5010 := hH.c _ _
        have w81 : 0 ≤ Xi U8 904 8 ∧ Xi U8 904 8 ≤ 5010 := hHU8.c _ _
        have w82 : Xi U8 904 93 = Xi S 904 93 := (show Xi U8 904 93 = Xi U6 904 93 from by rw [eU8]; exact Xi_ne (by omega)).trans ( (show Xi U6 904 93 = Xi U5 904 93 from by rw [eU6]; exact Xi_ne (by omega)).trans ((show Xi U5 904 93 = Xi S 904 93 from by rw [eU5]; exact Xi_ne (by omega))))
        have w83 : 0 ≤ Xi S 904 93 ∧ Xi S 904 93 ≤ 1700 := hH.c _ _
        exact Rl_weak (C147 U8 hHU8 hFU8  (t144.1) (by first | assumption | exact (RNV_FR (FR_e eU8) rfl (RNV_FR (FR_e eU6) rfl (RNV_FR (FR_e eU5) rfl (by assumption : RNV S _))))) (by omega) (by omega) (by omega) (by omega) (by omega) ((KT_FR (FR_e eU8) rfl (KT.w (KT.w KT.rf eU5 (by omega)) eU6 (by omega))))) (And.intro rfl (True.intro))
    · refine l_aload_n rfl rfl ?_
      refine l_bipush rfl rfl ?_
      have w84 : Xi U5 904 65 = Xi S 904 65 := (show Xi U5 904 65 = Xi S 904 65 from by rw [eU5]; exact Xi_ne (by omega))
      have w85 : 0 ≤ Xi S 904 65 ∧ Xi S 904 65 ≤ 1 := hH.c _ _
      have w86 : Xi U5 904 69 = Xi S 904 69 := (show Xi U5 904 69 = Xi S 904 69 from by rw [eU5]; exact Xi_ne (by omega))
      have w87 : 0 ≤ Xi S 904 69 ∧ Xi S 904 69 ≤ 2600 := hH.c _ _
      have w88 : Xi U5 904 78 = Xi S 904 78 := (show Xi U5 904 78 = Xi S 904 78 from by rw [eU5]; exact Xi_ne (by omega))
      have w89 : -2 ≤ Xi S 904 78 ∧ Xi S 904 78 ≤ 5010 := hH.c _ _
      have w90 : Xi U5 904 8 = Xi S 904 8 := (show Xi U5 904 8 = Xi S 904 8 from by rw [eU5]; exact Xi_ne (by omega))
      have w91 : 0 ≤ Xi S 904 8 ∧ Xi S 904 8 ≤ 5010 := hH.c _ _
      have w92 : Xi U5 904 93 = Xi S 904 93 := (show Xi U5 904 93 = Xi S 904 93 from by rw [eU5]; exact Xi_ne (by omega))
      have w93 : 0 ≤ Xi S 904 93 ∧ Xi S 904 93 ≤ 1700 := hH.c _ _
      refine l_callV rfl rfl rfl (t_mo_isNext hHU5 n c 106 ⟨by omega, by omega⟩ (by first | assumption | exact (TK_FR hFU5 rfl (by assumption : TK S _))) (by first | assumption | exact (AT_FR (FR_e eU5) rfl (by assumption : AT S _ _))) _) ?_
      rintro _ _ ⟨rfl, z96, rfl, w96, w94, w95⟩
      show Rl _ _ _ _ _ [iv z96, iv (Xi S 904 93), .ref 953] _ _
      have i109 : z96 = 1 → Xi S 904 65 = 0 ∧ Xi S 907 (Xi S 904 8).toNat = 106 := fun q => by have t := (by assumption : z96 = 1 → Xi U5 904 65 = 0 ∧ Xi U5 907 (Xi U5 904 8).toNat = 106) q; rw [show Xi U5 904 8 = Xi S 904 8 by omega, (hFU5.cx 907 rfl _).1] at t; exact ⟨by omega, t.2⟩
      refine l_if_eq rfl rfl (by unfold rg; omega) (fun w97 => ?_) (fun w98 => ?_)
      · refine l_iconst rfl ?_
        refine l_bastoreZ1 (n := 1700) rfl rfl (by omega) (by omega) (by unfold rg; omega) ⟨by omega, by omega⟩ ?_
        obtain ⟨U9, eU9⟩ : ∃ T : sS, T = uI U5 953 (((Xi S 904 93)).toNat) (Int32.ofInt 0) := ⟨_, rfl⟩
        rw [← eU9]
        have hHU9 : HI U9 := by rw [eU9]; exact HI_w hHU5 (show 0 ≤ 0 by omega) (show 0 ≤ 1 by omega)
        have hFU9 : FR md_mo_testedWhat S U9 := by rw [eU9]; exact FR.wI hFU5 (mdf_i (r := (953, 954, 0, 100000)) (List.mem_of_getElem? (i := 8) rfl) (inR_i (by omega) (by omega) (by omega) (by omega)))
        have w99 : Xi U9 953 (((Xi S 904 93)).toNat) = 0 := by rw [eU9]; exact Xi_same (by unfold rg; omega)
        have s120_8 : Xi U9 904 8 = Xi U5 904 8 := by rw [eU9, Xi_ne (by omega)]
        have s120_65 : Xi U9 904 65 = Xi U5 904 65 := by rw [eU9, Xi_ne (by omega)]
        have s120_69 : Xi U9 904 69 = Xi U5 904 69 := by rw [eU9, Xi_ne (by omega)]
        have s120_93 : Xi U9 904 93 = Xi U5 904 93 := by rw [eU9, Xi_ne (by omega)]
        have i120 : Xi U9 953 (Xi S 904 93).toNat ≠ 0 → Xi U9 904 65 = 0 ∧ Xi U9 907 (Xi U9 904 8).toNat ≠ 1 := fun q => by rw [(hFU9.cx 907 rfl _).1, show Xi U9 904 8 = Xi S 904 8 by omega]; omega
        refine l_aload_n rfl rfl ?_
        refine l_dup rfl rfl ?_
        refine l_gfi rfl rfl rfl rfl rfl ?_
        have w100 : (Xi U9 904 8) = (Xi S 904 8) := (show Xi U9 904 8 = Xi U5 904 8 from by rw [eU9]; exact Xi_ne (by omega)).trans ((show Xi U5 904 8 = Xi S 904 8 from by rw [eU5]; exact Xi_ne (by omega)))
        rw [w100]
        refine l_aload_n rfl rfl ?_
        refine l_gfr rfl rfl rfl rfl rfl (hHU9.r 904 83 953 rfl) ?_
        refine l_aload_n rfl rfl ?_
        refine l_gfi rfl rfl rfl rfl rfl ?_
        have w101 : (Xi U9 904 93) = (Xi S 904 93) := (show Xi U9 904 93 = Xi U5 904 93 from by rw [eU9]; exact Xi_ne (by omega)).trans ((show Xi U5 904 93 = Xi S 904 93 from by rw [eU5]; exact Xi_ne (by omega)))
        rw [w101]
        refine l_baload (n := 1700) rfl rfl rfl (by decide) (by omega) (by omega) (by unfold rg; omega) ?_
        refine l_if_eq rfl rfl (by unfold rg; omega) (fun w102 => ?_) (fun w103 => ?_)
        · refine l_iconst rfl ?_
          refine l_iadd rfl ?_
          refine l_pfi rfl rfl rfl rfl ?_
          obtain ⟨U10, eU10⟩ : ∃ T : sS, T = uI U9 904 8 (Int32.ofInt ((Xi S 904 8) + 0)) := ⟨_, rfl⟩
          rw [← eU10]
          have hHU10 : HI U10 := by rw [eU10]; exact HI_w hHU9 (show 0 ≤ ((Xi S 904 8) + 0) by omega) (show ((Xi S 904 8) + 0) ≤ 5010 by omega)
          have hFU10 : FR md_mo_testedWhat S U10 := by rw [eU10]; exact FR.wI hFU9 (mdf_i (r := (904, 905, 8, 9)) (List.mem_of_getElem? (i := 0) rfl) (inR_i (by omega) (by omega) (by omega) (by omega)))
          have w104 : Xi U10 904 8 = ((Xi S 904 8) + 0) := by rw [eU10]; exact Xi_same (by unfold rg; omega)
          have t144 : AT U10 n c ∧ Xi U9 904 8 ≤ Xi U10 904 8 ∧ (Xi U10 904 8 ≤ n ∨ Xi U10 904 8 = Xi U9 904 8) := at_opt (TK_FR hFU9 rfl hT) (at_fr hA (fun j => (hFU9.cx 907 rfl j).1) (fun j => (hFU9.cx 908 rfl j).1) (by omega) (by omega) (by omega) (by omega)) eU10 (by omega) (by omega)
          have w105 : Xi U10 952 (Xi S 904 93).toNat = Xi U5 952 (Xi S 904 93).toNat := (show Xi U10 952 (Xi S 904 93).toNat = Xi U9 952 (Xi S 904 93).toNat from by rw [eU10]; exact Xi_ne (by omega)).trans ((show Xi U9 952 (Xi S 904 93).toNat = Xi U5 952 (Xi S 904 93).toNat from by rw [eU9]; exact Xi_ne (by omega)))
          have w106 : Xi U10 957 (Xi S 904 93).toNat = Xi S 957 (Xi S 904 93).toNat := (show Xi U10 957 (Xi S 904 93).toNat = Xi U9 957 (Xi S 904 93).toNat from by rw [eU10]; exact Xi_ne (by omega)).trans ( (show Xi U9 957 (Xi S 904 93).toNat = Xi U5 957 (Xi S 904 93).toNat from by rw [eU9]; exact Xi_ne (by omega)).trans ((show Xi U5 957 (Xi S 904 93).toNat = Xi S 957 (Xi S 904 93).toNat from by rw [eU5]; exact Xi_ne (by omega))))
          have w107 : Xi U10 960 (Xi S 904 93).toNat = Xi S 960 (Xi S 904 93).toNat := (show Xi U10 960 (Xi S 904 93).toNat = Xi U9 960 (Xi S 904 93).toNat from by rw [eU10]; exact Xi_ne (by omega)).trans ( (show Xi U9 960 (Xi S 904 93).toNat = Xi U5 960 (Xi S 904 93).toNat from by rw [eU9]; exact Xi_ne (by omega)).trans ((show Xi U5 960 (Xi S 904 93).toNat = Xi S 960 (Xi S 904 93).toNat from by rw [eU5]; exact Xi_ne (by omega))))
          have w108 : Xi U10 904 65 = Xi S 904 65 := (show Xi U10 904 65 = Xi U9 904 65 from by rw [eU10]; exact Xi_ne (by omega)).trans ( (show Xi U9 904 65 = Xi U5 904 65 from by rw [eU9]; exact Xi_ne (by omega)).trans ((show Xi U5 904 65 = Xi S 904 65 from by rw [eU5]; exact Xi_ne (by omega))))
          have w109 : 0 ≤ Xi S 904 65 ∧ Xi S 904 65 ≤ 1 := hH.c _ _
          have w110 : Xi U10 904 69 = Xi S 904 69 := (show Xi U10 904 69 = Xi U9 904 69 from by rw [eU10]; exact Xi_ne (by omega)).trans ( (show Xi U9 904 69 = Xi U5 904 69 from by rw [eU9]; exact Xi_ne (by omega)).trans ((show Xi U5 904 69 = Xi S 904 69 from by rw [eU5]; exact Xi_ne (by omega))))
          have w111 : 0 ≤ Xi S 904 69 ∧ Xi S 904 69 ≤ 2600 := hH.c _ _
          have w112 : Xi U10 904 78 = Xi S 904 78 := (show Xi U10 904 78 = Xi U9 904 78 from by rw [eU10]; exact Xi_ne (by omega)).trans ( (show Xi U9 904 78 = Xi U5 904 78 from by rw [eU9]; exact Xi_ne (by omega)).trans ((show Xi U5 904 78 = Xi S 904 78 from by rw [eU5]; exact Xi_ne (by omega))))
          have w113 : -2 ≤ Xi S 904 78 ∧ Xi S 904 78 ≤ 5010 := hH.c _ _
          have w114 : 0 ≤ Xi U10 904 8 ∧ Xi U10 904 8 ≤ 5010 := hHU10.c _ _
          have w115 : Xi U10 904 93 = Xi S 904 93 := (show Xi U10 904 93 = Xi U9 904 93 from by rw [eU10]; exact Xi_ne (by omega)).trans ( (show Xi U9 904 93 = Xi U5 904 93 from by rw [eU9]; exact Xi_ne (by omega)).trans ((show Xi U5 904 93 = Xi S 904 93 from by rw [eU5]; exact Xi_ne (by omega))))
          have w116 : 0 ≤ Xi S 904 93 ∧ Xi S 904 93 ≤ 1700 := hH.c _ _
          exact Rl_weak (C147 U10 hHU10 hFU10  (t144.1) (by first | assumption | exact (RNV_FR (FR_e eU10) rfl (RNV_FR (FR_e eU9) rfl (RNV_FR (FR_e eU5) rfl (by assumption : RNV S _))))) (by omega) (by omega) (by omega) (by omega) (by omega) ((KT_FR (FR_e eU10) rfl (KT.w (KT.w KT.rf eU5 (by omega)) eU9 (by omega))))) (And.intro rfl (True.intro))
        · refine l_iconst rfl ?_
          refine l_goto rfl rfl ?_
          refine l_iadd rfl ?_
          refine l_pfi rfl rfl rfl rfl ?_
          obtain ⟨U11, eU11⟩ : ∃ T : sS, T = uI U9 904 8 (Int32.ofInt ((Xi S 904 8) + 1)) := ⟨_, rfl⟩
          rw [← eU11]
          have hHU11 : HI U11 := by rw [eU11]; exact HI_w hHU9 (show 0 ≤ ((Xi S 904 8) + 1) by omega) (show ((Xi S 904 8) + 1) ≤ 5010 by omega)
          have hFU11 : FR md_mo_testedWhat S U11 := by rw [eU11]; exact FR.wI hFU9 (mdf_i (r := (904, 905, 8, 9)) (List.mem_of_getElem? (i := 0) rfl) (inR_i (by omega) (by omega) (by omega) (by omega)))
          have w117 : Xi U11 904 8 = ((Xi S 904 8) + 1) := by rw [eU11]; exact Xi_same (by unfold rg; omega)
          have t144 : AT U11 n c ∧ Xi U9 904 8 ≤ Xi U11 904 8 ∧ (Xi U11 904 8 ≤ n ∨ Xi U11 904 8 = Xi U9 904 8) := at_opt (TK_FR hFU9 rfl hT) (at_fr hA (fun j => (hFU9.cx 907 rfl j).1) (fun j => (hFU9.cx 908 rfl j).1) (by omega) (by omega) (by omega) (by omega)) eU11 (by omega) (by omega)
          have w118 : Xi U11 952 (Xi S 904 93).toNat = Xi U5 952 (Xi S 904 93).toNat := (show Xi U11 952 (Xi S 904 93).toNat = Xi U9 952 (Xi S 904 93).toNat from by rw [eU11]; exact Xi_ne (by omega)).trans ((show Xi U9 952 (Xi S 904 93).toNat = Xi U5 952 (Xi S 904 93).toNat from by rw [eU9]; exact Xi_ne (by omega)))
          have w119 : Xi U11 957 (Xi S 904 93).toNat = Xi S 957 (Xi S 904 93).toNat := (show Xi U11 957 (Xi S 904 93).toNat = Xi U9 957 (Xi S 904 93).toNat from by rw [eU11]; exact Xi_ne (by omega)).trans ( (show Xi U9 957 (Xi S 904 93).toNat = Xi U5 957 (Xi S 904 93).toNat from by rw [eU9]; exact Xi_ne (by omega)).trans ((show Xi U5 957 (Xi S 904 93).toNat = Xi S 957 (Xi S 904 93).toNat from by rw [eU5]; exact Xi_ne (by omega))))
          have w120 : Xi U11 960 (Xi S 904 93).toNat = Xi S 960 (Xi S 904 93).toNat := (show Xi U11 960 (Xi S 904 93).toNat = Xi U9 960 (Xi S 904 93).toNat from by rw [eU11]; exact Xi_ne (by omega)).trans ( (show Xi U9 960 (Xi S 904 93).toNat = Xi U5 960 (Xi S 904 93).toNat from by rw [eU9]; exact Xi_ne (by omega)).trans ((show Xi U5 960 (Xi S 904 93).toNat = Xi S 960 (Xi S 904 93).toNat from by rw [eU5]; exact Xi_ne (by omega))))
          have w121 : Xi U11 904 65 = Xi S 904 65 := (show Xi U11 904 65 = Xi U9 904 65 from by rw [eU11]; exact Xi_ne (by omega)).trans ( (show Xi U9 904 65 = Xi U5 904 65 from by rw [eU9]; exact Xi_ne (by omega)).trans ((show Xi U5 904 65 = Xi S 904 65 from by rw [eU5]; exact Xi_ne (by omega))))
          have w122 : 0 ≤ Xi S 904 65 ∧ Xi S 904 65 ≤ 1 := hH.c _ _
          have w123 : Xi U11 904 69 = Xi S 904 69 := (show Xi U11 904 69 = Xi U9 904 69 from by rw [eU11]; exact Xi_ne (by omega)).trans ( (show Xi U9 904 69 = Xi U5 904 69 from by rw [eU9]; exact Xi_ne (by omega)).trans ((show Xi U5 904 69 = Xi S 904 69 from by rw [eU5]; exact Xi_ne (by omega))))
          have w124 : 0 ≤ Xi S 904 69 ∧ Xi S 904 69 ≤ 2600 := hH.c _ _
          have w125 : Xi U11 904 78 = Xi S 904 78 := (show Xi U11 904 78 = Xi U9 904 78 from by rw [eU11]; exact Xi_ne (by omega)).trans ( (show Xi U9 904 78 = Xi U5 904 78 from by rw [eU9]; exact Xi_ne (by omega)).trans ((show Xi U5 904 78 = Xi S 904 78 from by rw [eU5]; exact Xi_ne (by omega))))
          have w126 : -2 ≤ Xi S 904 78 ∧ Xi S 904 78 ≤ 5010 := hH.c _ _
          have w127 : 0 ≤ Xi U11 904 8 ∧ Xi U11 904 8 ≤ 5010 := hHU11.c _ _
          have w128 : Xi U11 904 93 = Xi S 904 93 := (show Xi U11 904 93 = Xi U9 904 93 from by rw [eU11]; exact Xi_ne (by omega)).trans ( (show Xi U9 904 93 = Xi U5 904 93 from by rw [eU9]; exact Xi_ne (by omega)).trans ((show Xi U5 904 93 = Xi S 904 93 from by rw [eU5]; exact Xi_ne (by omega))))
          have w129 : 0 ≤ Xi S 904 93 ∧ Xi S 904 93 ≤ 1700 := hH.c _ _
          exact Rl_weak (C147 U11 hHU11 hFU11  (t144.1) (by first | assumption | exact (RNV_FR (FR_e eU11) rfl (RNV_FR (FR_e eU9) rfl (RNV_FR (FR_e eU5) rfl (by assumption : RNV S _))))) (by omega) (by omega) (by omega) (by omega) (by omega) ((KT_FR (FR_e eU11) rfl (KT.w (KT.w KT.rf eU5 (by omega)) eU9 (by omega))))) (And.intro rfl (True.intro))
      · refine l_iconst rfl ?_
        refine l_goto rfl rfl ?_
        refine l_bastoreZ1 (n := 1700) rfl rfl (by omega) (by omega) (by unfold rg; omega) ⟨by omega, by omega⟩ ?_
        obtain ⟨U12, eU12⟩ : ∃ T : sS, T = uI U5 953 (((Xi S 904 93)).toNat) (Int32.ofInt 1) := ⟨_, rfl⟩
        rw [← eU12]
        have hHU12 : HI U12 := by rw [eU12]; exact HI_w hHU5 (show 0 ≤ 1 by omega) (show 1 ≤ 1 by omega)
        have hFU12 : FR md_mo_testedWhat S U12 := by rw [eU12]; exact FR.wI hFU5 (mdf_i (r := (953, 954, 0, 100000)) (List.mem_of_getElem? (i := 8) rfl) (inR_i (by omega) (by omega) (by omega) (by omega)))
        have w130 : Xi U12 953 (((Xi S 904 93)).toNat) = 1 := by rw [eU12]; exact Xi_same (by unfold rg; omega)
        have s120_8 : Xi U12 904 8 = Xi U5 904 8 := by rw [eU12, Xi_ne (by omega)]
        have s120_65 : Xi U12 904 65 = Xi U5 904 65 := by rw [eU12, Xi_ne (by omega)]
        have s120_69 : Xi U12 904 69 = Xi U5 904 69 := by rw [eU12, Xi_ne (by omega)]
        have s120_93 : Xi U12 904 93 = Xi U5 904 93 := by rw [eU12, Xi_ne (by omega)]
        have i120 : Xi U12 953 (Xi S 904 93).toNat ≠ 0 → Xi U12 904 65 = 0 ∧ Xi U12 907 (Xi U12 904 8).toNat ≠ 1 := fun q => by rw [(hFU12.cx 907 rfl _).1, show Xi U12 904 8 = Xi S 904 8 by omega]; omega
        refine l_aload_n rfl rfl ?_
        refine l_dup rfl rfl ?_
        refine l_gfi rfl rfl rfl rfl rfl ?_
        have w131 : (Xi U12 904 8) = (Xi S 904 8) := (show Xi U12 904 8 = Xi U5 904 8 from by rw [eU12]; exact Xi_ne (by omega)).trans ((show Xi U5 904 8 = Xi S 904 8 from by rw [eU5]; exact Xi_ne (by omega)))
        rw [w131]
        refine l_aload_n rfl rfl ?_
        refine l_gfr rfl rfl rfl rfl rfl (hHU12.r 904 83 953 rfl) ?_
        refine l_aload_n rfl rfl ?_
        refine l_gfi rfl rfl rfl rfl rfl ?_
        have w132 : (Xi U12 904 93) = (Xi S 904 93) := (show Xi U12 904 93 = Xi U5 904 93 from by rw [eU12]; exact Xi_ne (by omega)).trans ((show Xi U5 904 93 = Xi S 904 93 from by rw [eU5]; exact Xi_ne (by omega)))
        rw [w132]
        refine l_baload (n := 1700) rfl rfl rfl (by decide) (by omega) (by omega) (by unfold rg; omega) ?_
        refine l_if_eq rfl rfl (by unfold rg; omega) (fun w133 => ?_) (fun w134 => ?_)
        · refine l_iconst rfl ?_
          refine l_iadd rfl ?_
          refine l_pfi rfl rfl rfl rfl ?_
          obtain ⟨U13, eU13⟩ : ∃ T : sS, T = uI U12 904 8 (Int32.ofInt ((Xi S 904 8) + 0)) := ⟨_, rfl⟩
          rw [← eU13]
          have hHU13 : HI U13 := by rw [eU13]; exact HI_w hHU12 (show 0 ≤ ((Xi S 904 8) + 0) by omega) (show ((Xi S 904 8) + 0) ≤ 5010 by omega)
          have hFU13 : FR md_mo_testedWhat S U13 := by rw [eU13]; exact FR.wI hFU12 (mdf_i (r := (904, 905, 8, 9)) (List.mem_of_getElem? (i := 0) rfl) (inR_i (by omega) (by omega) (by omega) (by omega)))
          have w135 : Xi U13 904 8 = ((Xi S 904 8) + 0) := by rw [eU13]; exact Xi_same (by unfold rg; omega)
          have t144 : AT U13 n c ∧ Xi U12 904 8 ≤ Xi U13 904 8 ∧ (Xi U13 904 8 ≤ n ∨ Xi U13 904 8 = Xi U12 904 8) := at_opt (TK_FR hFU12 rfl hT) (at_fr hA (fun j => (hFU12.cx 907 rfl j).1) (fun j => (hFU12.cx 908 rfl j).1) (by omega) (by omega) (by omega) (by omega)) eU13 (by omega) (by omega)
          have w136 : Xi U13 952 (Xi S 904 93).toNat = Xi U5 952 (Xi S 904 93).toNat := (show Xi U13 952 (Xi S 904 93).toNat = Xi U12 952 (Xi S 904 93).toNat from by rw [eU13]; exact Xi_ne (by omega)).trans ((show Xi U12 952 (Xi S 904 93).toNat = Xi U5 952 (Xi S 904 93).toNat from by rw [eU12]; exact Xi_ne (by omega)))
          have w137 : Xi U13 957 (Xi S 904 93).toNat = Xi S 957 (Xi S 904 93).toNat := (show Xi U13 957 (Xi S 904 93).toNat = Xi U12 957 (Xi S 904 93).toNat from by rw [eU13]; exact Xi_ne (by omega)).trans ( (show Xi U12 957 (Xi S 904 93).toNat = Xi U5 957 (Xi S 904 93).toNat from by rw [eU12]; exact Xi_ne (by omega)).trans ((show Xi U5 957 (Xi S 904 93).toNat = Xi S 957 (Xi S 904 93).toNat from by rw [eU5]; exact Xi_ne (by omega))))
          have w138 : Xi U13 960 (Xi S 904 93).toNat = Xi S 960 (Xi S 904 93).toNat := (show Xi U13 960 (Xi S 904 93).toNat = Xi U12 960 (Xi S 904 93).toNat from by rw [eU13]; exact Xi_ne (by omega)).trans ( (show Xi U12 960 (Xi S 904 93).toNat = Xi U5 960 (Xi S 904 93).toNat from by rw [eU12]; exact Xi_ne (by omega)).trans ((show Xi U5 960 (Xi S 904 93).toNat = Xi S 960 (Xi S 904 93).toNat from by rw [eU5]; exact Xi_ne (by omega))))
          have w139 : Xi U13 904 65 = Xi S 904 65 := (show Xi U13 904 65 = Xi U12 904 65 from by rw [eU13]; exact Xi_ne (by omega)).trans ( (show Xi U12 904 65 = Xi U5 904 65 from by rw [eU12]; exact Xi_ne (by omega)).trans ((show Xi U5 904 65 = Xi S 904 65 from by rw [eU5]; exact Xi_ne (by omega))))
          have w140 : 0 ≤ Xi S 904 65 ∧ Xi S 904 65 ≤ 1 := hH.c _ _
          have w141 : Xi U13 904 69 = Xi S 904 69 := (show Xi U13 904 69 = Xi U12 904 69 from by rw [eU13]; exact Xi_ne (by omega)).trans ( (show Xi U12 904 69 = Xi U5 904 69 from by rw [eU12]; exact Xi_ne (by omega)).trans ((show Xi U5 904 69 = Xi S 904 69 from by rw [eU5]; exact Xi_ne (by omega))))
          have w142 : 0 ≤ Xi S 904 69 ∧ Xi S 904 69 ≤ 2600 := hH.c _ _
          have w143 : Xi U13 904 78 = Xi S 904 78 := (show Xi U13 904 78 = Xi U12 904 78 from by rw [eU13]; exact Xi_ne (by omega)).trans ( (show Xi U12 904 78 = Xi U5 904 78 from by rw [eU12]; exact Xi_ne (by omega)).trans ((show Xi U5 904 78 = Xi S 904 78 from by rw [eU5]; exact Xi_ne (by omega))))
          have w144 : -2 ≤ Xi S 904 78 ∧ Xi S 904 78 ≤ 5010 := hH.c _ _
          have w145 : 0 ≤ Xi U13 904 8 ∧ Xi U13 904 8 ≤ 5010 := hHU13.c _ _
          have w146 : Xi U13 904 93 = Xi S 904 93 := (show Xi U13 904 93 = Xi U12 904 93 from by rw [eU13]; exact Xi_ne (by omega)).trans ( (show Xi U12 904 93 = Xi U5 904 93 from by rw [eU12]; exact Xi_ne (by omega)).trans ((show Xi U5 904 93 = Xi S 904 93 from by rw [eU5]; exact Xi_ne (by omega))))
          have w147 : 0 ≤ Xi S 904 93 ∧ Xi S 904 93 ≤ 1700 := hH.c _ _
          exact Rl_weak (C147 U13 hHU13 hFU13  (t144.1) (by first | assumption | exact (RNV_FR (FR_e eU13) rfl (RNV_FR (FR_e eU12) rfl (RNV_FR (FR_e eU5) rfl (by assumption : RNV S _))))) (by omega) (by omega) (by omega) (by omega) (by omega) ((KT_FR (FR_e eU13) rfl (KT.w (KT.w KT.rf eU5 (by omega)) eU12 (by omega))))) (And.intro rfl (True.intro))
        · refine l_iconst rfl ?_
          refine l_goto rfl rfl ?_
          refine l_iadd rfl ?_
          refine l_pfi rfl rfl rfl rfl ?_
          obtain ⟨U14, eU14⟩ : ∃ T : sS, T = uI U12 904 8 (Int32.ofInt ((Xi S 904 8) + 1)) := ⟨_, rfl⟩
          rw [← eU14]
          have hHU14 : HI U14 := by rw [eU14]; exact HI_w hHU12 (show 0 ≤ ((Xi S 904 8) + 1) by omega) (show ((Xi S 904 8) + 1) ≤ 5010 by omega)
          have hFU14 : FR md_mo_testedWhat S U14 := by rw [eU14]; exact FR.wI hFU12 (mdf_i (r := (904, 905, 8, 9)) (List.mem_of_getElem? (i := 0) rfl) (inR_i (by omega) (by omega) (by omega) (by omega)))
          have w148 : Xi U14 904 8 = ((Xi S 904 8) + 1) := by rw [eU14]; exact Xi_same (by unfold rg; omega)
          have t144 : AT U14 n c ∧ Xi U12 904 8 ≤ Xi U14 904 8 ∧ (Xi U14 904 8 ≤ n ∨ Xi U14 904 8 = Xi U12 904 8) := at_opt (TK_FR hFU12 rfl hT) (at_fr hA (fun j => (hFU12.cx 907 rfl j).1) (fun j => (hFU12.cx 908 rfl j).1) (by omega) (by omega) (by omega) (by omega)) eU14 (by omega) (by omega)
          have w149 : Xi U14 952 (Xi S 904 93).toNat = Xi U5 952 (Xi S 904 93).toNat := (show Xi U14 952 (Xi S 904 93).toNat = Xi U12 952 (Xi S 904 93).toNat from by rw [eU14]; exact Xi_ne (by omega)).trans ((show Xi U12 952 (Xi S 904 93).toNat = Xi U5 952 (Xi S 904 93).toNat from by rw [eU12]; exact Xi_ne (by omega)))
          have w150 : Xi U14 957 (Xi S 904 93).toNat = Xi S 957 (Xi S 904 93).toNat := (show Xi U14 957 (Xi S 904 93).toNat = Xi U12 957 (Xi S 904 93).toNat from by rw [eU14]; exact Xi_ne (by omega)).trans ( (show Xi U12 957 (Xi S 904 93).toNat = Xi U5 957 (Xi S 904 93).toNat from by rw [eU12]; exact Xi_ne (by omega)).trans ((show Xi U5 957 (Xi S 904 93).toNat = Xi S 957 (Xi S 904 93).toNat from by rw [eU5]; exact Xi_ne (by omega))))
          have w151 : Xi U14 960 (Xi S 904 93).toNat = Xi S 960 (Xi S 904 93).toNat := (show Xi U14 960 (Xi S 904 93).toNat = Xi U12 960 (Xi S 904 93).toNat from by rw [eU14]; exact Xi_ne (by omega)).trans ( (show Xi U12 960 (Xi S 904 93).toNat = Xi U5 960 (Xi S 904 93).toNat from by rw [eU12]; exact Xi_ne (by omega)).trans ((show Xi U5 960 (Xi S 904 93).toNat = Xi S 960 (Xi S 904 93).toNat from by rw [eU5]; exact Xi_ne (by omega))))
          have w152 : Xi U14 904 65 = Xi S 904 65 := (show Xi U14 904 65 = Xi U12 904 65 from by rw [eU14]; exact Xi_ne (by omega)).trans ( (show Xi U12 904 65 = Xi U5 904 65 from by rw [eU12]; exact Xi_ne (by omega)).trans ((show Xi U5 904 65 = Xi S 904 65 from by rw [eU5]; exact Xi_ne (by omega))))
          have w153 : 0 ≤ Xi S 904 65 ∧ Xi S 904 65 ≤ 1 := hH.c _ _
          have w154 : Xi U14 904 69 = Xi S 904 69 := (show Xi U14 904 69 = Xi U12 904 69 from by rw [eU14]; exact Xi_ne (by omega)).trans ( (show Xi U12 904 69 = Xi U5 904 69 from by rw [eU12]; exact Xi_ne (by omega)).trans ((show Xi U5 904 69 = Xi S 904 69 from by rw [eU5]; exact Xi_ne (by omega))))
          have w155 : 0 ≤ Xi S 904 69 ∧ Xi S 904 69 ≤ 2600 := hH.c _ _
          have w156 : Xi U14 904 78 = Xi S 904 78 := (show Xi U14 904 78 = Xi U12 904 78 from by rw [eU14]; exact Xi_ne (by omega)).trans ( (show Xi U12 904 78 = Xi U5 904 78 from by rw [eU12]; exact Xi_ne (by omega)).trans ((show Xi U5 904 78 = Xi S 904 78 from by rw [eU5]; exact Xi_ne (by omega))))
          have w157 : -2 ≤ Xi S 904 78 ∧ Xi S 904 78 ≤ 5010 := hH.c _ _
          have w158 : 0 ≤ Xi U14 904 8 ∧ Xi U14 904 8 ≤ 5010 := hHU14.c _ _
          have w159 : Xi U14 904 93 = Xi S 904 93 := (show Xi U14 904 93 = Xi U12 904 93 from by rw [eU14]; exact Xi_ne (by omega)).trans ( (show Xi U12 904 93 = Xi U5 904 93 from by rw [eU12]; exact Xi_ne (by omega)).trans ((show Xi U5 904 93 = Xi S 904 93 from by rw [eU5]; exact Xi_ne (by omega))))
          have w160 : 0 ≤ Xi S 904 93 ∧ Xi S 904 93 ≤ 1700 := hH.c _ _
          exact Rl_weak (C147 U14 hHU14 hFU14  (t144.1) (by first | assumption | exact (RNV_FR (FR_e eU14) rfl (RNV_FR (FR_e eU12) rfl (RNV_FR (FR_e eU5) rfl (by assumption : RNV S _))))) (by omega) (by omega) (by omega) (by omega) (by omega) ((KT_FR (FR_e eU14) rfl (KT.w (KT.w KT.rf eU5 (by omega)) eU12 (by omega))))) (And.intro rfl (True.intro))
  · refine l_aload_n rfl rfl ?_
    refine l_sipush rfl rfl ?_
    have w161 : 0 ≤ Xi S 904 65 ∧ Xi S 904 65 ≤ 1 := hH.c _ _
    have w162 : 0 ≤ Xi S 904 69 ∧ Xi S 904 69 ≤ 2600 := hH.c _ _
    have w163 : -2 ≤ Xi S 904 78 ∧ Xi S 904 78 ≤ 5010 := hH.c _ _
    have w164 : 0 ≤ Xi S 904 8 ∧ Xi S 904 8 ≤ 5010 := hH.c _ _
    have w165 : 0 ≤ Xi S 904 93 ∧ Xi S 904 93 ≤ 1700 := hH.c _ _
    refine l_callV rfl rfl rfl (t_mo_isNext hH n c 151 ⟨by omega, by omega⟩ (by first | assumption | exact (TK_FR hF rfl (by assumption : TK S _))) (by first | assumption | exact (by assumption : AT S _ _)) _) ?_
    rintro _ _ ⟨rfl, z168, rfl, w168, w166, w167⟩
    show Rl _ _ _ _ _ [iv z168] _ _
    have i8 : z168 = 1 → Xi S 904 65 = 0 ∧ Xi S 907 (Xi S 904 8).toNat = 151 := fun q => by have t := (by assumption : z168 = 1 → Xi S 904 65 = 0 ∧ Xi S 907 (Xi S 904 8).toNat = 151) q; rw [show Xi S 904 8 = Xi S 904 8 by omega, (hF.cx 907 rfl _).1] at t; exact ⟨by omega, t.2⟩
    refine l_if_ne rfl rfl (by unfold rg; omega) (fun w169 => ?_) (fun w170 => ?_)
    · refine l_aload_n rfl rfl ?_
      refine l_gfr rfl rfl rfl rfl rfl (hH.r 904 82 952 rfl) ?_
      refine l_aload_n rfl rfl ?_
      refine l_gfi rfl rfl rfl rfl rfl ?_
      refine l_aload_n rfl rfl ?_
      refine l_sipush rfl rfl ?_
      have w171 : 0 ≤ Xi S 904 65 ∧ Xi S 904 65 ≤ 1 := hH.c _ _
      have w172 : 0 ≤ Xi S 904 69 ∧ Xi S 904 69 ≤ 2600 := hH.c _ _
      have w173 : -2 ≤ Xi S 904 78 ∧ Xi S 904 78 ≤ 5010 := hH.c _ _
      have w174 : 0 ≤ Xi S 904 8 ∧ Xi S 904 8 ≤ 5010 := hH.c _ _
      have w175 : 0 ≤ Xi S 904 93 ∧ Xi S 904 93 ≤ 1700 := hH.c _ _
      refine l_callV rfl rfl rfl (t_mo_isNext hH n c 151 ⟨by omega, by omega⟩ (by first | assumption | exact (TK_FR hF rfl (by assumption : TK S _))) (by first | assumption | exact (by assumption : AT S _ _)) _) ?_
      rintro _ _ ⟨rfl, z178, rfl, w178, w176, w177⟩
      show Rl _ _ _ _ _ [iv z178, iv (Xi S 904 93), .ref 952] _ _
      refine l_if_eq rfl rfl (by unfold rg; omega) (fun w179 => ?_) (fun w180 => ?_)
      · refine l_iconst rfl ?_
        refine l_iastore (n := 1700) rfl rfl (by omega) (by omega) (by unfold rg; omega) ?_
        obtain ⟨U15, eU15⟩ : ∃ T : sS, T = uI S 952 (((Xi S 904 93)).toNat) (Int32.ofInt 2) := ⟨_, rfl⟩
        rw [← eU15]
        have hHU15 : HI U15 := by rw [eU15]; exact HI_w hH (show 0 ≤ 2 by omega) (show 2 ≤ 5 by omega)
        have hFU15 : FR md_mo_testedWhat S U15 := by rw [eU15]; exact FR.wI hF (mdf_i (r := (952, 953, 0, 100000)) (List.mem_of_getElem? (i := 7) rfl) (inR_i (by omega) (by omega) (by omega) (by omega)))
        have w181 : Xi U15 952 (((Xi S 904 93)).toNat) = 2 := by rw [eU15]; exact Xi_same (by unfold rg; omega)
        have s47_8 : Xi U15 904 8 = Xi S 904 8 := by rw [eU15, Xi_ne (by omega)]
        have s47_65 : Xi U15 904 65 = Xi S 904 65 := by rw [eU15, Xi_ne (by omega)]
        have s47_69 : Xi U15 904 69 = Xi S 904 69 := by rw [eU15, Xi_ne (by omega)]
        have s47_93 : Xi U15 904 93 = Xi S 904 93 := by rw [eU15, Xi_ne (by omega)]
        refine l_aload_n rfl rfl ?_
        refine l_dup rfl rfl ?_
        refine l_gfi rfl rfl rfl rfl rfl ?_
        have w182 : (Xi U15 904 8) = (Xi S 904 8) := (show Xi U15 904 8 = Xi S 904 8 from by rw [eU15]; exact Xi_ne (by omega))
        rw [w182]
        refine l_iconst rfl ?_
        refine l_iadd rfl ?_
        refine l_pfi rfl rfl rfl rfl ?_
        obtain ⟨U16, eU16⟩ : ∃ T : sS, T = uI U15 904 8 (Int32.ofInt ((Xi S 904 8) + 1)) := ⟨_, rfl⟩
        rw [← eU16]
        have hHU16 : HI U16 := by rw [eU16]; exact HI_w hHU15 (show 0 ≤ ((Xi S 904 8) + 1) by omega) (show ((Xi S 904 8) + 1) ≤ 5010 by omega)
        have hFU16 : FR md_mo_testedWhat S U16 := by rw [eU16]; exact FR.wI hFU15 (mdf_i (r := (904, 905, 8, 9)) (List.mem_of_getElem? (i := 0) rfl) (inR_i (by omega) (by omega) (by omega) (by omega)))
        have w183 : Xi U16 904 8 = ((Xi S 904 8) + 1) := by rw [eU16]; exact Xi_same (by unfold rg; omega)
        have t55 : AT U16 n c ∧ _ := at_mv hT hA (fun j => (hFU15.cx 907 rfl j).1) (fun j => (hFU15.cx 908 rfl j).1) (by omega) (by omega) (by omega) (by omega) eU16 (by omega) (by omega) (by omega) (by omega) (Or.inl rfl)
        have a55 : AT U16 n c := t55.1
        refine l_aload_n rfl rfl ?_
        refine l_sipush rfl rfl ?_
        have w184 : Xi U16 904 65 = Xi S 904 65 := (show Xi U16 904 65 = Xi U15 904 65 from by rw [eU16]; exact Xi_ne (by omega)).trans ((show Xi U15 904 65 = Xi S 904 65 from by rw [eU15]; exact Xi_ne (by omega)))
        have w185 : 0 ≤ Xi S 904 65 ∧ Xi S 904 65 ≤ 1 := hH.c _ _
        have w186 : Xi U16 904 69 = Xi S 904 69 := (show Xi U16 904 69 = Xi U15 904 69 from by rw [eU16]; exact Xi_ne (by omega)).trans ((show Xi U15 904 69 = Xi S 904 69 from by rw [eU15]; exact Xi_ne (by omega)))
        have w187 : 0 ≤ Xi S 904 69 ∧ Xi S 904 69 ≤ 2600 := hH.c _ _
        have w188 : Xi U16 904 78 = Xi S 904 78 := (show Xi U16 904 78 = Xi U15 904 78 from by rw [eU16]; exact Xi_ne (by omega)).trans ((show Xi U15 904 78 = Xi S 904 78 from by rw [eU15]; exact Xi_ne (by omega)))
        have w189 : -2 ≤ Xi S 904 78 ∧ Xi S 904 78 ≤ 5010 := hH.c _ _
        have w190 : 0 ≤ Xi U16 904 8 ∧ Xi U16 904 8 ≤ 5010 := hHU16.c _ _
        have w191 : Xi U16 904 93 = Xi S 904 93 := (show Xi U16 904 93 = Xi U15 904 93 from by rw [eU16]; exact Xi_ne (by omega)).trans ((show Xi U15 904 93 = Xi S 904 93 from by rw [eU15]; exact Xi_ne (by omega)))
        have w192 : 0 ≤ Xi S 904 93 ∧ Xi S 904 93 ≤ 1700 := hH.c _ _
        refine l_callV rfl rfl rfl (t_mo_take__2 hHU16 n c 150 ⟨by omega, by omega⟩ (by first | assumption | exact (TK_FR hFU16 rfl (by assumption : TK S _))) (by first | assumption | exact (by assumption : AT U16 _ _)) (by first | assumption | omega) _) ?_
        rintro _ T17 ⟨hHT17, w198, rfl, w193, w194, w195, w196⟩
        have hFT17 : FR md_mo_testedWhat S T17 := FR.tr hFU16 w198 rfl
        show Rl _ _ _ _ _ [] _ _
        refine l_aload_n rfl rfl ?_
        refine l_gfr rfl rfl rfl rfl rfl (hHT17.r 904 87 957 rfl) ?_
        refine l_aload_n rfl rfl ?_
        refine l_gfi rfl rfl rfl rfl rfl ?_
        have w199 : (Xi T17 904 93) = (Xi S 904 93) := (show Xi T17 904 93 = Xi U16 904 93 from w198.x _ _ rfl).trans ( (show Xi U16 904 93 = Xi U15 904 93 from by rw [eU16]; exact Xi_ne (by omega)).trans ((show Xi U15 904 93 = Xi S 904 93 from by rw [eU15]; exact Xi_ne (by omega))))
        rw [w199]
        refine l_aload_n rfl rfl ?_
        refine l_gfi rfl rfl rfl rfl rfl ?_
        have w200 : 0 ≤ (Xi T17 904 8) ∧ (Xi T17 904 8) ≤ 5010 := hHT17.c _ _
        refine l_iastore (n := 1700) rfl rfl (by omega) (by omega) (by unfold rg; omega) ?_
        obtain ⟨U18, eU18⟩ : ∃ T : sS, T = uI T17 957 (((Xi S 904 93)).toNat) (Int32.ofInt (Xi T17 904 8)) := ⟨_, rfl⟩
        rw [← eU18]
        have hHU18 : HI U18 := by rw [eU18]; exact HI_w hHT17 (show 0 ≤ (Xi T17 904 8) by omega) (show (Xi T17 904 8) ≤ 5010 by omega)
        have hFU18 : FR md_mo_testedWhat S U18 := by rw [eU18]; exact FR.wI hFT17 (mdf_i (r := (957, 958, 0, 100000)) (List.mem_of_getElem? (i := 9) rfl) (inR_i (by omega) (by omega) (by omega) (by omega)))
        have w201 : Xi U18 957 (((Xi S 904 93)).toNat) = (Xi T17 904 8) := by rw [eU18]; exact Xi_same (by unfold rg; omega)
        refine l_aload_n rfl rfl ?_
        refine l_iconst rfl ?_
        have w202 : Xi U18 904 65 = Xi T17 904 65 := (show Xi U18 904 65 = Xi T17 904 65 from by rw [eU18]; exact Xi_ne (by omega))
        have w203 : 0 ≤ Xi T17 904 65 ∧ Xi T17 904 65 ≤ 1 := hHT17.c _ _
        have w204 : Xi U18 904 69 = Xi S 904 69 := (show Xi U18 904 69 = Xi T17 904 69 from by rw [eU18]; exact Xi_ne (by omega)).trans ( (show Xi T17 904 69 = Xi U16 904 69 from w198.x _ _ rfl).trans ( (show Xi U16 904 69 = Xi U15 904 69 from by rw [eU16]; exact Xi_ne (by omega)).trans ((show Xi U15 904 69 = Xi S 904 69 from by rw [eU15]; exact Xi_ne (by omega)))))
        have w205 : 0 ≤ Xi S 904 69 ∧ Xi S 904 69 ≤ 2600 := hH.c _ _
        have w206 : Xi U18 904 78 = Xi S 904 78 := (show Xi U18 904 78 = Xi T17 904 78 from by rw [eU18]; exact Xi_ne (by omega)).trans ( (show Xi T17 904 78 = Xi U16 904 78 from w198.x _ _ rfl).trans ( (show Xi U16 904 78 = Xi U15 904 78 from by rw [eU16]; exact Xi_ne (by omega)).trans ((show Xi U15 904 78 = Xi S 904 78 from by rw [eU15]; exact Xi_ne (by omega)))))
        have w207 : -2 ≤ Xi S 904 78 ∧ Xi S 904 78 ≤ 5010 := hH.c _ _
        have w208 : Xi U18 904 8 = Xi T17 904 8 := (show Xi U18 904 8 = Xi T17 904 8 from by rw [eU18]; exact Xi_ne (by omega))
        have w209 : 0 ≤ Xi T17 904 8 ∧ Xi T17 904 8 ≤ 5010 := hHT17.c _ _
        have w210 : Xi U18 904 93 = Xi S 904 93 := (show Xi U18 904 93 = Xi T17 904 93 from by rw [eU18]; exact Xi_ne (by omega)).trans ( (show Xi T17 904 93 = Xi U16 904 93 from w198.x _ _ rfl).trans ( (show Xi U16 904 93 = Xi U15 904 93 from by rw [eU16]; exact Xi_ne (by omega)).trans ((show Xi U15 904 93 = Xi S 904 93 from by rw [eU15]; exact Xi_ne (by omega)))))
        have w211 : 0 ≤ Xi S 904 93 ∧ Xi S 904 93 ≤ 1700 := hH.c _ _
        refine l_callV rfl rfl rfl (t_mo_take__2 hHU18 n c 4 ⟨by omega, by omega⟩ (by first | assumption | exact (TK_FR hFU18 rfl (by assumption : TK S _))) (by first | assumption | exact (AT_FR (FR_e eU18) rfl (by assumption : AT T17 _ _))) (by first | assumption | omega) _) ?_
        rintro _ T19 ⟨hHT19, w217, rfl, w212, w213, w214, w215⟩
        have hFT19 : FR md_mo_testedWhat S T19 := FR.tr hFU18 w217 rfl
        show Rl _ _ _ _ _ [] _ _
        refine l_return rfl rfl ?_
        have w218 : Xi T19 952 (Xi S 904 93).toNat = Xi U15 952 (Xi S 904 93).toNat := (show Xi T19 952 (Xi S 904 93).toNat = Xi U18 952 (Xi S 904 93).toNat from (w217.cx 952 rfl _).1).trans ( (show Xi U18 952 (Xi S 904 93).toNat = Xi T17 952 (Xi S 904 93).toNat from by rw [eU18]; exact Xi_ne (by omega)).trans ( (show Xi T17 952 (Xi S 904 93).toNat = Xi U16 952 (Xi S 904 93).toNat from (w198.cx 952 rfl _).1).trans ((show Xi U16 952 (Xi S 904 93).toNat = Xi U15 952 (Xi S 904 93).toNat from by rw [eU16]; exact Xi_ne (by omega)))))
        have w219 : Xi T19 957 (Xi S 904 93).toNat = Xi U18 957 (Xi S 904 93).toNat := (show Xi T19 957 (Xi S 904 93).toNat = Xi U18 957 (Xi S 904 93).toNat from (w217.cx 957 rfl _).1)
        have w220 : Xi T19 960 (Xi S 904 93).toNat = Xi S 960 (Xi S 904 93).toNat := (show Xi T19 960 (Xi S 904 93).toNat = Xi U18 960 (Xi S 904 93).toNat from (w217.cx 960 rfl _).1).trans ( (show Xi U18 960 (Xi S 904 93).toNat = Xi T17 960 (Xi S 904 93).toNat from by rw [eU18]; exact Xi_ne (by omega)).trans ( (show Xi T17 960 (Xi S 904 93).toNat = Xi U16 960 (Xi S 904 93).toNat from (w198.cx 960 rfl _).1).trans ( (show Xi U16 960 (Xi S 904 93).toNat = Xi U15 960 (Xi S 904 93).toNat from by rw [eU16]; exact Xi_ne (by omega)).trans ((show Xi U15 960 (Xi S 904 93).toNat = Xi S 960 (Xi S 904 93).toNat from by rw [eU15]; exact Xi_ne (by omega))))))
        have w221 : 0 ≤ Xi T19 904 65 ∧ Xi T19 904 65 ≤ 1 := hHT19.c _ _
        have w222 : Xi T19 904 69 = Xi S 904 69 := (show Xi T19 904 69 = Xi U18 904 69 from w217.x _ _ rfl).trans ( (show Xi U18 904 69 = Xi T17 904 69 from by rw [eU18]; exact Xi_ne (by omega)).trans ( (show Xi T17 904 69 = Xi U16 904 69 from w198.x _ _ rfl).trans ( (show Xi U16 904 69 = Xi U15 904 69 from by rw [eU16]; exact Xi_ne (by omega)).trans ((show Xi U15 904 69 = Xi S 904 69 from by rw [eU15]; exact Xi_ne (by omega))))))
        have w223 : 0 ≤ Xi S 904 69 ∧ Xi S 904 69 ≤ 2600 := hH.c _ _
        have w224 : Xi T19 904 78 = Xi S 904 78 := (show Xi T19 904 78 = Xi U18 904 78 from w217.x _ _ rfl).trans ( (show Xi U18 904 78 = Xi T17 904 78 from by rw [eU18]; exact Xi_ne (by omega)).trans ( (show Xi T17 904 78 = Xi U16 904 78 from w198.x _ _ rfl).trans ( (show Xi U16 904 78 = Xi U15 904 78 from by rw [eU16]; exact Xi_ne (by omega)).trans ((show Xi U15 904 78 = Xi S 904 78 from by rw [eU15]; exact Xi_ne (by omega))))))
        have w225 : -2 ≤ Xi S 904 78 ∧ Xi S 904 78 ≤ 5010 := hH.c _ _
        have w226 : 0 ≤ Xi T19 904 8 ∧ Xi T19 904 8 ≤ 5010 := hHT19.c _ _
        have w227 : Xi T19 904 93 = Xi S 904 93 := (show Xi T19 904 93 = Xi U18 904 93 from w217.x _ _ rfl).trans ( (show Xi U18 904 93 = Xi T17 904 93 from by rw [eU18]; exact Xi_ne (by omega)).trans ( (show Xi T17 904 93 = Xi U16 904 93 from w198.x _ _ rfl).trans ( (show Xi U16 904 93 = Xi U15 904 93 from by rw [eU16]; exact Xi_ne (by omega)).trans ((show Xi U15 904 93 = Xi S 904 93 from by rw [eU15]; exact Xi_ne (by omega))))))
        have w228 : 0 ≤ Xi S 904 93 ∧ Xi S 904 93 ≤ 1700 := hH.c _ _
        exact ⟨hHT19, hFT19, rfl, (by first | assumption | exact (by assumption : AT T19 _ _)), (by omega), (by first | assumption | exact (RNV_FR w217 rfl (RNV_FR (FR_e eU18) rfl (RNV_FR w198 rfl (RNV_FR (FR_e eU16) rfl (RNV_FR (FR_e eU15) rfl (by assumption : RNV S _))))))), (by omega), (by omega), ((KT_FR w217 rfl (KT.w (KT_FR w198 rfl (KT_FR (FR_e eU16) rfl (KT.w KT.rf eU15 (by omega)))) eU18 (by omega)))), (by intro q; refine ⟨by omega, by omega, fun q0 => ?_⟩; first | (exfalso; omega) | (intro a b; have t := W148 (by omega) (Xi T19 957 (Xi S 904 93).toNat) (by omega) a b; omega)), (by omega)⟩
      · refine l_iconst rfl ?_
        refine l_goto rfl rfl ?_
        refine l_iastore (n := 1700) rfl rfl (by omega) (by omega) (by unfold rg; omega) ?_
        obtain ⟨U20, eU20⟩ : ∃ T : sS, T = uI S 952 (((Xi S 904 93)).toNat) (Int32.ofInt 1) := ⟨_, rfl⟩
        rw [← eU20]
        have hHU20 : HI U20 := by rw [eU20]; exact HI_w hH (show 0 ≤ 1 by omega) (show 1 ≤ 5 by omega)
        have hFU20 : FR md_mo_testedWhat S U20 := by rw [eU20]; exact FR.wI hF (mdf_i (r := (952, 953, 0, 100000)) (List.mem_of_getElem? (i := 7) rfl) (inR_i (by omega) (by omega) (by omega) (by omega)))
        have w229 : Xi U20 952 (((Xi S 904 93)).toNat) = 1 := by rw [eU20]; exact Xi_same (by unfold rg; omega)
        have s47_8 : Xi U20 904 8 = Xi S 904 8 := by rw [eU20, Xi_ne (by omega)]
        have s47_65 : Xi U20 904 65 = Xi S 904 65 := by rw [eU20, Xi_ne (by omega)]
        have s47_69 : Xi U20 904 69 = Xi S 904 69 := by rw [eU20, Xi_ne (by omega)]
        have s47_93 : Xi U20 904 93 = Xi S 904 93 := by rw [eU20, Xi_ne (by omega)]
        refine l_aload_n rfl rfl ?_
        refine l_dup rfl rfl ?_
        refine l_gfi rfl rfl rfl rfl rfl ?_
        have w230 : (Xi U20 904 8) = (Xi S 904 8) := (show Xi U20 904 8 = Xi S 904 8 from by rw [eU20]; exact Xi_ne (by omega))
        rw [w230]
        refine l_iconst rfl ?_
        refine l_iadd rfl ?_
        refine l_pfi rfl rfl rfl rfl ?_
        obtain ⟨U21, eU21⟩ : ∃ T : sS, T = uI U20 904 8 (Int32.ofInt ((Xi S 904 8) + 1)) := ⟨_, rfl⟩
        rw [← eU21]
        have hHU21 : HI U21 := by rw [eU21]; exact HI_w hHU20 (show 0 ≤ ((Xi S 904 8) + 1) by omega) (show ((Xi S 904 8) + 1) ≤ 5010 by omega)
        have hFU21 : FR md_mo_testedWhat S U21 := by rw [eU21]; exact FR.wI hFU20 (mdf_i (r := (904, 905, 8, 9)) (List.mem_of_getElem? (i := 0) rfl) (inR_i (by omega) (by omega) (by omega) (by omega)))
        have w231 : Xi U21 904 8 = ((Xi S 904 8) + 1) := by rw [eU21]; exact Xi_same (by unfold rg; omega)
        have t55 : AT U21 n c ∧ _ := at_mv hT hA (fun j => (hFU20.cx 907 rfl j).1) (fun j => (hFU20.cx 908 rfl j).1) (by omega) (by omega) (by omega) (by omega) eU21 (by omega) (by omega) (by omega) (by omega) (Or.inl rfl)
        have a55 : AT U21 n c := t55.1
        refine l_aload_n rfl rfl ?_
        refine l_sipush rfl rfl ?_
        have w232 : Xi U21 904 65 = Xi S 904 65 := (show Xi U21 904 65 = Xi U20 904 65 from by rw [eU21]; exact Xi_ne (by omega)).trans ((show Xi U20 904 65 = Xi S 904 65 from by rw [eU20]; exact Xi_ne (by omega)))
        have w233 : 0 ≤ Xi S 904 65 ∧ Xi S 904 65 ≤ 1 := hH.c _ _
        have w234 : Xi U21 904 69 = Xi S 904 69 := (show Xi U21 904 69 = Xi U20 904 69 from by rw [eU21]; exact Xi_ne (by omega)).trans ((show Xi U20 904 69 = Xi S 904 69 from by rw [eU20]; exact Xi_ne (by omega)))
        have w235 : 0 ≤ Xi S 904 69 ∧ Xi S 904 69 ≤ 2600 := hH.c _ _
        have w236 : Xi U21 904 78 = Xi S 904 78 := (show Xi U21 904 78 = Xi U20 904 78 from by rw [eU21]; exact Xi_ne (by omega)).trans ((show Xi U20 904 78 = Xi S 904 78 from by rw [eU20]; exact Xi_ne (by omega)))
        have w237 : -2 ≤ Xi S 904 78 ∧ Xi S 904 78 ≤ 5010 := hH.c _ _
        have w238 : 0 ≤ Xi U21 904 8 ∧ Xi U21 904 8 ≤ 5010 := hHU21.c _ _
        have w239 : Xi U21 904 93 = Xi S 904 93 := (show Xi U21 904 93 = Xi U20 904 93 from by rw [eU21]; exact Xi_ne (by omega)).trans ((show Xi U20 904 93 = Xi S 904 93 from by rw [eU20]; exact Xi_ne (by omega)))
        have w240 : 0 ≤ Xi S 904 93 ∧ Xi S 904 93 ≤ 1700 := hH.c _ _
        refine l_callV rfl rfl rfl (t_mo_take__2 hHU21 n c 150 ⟨by omega, by omega⟩ (by first | assumption | exact (TK_FR hFU21 rfl (by assumption : TK S _))) (by first | assumption | exact (by assumption : AT U21 _ _)) (by first | assumption | omega) _) ?_
        rintro _ T22 ⟨hHT22, w246, rfl, w241, w242, w243, w244⟩
        have hFT22 : FR md_mo_testedWhat S T22 := FR.tr hFU21 w246 rfl
        show Rl _ _ _ _ _ [] _ _
        refine l_aload_n rfl rfl ?_
        refine l_gfr rfl rfl rfl rfl rfl (hHT22.r 904 87 957 rfl) ?_
        refine l_aload_n rfl rfl ?_
        refine l_gfi rfl rfl rfl rfl rfl ?_
        have w247 : (Xi T22 904 93) = (Xi S 904 93) := (show Xi T22 904 93 = Xi U21 904 93 from w246.x _ _ rfl).trans ( (show Xi U21 904 93 = Xi U20 904 93 from by rw [eU21]; exact Xi_ne (by omega)).trans ((show Xi U20 904 93 = Xi S 904 93 from by rw [eU20]; exact Xi_ne (by omega))))
        rw [w247]
        refine l_aload_n rfl rfl ?_
        refine l_gfi rfl rfl rfl rfl rfl ?_
        have w248 : 0 ≤ (Xi T22 904 8) ∧ (Xi T22 904 8) ≤ 5010 := hHT22.c _ _
        refine l_iastore (n := 1700) rfl rfl (by omega) (by omega) (by unfold rg; omega) ?_
        obtain ⟨U23, eU23⟩ : ∃ T : sS, T = uI T22 957 (((Xi S 904 93)).toNat) (Int32.ofInt (Xi T22 904 8)) := ⟨_, rfl⟩
        rw [← eU23]
        have hHU23 : HI U23 := by rw [eU23]; exact HI_w hHT22 (show 0 ≤ (Xi T22 904 8) by omega) (show (Xi T22 904 8) ≤ 5010 by omega)
        have hFU23 : FR md_mo_testedWhat S U23 := by rw [eU23]; exact FR.wI hFT22 (mdf_i (r := (957, 958, 0, 100000)) (List.mem_of_getElem? (i := 9) rfl) (inR_i (by omega) (by omega) (by omega) (by omega)))
        have w249 : Xi U23 957 (((Xi S 904 93)).toNat) = (Xi T22 904 8) := by rw [eU23]; exact Xi_same (by unfold rg; omega)
        refine l_aload_n rfl rfl ?_
        refine l_iconst rfl ?_
        have w250 : Xi U23 904 65 = Xi T22 904 65 := (show Xi U23 904 65 = Xi T22 904 65 from by rw [eU23]; exact Xi_ne (by omega))
        have w251 : 0 ≤ Xi T22 904 65 ∧ Xi T22 904 65 ≤ 1 := hHT22.c _ _
        have w252 : Xi U23 904 69 = Xi S 904 69 := (show Xi U23 904 69 = Xi T22 904 69 from by rw [eU23]; exact Xi_ne (by omega)).trans ( (show Xi T22 904 69 = Xi U21 904 69 from w246.x _ _ rfl).trans ( (show Xi U21 904 69 = Xi U20 904 69 from by rw [eU21]; exact Xi_ne (by omega)).trans ((show Xi U20 904 69 = Xi S 904 69 from by rw [eU20]; exact Xi_ne (by omega)))))
        have w253 : 0 ≤ Xi S 904 69 ∧ Xi S 904 69 ≤ 2600 := hH.c _ _
        have w254 : Xi U23 904 78 = Xi S 904 78 := (show Xi U23 904 78 = Xi T22 904 78 from by rw [eU23]; exact Xi_ne (by omega)).trans ( (show Xi T22 904 78 = Xi U21 904 78 from w246.x _ _ rfl).trans ( (show Xi U21 904 78 = Xi U20 904 78 from by rw [eU21]; exact Xi_ne (by omega)).trans ((show Xi U20 904 78 = Xi S 904 78 from by rw [eU20]; exact Xi_ne (by omega)))))
        have w255 : -2 ≤ Xi S 904 78 ∧ Xi S 904 78 ≤ 5010 := hH.c _ _
        have w256 : Xi U23 904 8 = Xi T22 904 8 := (show Xi U23 904 8 = Xi T22 904 8 from by rw [eU23]; exact Xi_ne (by omega))
        have w257 : 0 ≤ Xi T22 904 8 ∧ Xi T22 904 8 ≤ 5010 := hHT22.c _ _
        have w258 : Xi U23 904 93 = Xi S 904 93 := (show Xi U23 904 93 = Xi T22 904 93 from by rw [eU23]; exact Xi_ne (by omega)).trans ( (show Xi T22 904 93 = Xi U21 904 93 from w246.x _ _ rfl).trans ( (show Xi U21 904 93 = Xi U20 904 93 from by rw [eU21]; exact Xi_ne (by omega)).trans ((show Xi U20 904 93 = Xi S 904 93 from by rw [eU20]; exact Xi_ne (by omega)))))
        have w259 : 0 ≤ Xi S 904 93 ∧ Xi S 904 93 ≤ 1700 := hH.c _ _
        refine l_callV rfl rfl rfl (t_mo_take__2 hHU23 n c 4 ⟨by omega, by omega⟩ (by first | assumption | exact (TK_FR hFU23 rfl (by assumption : TK S _))) (by first | assumption | exact (AT_FR (FR_e eU23) rfl (by assumption : AT T22 _ _))) (by first | assumption | omega) _) ?_
        rintro _ T24 ⟨hHT24, w265, rfl, w260, w261, w262, w263⟩
        have hFT24 : FR md_mo_testedWhat S T24 := FR.tr hFU23 w265 rfl
        show Rl _ _ _ _ _ [] _ _
        refine l_return rfl rfl ?_
        have w266 : Xi T24 952 (Xi S 904 93).toNat = Xi U20 952 (Xi S 904 93).toNat := (show Xi T24 952 (Xi S 904 93).toNat = Xi U23 952 (Xi S 904 93).toNat from (w265.cx 952 rfl _).1).trans ( (show Xi U23 952 (Xi S 904 93).toNat = Xi T22 952 (Xi S 904 93).toNat from by rw [eU23]; exact Xi_ne (by omega)).trans ( (show Xi T22 952 (Xi S 904 93).toNat = Xi U21 952 (Xi S 904 93).toNat from (w246.cx 952 rfl _).1).trans ((show Xi U21 952 (Xi S 904 93).toNat = Xi U20 952 (Xi S 904 93).toNat from by rw [eU21]; exact Xi_ne (by omega)))))
        have w267 : Xi T24 957 (Xi S 904 93).toNat = Xi U23 957 (Xi S 904 93).toNat := (show Xi T24 957 (Xi S 904 93).toNat = Xi U23 957 (Xi S 904 93).toNat from (w265.cx 957 rfl _).1)
        have w268 : Xi T24 960 (Xi S 904 93).toNat = Xi S 960 (Xi S 904 93).toNat := (show Xi T24 960 (Xi S 904 93).toNat = Xi U23 960 (Xi S 904 93).toNat from (w265.cx 960 rfl _).1).trans ( (show Xi U23 960 (Xi S 904 93).toNat = Xi T22 960 (Xi S 904 93).toNat from by rw [eU23]; exact Xi_ne (by omega)).trans ( (show Xi T22 960 (Xi S 904 93).toNat = Xi U21 960 (Xi S 904 93).toNat from (w246.cx 960 rfl _).1).trans ( (show Xi U21 960 (Xi S 904 93).toNat = Xi U20 960 (Xi S 904 93).toNat from by rw [eU21]; exact Xi_ne (by omega)).trans ((show Xi U20 960 (Xi S 904 93).toNat = Xi S 960 (Xi S 904 93).toNat from by rw [eU20]; exact Xi_ne (by omega))))))
        have w269 : 0 ≤ Xi T24 904 65 ∧ Xi T24 904 65 ≤ 1 := hHT24.c _ _
        have w270 : Xi T24 904 69 = Xi S 904 69 := (show Xi T24 904 69 = Xi U23 904 69 from w265.x _ _ rfl).trans ( (show Xi U23 904 69 = Xi T22 904 69 from by rw [eU23]; exact Xi_ne (by omega)).trans ( (show Xi T22 904 69 = Xi U21 904 69 from w246.x _ _ rfl).trans ( (show Xi U21 904 69 = Xi U20 904 69 from by rw [eU21]; exact Xi_ne (by omega)).trans ((show Xi U20 904 69 = Xi S 904 69 from by rw [eU20]; exact Xi_ne (by omega))))))
        have w271 : 0 ≤ Xi S 904 69 ∧ Xi S 904 69 ≤ 2600 := hH.c _ _
        have w272 : Xi T24 904 78 = Xi S 904 78 := (show Xi T24 904 78 = Xi U23 904 78 from w265.x _ _ rfl).trans ( (show Xi U23 904 78 = Xi T22 904 78 from by rw [eU23]; exact Xi_ne (by omega)).trans ( (show Xi T22 904 78 = Xi U21 904 78 from w246.x _ _ rfl).trans ( (show Xi U21 904 78 = Xi U20 904 78 from by rw [eU21]; exact Xi_ne (by omega)).trans ((show Xi U20 904 78 = Xi S 904 78 from by rw [eU20]; exact Xi_ne (by omega))))))
        have w273 : -2 ≤ Xi S 904 78 ∧ Xi S 904 78 ≤ 5010 := hH.c _ _
        have w274 : 0 ≤ Xi T24 904 8 ∧ Xi T24 904 8 ≤ 5010 := hHT24.c _ _
        have w275 : Xi T24 904 93 = Xi S 904 93 := (show Xi T24 904 93 = Xi U23 904 93 from w265.x _ _ rfl).trans ( (show Xi U23 904 93 = Xi T22 904 93 from by rw [eU23]; exact Xi_ne (by omega)).trans ( (show Xi T22 904 93 = Xi U21 904 93 from w246.x _ _ rfl).trans ( (show Xi U21 904 93 = Xi U20 904 93 from by rw [eU21]; exact Xi_ne (by omega)).trans ((show Xi U20 904 93 = Xi S 904 93 from by rw [eU20]; exact Xi_ne (by omega))))))
        have w276 : 0 ≤ Xi S 904 93 ∧ Xi S 904 93 ≤ 1700 := hH.c _ _
        exact ⟨hHT24, hFT24, rfl, (by first | assumption | exact (by assumption : AT T24 _ _)), (by omega), (by first | assumption | exact (RNV_FR w265 rfl (RNV_FR (FR_e eU23) rfl (RNV_FR w246 rfl (RNV_FR (FR_e eU21) rfl (RNV_FR (FR_e eU20) rfl (by assumption : RNV S _))))))), (by omega), (by omega), ((KT_FR w265 rfl (KT.w (KT_FR w246 rfl (KT_FR (FR_e eU21) rfl (KT.w KT.rf eU20 (by omega)))) eU23 (by omega)))), (by intro q; refine ⟨by omega, by omega, fun q0 => ?_⟩; first | (exfalso; omega) | (intro a b; have t := W148 (by omega) (Xi T24 957 (Xi S 904 93).toNat) (by omega) a b; omega)), (by omega)⟩
    · refine l_aload_n rfl rfl ?_
      refine l_sipush rfl rfl ?_
      have w277 : 0 ≤ Xi S 904 65 ∧ Xi S 904 65 ≤ 1 := hH.c _ _
      have w278 : 0 ≤ Xi S 904 69 ∧ Xi S 904 69 ≤ 2600 := hH.c _ _
      have w279 : -2 ≤ Xi S 904 78 ∧ Xi S 904 78 ≤ 5010 := hH.c _ _
      have w280 : 0 ≤ Xi S 904 8 ∧ Xi S 904 8 ≤ 5010 := hH.c _ _
      have w281 : 0 ≤ Xi S 904 93 ∧ Xi S 904 93 ≤ 1700 := hH.c _ _
      refine l_callV rfl rfl rfl (t_mo_isNext hH n c 152 ⟨by omega, by omega⟩ (by first | assumption | exact (TK_FR hF rfl (by assumption : TK S _))) (by first | assumption | exact (by assumption : AT S _ _)) _) ?_
      rintro _ _ ⟨rfl, z284, rfl, w284, w282, w283⟩
      show Rl _ _ _ _ _ [iv z284] _ _
      have i18 : z284 = 1 → Xi S 904 65 = 0 ∧ Xi S 907 (Xi S 904 8).toNat = 152 := fun q => by have t := (by assumption : z284 = 1 → Xi S 904 65 = 0 ∧ Xi S 907 (Xi S 904 8).toNat = 152) q; rw [show Xi S 904 8 = Xi S 904 8 by omega, (hF.cx 907 rfl _).1] at t; exact ⟨by omega, t.2⟩
      refine l_if_eq rfl rfl (by unfold rg; omega) (fun w285 => ?_) (fun w286 => ?_)
      · refine l_aload_n rfl rfl ?_
        refine l_gfr rfl rfl rfl rfl rfl (hH.r 904 82 952 rfl) ?_
        refine l_aload_n rfl rfl ?_
        refine l_gfi rfl rfl rfl rfl rfl ?_
        refine l_iconst rfl ?_
        refine l_iastore (n := 1700) rfl rfl (by omega) (by omega) (by unfold rg; omega) ?_
        obtain ⟨U25, eU25⟩ : ∃ T : sS, T = uI S 952 (((Xi S 904 93)).toNat) (Int32.ofInt 0) := ⟨_, rfl⟩
        rw [← eU25]
        have hHU25 : HI U25 := by rw [eU25]; exact HI_w hH (show 0 ≤ 0 by omega) (show 0 ≤ 5 by omega)
        have hFU25 : FR md_mo_testedWhat S U25 := by rw [eU25]; exact FR.wI hF (mdf_i (r := (952, 953, 0, 100000)) (List.mem_of_getElem? (i := 7) rfl) (inR_i (by omega) (by omega) (by omega) (by omega)))
        have w287 : Xi U25 952 (((Xi S 904 93)).toNat) = 0 := by rw [eU25]; exact Xi_same (by unfold rg; omega)
        have s93_8 : Xi U25 904 8 = Xi S 904 8 := by rw [eU25, Xi_ne (by omega)]
        have s93_65 : Xi U25 904 65 = Xi S 904 65 := by rw [eU25, Xi_ne (by omega)]
        have s93_69 : Xi U25 904 69 = Xi S 904 69 := by rw [eU25, Xi_ne (by omega)]
        have s93_93 : Xi U25 904 93 = Xi S 904 93 := by rw [eU25, Xi_ne (by omega)]
        refine l_aload_n rfl rfl ?_
        refine l_gfr rfl rfl rfl rfl rfl (hHU25.r 904 83 953 rfl) ?_
        refine l_aload_n rfl rfl ?_
        refine l_gfi rfl rfl rfl rfl rfl ?_
        have w288 : (Xi U25 904 93) = (Xi S 904 93) := (show Xi U25 904 93 = Xi S 904 93 from by rw [eU25]; exact Xi_ne (by omega))
        rw [w288]
        refine l_iload_n rfl rfl ?_
        refine l_if_ne rfl rfl (by unfold rg; omega) (fun w289 => ?_) (fun w290 => ?_)
        · refine l_iconst rfl ?_
          refine l_bastoreZ1 (n := 1700) rfl rfl (by omega) (by omega) (by unfold rg; omega) ⟨by omega, by omega⟩ ?_
          obtain ⟨U26, eU26⟩ : ∃ T : sS, T = uI U25 953 (((Xi S 904 93)).toNat) (Int32.ofInt 0) := ⟨_, rfl⟩
          rw [← eU26]
          have hHU26 : HI U26 := by rw [eU26]; exact HI_w hHU25 (show 0 ≤ 0 by omega) (show 0 ≤ 1 by omega)
          have hFU26 : FR md_mo_testedWhat S U26 := by rw [eU26]; exact FR.wI hFU25 (mdf_i (r := (953, 954, 0, 100000)) (List.mem_of_getElem? (i := 8) rfl) (inR_i (by omega) (by omega) (by omega) (by omega)))
          have w291 : Xi U26 953 (((Xi S 904 93)).toNat) = 0 := by rw [eU26]; exact Xi_same (by unfold rg; omega)
          have s120_8 : Xi U26 904 8 = Xi U25 904 8 := by rw [eU26, Xi_ne (by omega)]
          have s120_65 : Xi U26 904 65 = Xi U25 904 65 := by rw [eU26, Xi_ne (by omega)]
          have s120_69 : Xi U26 904 69 = Xi U25 904 69 := by rw [eU26, Xi_ne (by omega)]
          have s120_93 : Xi U26 904 93 = Xi U25 904 93 := by rw [eU26, Xi_ne (by omega)]
          have i120 : Xi U26 953 (Xi S 904 93).toNat ≠ 0 → Xi U26 904 65 = 0 ∧ Xi U26 907 (Xi U26 904 8).toNat ≠ 1 := fun q => by rw [(hFU26.cx 907 rfl _).1, show Xi U26 904 8 = Xi S 904 8 by omega]; omega
          refine l_aload_n rfl rfl ?_
          refine l_dup rfl rfl ?_
          refine l_gfi rfl rfl rfl rfl rfl ?_
          have w292 : (Xi U26 904 8) = (Xi S 904 8) := (show Xi U26 904 8 = Xi U25 904 8 from by rw [eU26]; exact Xi_ne (by omega)).trans ((show Xi U25 904 8 = Xi S 904 8 from by rw [eU25]; exact Xi_ne (by omega)))
          rw [w292]
          refine l_aload_n rfl rfl ?_
          refine l_gfr rfl rfl rfl rfl rfl (hHU26.r 904 83 953 rfl) ?_
          refine l_aload_n rfl rfl ?_
          refine l_gfi rfl rfl rfl rfl rfl ?_
          have w293 : (Xi U26 904 93) = (Xi S 904 93) := (show Xi U26 904 93 = Xi U25 904 93 from by rw [eU26]; exact Xi_ne (by omega)).trans ((show Xi U25 904 93 = Xi S 904 93 from by rw [eU25]; exact Xi_ne (by omega)))
          rw [w293]
          refine l_baload (n := 1700) rfl rfl rfl (by decide) (by omega) (by omega) (by unfold rg; omega) ?_
          refine l_if_eq rfl rfl (by unfold rg; omega) (fun w294 => ?_) (fun w295 => ?_)
          · refine l_iconst rfl ?_
            refine l_iadd rfl ?_
            refine l_pfi rfl rfl rfl rfl ?_
            obtain ⟨U27, eU27⟩ : ∃ T : sS, T = uI U26 904 8 (Int32.ofInt ((Xi S 904 8) + 0)) := ⟨_, rfl⟩
            rw [← eU27]
            have hHU27 : HI U27 := by rw [eU27]; exact HI_w hHU26 (show 0 ≤ ((Xi S 904 8) + 0) by omega) (show ((Xi S 904 8) + 0) ≤ 5010 by omega)
            have hFU27 : FR md_mo_testedWhat S U27 := by rw [eU27]; exact FR.wI hFU26 (mdf_i (r := (904, 905, 8, 9)) (List.mem_of_getElem? (i := 0) rfl) (inR_i (by omega) (by omega) (by omega) (by omega)))
            have w296 : Xi U27 904 8 = ((Xi S 904 8) + 0) := by rw [eU27]; exact Xi_same (by unfold rg; omega)
            have t144 : AT U27 n c ∧ Xi U26 904 8 ≤ Xi U27 904 8 ∧ (Xi U27 904 8 ≤ n ∨ Xi U27 904 8 = Xi U26 904 8) := at_opt (TK_FR hFU26 rfl hT) (at_fr hA (fun j => (hFU26.cx 907 rfl j).1) (fun j => (hFU26.cx 908 rfl j).1) (by omega) (by omega) (by omega) (by omega)) eU27 (by omega) (by omega)
            have w297 : Xi U27 952 (Xi S 904 93).toNat = Xi U25 952 (Xi S 904 93).toNat := (show Xi U27 952 (Xi S 904 93).toNat = Xi U26 952 (Xi S 904 93).toNat from by rw [eU27]; exact Xi_ne (by omega)).trans ((show Xi U26 952 (Xi S 904 93).toNat = Xi U25 952 (Xi S 904 93).toNat from by rw [eU26]; exact Xi_ne (by omega)))
            have w298 : Xi U27 957 (Xi S 904 93).toNat = Xi S 957 (Xi S 904 93).toNat := (show Xi U27 957 (Xi S 904 93).toNat = Xi U26 957 (Xi S 904 93).toNat from by rw [eU27]; exact Xi_ne (by omega)).trans ( (show Xi U26 957 (Xi S 904 93).toNat = Xi U25 957 (Xi S 904 93).toNat from by rw [eU26]; exact Xi_ne (by omega)).trans ((show Xi U25 957 (Xi S 904 93).toNat = Xi S 957 (Xi S 904 93).toNat from by rw [eU25]; exact Xi_ne (by omega))))
            have w299 : Xi U27 960 (Xi S 904 93).toNat = Xi S 960 (Xi S 904 93).toNat := (show Xi U27 960 (Xi S 904 93).toNat = Xi U26 960 (Xi S 904 93).toNat from by rw [eU27]; exact Xi_ne (by omega)).trans ( (show Xi U26 960 (Xi S 904 93).toNat = Xi U25 960 (Xi S 904 93).toNat from by rw [eU26]; exact Xi_ne (by omega)).trans ((show Xi U25 960 (Xi S 904 93).toNat = Xi S 960 (Xi S 904 93).toNat from by rw [eU25]; exact Xi_ne (by omega))))
            have w300 : Xi U27 904 65 = Xi S 904 65 := (show Xi U27 904 65 = Xi U26 904 65 from by rw [eU27]; exact Xi_ne (by omega)).trans ( (show Xi U26 904 65 = Xi U25 904 65 from by rw [eU26]; exact Xi_ne (by omega)).trans ((show Xi U25 904 65 = Xi S 904 65 from by rw [eU25]; exact Xi_ne (by omega))))
            have w301 : 0 ≤ Xi S 904 65 ∧ Xi S 904 65 ≤ 1 := hH.c _ _
            have w302 : Xi U27 904 69 = Xi S 904 69 := (show Xi U27 904 69 = Xi U26 904 69 from by rw [eU27]; exact Xi_ne (by omega)).trans ( (show Xi U26 904 69 = Xi U25 904 69 from by rw [eU26]; exact Xi_ne (by omega)).trans ((show Xi U25 904 69 = Xi S 904 69 from by rw [eU25]; exact Xi_ne (by omega))))
            have w303 : 0 ≤ Xi S 904 69 ∧ Xi S 904 69 ≤ 2600 := hH.c _ _
            have w304 : Xi U27 904 78 = Xi S 904 78 := (show Xi U27 904 78 = Xi U26 904 78 from by rw [eU27]; exact Xi_ne (by omega)).trans ( (show Xi U26 904 78 = Xi U25 904 78 from by rw [eU26]; exact Xi_ne (by omega)).trans ((show Xi U25 904 78 = Xi S 904 78 from by rw [eU25]; exact Xi_ne (by omega))))
            have w305 : -2 ≤ Xi S 904 78 ∧ Xi S 904 78 ≤ 5010 := hH.c _ _
            have w306 : 0 ≤ Xi U27 904 8 ∧ Xi U27 904 8 ≤ 5010 := hHU27.c _ _
            have w307 : Xi U27 904 93 = Xi S 904 93 := (show Xi U27 904 93 = Xi U26 904 93 from by rw [eU27]; exact Xi_ne (by omega)).trans ( (show Xi U26 904 93 = Xi U25 904 93 from by rw [eU26]; exact Xi_ne (by omega)).trans ((show Xi U25 904 93 = Xi S 904 93 from by rw [eU25]; exact Xi_ne (by omega))))
            have w308 : 0 ≤ Xi S 904 93 ∧ Xi S 904 93 ≤ 1700 := hH.c _ _
            exact Rl_weak (C147 U27 hHU27 hFU27  (t144.1) (by first | assumption | exact (RNV_FR (FR_e eU27) rfl (RNV_FR (FR_e eU26) rfl (RNV_FR (FR_e eU25) rfl (by assumption : RNV S _))))) (by omega) (by omega) (by omega) (by omega) (by omega) ((KT_FR (FR_e eU27) rfl (KT.w (KT.w KT.rf eU25 (by omega)) eU26 (by omega))))) (And.intro rfl (True.intro))
          · refine l_iconst rfl ?_
            refine l_goto rfl rfl ?_
            refine l_iadd rfl ?_
            refine l_pfi rfl rfl rfl rfl ?_
            obtain ⟨U28, eU28⟩ : ∃ T : sS, T = uI U26 904 8 (Int32.ofInt ((Xi S 904 8) + 1)) := ⟨_, rfl⟩
            rw [← eU28]
            have hHU28 : HI U28 := by rw [eU28]; exact HI_w hHU26 (show 0 ≤ ((Xi S 904 8) + 1) by omega) (show ((Xi S 904 8) + 1) ≤ 5010 by omega)
            have hFU28 : FR md_mo_testedWhat S U28 := by rw [eU28]; exact FR.wI hFU26 (mdf_i (r := (904, 905, 8, 9)) (List.mem_of_getElem? (i := 0) rfl) (inR_i (by omega) (by omega) (by omega) (by omega)))
            have w309 : Xi U28 904 8 = ((Xi S 904 8) + 1) := by rw [eU28]; exact Xi_same (by unfold rg; omega)
            have t144 : AT U28 n c ∧ Xi U26 904 8 ≤ Xi U28 904 8 ∧ (Xi U28 904 8 ≤ n ∨ Xi U28 904 8 = Xi U26 904 8) := at_opt (TK_FR hFU26 rfl hT) (at_fr hA (fun j => (hFU26.cx 907 rfl j).1) (fun j => (hFU26.cx 908 rfl j).1) (by omega) (by omega) (by omega) (by omega)) eU28 (by omega) (by omega)
            have w310 : Xi U28 952 (Xi S 904 93).toNat = Xi U25 952 (Xi S 904 93).toNat := (show Xi U28 952 (Xi S 904 93).toNat = Xi U26 952 (Xi S 904 93).toNat from by rw [eU28]; exact Xi_ne (by omega)).trans ((show Xi U26 952 (Xi S 904 93).toNat = Xi U25 952 (Xi S 904 93).toNat from by rw [eU26]; exact Xi_ne (by omega)))
            have w311 : Xi U28 957 (Xi S 904 93).toNat = Xi S 957 (Xi S 904 93).toNat := (show Xi U28 957 (Xi S 904 93).toNat = Xi U26 957 (Xi S 904 93).toNat from by rw [eU28]; exact Xi_ne (by omega)).trans ( (show Xi U26 957 (Xi S 904 93).toNat = Xi U25 957 (Xi S 904 93).toNat from by rw [eU26]; exact Xi_ne (by omega)).trans ((show Xi U25 957 (Xi S 904 93).toNat = Xi S 957 (Xi S 904 93).toNat from by rw [eU25]; exact Xi_ne (by omega))))
            have w312 : Xi U28 960 (Xi S 904 93).toNat = Xi S 960 (Xi S 904 93).toNat := (show Xi U28 960 (Xi S 904 93).toNat = Xi U26 960 (Xi S 904 93).toNat from by rw [eU28]; exact Xi_ne (by omega)).trans ( (show Xi U26 960 (Xi S 904 93).toNat = Xi U25 960 (Xi S 904 93).toNat from by rw [eU26]; exact Xi_ne (by omega)).trans ((show Xi U25 960 (Xi S 904 93).toNat = Xi S 960 (Xi S 904 93).toNat from by rw [eU25]; exact Xi_ne (by omega))))
            have w313 : Xi U28 904 65 = Xi S 904 65 := (show Xi U28 904 65 = Xi U26 904 65 from by rw [eU28]; exact Xi_ne (by omega)).trans ( (show Xi U26 904 65 = Xi U25 904 65 from by rw [eU26]; exact Xi_ne (by omega)).trans ((show Xi U25 904 65 = Xi S 904 65 from by rw [eU25]; exact Xi_ne (by omega))))
            have w314 : 0 ≤ Xi S 904 65 ∧ Xi S 904 65 ≤ 1 := hH.c _ _
            have w315 : Xi U28 904 69 = Xi S 904 69 := (show Xi U28 904 69 = Xi U26 904 69 from by rw [eU28]; exact Xi_ne (by omega)).trans ( (show Xi U26 904 69 = Xi U25 904 69 from by rw [eU26]; exact Xi_ne (by omega)).trans ((show Xi U25 904 69 = Xi S 904 69 from by rw [eU25]; exact Xi_ne (by omega))))
            have w316 : 0 ≤ Xi S 904 69 ∧ Xi S 904 69 ≤ 2600 := hH.c _ _
            have w317 : Xi U28 904 78 = Xi S 904 78 := (show Xi U28 904 78 = Xi U26 904 78 from by rw [eU28]; exact Xi_ne (by omega)).trans ( (show Xi U26 904 78 = Xi U25 904 78 from by rw [eU26]; exact Xi_ne (by omega)).trans ((show Xi U25 904 78 = Xi S 904 78 from by rw [eU25]; exact Xi_ne (by omega))))
            have w318 : -2 ≤ Xi S 904 78 ∧ Xi S 904 78 ≤ 5010 := hH.c _ _
            have w319 : 0 ≤ Xi U28 904 8 ∧ Xi U28 904 8 ≤ 5010 := hHU28.c _ _
            have w320 : Xi U28 904 93 = Xi S 904 93 := (show Xi U28 904 93 = Xi U26 904 93 from by rw [eU28]; exact Xi_ne (by omega)).trans ( (show Xi U26 904 93 = Xi U25 904 93 from by rw [eU26]; exact Xi_ne (by omega)).trans ((show Xi U25 904 93 = Xi S 904 93 from by rw [eU25]; exact Xi_ne (by omega))))
            have w321 : 0 ≤ Xi S 904 93 ∧ Xi S 904 93 ≤ 1700 := hH.c _ _
            exact Rl_weak (C147 U28 hHU28 hFU28  (t144.1) (by first | assumption | exact (RNV_FR (FR_e eU28) rfl (RNV_FR (FR_e eU26) rfl (RNV_FR (FR_e eU25) rfl (by assumption : RNV S _))))) (by omega) (by omega) (by omega) (by omega) (by omega) ((KT_FR (FR_e eU28) rfl (KT.w (KT.w KT.rf eU25 (by omega)) eU26 (by omega))))) (And.intro rfl (True.intro))
        · refine l_aload_n rfl rfl ?_
          refine l_bipush rfl rfl ?_
          have w322 : Xi U25 904 65 = Xi S 904 65 := (show Xi U25 904 65 = Xi S 904 65 from by rw [eU25]; exact Xi_ne (by omega))
          have w323 : 0 ≤ Xi S 904 65 ∧ Xi S 904 65 ≤ 1 := hH.c _ _
          have w324 : Xi U25 904 69 = Xi S 904 69 := (show Xi U25 904 69 = Xi S 904 69 from by rw [eU25]; exact Xi_ne (by omega))
          have w325 : 0 ≤ Xi S 904 69 ∧ Xi S 904 69 ≤ 2600 := hH.c _ _
          have w326 : Xi U25 904 78 = Xi S 904 78 := (show Xi U25 904 78 = Xi S 904 78 from by rw [eU25]; exact Xi_ne (by omega))
          have w327 : -2 ≤ Xi S 904 78 ∧ Xi S 904 78 ≤ 5010 := hH.c _ _
          have w328 : Xi U25 904 8 = Xi S 904 8 := (show Xi U25 904 8 = Xi S 904 8 from by rw [eU25]; exact Xi_ne (by omega))
          have w329 : 0 ≤ Xi S 904 8 ∧ Xi S 904 8 ≤ 5010 := hH.c _ _
          have w330 : Xi U25 904 93 = Xi S 904 93 := (show Xi U25 904 93 = Xi S 904 93 from by rw [eU25]; exact Xi_ne (by omega))
          have w331 : 0 ≤ Xi S 904 93 ∧ Xi S 904 93 ≤ 1700 := hH.c _ _
          refine l_callV rfl rfl rfl (t_mo_isNext hHU25 n c 106 ⟨by omega, by omega⟩ (by first | assumption | exact (TK_FR hFU25 rfl (by assumption : TK S _))) (by first | assumption | exact (AT_FR (FR_e eU25) rfl (by assumption : AT S _ _))) _) ?_
          rintro _ _ ⟨rfl, z334, rfl, w334, w332, w333⟩
          show Rl _ _ _ _ _ [iv z334, iv (Xi S 904 93), .ref 953] _ _
          have i109 : z334 = 1 → Xi S 904 65 = 0 ∧ Xi S 907 (Xi S 904 8).toNat = 106 := fun q => by have t := (by assumption : z334 = 1 → Xi U25 904 65 = 0 ∧ Xi U25 907 (Xi U25 904 8).toNat = 106) q; rw [show Xi U25 904 8 = Xi S 904 8 by omega, (hFU25.cx 907 rfl _).1] at t; exact ⟨by omega, t.2⟩
          refine l_if_eq rfl rfl (by unfold rg; omega) (fun w335 => ?_) (fun w336 => ?_)
          · refine l_iconst rfl ?_
            refine l_bastoreZ1 (n := 1700) rfl rfl (by omega) (by omega) (by unfold rg; omega) ⟨by omega, by omega⟩ ?_
            obtain ⟨U29, eU29⟩ : ∃ T : sS, T = uI U25 953 (((Xi S 904 93)).toNat) (Int32.ofInt 0) := ⟨_, rfl⟩
            rw [← eU29]
            have hHU29 : HI U29 := by rw [eU29]; exact HI_w hHU25 (show 0 ≤ 0 by omega) (show 0 ≤ 1 by omega)
            have hFU29 : FR md_mo_testedWhat S U29 := by rw [eU29]; exact FR.wI hFU25 (mdf_i (r := (953, 954, 0, 100000)) (List.mem_of_getElem? (i := 8) rfl) (inR_i (by omega) (by omega) (by omega) (by omega)))
            have w337 : Xi U29 953 (((Xi S 904 93)).toNat) = 0 := by rw [eU29]; exact Xi_same (by unfold rg; omega)
            have s120_8 : Xi U29 904 8 = Xi U25 904 8 := by rw [eU29, Xi_ne (by omega)]
            have s120_65 : Xi U29 904 65 = Xi U25 904 65 := by rw [eU29, Xi_ne (by omega)]
            have s120_69 : Xi U29 904 69 = Xi U25 904 69 := by rw [eU29, Xi_ne (by omega)]
            have s120_93 : Xi U29 904 93 = Xi U25 904 93 := by rw [eU29, Xi_ne (by omega)]
            have i120 : Xi U29 953 (Xi S 904 93).toNat ≠ 0 → Xi U29 904 65 = 0 ∧ Xi U29 907 (Xi U29 904 8).toNat ≠ 1 := fun q => by rw [(hFU29.cx 907 rfl _).1, show Xi U29 904 8 = Xi S 904 8 by omega]; omega
            refine l_aload_n rfl rfl ?_
            refine l_dup rfl rfl ?_
            refine l_gfi rfl rfl rfl rfl rfl ?_
            have w338 : (Xi U29 904 8) = (Xi S 904 8) := (show Xi U29 904 8 = Xi U25 904 8 from by rw [eU29]; exact Xi_ne (by omega)).trans ((show Xi U25 904 8 = Xi S 904 8 from by rw [eU25]; exact Xi_ne (by omega)))
            rw [w338]
            refine l_aload_n rfl rfl ?_
            refine l_gfr rfl rfl rfl rfl rfl (hHU29.r 904 83 953 rfl) ?_
            refine l_aload_n rfl rfl ?_
            refine l_gfi rfl rfl rfl rfl rfl ?_
            have w339 : (Xi U29 904 93) = (Xi S 904 93) := (show Xi U29 904 93 = Xi U25 904 93 from by rw [eU29]; exact Xi_ne (by omega)).trans ((show Xi U25 904 93 = Xi S 904 93 from by rw [eU25]; exact Xi_ne (by omega)))
            rw [w339]
            refine l_baload (n := 1700) rfl rfl rfl (by decide) (by omega) (by omega) (by unfold rg; omega) ?_
            refine l_if_eq rfl rfl (by unfold rg; omega) (fun w340 => ?_) (fun w341 => ?_)
            · refine l_iconst rfl ?_
              refine l_iadd rfl ?_
              refine l_pfi rfl rfl rfl rfl ?_
              obtain ⟨U30, eU30⟩ : ∃ T : sS, T = uI U29 904 8 (Int32.ofInt ((Xi S 904 8) + 0)) := ⟨_, rfl⟩
              rw [← eU30]
              have hHU30 : HI U30 := by rw [eU30]; exact HI_w hHU29 (show 0 ≤ ((Xi S 904 8) + 0) by omega) (show ((Xi S 904 8) + 0) ≤ 5010 by omega)
              have hFU30 : FR md_mo_testedWhat S U30 := by rw [eU30]; exact FR.wI hFU29 (mdf_i (r := (904, 905, 8, 9)) (List.mem_of_getElem? (i := 0) rfl) (inR_i (by omega) (by omega) (by omega) (by omega)))
              have w342 : Xi U30 904 8 = ((Xi S 904 8) + 0) := by rw [eU30]; exact Xi_same (by unfold rg; omega)
              have t144 : AT U30 n c ∧ Xi U29 904 8 ≤ Xi U30 904 8 ∧ (Xi U30 904 8 ≤ n ∨ Xi U30 904 8 = Xi U29 904 8) := at_opt (TK_FR hFU29 rfl hT) (at_fr hA (fun j => (hFU29.cx 907 rfl j).1) (fun j => (hFU29.cx 908 rfl j).1) (by omega) (by omega) (by omega) (by omega)) eU30 (by omega) (by omega)
              have w343 : Xi U30 952 (Xi S 904 93).toNat = Xi U25 952 (Xi S 904 93).toNat := (show Xi U30 952 (Xi S 904 93).toNat = Xi U29 952 (Xi S 904 93).toNat from by rw [eU30]; exact Xi_ne (by omega)).trans ((show Xi U29 952 (Xi S 904 93).toNat = Xi U25 952 (Xi S 904 93).toNat from by rw [eU29]; exact Xi_ne (by omega)))
              have w344 : Xi U30 957 (Xi S 904 93).toNat = Xi S 957 (Xi S 904 93).toNat := (show Xi U30 957 (Xi S 904 93).toNat = Xi U29 957 (Xi S 904 93).toNat from by rw [eU30]; exact Xi_ne (by omega)).trans ( (show Xi U29 957 (Xi S 904 93).toNat = Xi U25 957 (Xi S 904 93).toNat from by rw [eU29]; exact Xi_ne (by omega)).trans ((show Xi U25 957 (Xi S 904 93).toNat = Xi S 957 (Xi S 904 93).toNat from by rw [eU25]; exact Xi_ne (by omega))))
              have w345 : Xi U30 960 (Xi S 904 93).toNat = Xi S 960 (Xi S 904 93).toNat := (show Xi U30 960 (Xi S 904 93).toNat = Xi U29 960 (Xi S 904 93).toNat from by rw [eU30]; exact Xi_ne (by omega)).trans ( (show Xi U29 960 (Xi S 904 93).toNat = Xi U25 960 (Xi S 904 93).toNat from by rw [eU29]; exact Xi_ne (by omega)).trans ((show Xi U25 960 (Xi S 904 93).toNat = Xi S 960 (Xi S 904 93).toNat from by rw [eU25]; exact Xi_ne (by omega))))
              have w346 : Xi U30 904 65 = Xi S 904 65 := (show Xi U30 904 65 = Xi U29 904 65 from by rw [eU30]; exact Xi_ne (by omega)).trans ( (show Xi U29 904 65 = Xi U25 904 65 from by rw [eU29]; exact Xi_ne (by omega)).trans ((show Xi U25 904 65 = Xi S 904 65 from by rw [eU25]; exact Xi_ne (by omega))))
              have w347 : 0 ≤ Xi S 904 65 ∧ Xi S 904 65 ≤ 1 := hH.c _ _
              have w348 : Xi U30 904 69 = Xi S 904 69 := (show Xi U30 904 69 = Xi U29 904 69 from by rw [eU30]; exact Xi_ne (by omega)).trans ( (show Xi U29 904 69 = Xi U25 904 69 from by rw [eU29]; exact Xi_ne (by omega)).trans ((show Xi U25 904 69 = Xi S 904 69 from by rw [eU25]; exact Xi_ne (by omega))))
              have w349 : 0 ≤ Xi S 904 69 ∧ Xi S 904 69 ≤ 2600 := hH.c _ _
              have w350 : Xi U30 904 78 = Xi S 904 78 := (show Xi U30 904 78 = Xi U29 904 78 from by rw [eU30]; exact Xi_ne (by omega)).trans ( (show Xi U29 904 78 = Xi U25 904 78 from by rw [eU29]; exact Xi_ne (by omega)).trans ((show Xi U25 904 78 = Xi S 904 78 from by rw [eU25]; exact Xi_ne (by omega))))
              have w351 : -2 ≤ Xi S 904 78 ∧ Xi S 904 78 ≤ 5010 := hH.c _ _
              have w352 : 0 ≤ Xi U30 904 8 ∧ Xi U30 904 8 ≤ 5010 := hHU30.c _ _
              have w353 : Xi U30 904 93 = Xi S 904 93 := (show Xi U30 904 93 = Xi U29 904 93 from by rw [eU30]; exact Xi_ne (by omega)).trans ( (show Xi U29 904 93 = Xi U25 904 93 from by rw [eU29]; exact Xi_ne (by omega)).trans ((show Xi U25 904 93 = Xi S 904 93 from by rw [eU25]; exact Xi_ne (by omega))))
              have w354 : 0 ≤ Xi S 904 93 ∧ Xi S 904 93 ≤ 1700 := hH.c _ _
              exact Rl_weak (C147 U30 hHU30 hFU30  (t144.1) (by first | assumption | exact (RNV_FR (FR_e eU30) rfl (RNV_FR (FR_e eU29) rfl (RNV_FR (FR_e eU25) rfl (by assumption : RNV S _))))) (by omega) (by omega) (by omega) (by omega) (by omega) ((KT_FR (FR_e eU30) rfl (KT.w (KT.w KT.rf eU25 (by omega)) eU29 (by omega))))) (And.intro rfl (True.intro))
            · refine l_iconst rfl ?_
              refine l_goto rfl rfl ?_
              refine l_iadd rfl ?_
              refine l_pfi rfl rfl rfl rfl ?_
              obtain ⟨U31, eU31⟩ : ∃ T : sS, T = uI U29 904 8 (Int32.ofInt ((Xi S 904 8) + 1)) := ⟨_, rfl⟩
              rw [← eU31]
              have hHU31 : HI U31 := by rw [eU31]; exact HI_w hHU29 (show 0 ≤ ((Xi S 904 8) + 1) by omega) (show ((Xi S 904 8) + 1) ≤ 5010 by omega)
              have hFU31 : FR md_mo_testedWhat S U31 := by rw [eU31]; exact FR.wI hFU29 (mdf_i (r := (904, 905, 8, 9)) (List.mem_of_getElem? (i := 0) rfl) (inR_i (by omega) (by omega) (by omega) (by omega)))
              have w355 : Xi U31 904 8 = ((Xi S 904 8) + 1) := by rw [eU31]; exact Xi_same (by unfold rg; omega)
              have t144 : AT U31 n c ∧ Xi U29 904 8 ≤ Xi U31 904 8 ∧ (Xi U31 904 8 ≤ n ∨ Xi U31 904 8 = Xi U29 904 8) := at_opt (TK_FR hFU29 rfl hT) (at_fr hA (fun j => (hFU29.cx 907 rfl j).1) (fun j => (hFU29.cx 908 rfl j).1) (by omega) (by omega) (by omega) (by omega)) eU31 (by omega) (by omega)
              have w356 : Xi U31 952 (Xi S 904 93).toNat = Xi U25 952 (Xi S 904 93).toNat := (show Xi U31 952 (Xi S 904 93).toNat = Xi U29 952 (Xi S 904 93).toNat from by rw [eU31]; exact Xi_ne (by omega)).trans ((show Xi U29 952 (Xi S 904 93).toNat = Xi U25 952 (Xi S 904 93).toNat from by rw [eU29]; exact Xi_ne (by omega)))
              have w357 : Xi U31 957 (Xi S 904 93).toNat = Xi S 957 (Xi S 904 93).toNat := (show Xi U31 957 (Xi S 904 93).toNat = Xi U29 957 (Xi S 904 93).toNat from by rw [eU31]; exact Xi_ne (by omega)).trans ( (show Xi U29 957 (Xi S 904 93).toNat = Xi U25 957 (Xi S 904 93).toNat from by rw [eU29]; exact Xi_ne (by omega)).trans ((show Xi U25 957 (Xi S 904 93).toNat = Xi S 957 (Xi S 904 93).toNat from by rw [eU25]; exact Xi_ne (by omega))))
              have w358 : Xi U31 960 (Xi S 904 93).toNat = Xi S 960 (Xi S 904 93).toNat := (show Xi U31 960 (Xi S 904 93).toNat = Xi U29 960 (Xi S 904 93).toNat from by rw [eU31]; exact Xi_ne (by omega)).trans ( (show Xi U29 960 (Xi S 904 93).toNat = Xi U25 960 (Xi S 904 93).toNat from by rw [eU29]; exact Xi_ne (by omega)).trans ((show Xi U25 960 (Xi S 904 93).toNat = Xi S 960 (Xi S 904 93).toNat from by rw [eU25]; exact Xi_ne (by omega))))
              have w359 : Xi U31 904 65 = Xi S 904 65 := (show Xi U31 904 65 = Xi U29 904 65 from by rw [eU31]; exact Xi_ne (by omega)).trans ( (show Xi U29 904 65 = Xi U25 904 65 from by rw [eU29]; exact Xi_ne (by omega)).trans ((show Xi U25 904 65 = Xi S 904 65 from by rw [eU25]; exact Xi_ne (by omega))))
              have w360 : 0 ≤ Xi S 904 65 ∧ Xi S 904 65 ≤ 1 := hH.c _ _
              have w361 : Xi U31 904 69 = Xi S 904 69 := (show Xi U31 904 69 = Xi U29 904 69 from by rw [eU31]; exact Xi_ne (by omega)).trans ( (show Xi U29 904 69 = Xi U25 904 69 from by rw [eU29]; exact Xi_ne (by omega)).trans ((show Xi U25 904 69 = Xi S 904 69 from by rw [eU25]; exact Xi_ne (by omega))))
              have w362 : 0 ≤ Xi S 904 69 ∧ Xi S 904 69 ≤ 2600 := hH.c _ _
              have w363 : Xi U31 904 78 = Xi S 904 78 := (show Xi U31 904 78 = Xi U29 904 78 from by rw [eU31]; exact Xi_ne (by omega)).trans ( (show Xi U29 904 78 = Xi U25 904 78 from by rw [eU29]; exact Xi_ne (by omega)).trans ((show Xi U25 904 78 = Xi S 904 78 from by rw [eU25]; exact Xi_ne (by omega))))
              have w364 : -2 ≤ Xi S 904 78 ∧ Xi S 904 78 ≤ 5010 := hH.c _ _
              have w365 : 0 ≤ Xi U31 904 8 ∧ Xi U31 904 8 ≤ 5010 := hHU31.c _ _
              have w366 : Xi U31 904 93 = Xi S 904 93 := (show Xi U31 904 93 = Xi U29 904 93 from by rw [eU31]; exact Xi_ne (by omega)).trans ( (show Xi U29 904 93 = Xi U25 904 93 from by rw [eU29]; exact Xi_ne (by omega)).trans ((show Xi U25 904 93 = Xi S 904 93 from by rw [eU25]; exact Xi_ne (by omega))))
              have w367 : 0 ≤ Xi S 904 93 ∧ Xi S 904 93 ≤ 1700 := hH.c _ _
              exact Rl_weak (C147 U31 hHU31 hFU31  (t144.1) (by first | assumption | exact (RNV_FR (FR_e eU31) rfl (RNV_FR (FR_e eU29) rfl (RNV_FR (FR_e eU25) rfl (by assumption : RNV S _))))) (by omega) (by omega) (by omega) (by omega) (by omega) ((KT_FR (FR_e eU31) rfl (KT.w (KT.w KT.rf eU25 (by omega)) eU29 (by omega))))) (And.intro rfl (True.intro))
          · refine l_iconst rfl ?_
            refine l_goto rfl rfl ?_
            refine l_bastoreZ1 (n := 1700) rfl rfl (by omega) (by omega) (by unfold rg; omega) ⟨by omega, by omega⟩ ?_
            obtain ⟨U32, eU32⟩ : ∃ T : sS, T = uI U25 953 (((Xi S 904 93)).toNat) (Int32.ofInt 1) := ⟨_, rfl⟩
            rw [← eU32]
            have hHU32 : HI U32 := by rw [eU32]; exact HI_w hHU25 (show 0 ≤ 1 by omega) (show 1 ≤ 1 by omega)
            have hFU32 : FR md_mo_testedWhat S U32 := by rw [eU32]; exact FR.wI hFU25 (mdf_i (r := (953, 954, 0, 100000)) (List.mem_of_getElem? (i := 8) rfl) (inR_i (by omega) (by omega) (by omega) (by omega)))
            have w368 : Xi U32 953 (((Xi S 904 93)).toNat) = 1 := by rw [eU32]; exact Xi_same (by unfold rg; omega)
            have s120_8 : Xi U32 904 8 = Xi U25 904 8 := by rw [eU32, Xi_ne (by omega)]
            have s120_65 : Xi U32 904 65 = Xi U25 904 65 := by rw [eU32, Xi_ne (by omega)]
            have s120_69 : Xi U32 904 69 = Xi U25 904 69 := by rw [eU32, Xi_ne (by omega)]
            have s120_93 : Xi U32 904 93 = Xi U25 904 93 := by rw [eU32, Xi_ne (by omega)]
            have i120 : Xi U32 953 (Xi S 904 93).toNat ≠ 0 → Xi U32 904 65 = 0 ∧ Xi U32 907 (Xi U32 904 8).toNat ≠ 1 := fun q => by rw [(hFU32.cx 907 rfl _).1, show Xi U32 904 8 = Xi S 904 8 by omega]; omega
            refine l_aload_n rfl rfl ?_
            refine l_dup rfl rfl ?_
            refine l_gfi rfl rfl rfl rfl rfl ?_
            have w369 : (Xi U32 904 8) = (Xi S 904 8) := (show Xi U32 904 8 = Xi U25 904 8 from by rw [eU32]; exact Xi_ne (by omega)).trans ((show Xi U25 904 8 = Xi S 904 8 from by rw [eU25]; exact Xi_ne (by omega)))
            rw [w369]
            refine l_aload_n rfl rfl ?_
            refine l_gfr rfl rfl rfl rfl rfl (hHU32.r 904 83 953 rfl) ?_
            refine l_aload_n rfl rfl ?_
            refine l_gfi rfl rfl rfl rfl rfl ?_
            have w370 : (Xi U32 904 93) = (Xi S 904 93) := (show Xi U32 904 93 = Xi U25 904 93 from by rw [eU32]; exact Xi_ne (by omega)).trans ((show Xi U25 904 93 = Xi S 904 93 from by rw [eU25]; exact Xi_ne (by omega)))
            rw [w370]
            refine l_baload (n := 1700) rfl rfl rfl (by decide) (by omega) (by omega) (by unfold rg; omega) ?_
            refine l_if_eq rfl rfl (by unfold rg; omega) (fun w371 => ?_) (fun w372 => ?_)
            · refine l_iconst rfl ?_
              refine l_iadd rfl ?_
              refine l_pfi rfl rfl rfl rfl ?_
              obtain ⟨U33, eU33⟩ : ∃ T : sS, T = uI U32 904 8 (Int32.ofInt ((Xi S 904 8) + 0)) := ⟨_, rfl⟩
              rw [← eU33]
              have hHU33 : HI U33 := by rw [eU33]; exact HI_w hHU32 (show 0 ≤ ((Xi S 904 8) + 0) by omega) (show ((Xi S 904 8) + 0) ≤ 5010 by omega)
              have hFU33 : FR md_mo_testedWhat S U33 := by rw [eU33]; exact FR.wI hFU32 (mdf_i (r := (904, 905, 8, 9)) (List.mem_of_getElem? (i := 0) rfl) (inR_i (by omega) (by omega) (by omega) (by omega)))
              have w373 : Xi U33 904 8 = ((Xi S 904 8) + 0) := by rw [eU33]; exact Xi_same (by unfold rg; omega)
              have t144 : AT U33 n c ∧ Xi U32 904 8 ≤ Xi U33 904 8 ∧ (Xi U33 904 8 ≤ n ∨ Xi U33 904 8 = Xi U32 904 8) := at_opt (TK_FR hFU32 rfl hT) (at_fr hA (fun j => (hFU32.cx 907 rfl j).1) (fun j => (hFU32.cx 908 rfl j).1) (by omega) (by omega) (by omega) (by omega)) eU33 (by omega) (by omega)
              have w374 : Xi U33 952 (Xi S 904 93).toNat = Xi U25 952 (Xi S 904 93).toNat := (show Xi U33 952 (Xi S 904 93).toNat = Xi U32 952 (Xi S 904 93).toNat from by rw [eU33]; exact Xi_ne (by omega)).trans ((show Xi U32 952 (Xi S 904 93).toNat = Xi U25 952 (Xi S 904 93).toNat from by rw [eU32]; exact Xi_ne (by omega)))
              have w375 : Xi U33 957 (Xi S 904 93).toNat = Xi S 957 (Xi S 904 93).toNat := (show Xi U33 957 (Xi S 904 93).toNat = Xi U32 957 (Xi S 904 93).toNat from by rw [eU33]; exact Xi_ne (by omega)).trans ( (show Xi U32 957 (Xi S 904 93).toNat = Xi U25 957 (Xi S 904 93).toNat from by rw [eU32]; exact Xi_ne (by omega)).trans ((show Xi U25 957 (Xi S 904 93).toNat = Xi S 957 (Xi S 904 93).toNat from by rw [eU25]; exact Xi_ne (by omega))))
              have w376 : Xi U33 960 (Xi S 904 93).toNat = Xi S 960 (Xi S 904 93).toNat := (show Xi U33 960 (Xi S 904 93).toNat = Xi U32 960 (Xi S 904 93).toNat from by rw [eU33]; exact Xi_ne (by omega)).trans ( (show Xi U32 960 (Xi S 904 93).toNat = Xi U25 960 (Xi S 904 93).toNat from by rw [eU32]; exact Xi_ne (by omega)).trans ((show Xi U25 960 (Xi S 904 93).toNat = Xi S 960 (Xi S 904 93).toNat from by rw [eU25]; exact Xi_ne (by omega))))
              have w377 : Xi U33 904 65 = Xi S 904 65 := (show Xi U33 904 65 = Xi U32 904 65 from by rw [eU33]; exact Xi_ne (by omega)).trans ( (show Xi U32 904 65 = Xi U25 904 65 from by rw [eU32]; exact Xi_ne (by omega)).trans ((show Xi U25 904 65 = Xi S 904 65 from by rw [eU25]; exact Xi_ne (by omega))))
              have w378 : 0 ≤ Xi S 904 65 ∧ Xi S 904 65 ≤ 1 := hH.c _ _
              have w379 : Xi U33 904 69 = Xi S 904 69 := (show Xi U33 904 69 = Xi U32 904 69 from by rw [eU33]; exact Xi_ne (by omega)).trans ( (show Xi U32 904 69 = Xi U25 904 69 from by rw [eU32]; exact Xi_ne (by omega)).trans ((show Xi U25 904 69 = Xi S 904 69 from by rw [eU25]; exact Xi_ne (by omega))))
              have w380 : 0 ≤ Xi S 904 69 ∧ Xi S 904 69 ≤ 2600 := hH.c _ _
              have w381 : Xi U33 904 78 = Xi S 904 78 := (show Xi U33 904 78 = Xi U32 904 78 from by rw [eU33]; exact Xi_ne (by omega)).trans ( (show Xi U32 904 78 = Xi U25 904 78 from by rw [eU32]; exact Xi_ne (by omega)).trans ((show Xi U25 904 78 = Xi S 904 78 from by rw [eU25]; exact Xi_ne (by omega))))
              have w382 : -2 ≤ Xi S 904 78 ∧ Xi S 904 78 ≤ 5010 := hH.c _ _
              have w383 : 0 ≤ Xi U33 904 8 ∧ Xi U33 904 8 ≤ 5010 := hHU33.c _ _
              have w384 : Xi U33 904 93 = Xi S 904 93 := (show Xi U33 904 93 = Xi U32 904 93 from by rw [eU33]; exact Xi_ne (by omega)).trans ( (show Xi U32 904 93 = Xi U25 904 93 from by rw [eU32]; exact Xi_ne (by omega)).trans ((show Xi U25 904 93 = Xi S 904 93 from by rw [eU25]; exact Xi_ne (by omega))))
              have w385 : 0 ≤ Xi S 904 93 ∧ Xi S 904 93 ≤ 1700 := hH.c _ _
              exact Rl_weak (C147 U33 hHU33 hFU33  (t144.1) (by first | assumption | exact (RNV_FR (FR_e eU33) rfl (RNV_FR (FR_e eU32) rfl (RNV_FR (FR_e eU25) rfl (by assumption : RNV S _))))) (by omega) (by omega) (by omega) (by omega) (by omega) ((KT_FR (FR_e eU33) rfl (KT.w (KT.w KT.rf eU25 (by omega)) eU32 (by omega))))) (And.intro rfl (True.intro))
            · refine l_iconst rfl ?_
              refine l_goto rfl rfl ?_
              refine l_iadd rfl ?_
              refine l_pfi rfl rfl rfl rfl ?_
              obtain ⟨U34, eU34⟩ : ∃ T : sS, T = uI U32 904 8 (Int32.ofInt ((Xi S 904 8) + 1)) := ⟨_, rfl⟩
              rw [← eU34]
              have hHU34 : HI U34 := by rw [eU34]; exact HI_w hHU32 (show 0 ≤ ((Xi S 904 8) + 1) by omega) (show ((Xi S 904 8) + 1) ≤ 5010 by omega)
              have hFU34 : FR md_mo_testedWhat S U34 := by rw [eU34]; exact FR.wI hFU32 (mdf_i (r := (904, 905, 8, 9)) (List.mem_of_getElem? (i := 0) rfl) (inR_i (by omega) (by omega) (by omega) (by omega)))
              have w386 : Xi U34 904 8 = ((Xi S 904 8) + 1) := by rw [eU34]; exact Xi_same (by unfold rg; omega)
              have t144 : AT U34 n c ∧ Xi U32 904 8 ≤ Xi U34 904 8 ∧ (Xi U34 904 8 ≤ n ∨ Xi U34 904 8 = Xi U32 904 8) := at_opt (TK_FR hFU32 rfl hT) (at_fr hA (fun j => (hFU32.cx 907 rfl j).1) (fun j => (hFU32.cx 908 rfl j).1) (by omega) (by omega) (by omega) (by omega)) eU34 (by omega) (by omega)
              have w387 : Xi U34 952 (Xi S 904 93).toNat = Xi U25 952 (Xi S 904 93).toNat := (show Xi U34 952 (Xi S 904 93).toNat = Xi U32 952 (Xi S 904 93).toNat from by rw [eU34]; exact Xi_ne (by omega)).trans ((show Xi U32 952 (Xi S 904 93).toNat = Xi U25 952 (Xi S 904 93).toNat from by rw [eU32]; exact Xi_ne (by omega)))
              have w388 : Xi U34 957 (Xi S 904 93).toNat = Xi S 957 (Xi S 904 93).toNat := (show Xi U34 957 (Xi S 904 93).toNat = Xi U32 957 (Xi S 904 93).toNat from by rw [eU34]; exact Xi_ne (by omega)).trans ( (show Xi U32 957 (Xi S 904 93).toNat = Xi U25 957 (Xi S 904 93).toNat from by rw [eU32]; exact Xi_ne (by omega)).trans ((show Xi U25 957 (Xi S 904 93).toNat = Xi S 957 (Xi S 904 93).toNat from by rw [eU25]; exact Xi_ne (by omega))))
              have w389 : Xi U34 960 (Xi S 904 93).toNat = Xi S 960 (Xi S 904 93).toNat := (show Xi U34 960 (Xi S 904 93).toNat = Xi U32 960 (Xi S 904 93).toNat from by rw [eU34]; exact Xi_ne (by omega)).trans ( (show Xi U32 960 (Xi S 904 93).toNat = Xi U25 960 (Xi S 904 93).toNat from by rw [eU32]; exact Xi_ne (by omega)).trans ((show Xi U25 960 (Xi S 904 93).toNat = Xi S 960 (Xi S 904 93).toNat from by rw [eU25]; exact Xi_ne (by omega))))
              have w390 : Xi U34 904 65 = Xi S 904 65 := (show Xi U34 904 65 = Xi U32 904 65 from by rw [eU34]; exact Xi_ne (by omega)).trans ( (show Xi U32 904 65 = Xi U25 904 65 from by rw [eU32]; exact Xi_ne (by omega)).trans ((show Xi U25 904 65 = Xi S 904 65 from by rw [eU25]; exact Xi_ne (by omega))))
              have w391 : 0 ≤ Xi S 904 65 ∧ Xi S 904 65 ≤ 1 := hH.c _ _
              have w392 : Xi U34 904 69 = Xi S 904 69 := (show Xi U34 904 69 = Xi U32 904 69 from by rw [eU34]; exact Xi_ne (by omega)).trans ( (show Xi U32 904 69 = Xi U25 904 69 from by rw [eU32]; exact Xi_ne (by omega)).trans ((show Xi U25 904 69 = Xi S 904 69 from by rw [eU25]; exact Xi_ne (by omega))))
              have w393 : 0 ≤ Xi S 904 69 ∧ Xi S 904 69 ≤ 2600 := hH.c _ _
              have w394 : Xi U34 904 78 = Xi S 904 78 := (show Xi U34 904 78 = Xi U32 904 78 from by rw [eU34]; exact Xi_ne (by omega)).trans ( (show Xi U32 904 78 = Xi U25 904 78 from by rw [eU32]; exact Xi_ne (by omega)).trans ((show Xi U25 904 78 = Xi S 904 78 from by rw [eU25]; exact Xi_ne (by omega))))
              have w395 : -2 ≤ Xi S 904 78 ∧ Xi S 904 78 ≤ 5010 := hH.c _ _
              have w396 : 0 ≤ Xi U34 904 8 ∧ Xi U34 904 8 ≤ 5010 := hHU34.c _ _
              have w397 : Xi U34 904 93 = Xi S 904 93 := (show Xi U34 904 93 = Xi U32 904 93 from by rw [eU34]; exact Xi_ne (by omega)).trans ( (show Xi U32 904 93 = Xi U25 904 93 from by rw [eU32]; exact Xi_ne (by omega)).trans ((show Xi U25 904 93 = Xi S 904 93 from by rw [eU25]; exact Xi_ne (by omega))))
              have w398 : 0 ≤ Xi S 904 93 ∧ Xi S 904 93 ≤ 1700 := hH.c _ _
              exact Rl_weak (C147 U34 hHU34 hFU34  (t144.1) (by first | assumption | exact (RNV_FR (FR_e eU34) rfl (RNV_FR (FR_e eU32) rfl (RNV_FR (FR_e eU25) rfl (by assumption : RNV S _))))) (by omega) (by omega) (by omega) (by omega) (by omega) ((KT_FR (FR_e eU34) rfl (KT.w (KT.w KT.rf eU25 (by omega)) eU32 (by omega))))) (And.intro rfl (True.intro))
      · refine l_aload_n rfl rfl ?_
        refine l_gfr rfl rfl rfl rfl rfl (hH.r 904 82 952 rfl) ?_
        refine l_aload_n rfl rfl ?_
        refine l_gfi rfl rfl rfl rfl rfl ?_
        refine l_aload_n rfl rfl ?_
        refine l_sipush rfl rfl ?_
        have w399 : 0 ≤ Xi S 904 65 ∧ Xi S 904 65 ≤ 1 := hH.c _ _
        have w400 : 0 ≤ Xi S 904 69 ∧ Xi S 904 69 ≤ 2600 := hH.c _ _
        have w401 : -2 ≤ Xi S 904 78 ∧ Xi S 904 78 ≤ 5010 := hH.c _ _
        have w402 : 0 ≤ Xi S 904 8 ∧ Xi S 904 8 ≤ 5010 := hH.c _ _
        have w403 : 0 ≤ Xi S 904 93 ∧ Xi S 904 93 ≤ 1700 := hH.c _ _
        refine l_callV rfl rfl rfl (t_mo_isNext hH n c 151 ⟨by omega, by omega⟩ (by first | assumption | exact (TK_FR hF rfl (by assumption : TK S _))) (by first | assumption | exact (by assumption : AT S _ _)) _) ?_
        rintro _ _ ⟨rfl, z406, rfl, w406, w404, w405⟩
        show Rl _ _ _ _ _ [iv z406, iv (Xi S 904 93), .ref 952] _ _
        refine l_if_eq rfl rfl (by unfold rg; omega) (fun w407 => ?_) (fun w408 => ?_)
        · refine l_iconst rfl ?_
          refine l_iastore (n := 1700) rfl rfl (by omega) (by omega) (by unfold rg; omega) ?_
          obtain ⟨U35, eU35⟩ : ∃ T : sS, T = uI S 952 (((Xi S 904 93)).toNat) (Int32.ofInt 2) := ⟨_, rfl⟩
          rw [← eU35]
          have hHU35 : HI U35 := by rw [eU35]; exact HI_w hH (show 0 ≤ 2 by omega) (show 2 ≤ 5 by omega)
          have hFU35 : FR md_mo_testedWhat S U35 := by rw [eU35]; exact FR.wI hF (mdf_i (r := (952, 953, 0, 100000)) (List.mem_of_getElem? (i := 7) rfl) (inR_i (by omega) (by omega) (by omega) (by omega)))
          have w409 : Xi U35 952 (((Xi S 904 93)).toNat) = 2 := by rw [eU35]; exact Xi_same (by unfold rg; omega)
          have s47_8 : Xi U35 904 8 = Xi S 904 8 := by rw [eU35, Xi_ne (by omega)]
          have s47_65 : Xi U35 904 65 = Xi S 904 65 := by rw [eU35, Xi_ne (by omega)]
          have s47_69 : Xi U35 904 69 = Xi S 904 69 := by rw [eU35, Xi_ne (by omega)]
          have s47_93 : Xi U35 904 93 = Xi S 904 93 := by rw [eU35, Xi_ne (by omega)]
          refine l_aload_n rfl rfl ?_
          refine l_dup rfl rfl ?_
          refine l_gfi rfl rfl rfl rfl rfl ?_
          have w410 : (Xi U35 904 8) = (Xi S 904 8) := (show Xi U35 904 8 = Xi S 904 8 from by rw [eU35]; exact Xi_ne (by omega))
          rw [w410]
          refine l_iconst rfl ?_
          refine l_iadd rfl ?_
          refine l_pfi rfl rfl rfl rfl ?_
          obtain ⟨U36, eU36⟩ : ∃ T : sS, T = uI U35 904 8 (Int32.ofInt ((Xi S 904 8) + 1)) := ⟨_, rfl⟩
          rw [← eU36]
          have hHU36 : HI U36 := by rw [eU36]; exact HI_w hHU35 (show 0 ≤ ((Xi S 904 8) + 1) by omega) (show ((Xi S 904 8) + 1) ≤ 5010 by omega)
          have hFU36 : FR md_mo_testedWhat S U36 := by rw [eU36]; exact FR.wI hFU35 (mdf_i (r := (904, 905, 8, 9)) (List.mem_of_getElem? (i := 0) rfl) (inR_i (by omega) (by omega) (by omega) (by omega)))
          have w411 : Xi U36 904 8 = ((Xi S 904 8) + 1) := by rw [eU36]; exact Xi_same (by unfold rg; omega)
          have t55 : AT U36 n c ∧ _ := at_mv hT hA (fun j => (hFU35.cx 907 rfl j).1) (fun j => (hFU35.cx 908 rfl j).1) (by omega) (by omega) (by omega) (by omega) eU36 (by omega) (by omega) (by omega) (by omega) (Or.inl rfl)
          have a55 : AT U36 n c := t55.1
          refine l_aload_n rfl rfl ?_
          refine l_sipush rfl rfl ?_
          have w412 : Xi U36 904 65 = Xi S 904 65 := (show Xi U36 904 65 = Xi U35 904 65 from by rw [eU36]; exact Xi_ne (by omega)).trans ((show Xi U35 904 65 = Xi S 904 65 from by rw [eU35]; exact Xi_ne (by omega)))
          have w413 : 0 ≤ Xi S 904 65 ∧ Xi S 904 65 ≤ 1 := hH.c _ _
          have w414 : Xi U36 904 69 = Xi S 904 69 := (show Xi U36 904 69 = Xi U35 904 69 from by rw [eU36]; exact Xi_ne (by omega)).trans ((show Xi U35 904 69 = Xi S 904 69 from by rw [eU35]; exact Xi_ne (by omega)))
          have w415 : 0 ≤ Xi S 904 69 ∧ Xi S 904 69 ≤ 2600 := hH.c _ _
          have w416 : Xi U36 904 78 = Xi S 904 78 := (show Xi U36 904 78 = Xi U35 904 78 from by rw [eU36]; exact Xi_ne (by omega)).trans ((show Xi U35 904 78 = Xi S 904 78 from by rw [eU35]; exact Xi_ne (by omega)))
          have w417 : -2 ≤ Xi S 904 78 ∧ Xi S 904 78 ≤ 5010 := hH.c _ _
          have w418 : 0 ≤ Xi U36 904 8 ∧ Xi U36 904 8 ≤ 5010 := hHU36.c _ _
          have w419 : Xi U36 904 93 = Xi S 904 93 := (show Xi U36 904 93 = Xi U35 904 93 from by rw [eU36]; exact Xi_ne (by omega)).trans ((show Xi U35 904 93 = Xi S 904 93 from by rw [eU35]; exact Xi_ne (by omega)))
          have w420 : 0 ≤ Xi S 904 93 ∧ Xi S 904 93 ≤ 1700 := hH.c _ _
          refine l_callV rfl rfl rfl (t_mo_take__2 hHU36 n c 150 ⟨by omega, by omega⟩ (by first | assumption | exact (TK_FR hFU36 rfl (by assumption : TK S _))) (by first | assumption | exact (by assumption : AT U36 _ _)) (by first | assumption | omega) _) ?_
          rintro _ T37 ⟨hHT37, w426, rfl, w421, w422, w423, w424⟩
          have hFT37 : FR md_mo_testedWhat S T37 := FR.tr hFU36 w426 rfl
          show Rl _ _ _ _ _ [] _ _
          refine l_aload_n rfl rfl ?_
          refine l_gfr rfl rfl rfl rfl rfl (hHT37.r 904 87 957 rfl) ?_
          refine l_aload_n rfl rfl ?_
          refine l_gfi rfl rfl rfl rfl rfl ?_
          have w427 : (Xi T37 904 93) = (Xi S 904 93) := (show Xi T37 904 93 = Xi U36 904 93 from w426.x _ _ rfl).trans ( (show Xi U36 904 93 = Xi U35 904 93 from by rw [eU36]; exact Xi_ne (by omega)).trans ((show Xi U35 904 93 = Xi S 904 93 from by rw [eU35]; exact Xi_ne (by omega))))
          rw [w427]
          refine l_aload_n rfl rfl ?_
          refine l_gfi rfl rfl rfl rfl rfl ?_
          have w428 : 0 ≤ (Xi T37 904 8) ∧ (Xi T37 904 8) ≤ 5010 := hHT37.c _ _
          refine l_iastore (n := 1700) rfl rfl (by omega) (by omega) (by unfold rg; omega) ?_
          obtain ⟨U38, eU38⟩ : ∃ T : sS, T = uI T37 957 (((Xi S 904 93)).toNat) (Int32.ofInt (Xi T37 904 8)) := ⟨_, rfl⟩
          rw [← eU38]
          have hHU38 : HI U38 := by rw [eU38]; exact HI_w hHT37 (show 0 ≤ (Xi T37 904 8) by omega) (show (Xi T37 904 8) ≤ 5010 by omega)
          have hFU38 : FR md_mo_testedWhat S U38 := by rw [eU38]; exact FR.wI hFT37 (mdf_i (r := (957, 958, 0, 100000)) (List.mem_of_getElem? (i := 9) rfl) (inR_i (by omega) (by omega) (by omega) (by omega)))
          have w429 : Xi U38 957 (((Xi S 904 93)).toNat) = (Xi T37 904 8) := by rw [eU38]; exact Xi_same (by unfold rg; omega)
          refine l_aload_n rfl rfl ?_
          refine l_iconst rfl ?_
          have w430 : Xi U38 904 65 = Xi T37 904 65 := (show Xi U38 904 65 = Xi T37 904 65 from by rw [eU38]; exact Xi_ne (by omega))
          have w431 : 0 ≤ Xi T37 904 65 ∧ Xi T37 904 65 ≤ 1 := hHT37.c _ _
          have w432 : Xi U38 904 69 = Xi S 904 69 := (show Xi U38 904 69 = Xi T37 904 69 from by rw [eU38]; exact Xi_ne (by omega)).trans ( (show Xi T37 904 69 = Xi U36 904 69 from w426.x _ _ rfl).trans ( (show Xi U36 904 69 = Xi U35 904 69 from by rw [eU36]; exact Xi_ne (by omega)).trans ((show Xi U35 904 69 = Xi S 904 69 from by rw [eU35]; exact Xi_ne (by omega)))))
          have w433 : 0 ≤ Xi S 904 69 ∧ Xi S 904 69 ≤ 2600 := hH.c _ _
          have w434 : Xi U38 904 78 = Xi S 904 78 := (show Xi U38 904 78 = Xi T37 904 78 from by rw [eU38]; exact Xi_ne (by omega)).trans ( (show Xi T37 904 78 = Xi U36 904 78 from w426.x _ _ rfl).trans ( (show Xi U36 904 78 = Xi U35 904 78 from by rw [eU36]; exact Xi_ne (by omega)).trans ((show Xi U35 904 78 = Xi S 904 78 from by rw [eU35]; exact Xi_ne (by omega)))))
          have w435 : -2 ≤ Xi S 904 78 ∧ Xi S 904 78 ≤ 5010 := hH.c _ _
          have w436 : Xi U38 904 8 = Xi T37 904 8 := (show Xi U38 904 8 = Xi T37 904 8 from by rw [eU38]; exact Xi_ne (by omega))
          have w437 : 0 ≤ Xi T37 904 8 ∧ Xi T37 904 8 ≤ 5010 := hHT37.c _ _
          have w438 : Xi U38 904 93 = Xi S 904 93 := (show Xi U38 904 93 = Xi T37 904 93 from by rw [eU38]; exact Xi_ne (by omega)).trans ( (show Xi T37 904 93 = Xi U36 904 93 from w426.x _ _ rfl).trans ( (show Xi U36 904 93 = Xi U35 904 93 from by rw [eU36]; exact Xi_ne (by omega)).trans ((show Xi U35 904 93 = Xi S 904 93 from by rw [eU35]; exact Xi_ne (by omega)))))
          have w439 : 0 ≤ Xi S 904 93 ∧ Xi S 904 93 ≤ 1700 := hH.c _ _
          refine l_callV rfl rfl rfl (t_mo_take__2 hHU38 n c 4 ⟨by omega, by omega⟩ (by first | assumption | exact (TK_FR hFU38 rfl (by assumption : TK S _))) (by first | assumption | exact (AT_FR (FR_e eU38) rfl (by assumption : AT T37 _ _))) (by first | assumption | omega) _) ?_
          rintro _ T39 ⟨hHT39, w445, rfl, w440, w441, w442, w443⟩
          have hFT39 : FR md_mo_testedWhat S T39 := FR.tr hFU38 w445 rfl
          show Rl _ _ _ _ _ [] _ _
          refine l_return rfl rfl ?_
          have w446 : Xi T39 952 (Xi S 904 93).toNat = Xi U35 952 (Xi S 904 93).toNat := (show Xi T39 952 (Xi S 904 93).toNat = Xi U38 952 (Xi S 904 93).toNat from (w445.cx 952 rfl _).1).trans ( (show Xi U38 952 (Xi S 904 93).toNat = Xi T37 952 (Xi S 904 93).toNat from by rw [eU38]; exact Xi_ne (by omega)).trans ( (show Xi T37 952 (Xi S 904 93).toNat = Xi U36 952 (Xi S 904 93).toNat from (w426.cx 952 rfl _).1).trans ((show Xi U36 952 (Xi S 904 93).toNat = Xi U35 952 (Xi S 904 93).toNat from by rw [eU36]; exact Xi_ne (by omega)))))
          have w447 : Xi T39 957 (Xi S 904 93).toNat = Xi U38 957 (Xi S 904 93).toNat := (show Xi T39 957 (Xi S 904 93).toNat = Xi U38 957 (Xi S 904 93).toNat from (w445.cx 957 rfl _).1)
          have w448 : Xi T39 960 (Xi S 904 93).toNat = Xi S 960 (Xi S 904 93).toNat := (show Xi T39 960 (Xi S 904 93).toNat = Xi U38 960 (Xi S 904 93).toNat from (w445.cx 960 rfl _).1).trans ( (show Xi U38 960 (Xi S 904 93).toNat = Xi T37 960 (Xi S 904 93).toNat from by rw [eU38]; exact Xi_ne (by omega)).trans ( (show Xi T37 960 (Xi S 904 93).toNat = Xi U36 960 (Xi S 904 93).toNat from (w426.cx 960 rfl _).1).trans ( (show Xi U36 960 (Xi S 904 93).toNat = Xi U35 960 (Xi S 904 93).toNat from by rw [eU36]; exact Xi_ne (by omega)).trans ((show Xi U35 960 (Xi S 904 93).toNat = Xi S 960 (Xi S 904 93).toNat from by rw [eU35]; exact Xi_ne (by omega))))))
          have w449 : 0 ≤ Xi T39 904 65 ∧ Xi T39 904 65 ≤ 1 := hHT39.c _ _
          have w450 : Xi T39 904 69 = Xi S 904 69 := (show Xi T39 904 69 = Xi U38 904 69 from w445.x _ _ rfl).trans ( (show Xi U38 904 69 = Xi T37 904 69 from by rw [eU38]; exact Xi_ne (by omega)).trans ( (show Xi T37 904 69 = Xi U36 904 69 from w426.x _ _ rfl).trans ( (show Xi U36 904 69 = Xi U35 904 69 from by rw [eU36]; exact Xi_ne (by omega)).trans ((show Xi U35 904 69 = Xi S 904 69 from by rw [eU35]; exact Xi_ne (by omega))))))
          have w451 : 0 ≤ Xi S 904 69 ∧ Xi S 904 69 ≤ 2600 := hH.c _ _
          have w452 : Xi T39 904 78 = Xi S 904 78 := (show Xi T39 904 78 = Xi U38 904 78 from w445.x _ _ rfl).trans ( (show Xi U38 904 78 = Xi T37 904 78 from by rw [eU38]; exact Xi_ne (by omega)).trans ( (show Xi T37 904 78 = Xi U36 904 78 from w426.x _ _ rfl).trans ( (show Xi U36 904 78 = Xi U35 904 78 from by rw [eU36]; exact Xi_ne (by omega)).trans ((show Xi U35 904 78 = Xi S 904 78 from by rw [eU35]; exact Xi_ne (by omega))))))
          have w453 : -2 ≤ Xi S 904 78 ∧ Xi S 904 78 ≤ 5010 := hH.c _ _
          have w454 : 0 ≤ Xi T39 904 8 ∧ Xi T39 904 8 ≤ 5010 := hHT39.c _ _
          have w455 : Xi T39 904 93 = Xi S 904 93 := (show Xi T39 904 93 = Xi U38 904 93 from w445.x _ _ rfl).trans ( (show Xi U38 904 93 = Xi T37 904 93 from by rw [eU38]; exact Xi_ne (by omega)).trans ( (show Xi T37 904 93 = Xi U36 904 93 from w426.x _ _ rfl).trans ( (show Xi U36 904 93 = Xi U35 904 93 from by rw [eU36]; exact Xi_ne (by omega)).trans ((show Xi U35 904 93 = Xi S 904 93 from by rw [eU35]; exact Xi_ne (by omega))))))
          have w456 : 0 ≤ Xi S 904 93 ∧ Xi S 904 93 ≤ 1700 := hH.c _ _
          exact ⟨hHT39, hFT39, rfl, (by first | assumption | exact (by assumption : AT T39 _ _)), (by omega), (by first | assumption | exact (RNV_FR w445 rfl (RNV_FR (FR_e eU38) rfl (RNV_FR w426 rfl (RNV_FR (FR_e eU36) rfl (RNV_FR (FR_e eU35) rfl (by assumption : RNV S _))))))), (by omega), (by omega), ((KT_FR w445 rfl (KT.w (KT_FR w426 rfl (KT_FR (FR_e eU36) rfl (KT.w KT.rf eU35 (by omega)))) eU38 (by omega)))), (by intro q; refine ⟨by omega, by omega, fun q0 => ?_⟩; first | (exfalso; omega) | (intro a b; have t := W148 (by omega) (Xi T39 957 (Xi S 904 93).toNat) (by omega) a b; omega)), (by omega)⟩
        · refine l_iconst rfl ?_
          refine l_goto rfl rfl ?_
          refine l_iastore (n := 1700) rfl rfl (by omega) (by omega) (by unfold rg; omega) ?_
          obtain ⟨U40, eU40⟩ : ∃ T : sS, T = uI S 952 (((Xi S 904 93)).toNat) (Int32.ofInt 1) := ⟨_, rfl⟩
          rw [← eU40]
          have hHU40 : HI U40 := by rw [eU40]; exact HI_w hH (show 0 ≤ 1 by omega) (show 1 ≤ 5 by omega)
          have hFU40 : FR md_mo_testedWhat S U40 := by rw [eU40]; exact FR.wI hF (mdf_i (r := (952, 953, 0, 100000)) (List.mem_of_getElem? (i := 7) rfl) (inR_i (by omega) (by omega) (by omega) (by omega)))
          have w457 : Xi U40 952 (((Xi S 904 93)).toNat) = 1 := by rw [eU40]; exact Xi_same (by unfold rg; omega)
          have s47_8 : Xi U40 904 8 = Xi S 904 8 := by rw [eU40, Xi_ne (by omega)]
          have s47_65 : Xi U40 904 65 = Xi S 904 65 := by rw [eU40, Xi_ne (by omega)]
          have s47_69 : Xi U40 904 69 = Xi S 904 69 := by rw [eU40, Xi_ne (by omega)]
          have s47_93 : Xi U40 904 93 = Xi S 904 93 := by rw [eU40, Xi_ne (by omega)]
          refine l_aload_n rfl rfl ?_
          refine l_dup rfl rfl ?_
          refine l_gfi rfl rfl rfl rfl rfl ?_
          have w458 : (Xi U40 904 8) = (Xi S 904 8) := (show Xi U40 904 8 = Xi S 904 8 from by rw [eU40]; exact Xi_ne (by omega))
          rw [w458]
          refine l_iconst rfl ?_
          refine l_iadd rfl ?_
          refine l_pfi rfl rfl rfl rfl ?_
          obtain ⟨U41, eU41⟩ : ∃ T : sS, T = uI U40 904 8 (Int32.ofInt ((Xi S 904 8) + 1)) := ⟨_, rfl⟩
          rw [← eU41]
          have hHU41 : HI U41 := by rw [eU41]; exact HI_w hHU40 (show 0 ≤ ((Xi S 904 8) + 1) by omega) (show ((Xi S 904 8) + 1) ≤ 5010 by omega)
          have hFU41 : FR md_mo_testedWhat S U41 := by rw [eU41]; exact FR.wI hFU40 (mdf_i (r := (904, 905, 8, 9)) (List.mem_of_getElem? (i := 0) rfl) (inR_i (by omega) (by omega) (by omega) (by omega)))
          have w459 : Xi U41 904 8 = ((Xi S 904 8) + 1) := by rw [eU41]; exact Xi_same (by unfold rg; omega)
          have t55 : AT U41 n c ∧ _ := at_mv hT hA (fun j => (hFU40.cx 907 rfl j).1) (fun j => (hFU40.cx 908 rfl j).1) (by omega) (by omega) (by omega) (by omega) eU41 (by omega) (by omega) (by omega) (by omega) (Or.inl rfl)
          have a55 : AT U41 n c := t55.1
          refine l_aload_n rfl rfl ?_
          refine l_sipush rfl rfl ?_
          have w460 : Xi U41 904 65 = Xi S 904 65 := (show Xi U41 904 65 = Xi U40 904 65 from by rw [eU41]; exact Xi_ne (by omega)).trans ((show Xi U40 904 65 = Xi S 904 65 from by rw [eU40]; exact Xi_ne (by omega)))
          have w461 : 0 ≤ Xi S 904 65 ∧ Xi S 904 65 ≤ 1 := hH.c _ _
          have w462 : Xi U41 904 69 = Xi S 904 69 := (show Xi U41 904 69 = Xi U40 904 69 from by rw [eU41]; exact Xi_ne (by omega)).trans ((show Xi U40 904 69 = Xi S 904 69 from by rw [eU40]; exact Xi_ne (by omega)))
          have w463 : 0 ≤ Xi S 904 69 ∧ Xi S 904 69 ≤ 2600 := hH.c _ _
          have w464 : Xi U41 904 78 = Xi S 904 78 := (show Xi U41 904 78 = Xi U40 904 78 from by rw [eU41]; exact Xi_ne (by omega)).trans ((show Xi U40 904 78 = Xi S 904 78 from by rw [eU40]; exact Xi_ne (by omega)))
          have w465 : -2 ≤ Xi S 904 78 ∧ Xi S 904 78 ≤ 5010 := hH.c _ _
          have w466 : 0 ≤ Xi U41 904 8 ∧ Xi U41 904 8 ≤ 5010 := hHU41.c _ _
          have w467 : Xi U41 904 93 = Xi S 904 93 := (show Xi U41 904 93 = Xi U40 904 93 from by rw [eU41]; exact Xi_ne (by omega)).trans ((show Xi U40 904 93 = Xi S 904 93 from by rw [eU40]; exact Xi_ne (by omega)))
          have w468 : 0 ≤ Xi S 904 93 ∧ Xi S 904 93 ≤ 1700 := hH.c _ _
          refine l_callV rfl rfl rfl (t_mo_take__2 hHU41 n c 150 ⟨by omega, by omega⟩ (by first | assumption | exact (TK_FR hFU41 rfl (by assumption : TK S _))) (by first | assumption | exact (by assumption : AT U41 _ _)) (by first | assumption | omega) _) ?_
          rintro _ T42 ⟨hHT42, w474, rfl, w469, w470, w471, w472⟩
          have hFT42 : FR md_mo_testedWhat S T42 := FR.tr hFU41 w474 rfl
          show Rl _ _ _ _ _ [] _ _
          refine l_aload_n rfl rfl ?_
          refine l_gfr rfl rfl rfl rfl rfl (hHT42.r 904 87 957 rfl) ?_
          refine l_aload_n rfl rfl ?_
          refine l_gfi rfl rfl rfl rfl rfl ?_
          have w475 : (Xi T42 904 93) = (Xi S 904 93) := (show Xi T42 904 93 = Xi U41 904 93 from w474.x _ _ rfl).trans ( (show Xi U41 904 93 = Xi U40 904 93 from by rw [eU41]; exact Xi_ne (by omega)).trans ((show Xi U40 904 93 = Xi S 904 93 from by rw [eU40]; exact Xi_ne (by omega))))
          rw [w475]
          refine l_aload_n rfl rfl ?_
          refine l_gfi rfl rfl rfl rfl rfl ?_
          have w476 : 0 ≤ (Xi T42 904 8) ∧ (Xi T42 904 8) ≤ 5010 := hHT42.c _ _
          refine l_iastore (n := 1700) rfl rfl (by omega) (by omega) (by unfold rg; omega) ?_
          obtain ⟨U43, eU43⟩ : ∃ T : sS, T = uI T42 957 (((Xi S 904 93)).toNat) (Int32.ofInt (Xi T42 904 8)) := ⟨_, rfl⟩
          rw [← eU43]
          have hHU43 : HI U43 := by rw [eU43]; exact HI_w hHT42 (show 0 ≤ (Xi T42 904 8) by omega) (show (Xi T42 904 8) ≤ 5010 by omega)
          have hFU43 : FR md_mo_testedWhat S U43 := by rw [eU43]; exact FR.wI hFT42 (mdf_i (r := (957, 958, 0, 100000)) (List.mem_of_getElem? (i := 9) rfl) (inR_i (by omega) (by omega) (by omega) (by omega)))
          have w477 : Xi U43 957 (((Xi S 904 93)).toNat) = (Xi T42 904 8) := by rw [eU43]; exact Xi_same (by unfold rg; omega)
          refine l_aload_n rfl rfl ?_
          refine l_iconst rfl ?_
          have w478 : Xi U43 904 65 = Xi T42 904 65 := (show Xi U43 904 65 = Xi T42 904 65 from by rw [eU43]; exact Xi_ne (by omega))
          have w479 : 0 ≤ Xi T42 904 65 ∧ Xi T42 904 65 ≤ 1 := hHT42.c _ _
          have w480 : Xi U43 904 69 = Xi S 904 69 := (show Xi U43 904 69 = Xi T42 904 69 from by rw [eU43]; exact Xi_ne (by omega)).trans ( (show Xi T42 904 69 = Xi U41 904 69 from w474.x _ _ rfl).trans ( (show Xi U41 904 69 = Xi U40 904 69 from by rw [eU41]; exact Xi_ne (by omega)).trans ((show Xi U40 904 69 = Xi S 904 69 from by rw [eU40]; exact Xi_ne (by omega)))))
          have w481 : 0 ≤ Xi S 904 69 ∧ Xi S 904 69 ≤ 2600 := hH.c _ _
          have w482 : Xi U43 904 78 = Xi S 904 78 := (show Xi U43 904 78 = Xi T42 904 78 from by rw [eU43]; exact Xi_ne (by omega)).trans ( (show Xi T42 904 78 = Xi U41 904 78 from w474.x _ _ rfl).trans ( (show Xi U41 904 78 = Xi U40 904 78 from by rw [eU41]; exact Xi_ne (by omega)).trans ((show Xi U40 904 78 = Xi S 904 78 from by rw [eU40]; exact Xi_ne (by omega)))))
          have w483 : -2 ≤ Xi S 904 78 ∧ Xi S 904 78 ≤ 5010 := hH.c _ _
          have w484 : Xi U43 904 8 = Xi T42 904 8 := (show Xi U43 904 8 = Xi T42 904 8 from by rw [eU43]; exact Xi_ne (by omega))
          have w485 : 0 ≤ Xi T42 904 8 ∧ Xi T42 904 8 ≤ 5010 := hHT42.c _ _
          have w486 : Xi U43 904 93 = Xi S 904 93 := (show Xi U43 904 93 = Xi T42 904 93 from by rw [eU43]; exact Xi_ne (by omega)).trans ( (show Xi T42 904 93 = Xi U41 904 93 from w474.x _ _ rfl).trans ( (show Xi U41 904 93 = Xi U40 904 93 from by rw [eU41]; exact Xi_ne (by omega)).trans ((show Xi U40 904 93 = Xi S 904 93 from by rw [eU40]; exact Xi_ne (by omega)))))
          have w487 : 0 ≤ Xi S 904 93 ∧ Xi S 904 93 ≤ 1700 := hH.c _ _
          refine l_callV rfl rfl rfl (t_mo_take__2 hHU43 n c 4 ⟨by omega, by omega⟩ (by first | assumption | exact (TK_FR hFU43 rfl (by assumption : TK S _))) (by first | assumption | exact (AT_FR (FR_e eU43) rfl (by assumption : AT T42 _ _))) (by first | assumption | omega) _) ?_
          rintro _ T44 ⟨hHT44, w493, rfl, w488, w489, w490, w491⟩
          have hFT44 : FR md_mo_testedWhat S T44 := FR.tr hFU43 w493 rfl
          show Rl _ _ _ _ _ [] _ _
          refine l_return rfl rfl ?_
          have w494 : Xi T44 952 (Xi S 904 93).toNat = Xi U40 952 (Xi S 904 93).toNat := (show Xi T44 952 (Xi S 904 93).toNat = Xi U43 952 (Xi S 904 93).toNat from (w493.cx 952 rfl _).1).trans ( (show Xi U43 952 (Xi S 904 93).toNat = Xi T42 952 (Xi S 904 93).toNat from by rw [eU43]; exact Xi_ne (by omega)).trans ( (show Xi T42 952 (Xi S 904 93).toNat = Xi U41 952 (Xi S 904 93).toNat from (w474.cx 952 rfl _).1).trans ((show Xi U41 952 (Xi S 904 93).toNat = Xi U40 952 (Xi S 904 93).toNat from by rw [eU41]; exact Xi_ne (by omega)))))
          have w495 : Xi T44 957 (Xi S 904 93).toNat = Xi U43 957 (Xi S 904 93).toNat := (show Xi T44 957 (Xi S 904 93).toNat = Xi U43 957 (Xi S 904 93).toNat from (w493.cx 957 rfl _).1)
          have w496 : Xi T44 960 (Xi S 904 93).toNat = Xi S 960 (Xi S 904 93).toNat := (show Xi T44 960 (Xi S 904 93).toNat = Xi U43 960 (Xi S 904 93).toNat from (w493.cx 960 rfl _).1).trans ( (show Xi U43 960 (Xi S 904 93).toNat = Xi T42 960 (Xi S 904 93).toNat from by rw [eU43]; exact Xi_ne (by omega)).trans ( (show Xi T42 960 (Xi S 904 93).toNat = Xi U41 960 (Xi S 904 93).toNat from (w474.cx 960 rfl _).1).trans ( (show Xi U41 960 (Xi S 904 93).toNat = Xi U40 960 (Xi S 904 93).toNat from by rw [eU41]; exact Xi_ne (by omega)).trans ((show Xi U40 960 (Xi S 904 93).toNat = Xi S 960 (Xi S 904 93).toNat from by rw [eU40]; exact Xi_ne (by omega))))))
          have w497 : 0 ≤ Xi T44 904 65 ∧ Xi T44 904 65 ≤ 1 := hHT44.c _ _
          have w498 : Xi T44 904 69 = Xi S 904 69 := (show Xi T44 904 69 = Xi U43 904 69 from w493.x _ _ rfl).trans ( (show Xi U43 904 69 = Xi T42 904 69 from by rw [eU43]; exact Xi_ne (by omega)).trans ( (show Xi T42 904 69 = Xi U41 904 69 from w474.x _ _ rfl).trans ( (show Xi U41 904 69 = Xi U40 904 69 from by rw [eU41]; exact Xi_ne (by omega)).trans ((show Xi U40 904 69 = Xi S 904 69 from by rw [eU40]; exact Xi_ne (by omega))))))
          have w499 : 0 ≤ Xi S 904 69 ∧ Xi S 904 69 ≤ 2600 := hH.c _ _
          have w500 : Xi T44 904 78 = Xi S 904 78 := (show Xi T44 904 78 = Xi U43 904 78 from w493.x _ _ rfl).trans ( (show Xi U43 904 78 = Xi T42 904 78 from by rw [eU43]; exact Xi_ne (by omega)).trans ( (show Xi T42 904 78 = Xi U41 904 78 from w474.x _ _ rfl).trans ( (show Xi U41 904 78 = Xi U40 904 78 from by rw [eU41]; exact Xi_ne (by omega)).trans ((show Xi U40 904 78 = Xi S 904 78 from by rw [eU40]; exact Xi_ne (by omega))))))
          have w501 : -2 ≤ Xi S 904 78 ∧ Xi S 904 78 ≤ 5010 := hH.c _ _
          have w502 : 0 ≤ Xi T44 904 8 ∧ Xi T44 904 8 ≤ 5010 := hHT44.c _ _
          have w503 : Xi T44 904 93 = Xi S 904 93 := (show Xi T44 904 93 = Xi U43 904 93 from w493.x _ _ rfl).trans ( (show Xi U43 904 93 = Xi T42 904 93 from by rw [eU43]; exact Xi_ne (by omega)).trans ( (show Xi T42 904 93 = Xi U41 904 93 from w474.x _ _ rfl).trans ( (show Xi U41 904 93 = Xi U40 904 93 from by rw [eU41]; exact Xi_ne (by omega)).trans ((show Xi U40 904 93 = Xi S 904 93 from by rw [eU40]; exact Xi_ne (by omega))))))
          have w504 : 0 ≤ Xi S 904 93 ∧ Xi S 904 93 ≤ 1700 := hH.c _ _
          exact ⟨hHT44, hFT44, rfl, (by first | assumption | exact (by assumption : AT T44 _ _)), (by omega), (by first | assumption | exact (RNV_FR w493 rfl (RNV_FR (FR_e eU43) rfl (RNV_FR w474 rfl (RNV_FR (FR_e eU41) rfl (RNV_FR (FR_e eU40) rfl (by assumption : RNV S _))))))), (by omega), (by omega), ((KT_FR w493 rfl (KT.w (KT_FR w474 rfl (KT_FR (FR_e eU41) rfl (KT.w KT.rf eU40 (by omega)))) eU43 (by omega)))), (by intro q; refine ⟨by omega, by omega, fun q0 => ?_⟩; first | (exfalso; omega) | (intro a b; have t := W148 (by omega) (Xi T44 957 (Xi S 904 93).toNat) (by omega) a b; omega)), (by omega)⟩
/-! SAFETY of the reference: what a sentence without anything odd leaves -/
def SNQ (S : sS) (n : Nat) : Prop := (Xi S 904 70 ≤ 1 → Xi S 904 81 ≤ n ∧ Xi S 907 (Xi S 904 81).toNat = 5) ∧ (Xi S 904 70 = 1 → 1 ≤ Xi S 904 69) ∧ (Xi S 904 70 = 2 ∨ Xi S 904 70 = 7 ∨ Xi S 904 70 = 8 ∨ Xi S 904 70 = 9 → 2 ≤ Xi S 904 69) ∧ (3 ≤ Xi S 904 70 ∧ Xi S 904 70 ≤ 5 → Xi S 904 102 < Xi S 904 69 ∧ Xi S 904 103 < Xi S 904 69) ∧
  (Xi S 904 70 = 9 → 0 ≤ Xi S 904 78 ∧ Xi S 904 78 ≤ n ∧ (Xi S 907 (Xi S 904 78).toNat ≠ 4 → Xi S 907 (Xi S 904 78).toNat ≠ 5 → 3 ≤ Xi S 904 69)) ∧ (10 ≤ Xi S 904 70 ∧ Xi S 904 70 ≤ 16 → Xi S 904 71 + Xi S 904 72 ≤ Xi S 904 69 ∧ 1 ≤ Xi S 904 72) ∧
  ((10 ≤ Xi S 904 70 ∧ Xi S 904 70 ≤ 12) ∨ (14 ≤ Xi S 904 70 ∧ Xi S 904 70 ≤ 16) → Xi S 904 78 < Xi S 904 69) ∧ (Xi S 904 70 = 12 ∨ (14 ≤ Xi S 904 70 ∧ Xi S 904 70 ≤ 16) → 0 ≤ Xi S 904 78) ∧ (Xi S 904 70 = 13 ∨ Xi S 904 70 = 14 ∨ (Xi S 904 70 = 12 ∧ Xi S 904 73 ≠ 0) → Xi S 904 74 < Xi S 904 69) ∧ (17 ≤ Xi S 904 70 ∧ Xi S 904 70 ≤ 19 → 3 ≤ Xi S 904 69)
theorem SNQ_FR {l : List rec} {S T : sS} {n : Nat} (h : FR l S T) (e : (kdis l [(907, 908)] && mD l [69, 70, 71, 72, 73, 74, 78, 81, 102, 103]) = true) (hq : SNQ S n) : SNQ T n := by
  rw [Bool.and_eq_true] at e
  have k := h.smk e.1
  unfold SNQ
  rw [mD_x h e.2 69 (by decide), mD_x h e.2 70 (by decide), mD_x h e.2 71 (by decide), mD_x h e.2 72 (by decide), mD_x h e.2 73 (by decide), mD_x h e.2 74 (by decide), mD_x h e.2 78 (by decide), mD_x h e.2 81 (by decide), mD_x h e.2 102 (by decide), mD_x h e.2 103 (by decide), k.x 907 rfl, k.x 907 rfl]
  exact hq
theorem TVA_FR {l : List rec} {S T : sS} {n : Nat} {m : Int} (h : FR l S T) (e : (kdis l [(907, 908), (952, 963)] && mD l [69]) = true) (hq : TVA S n m) : TVA T n m := by
  rw [Bool.and_eq_true] at e
  have k := h.smk e.1
  refine hq.mv (fun i _ k2 a b => ?_) (by rw [mD_x h e.2 69 (by decide)]; exact Int.le_refl _) (fun j => k.x 907 rfl j)
  rcases (by omega : k2 = 952 ∨ k2 = 953 ∨ k2 = 954 ∨ k2 = 955 ∨ k2 = 956 ∨ k2 = 957 ∨ k2 = 958 ∨ k2 = 959 ∨ k2 = 960 ∨ k2 = 961 ∨ k2 = 962) with h | h | h | h | h | h | h | h | h | h | h <;> subst h <;> exact k.x _ rfl i
theorem PVA_FR {l : List rec} {S T : sS} {n : Nat} {m : Int} (hH : HI S) (h : FR l S T) (e : (kdis l [(907, 908), (952, 966)] && mD l [69, 93]) = true) (hq : PVA S n m) : PVA T n m := by
  rw [Bool.and_eq_true] at e
  have k := h.smk e.1
  refine hq.mv hH (fun i _ k2 a b => ?_) (fun i _ => ⟨k.x 963 rfl i, k.x 964 rfl i, k.x 965 rfl i⟩) (by rw [mD_x h e.2 69 (by decide)]; exact Int.le_refl _) (by rw [mD_x h e.2 93 (by decide)]; exact Int.le_refl _) (fun j => k.x 907 rfl j)
  rcases (by omega : k2 = 952 ∨ k2 = 953 ∨ k2 = 954 ∨ k2 = 955 ∨ k2 = 956 ∨ k2 = 957 ∨ k2 = 958 ∨ k2 = 959 ∨ k2 = 960 ∨ k2 = 961 ∨ k2 = 962) with h | h | h | h | h | h | h | h | h | h | h <;> subst h <;> exact k.x _ rfl i
theorem at_0 {S : sS} {n : Nat} (hH : HI S) (h8 : Xi S 904 8 ≤ n) (h69 : Xi S 904 69 = 0) (h93 : Xi S 904 93 = 0) : AT S n 0 := fun _ => by
  have a : 0 ≤ Xi S 904 8 ∧ Xi S 904 8 ≤ 5010 := hH.c _ _
  have b : 0 ≤ Xi S 908 (Xi S 904 8).toNat ∧ Xi S 908 (Xi S 904 8).toNat ≤ 5000 := hH.c 908 _
  refine ⟨h8, by omega, fun _ => by omega, by omega⟩
def md_mo_partOne : List rec := [(904, 905, 8, 9), (904, 905, 65, 66), (904, 905, 66, 67), (904, 905, 69, 70), (904, 905, 81, 82), (950, 951, 0, 100000), (951, 952, 0, 100000)]
abbrev Q_mo_partOne (S : sS) (n : Nat) (c : Nat) : pst := fun r S1 => HI S1 ∧ FR md_mo_partOne S S1 ∧ (r = none ∧ (AT S1 n c) ∧ (Xi S 904 8 ≤ Xi S1 904 8 ∧ Xi S1 904 8 ≤ n) ∧ (RNV S1 n) ∧ (Xi S 904 69 ≤ Xi S1 904 69) ∧ (Xi S1 904 65 = 0 → Xi S1 904 81 ≤ n ∧ Xi S 907 (Xi S1 904 81).toNat = 5 ∧ 1 ≤ Xi S1 904 69))
set_option maxRecDepth 100000 in
theorem t_mo_partOne {S : sS} (hH : HI S) (n : Nat) (c : Nat) (hT : TK S n) (hA : AT S n c) (hv : RNV S n) (hb : Xi S 904 65 = 0) (hk : Xi S 907 (Xi S 904 8).toNat ≠ 1) (d : Nat) : Mt lay0 (d + 3) m_mo_partOne [.ref 904] S (Q_mo_partOne S n c) := by
  refine Mt_R rfl rfl ?_
  have hF : FR md_mo_partOne S S := FR.rf
  have w1 : 0 ≤ Xi S 904 65 ∧ Xi S 904 65 ≤ 1 := hH.c _ _
  have w2 : 0 ≤ Xi S 904 69 ∧ Xi S 904 69 ≤ 2600 := hH.c _ _
  have w3 : 0 ≤ Xi S 904 8 ∧ Xi S 904 8 ≤ 5010 := hH.c _ _
  have hn5 := hT.1
  have hat := hA
  have h8 : 0 ≤ Xi S 904 8 ∧ Xi S 904 8 ≤ 5010 := hH.c _ _
  have h69 : 0 ≤ Xi S 904 69 ∧ Xi S 904 69 ≤ 2600 := hH.c _ _
  have ha0 : Xi S 904 65 = 0 → Xi S 904 8 ≤ n := fun q => (hA q).1
  have ha3 : Xi S 904 65 = 0 → 2 * Xi S 904 69 ≤ Xi S 904 8 + 1 := fun q => (hA q).2.1
  clear hat
  have hx := ha0 hb
  refine l_aload_n rfl rfl ?_
  refine l_dup rfl rfl ?_
  refine l_gfi rfl rfl rfl rfl rfl ?_
  refine l_iconst rfl ?_
  refine l_iadd rfl ?_
  refine l_pfi rfl rfl rfl rfl ?_
  obtain ⟨U1, eU1⟩ : ∃ T : sS, T = uI S 904 8 (Int32.ofInt ((Xi S 904 8) + 1)) := ⟨_, rfl⟩
  rw [← eU1]
  have hHU1 : HI U1 := by rw [eU1]; exact HI_w hH (show 0 ≤ ((Xi S 904 8) + 1) by omega) (show ((Xi S 904 8) + 1) ≤ 5010 by omega)
  have hFU1 : FR md_mo_partOne S U1 := by rw [eU1]; exact FR.wI hF (mdf_i (r := (904, 905, 8, 9)) (List.mem_of_getElem? (i := 0) rfl) (inR_i (by omega) (by omega) (by omega) (by omega)))
  have w4 : Xi U1 904 8 = ((Xi S 904 8) + 1) := by rw [eU1]; exact Xi_same (by unfold rg; omega)
  have t7 : AT U1 n c ∧ _ := (at_mv (S := S) (P := S) (TK_FR hF rfl (by assumption : TK S _)) (by first | assumption | exact (by assumption : AT S _ _)) (fun j => rfl) (fun j => rfl) (rfl) (rfl) (rfl) (rfl) eU1 (by omega) (by omega) (by omega) (by omega) (Or.inl rfl))
  have a7 : AT U1 n c := t7.1
  have l7 := t7.2
  refine l_aload_n rfl rfl ?_
  refine l_iconst rfl ?_
  have w5 : Xi U1 904 65 = Xi S 904 65 := (show Xi U1 904 65 = Xi S 904 65 from by rw [eU1]; exact Xi_ne (by omega))
  have w6 : 0 ≤ Xi S 904 65 ∧ Xi S 904 65 ≤ 1 := hH.c _ _
  have w7 : Xi U1 904 69 = Xi S 904 69 := (show Xi U1 904 69 = Xi S 904 69 from by rw [eU1]; exact Xi_ne (by omega))
  have w8 : 0 ≤ Xi S 904 69 ∧ Xi S 904 69 ≤ 2600 := hH.c _ _
  have w9 : 0 ≤ Xi U1 904 8 ∧ Xi U1 904 8 ≤ 5010 := hHU1.c _ _
  have w10 : Xi U1 904 81 = Xi S 904 81 := (show Xi U1 904 81 = Xi S 904 81 from by rw [eU1]; exact Xi_ne (by omega))
  have w11 : 0 ≤ Xi S 904 81 ∧ Xi S 904 81 ≤ 5010 := hH.c _ _
  have w12 : Xi U1 904 93 = Xi S 904 93 := (show Xi U1 904 93 = Xi S 904 93 from by rw [eU1]; exact Xi_ne (by omega))
  have w13 : 0 ≤ Xi S 904 93 ∧ Xi S 904 93 ≤ 1700 := hH.c _ _
  refine l_callV rfl rfl rfl (t_mo_take__2 hHU1 n c 5 ⟨by omega, by omega⟩ (by first | assumption | exact (TK_FR hFU1 rfl (by assumption : TK S _))) (by first | assumption | exact (by assumption : AT U1 _ _)) (by first | assumption | omega) _) ?_
  rintro _ T2 ⟨hHT2, w19, rfl, w14, w15, w16, w17⟩
  have hFT2 : FR md_mo_partOne S T2 := FR.tr hFU1 w19 rfl
  show Rl _ _ _ _ _ [] _ _
  have d12 : Xi T2 904 65 = 0 → ∀ x : Int, x = Xi T2 904 8 - 1 → Xi S 907 x.toNat = 5 := fun q x e => by have t := (by assumption : Xi T2 904 65 = 0 → Xi T2 904 8 = Xi U1 904 8 + 1 ∧ Xi U1 907 (Xi U1 904 8).toNat = 5) q; rw [(hFU1.cx 907 rfl _).1] at t; rw [show x = Xi U1 904 8 by omega]; exact t.2
  refine l_aload_n rfl rfl ?_
  refine l_aload_n rfl rfl ?_
  refine l_gfi rfl rfl rfl rfl rfl ?_
  have w20 : 0 ≤ (Xi T2 904 8) ∧ (Xi T2 904 8) ≤ 5010 := hHT2.c _ _
  refine l_iconst rfl ?_
  refine l_isub rfl ?_
  refine l_pfi rfl rfl rfl rfl ?_
  obtain ⟨U3, eU3⟩ : ∃ T : sS, T = uI T2 904 81 (Int32.ofInt ((Xi T2 904 8) - 1)) := ⟨_, rfl⟩
  rw [← eU3]
  have hHU3 : HI U3 := by rw [eU3]; exact HI_w hHT2 (show 0 ≤ ((Xi T2 904 8) - 1) by omega) (show ((Xi T2 904 8) - 1) ≤ 5010 by omega)
  have hFU3 : FR md_mo_partOne S U3 := by rw [eU3]; exact FR.wI hFT2 (mdf_i (r := (904, 905, 81, 82)) (List.mem_of_getElem? (i := 4) rfl) (inR_i (by omega) (by omega) (by omega) (by omega)))
  have w21 : Xi U3 904 81 = ((Xi T2 904 8) - 1) := by rw [eU3]; exact Xi_same (by unfold rg; omega)
  refine l_aload_n rfl rfl ?_
  refine l_sipush rfl rfl ?_
  have w22 : Xi U3 904 65 = Xi T2 904 65 := (show Xi U3 904 65 = Xi T2 904 65 from by rw [eU3]; exact Xi_ne (by omega))
  have w23 : 0 ≤ Xi T2 904 65 ∧ Xi T2 904 65 ≤ 1 := hHT2.c _ _
  have w24 : Xi U3 904 69 = Xi S 904 69 := (show Xi U3 904 69 = Xi T2 904 69 from by rw [eU3]; exact Xi_ne (by omega)).trans ( (show Xi T2 904 69 = Xi U1 904 69 from w19.x _ _ rfl).trans ((show Xi U1 904 69 = Xi S 904 69 from by rw [eU1]; exact Xi_ne (by omega))))
  have w25 : 0 ≤ Xi S 904 69 ∧ Xi S 904 69 ≤ 2600 := hH.c _ _
  have w26 : Xi U3 904 8 = Xi T2 904 8 := (show Xi U3 904 8 = Xi T2 904 8 from by rw [eU3]; exact Xi_ne (by omega))
  have w27 : 0 ≤ Xi T2 904 8 ∧ Xi T2 904 8 ≤ 5010 := hHT2.c _ _
  have w28 : 0 ≤ Xi U3 904 81 ∧ Xi U3 904 81 ≤ 5010 := hHU3.c _ _
  have w29 : Xi U3 904 93 = Xi S 904 93 := (show Xi U3 904 93 = Xi T2 904 93 from by rw [eU3]; exact Xi_ne (by omega)).trans ( (show Xi T2 904 93 = Xi U1 904 93 from w19.x _ _ rfl).trans ((show Xi U1 904 93 = Xi S 904 93 from by rw [eU1]; exact Xi_ne (by omega))))
  have w30 : 0 ≤ Xi S 904 93 ∧ Xi S 904 93 ≤ 1700 := hH.c _ _
  refine l_callV rfl rfl rfl (t_mo_take__2 hHU3 n c 134 ⟨by omega, by omega⟩ (by first | assumption | exact (TK_FR hFU3 rfl (by assumption : TK S _))) (by first | assumption | exact (AT_FR (FR_e eU3) rfl (by assumption : AT T2 _ _))) (by first | assumption | omega) _) ?_
  rintro _ T4 ⟨hHT4, w36, rfl, w31, w32, w33, w34⟩
  have hFT4 : FR md_mo_partOne S T4 := FR.tr hFU3 w36 rfl
  show Rl _ _ _ _ _ [] _ _
  refine l_aload_n rfl rfl ?_
  have w37 : 0 ≤ Xi T4 904 65 ∧ Xi T4 904 65 ≤ 1 := hHT4.c _ _
  have w38 : Xi T4 904 69 = Xi S 904 69 := (show Xi T4 904 69 = Xi U3 904 69 from w36.x _ _ rfl).trans ( (show Xi U3 904 69 = Xi T2 904 69 from by rw [eU3]; exact Xi_ne (by omega)).trans ( (show Xi T2 904 69 = Xi U1 904 69 from w19.x _ _ rfl).trans ((show Xi U1 904 69 = Xi S 904 69 from by rw [eU1]; exact Xi_ne (by omega)))))
  have w39 : 0 ≤ Xi S 904 69 ∧ Xi S 904 69 ≤ 2600 := hH.c _ _
  have w40 : 0 ≤ Xi T4 904 8 ∧ Xi T4 904 8 ≤ 5010 := hHT4.c _ _
  have w41 : Xi T4 904 81 = Xi U3 904 81 := (show Xi T4 904 81 = Xi U3 904 81 from w36.x _ _ rfl)
  have w42 : 0 ≤ Xi U3 904 81 ∧ Xi U3 904 81 ≤ 5010 := hHU3.c _ _
  have w43 : Xi T4 904 93 = Xi S 904 93 := (show Xi T4 904 93 = Xi U3 904 93 from w36.x _ _ rfl).trans ( (show Xi U3 904 93 = Xi T2 904 93 from by rw [eU3]; exact Xi_ne (by omega)).trans ( (show Xi T2 904 93 = Xi U1 904 93 from w19.x _ _ rfl).trans ((show Xi U1 904 93 = Xi S 904 93 from by rw [eU1]; exact Xi_ne (by omega)))))
  have w44 : 0 ≤ Xi S 904 93 ∧ Xi S 904 93 ≤ 1700 := hH.c _ _
  refine l_callV rfl rfl rfl (t_mo_run hHT4 n c (by first | assumption | exact (TK_FR hFT4 rfl (by assumption : TK S _))) (by first | assumption | exact (by assumption : AT T4 _ _)) (by first | assumption | exact (RNV_FR w36 rfl (RNV_FR (FR_e eU3) rfl (RNV_FR w19 rfl (RNV_FR (FR_e eU1) rfl (by assumption : RNV S _)))))) _) ?_
  rintro _ T5 ⟨hHT5, w51, z50, rfl, w50, w45, w46, w47, w48, w49⟩
  have hFT5 : FR md_mo_partOne S T5 := FR.tr hFT4 w51 rfl
  show Rl _ _ _ _ _ [iv z50] _ _
  refine l_pop rfl rfl ?_
  refine l_return rfl rfl ?_
  have w52 : 0 ≤ Xi T5 904 65 ∧ Xi T5 904 65 ≤ 1 := hHT5.c _ _
  have w53 : 0 ≤ Xi T5 904 69 ∧ Xi T5 904 69 ≤ 2600 := hHT5.c _ _
  have w54 : 0 ≤ Xi T5 904 8 ∧ Xi T5 904 8 ≤ 5010 := hHT5.c _ _
  have w55 : Xi T5 904 81 = Xi U3 904 81 := (show Xi T5 904 81 = Xi T4 904 81 from w51.x _ _ rfl).trans ((show Xi T4 904 81 = Xi U3 904 81 from w36.x _ _ rfl))
  have w56 : 0 ≤ Xi U3 904 81 ∧ Xi U3 904 81 ≤ 5010 := hHU3.c _ _
  have w57 : Xi T5 904 93 = Xi S 904 93 := (show Xi T5 904 93 = Xi T4 904 93 from w51.x _ _ rfl).trans ( (show Xi T4 904 93 = Xi U3 904 93 from w36.x _ _ rfl).trans ( (show Xi U3 904 93 = Xi T2 904 93 from by rw [eU3]; exact Xi_ne (by omega)).trans ( (show Xi T2 904 93 = Xi U1 904 93 from w19.x _ _ rfl).trans ((show Xi U1 904 93 = Xi S 904 93 from by rw [eU1]; exact Xi_ne (by omega))))))
  have w58 : 0 ≤ Xi S 904 93 ∧ Xi S 904 93 ≤ 1700 := hH.c _ _
  exact ⟨hHT5, hFT5, rfl, (by first | assumption | exact (by assumption : AT T5 _ _)), (by omega), (by first | assumption | exact (by assumption : RNV T5 _)), (by omega), (fun q => ⟨by omega, d12 (by omega) _ (by omega), by omega⟩)⟩
/-! SAFETY of the reference: what words mean, as functions -/
abbrev lxE (S : sS) (a b c n k : Int) : Prop := Xi S 912 k.toNat = n ∧ Xj S 913 (3 * k).toNat = a ∧ (n < 2 ∨ Xj S 913 (3 * k + 1).toNat = b) ∧ (n < 3 ∨ Xj S 913 (3 * k + 2).toNat = c) ∧ Xi S 916 k.toNat = 0
noncomputable def fdR (S : sS) (a b c n : Int) : Nat → Int
  | 0 => -1
  | m + 1 => if fdR S a b c n m ≠ -1 then fdR S a b c n m else if lxE S a b c n (m : Int) then (m : Int) else -1
theorem fdR_up {S : sS} {a b c n v : Int} {m : Nat} (h : fdR S a b c n m = v) (hv : v ≠ -1) : ∀ k, fdR S a b c n (m + k) = v
  | 0 => h
  | k + 1 => by
    have t := fdR_up h hv k
    show (if fdR S a b c n (m + k) ≠ -1 then fdR S a b c n (m + k) else _) = v
    rw [t, if_pos hv]
theorem fdR_no {S : sS} {a b c n v : Int} (h0 : 0 ≤ v) (h : fdR S a b c n v.toNat = -1) (hn : ¬ lxE S a b c n v) : fdR S a b c n (v + 1).toNat = -1 := by
  rw [show (v + 1).toNat = v.toNat + 1 by omega]
  show (if fdR S a b c n v.toNat ≠ -1 then _ else if lxE S a b c n (v.toNat : Int) then _ else -1) = -1
  rw [if_neg (fun q => q h), show ((v.toNat : Nat) : Int) = v by omega, if_neg hn]
theorem fdR_hit {S : sS} {a b c n v L : Int} (h0 : 0 ≤ v) (h : fdR S a b c n v.toNat = -1) (hy : lxE S a b c n v) (hl : v < L) : v = fdR S a b c n L.toNat := by
  have t : fdR S a b c n (v.toNat + 1) = v := by
    show (if fdR S a b c n v.toNat ≠ -1 then _ else if lxE S a b c n (v.toNat : Int) then (v.toNat : Int) else -1) = v
    rw [if_neg (fun q => q h), show ((v.toNat : Nat) : Int) = v by omega, if_pos hy]
  have u := fdR_up t (by omega) (L.toNat - (v.toNat + 1))
  rw [show v.toNat + 1 + (L.toNat - (v.toNat + 1)) = L.toNat by omega] at u
  exact u.symm
theorem fdR_rg {S : sS} {a b c n : Int} : ∀ m : Nat, fdR S a b c n m = -1 ∨ (0 ≤ fdR S a b c n m ∧ fdR S a b c n m < m)
  | 0 => Or.inl rfl
  | m + 1 => by
    have t := fdR_rg (S := S) (a := a) (b := b) (c := c) (n := n) m
    show (if fdR S a b c n m ≠ -1 then fdR S a b c n m else if lxE S a b c n (m : Int) then (m : Int) else -1) = -1 ∨ (0 ≤ (if fdR S a b c n m ≠ -1 then fdR S a b c n m else if lxE S a b c n (m : Int) then (m : Int) else -1) ∧ (if fdR S a b c n m ≠ -1 then fdR S a b c n m else if lxE S a b c n (m : Int) then (m : Int) else -1) < ((m + 1 : Nat) : Int))
    split
    · omega
    · split <;> omega
/-- what stays of the words before m -/
def LXK (T S : sS) (m : Int) : Prop := ∀ k : Int, 0 ≤ k → k < m → Xi T 912 k.toNat = Xi S 912 k.toNat ∧ Xj T 913 (3 * k).toNat = Xj S 913 (3 * k).toNat ∧ Xj T 913 (3 * k + 1).toNat = Xj S 913 (3 * k + 1).toNat ∧ Xj T 913 (3 * k + 2).toNat = Xj S 913 (3 * k + 2).toNat ∧ Xi T 916 k.toNat = Xi S 916 k.toNat ∧ Xi T 914 k.toNat = Xi S 914 k.toNat ∧ Xi T 915 k.toNat = Xi S 915 k.toNat
theorem fdR_k {S T : sS} {a b c n : Int} : ∀ m : Nat, LXK T S m → fdR T a b c n m = fdR S a b c n m
  | 0, _ => rfl
  | m + 1, h => by
    have t := fdR_k (S := S) (T := T) (a := a) (b := b) (c := c) (n := n) m (fun k h0 h1 => h k h0 (by omega))
    obtain ⟨e1, e2, e3, e4, e5, _⟩ := h (m : Int) (by omega) (by omega)
    show (if fdR T a b c n m ≠ -1 then fdR T a b c n m else if lxE T a b c n (m : Int) then (m : Int) else -1) = (if fdR S a b c n m ≠ -1 then fdR S a b c n m else if lxE S a b c n (m : Int) then (m : Int) else -1)
    rw [t]
    have e : lxE T a b c n (m : Int) ↔ lxE S a b c n (m : Int) := by
      unfold lxE
      rw [e1, e2, e3, e4, e5]
    simp only [e]
noncomputable def nmR (S : sS) (t n : Int) : Int := if n < 1 ∨ 3 < n then -1 else fdR S (Xj S 910 t.toNat) (if 1 < n then Xj S 910 (t + 1).toNat else 0) (if 2 < n then Xj S 910 (t + 2).toNat else 0) n (Xi S 904 15).toNat
noncomputable def msR (S : sS) (t n s : Int) : Int := if nmR S t n ≠ -1 ∧ Xi S 914 (nmR S t n).toNat = s then Xi S 915 (nmR S t n).toNat else -1
/-- what a run means -/
noncomputable def rnR (S : sS) (r s : Int) : Int := msR S (Xi S 950 r.toNat) (Xi S 951 r.toNat) s
noncomputable def rmR (S : sS) (r : Int) : Int := nmR S (Xi S 950 r.toNat) (Xi S 951 r.toNat)
noncomputable def r2R (S : sS) (r s u : Int) : Int := if rnR S r s ≠ -1 then rnR S r s else rnR S r u
theorem nmR_rg {S : sS} {t n : Int} (h0 : 0 ≤ Xi S 904 15) : nmR S t n = -1 ∨ (0 ≤ nmR S t n ∧ nmR S t n < Xi S 904 15) := by
  unfold nmR
  split
  · exact Or.inl rfl
  · have u := fdR_rg (S := S) (a := Xj S 910 t.toNat) (b := if 1 < n then Xj S 910 (t + 1).toNat else 0) (c := if 2 < n then Xj S 910 (t + 2).toNat else 0) (n := n) (Xi S 904 15).toNat
    omega
theorem SMK.xj {ks : List (Nat × Nat)} {S S1 : sS} (h : SMK ks S S1) (k : Nat) (e : inK ks k = true) (j : Nat) : Xj S1 k j = Xj S k j := by unfold Xj; rw [(h k j e).2.1]
def kLX : List (Nat × Nat) := [(910, 911), (912, 917)]
theorem LXK_FR {l : List rec} {S T : sS} {m : Int} (h : FR l S T) (e : kdis l [(912, 917)] = true) : LXK T S m := fun k _ _ => by
  have q := h.smk e
  exact ⟨q.x 912 rfl _, q.xj 913 rfl _, q.xj 913 rfl _, q.xj 913 rfl _, q.x 916 rfl _, q.x 914 rfl _, q.x 915 rfl _⟩
theorem nmR_FR {l : List rec} {S T : sS} {t n : Int} (h : FR l S T) (e : (kdis l kLX && mD l [15]) = true) : nmR T t n = nmR S t n := by
  rw [Bool.and_eq_true] at e
  have q := h.smk e.1
  unfold nmR
  rw [mD_x h e.2 15 (by decide), q.xj 910 rfl, q.xj 910 rfl, q.xj 910 rfl]
  have k : LXK T S (Xi S 904 15).toNat := fun k _ _ => ⟨q.x 912 rfl _, q.xj 913 rfl _, q.xj 913 rfl _, q.xj 913 rfl _, q.x 916 rfl _, q.x 914 rfl _, q.x 915 rfl _⟩
  rw [fdR_k _ k]
theorem msR_FR {l : List rec} {S T : sS} {t n s : Int} (h : FR l S T) (e : (kdis l kLX && mD l [15]) = true) : msR T t n s = msR S t n s := by
  unfold msR
  rw [nmR_FR h e]
  rw [Bool.and_eq_true] at e
  have q := h.smk e.1
  rw [q.x 914 rfl, q.x 915 rfl]
theorem rnR_FR {l : List rec} {S T : sS} {r s : Int} (h : FR l S T) (e : (kdis l kLX && mD l [15]) = true) (e2 : kdis l [(950, 952)] = true) : rnR T r s = rnR S r s := by
  have q := h.smk e2
  unfold rnR
  rw [msR_FR h e, q.x 950 rfl, q.x 951 rfl]
theorem rmR_FR {l : List rec} {S T : sS} {r : Int} (h : FR l S T) (e : (kdis l kLX && mD l [15]) = true) (e2 : kdis l [(950, 952)] = true) : rmR T r = rmR S r := by
  have q := h.smk e2
  unfold rmR
  rw [nmR_FR h e, q.x 950 rfl, q.x 951 rfl]
theorem rn_rm {S : sS} {r s : Int} (h : rmR S r = -1) : rnR S r s = -1 := by
  unfold rnR msR
  unfold rmR at h
  rw [h, if_neg (fun q => q.1 rfl)]
/-- runs told as new -/
def NWV (S : sS) : Prop := ∀ k : Nat, (k : Int) < Xi S 904 108 → Xi S 966 k < Xi S 904 69
theorem NWV_FR {l : List rec} {S T : sS} (h : FR l S T) (e : (kdis l [(966, 967)] && mD l [69, 108]) = true) (hv : NWV S) : NWV T := by
  rw [Bool.and_eq_true] at e
  have k := h.smk e.1
  unfold NWV
  rw [mD_x h e.2 69 (by decide), mD_x h e.2 108 (by decide)]
  simp only [k.x 966 rfl]
  exact hv
abbrev Q_mo_find__2 (S : sS) (a : Int) (b : Int) (c : Int) (n : Int) : pst := fun r S1 => S = S1 ∧ (∃ z : Int, r = some (iv z) ∧ (-1 ≤ z ∧ z ≤ 299) ∧ (z ≠ -1 → z < Xi S 904 15) ∧ (z = fdR S a b c n (Xi S 904 15).toNat))
set_option maxRecDepth 100000 in
theorem t_mo_find__2 {S : sS} (hH : HI S) (a : Int) (b : Int) (c : Int) (n : Int) (hn : -2147483648 ≤ n ∧ n ≤ 2147483647) (ra : rgL a) (rb : rgL b) (rc : rgL c) (d : Nat) : Mt lay0 (d + 1) m_mo_find [.ref 904, jw a, jw b, jw c, iv n] S (Q_mo_find__2 S a b c n) := by
  refine Mt_R rfl rfl ?_
  have w1 : 0 ≤ Xi S 904 15 ∧ Xi S 904 15 ≤ 300 := hH.c _ _
  have ra2 : -9223372036854775808 ≤ a ∧ a < 9223372036854775808 := ra
  have rb2 : -9223372036854775808 ≤ b ∧ b < 9223372036854775808 := rb
  have rc2 : -9223372036854775808 ≤ c ∧ c < 9223372036854775808 := rc
  have C3 : ∀ (n3 : Nat) (v8 : Int), (0 ≤ v8 ∧ v8 ≤ 300) → (v8 ≤ Xi S 904 15) → (fdR S a b c n (v8).toNat = -1) → n3 = (301 - v8).toNat → Rl lay0 (d + 0) m_mo_find 3 [(0, .ref 904), (1, jw a), (3, jw b), (5, jw c), (7, iv n), (8, iv v8)] [] S (Q_mo_find__2 S a b c n) := by
    intro n3
    induction n3 using Nat.strongRecOn with
    | ind n3 ih3 =>
      intro v8 w2 w3 h3 hm3
      refine l_iload rfl rfl ?_
      refine l_aload_n rfl rfl ?_
      refine l_gfi rfl rfl rfl rfl rfl ?_
      refine l_icmp_ge rfl rfl (by unfold rg; omega) (by unfold rg; omega) (fun w4 => ?_) (fun w5 => ?_)
      · refine l_iconst rfl ?_
        refine l_ireturn rfl rfl ?_
        exact ⟨rfl, _, rfl, ⟨by omega, by omega⟩, (by omega), (by first | (exact fdR_hit (by omega) h3 ⟨by omega, by omega, by omega, by omega, by omega⟩ (by omega)) | (rw [show Xi S 904 15 = v8 by omega]; exact h3.symm))⟩
      · refine l_aload_n rfl rfl ?_
        refine l_gfr rfl rfl rfl rfl rfl (hH.r 904 10 912 rfl) ?_
        refine l_iload rfl rfl ?_
        refine l_iaload (n := 300) rfl rfl (by omega) (by omega) (by unfold rg; omega) ?_
        have w6 : 0 ≤ (Xi S 912 ((v8).toNat)) ∧ (Xi S 912 ((v8).toNat)) ≤ 3 := hH.c _ _
        refine l_iload rfl rfl ?_
        refine l_icmp_ne rfl rfl (by unfold rg; omega) (by unfold rg; omega) (fun w7 => ?_) (fun w8 => ?_)
        · refine l_iinc rfl rfl rfl rfl ?_
          refine l_goto rfl rfl ?_
          exact Rl_weak (ih3 _ (by omega) ((v8 + 1)) (by omega) (by omega) (by first | rfl | exact fdR_no (by omega) h3 (fun q => by obtain ⟨q1, q2, q3, q4, q5⟩ := q; omega)) rfl) (And.intro rfl (And.intro rfl (And.intro rfl (And.intro rfl (And.intro rfl (And.intro rfl (True.intro)))))))
        · refine l_aload_n rfl rfl ?_
          refine l_gfr rfl rfl rfl rfl rfl (hH.r 904 11 913 rfl) ?_
          refine l_iconst rfl ?_
          refine l_iload rfl rfl ?_
          refine l_imul rfl ?_
          refine l_laload (n := 900) rfl rfl (by omega) (by omega) (by unfold rg; omega) ?_
          have w9 : -9223372036854775808 ≤ (Xj S 913 (((3 * v8)).toNat)) ∧ (Xj S 913 (((3 * v8)).toNat)) < 9223372036854775808 := Xj_rg
          refine l_lload_n rfl rfl ?_
          refine l_lcmp rfl (by unfold rgL; omega) (by unfold rgL; omega) (fun c10 w10 w10a w10b w10c => ?_)
          refine l_if_ne rfl rfl (by unfold rg; omega) (fun w11 => ?_) (fun w12 => ?_)
          · refine l_iinc rfl rfl rfl rfl ?_
            refine l_goto rfl rfl ?_
            exact Rl_weak (ih3 _ (by omega) ((v8 + 1)) (by omega) (by omega) (by first | rfl | exact fdR_no (by omega) h3 (fun q => by obtain ⟨q1, q2, q3, q4, q5⟩ := q; omega)) rfl) (And.intro rfl (And.intro rfl (And.intro rfl (And.intro rfl (And.intro rfl (And.intro rfl (True.intro)))))))
          · refine l_iload rfl rfl ?_
            refine l_iconst rfl ?_
            refine l_icmp_lt rfl rfl (by unfold rg; omega) (by unfold rg; omega) (fun w13 => ?_) (fun w14 => ?_)
            · refine l_iload rfl rfl ?_
              refine l_iconst rfl ?_
              refine l_icmp_lt rfl rfl (by unfold rg; omega) (by unfold rg; omega) (fun w15 => ?_) (fun w16 => ?_)
              · refine l_aload_n rfl rfl ?_
                refine l_gfr rfl rfl rfl rfl rfl (hH.r 904 14 916 rfl) ?_
                refine l_iload rfl rfl ?_
                refine l_baload (n := 300) rfl rfl rfl (by decide) (by omega) (by omega) (by unfold rg; omega) ?_
                have w17 : 0 ≤ (Xi S 916 ((v8).toNat)) ∧ (Xi S 916 ((v8).toNat)) ≤ 1 := hH.c _ _
                refine l_if_ne rfl rfl (by unfold rg; omega) (fun w18 => ?_) (fun w19 => ?_)
                · refine l_iinc rfl rfl rfl rfl ?_
                  refine l_goto rfl rfl ?_
                  exact Rl_weak (ih3 _ (by omega) ((v8 + 1)) (by omega) (by omega) (by first | rfl | exact fdR_no (by omega) h3 (fun q => by obtain ⟨q1, q2, q3, q4, q5⟩ := q; omega)) rfl) (And.intro rfl (And.intro rfl (And.intro rfl (And.intro rfl (And.intro rfl (And.intro rfl (True.intro)))))))
                · refine l_aload_n rfl rfl ?_
                  refine l_gfr rfl rfl rfl rfl rfl (hH.r 904 12 914 rfl) ?_
                  refine l_iload rfl rfl ?_
                  refine l_iaload (n := 300) rfl rfl (by omega) (by omega) (by unfold rg; omega) ?_
                  have w20 : 0 ≤ (Xi S 914 ((v8).toNat)) ∧ (Xi S 914 ((v8).toNat)) ≤ 12 := hH.c _ _
                  refine l_iconst rfl ?_
                  refine l_icmp_eq rfl rfl (by unfold rg; omega) (by unfold rg; omega) (fun w21 => ?_) (fun w22 => ?_)
                  · refine l_iinc rfl rfl rfl rfl ?_
                    refine l_goto rfl rfl ?_
                    exact Rl_weak (ih3 _ (by omega) ((v8 + 1)) (by omega) (by omega) (by first | rfl | exact fdR_no (by omega) h3 (fun q => by obtain ⟨q1, q2, q3, q4, q5⟩ := q; omega)) rfl) (And.intro rfl (And.intro rfl (And.intro rfl (And.intro rfl (And.intro rfl (And.intro rfl (True.intro)))))))
                  · refine l_iload rfl rfl ?_
                    refine l_ireturn rfl rfl ?_
                    exact ⟨rfl, _, rfl, ⟨by omega, by omega⟩, (by omega), (by first | (exact fdR_hit (by omega) h3 ⟨by omega, by omega, by omega, by omega, by omega⟩ (by omega)) | (rw [show Xi S 904 15 = v8 by omega]; exact h3.symm))⟩
              · refine l_aload_n rfl rfl ?_
                refine l_gfr rfl rfl rfl rfl rfl (hH.r 904 11 913 rfl) ?_
                refine l_iconst rfl ?_
                refine l_iload rfl rfl ?_
                refine l_imul rfl ?_
                refine l_iconst rfl ?_
                refine l_iadd rfl ?_
                refine l_laload (n := 900) rfl rfl (by omega) (by omega) (by unfold rg; omega) ?_
                have w23 : -9223372036854775808 ≤ (Xj S 913 ((((3 * v8) + 2)).toNat)) ∧ (Xj S 913 ((((3 * v8) + 2)).toNat)) < 9223372036854775808 := Xj_rg
                refine l_lload rfl rfl ?_
                refine l_lcmp rfl (by unfold rgL; omega) (by unfold rgL; omega) (fun c24 w24 w24a w24b w24c => ?_)
                refine l_if_ne rfl rfl (by unfold rg; omega) (fun w25 => ?_) (fun w26 => ?_)
                · refine l_iinc rfl rfl rfl rfl ?_
                  refine l_goto rfl rfl ?_
                  exact Rl_weak (ih3 _ (by omega) ((v8 + 1)) (by omega) (by omega) (by first | rfl | exact fdR_no (by omega) h3 (fun q => by obtain ⟨q1, q2, q3, q4, q5⟩ := q; omega)) rfl) (And.intro rfl (And.intro rfl (And.intro rfl (And.intro rfl (And.intro rfl (And.intro rfl (True.intro)))))))
                · refine l_aload_n rfl rfl ?_
                  refine l_gfr rfl rfl rfl rfl rfl (hH.r 904 14 916 rfl) ?_
                  refine l_iload rfl rfl ?_
                  refine l_baload (n := 300) rfl rfl rfl (by decide) (by omega) (by omega) (by unfold rg; omega) ?_
                  have w27 : 0 ≤ (Xi S 916 ((v8).toNat)) ∧ (Xi S 916 ((v8).toNat)) ≤ 1 := hH.c _ _
                  refine l_if_ne rfl rfl (by unfold rg; omega) (fun w28 => ?_) (fun w29 => ?_)
                  · refine l_iinc rfl rfl rfl rfl ?_
                    refine l_goto rfl rfl ?_
                    exact Rl_weak (ih3 _ (by omega) ((v8 + 1)) (by omega) (by omega) (by first | rfl | exact fdR_no (by omega) h3 (fun q => by obtain ⟨q1, q2, q3, q4, q5⟩ := q; omega)) rfl) (And.intro rfl (And.intro rfl (And.intro rfl (And.intro rfl (And.intro rfl (And.intro rfl (True.intro)))))))
                  · refine l_aload_n rfl rfl ?_
                    refine l_gfr rfl rfl rfl rfl rfl (hH.r 904 12 914 rfl) ?_
                    refine l_iload rfl rfl ?_
                    refine l_iaload (n := 300) rfl rfl (by omega) (by omega) (by unfold rg; omega) ?_
                    have w30 : 0 ≤ (Xi S 914 ((v8).toNat)) ∧ (Xi S 914 ((v8).toNat)) ≤ 12 := hH.c _ _
                    refine l_iconst rfl ?_
                    refine l_icmp_eq rfl rfl (by unfold rg; omega) (by unfold rg; omega) (fun w31 => ?_) (fun w32 => ?_)
                    · refine l_iinc rfl rfl rfl rfl ?_
                      refine l_goto rfl rfl ?_
                      exact Rl_weak (ih3 _ (by omega) ((v8 + 1)) (by omega) (by omega) (by first | rfl | exact fdR_no (by omega) h3 (fun q => by obtain ⟨q1, q2, q3, q4, q5⟩ := q; omega)) rfl) (And.intro rfl (And.intro rfl (And.intro rfl (And.intro rfl (And.intro rfl (And.intro rfl (True.intro)))))))
                    · refine l_iload rfl rfl ?_
                      refine l_ireturn rfl rfl ?_
                      exact ⟨rfl, _, rfl, ⟨by omega, by omega⟩, (by omega), (by first | (exact fdR_hit (by omega) h3 ⟨by omega, by omega, by omega, by omega, by omega⟩ (by omega)) | (rw [show Xi S 904 15 = v8 by omega]; exact h3.symm))⟩
            · refine l_aload_n rfl rfl ?_
              refine l_gfr rfl rfl rfl rfl rfl (hH.r 904 11 913 rfl) ?_
              refine l_iconst rfl ?_
              refine l_iload rfl rfl ?_
              refine l_imul rfl ?_
              refine l_iconst rfl ?_
              refine l_iadd rfl ?_
              refine l_laload (n := 900) rfl rfl (by omega) (by omega) (by unfold rg; omega) ?_
              have w33 : -9223372036854775808 ≤ (Xj S 913 ((((3 * v8) + 1)).toNat)) ∧ (Xj S 913 ((((3 * v8) + 1)).toNat)) < 9223372036854775808 := Xj_rg
              refine l_lload_n rfl rfl ?_
              refine l_lcmp rfl (by unfold rgL; omega) (by unfold rgL; omega) (fun c34 w34 w34a w34b w34c => ?_)
              refine l_if_ne rfl rfl (by unfold rg; omega) (fun w35 => ?_) (fun w36 => ?_)
              · refine l_iinc rfl rfl rfl rfl ?_
                refine l_goto rfl rfl ?_
                exact Rl_weak (ih3 _ (by omega) ((v8 + 1)) (by omega) (by omega) (by first | rfl | exact fdR_no (by omega) h3 (fun q => by obtain ⟨q1, q2, q3, q4, q5⟩ := q; omega)) rfl) (And.intro rfl (And.intro rfl (And.intro rfl (And.intro rfl (And.intro rfl (And.intro rfl (True.intro)))))))
              · refine l_iload rfl rfl ?_
                refine l_iconst rfl ?_
                refine l_icmp_lt rfl rfl (by unfold rg; omega) (by unfold rg; omega) (fun w37 => ?_) (fun w38 => ?_)
                · refine l_aload_n rfl rfl ?_
                  refine l_gfr rfl rfl rfl rfl rfl (hH.r 904 14 916 rfl) ?_
                  refine l_iload rfl rfl ?_
                  refine l_baload (n := 300) rfl rfl rfl (by decide) (by omega) (by omega) (by unfold rg; omega) ?_
                  have w39 : 0 ≤ (Xi S 916 ((v8).toNat)) ∧ (Xi S 916 ((v8).toNat)) ≤ 1 := hH.c _ _
                  refine l_if_ne rfl rfl (by unfold rg; omega) (fun w40 => ?_) (fun w41 => ?_)
                  · refine l_iinc rfl rfl rfl rfl ?_
                    refine l_goto rfl rfl ?_
                    exact Rl_weak (ih3 _ (by omega) ((v8 + 1)) (by omega) (by omega) (by first | rfl | exact fdR_no (by omega) h3 (fun q => by obtain ⟨q1, q2, q3, q4, q5⟩ := q; omega)) rfl) (And.intro rfl (And.intro rfl (And.intro rfl (And.intro rfl (And.intro rfl (And.intro rfl (True.intro)))))))
                  · refine l_aload_n rfl rfl ?_
                    refine l_gfr rfl rfl rfl rfl rfl (hH.r 904 12 914 rfl) ?_
                    refine l_iload rfl rfl ?_
                    refine l_iaload (n := 300) rfl rfl (by omega) (by omega) (by unfold rg; omega) ?_
                    have w42 : 0 ≤ (Xi S 914 ((v8).toNat)) ∧ (Xi S 914 ((v8).toNat)) ≤ 12 := hH.c _ _
                    refine l_iconst rfl ?_
                    refine l_icmp_eq rfl rfl (by unfold rg; omega) (by unfold rg; omega) (fun w43 => ?_) (fun w44 => ?_)
                    · refine l_iinc rfl rfl rfl rfl ?_
                      refine l_goto rfl rfl ?_
                      exact Rl_weak (ih3 _ (by omega) ((v8 + 1)) (by omega) (by omega) (by first | rfl | exact fdR_no (by omega) h3 (fun q => by obtain ⟨q1, q2, q3, q4, q5⟩ := q; omega)) rfl) (And.intro rfl (And.intro rfl (And.intro rfl (And.intro rfl (And.intro rfl (And.intro rfl (True.intro)))))))
                    · refine l_iload rfl rfl ?_
                      refine l_ireturn rfl rfl ?_
                      exact ⟨rfl, _, rfl, ⟨by omega, by omega⟩, (by omega), (by first | (exact fdR_hit (by omega) h3 ⟨by omega, by omega, by omega, by omega, by omega⟩ (by omega)) | (rw [show Xi S 904 15 = v8 by omega]; exact h3.symm))⟩
                · refine l_aload_n rfl rfl ?_
                  refine l_gfr rfl rfl rfl rfl rfl (hH.r 904 11 913 rfl) ?_
                  refine l_iconst rfl ?_
                  refine l_iload rfl rfl ?_
                  refine l_imul rfl ?_
                  refine l_iconst rfl ?_
                  refine l_iadd rfl ?_
                  refine l_laload (n := 900) rfl rfl (by omega) (by omega) (by unfold rg; omega) ?_
                  have w45 : -9223372036854775808 ≤ (Xj S 913 ((((3 * v8) + 2)).toNat)) ∧ (Xj S 913 ((((3 * v8) + 2)).toNat)) < 9223372036854775808 := Xj_rg
                  refine l_lload rfl rfl ?_
                  refine l_lcmp rfl (by unfold rgL; omega) (by unfold rgL; omega) (fun c46 w46 w46a w46b w46c => ?_)
                  refine l_if_ne rfl rfl (by unfold rg; omega) (fun w47 => ?_) (fun w48 => ?_)
                  · refine l_iinc rfl rfl rfl rfl ?_
                    refine l_goto rfl rfl ?_
                    exact Rl_weak (ih3 _ (by omega) ((v8 + 1)) (by omega) (by omega) (by first | rfl | exact fdR_no (by omega) h3 (fun q => by obtain ⟨q1, q2, q3, q4, q5⟩ := q; omega)) rfl) (And.intro rfl (And.intro rfl (And.intro rfl (And.intro rfl (And.intro rfl (And.intro rfl (True.intro)))))))
                  · refine l_aload_n rfl rfl ?_
                    refine l_gfr rfl rfl rfl rfl rfl (hH.r 904 14 916 rfl) ?_
                    refine l_iload rfl rfl ?_
                    refine l_baload (n := 300) rfl rfl rfl (by decide) (by omega) (by omega) (by unfold rg; omega) ?_
                    have w49 : 0 ≤ (Xi S 916 ((v8).toNat)) ∧ (Xi S 916 ((v8).toNat)) ≤ 1 := hH.c _ _
                    refine l_if_ne rfl rfl (by unfold rg; omega) (fun w50 => ?_) (fun w51 => ?_)
                    · refine l_iinc rfl rfl rfl rfl ?_
                      refine l_goto rfl rfl ?_
                      exact Rl_weak (ih3 _ (by omega) ((v8 + 1)) (by omega) (by omega) (by first | rfl | exact fdR_no (by omega) h3 (fun q => by obtain ⟨q1, q2, q3, q4, q5⟩ := q; omega)) rfl) (And.intro rfl (And.intro rfl (And.intro rfl (And.intro rfl (And.intro rfl (And.intro rfl (True.intro)))))))
                    · refine l_aload_n rfl rfl ?_
                      refine l_gfr rfl rfl rfl rfl rfl (hH.r 904 12 914 rfl) ?_
                      refine l_iload rfl rfl ?_
                      refine l_iaload (n := 300) rfl rfl (by omega) (by omega) (by unfold rg; omega) ?_
                      have w52 : 0 ≤ (Xi S 914 ((v8).toNat)) ∧ (Xi S 914 ((v8).toNat)) ≤ 12 := hH.c _ _
                      refine l_iconst rfl ?_
                      refine l_icmp_eq rfl rfl (by unfold rg; omega) (by unfold rg; omega) (fun w53 => ?_) (fun w54 => ?_)
                      · refine l_iinc rfl rfl rfl rfl ?_
                        refine l_goto rfl rfl ?_
                        exact Rl_weak (ih3 _ (by omega) ((v8 + 1)) (by omega) (by omega) (by first | rfl | exact fdR_no (by omega) h3 (fun q => by obtain ⟨q1, q2, q3, q4, q5⟩ := q; omega)) rfl) (And.intro rfl (And.intro rfl (And.intro rfl (And.intro rfl (And.intro rfl (And.intro rfl (True.intro)))))))
                      · refine l_iload rfl rfl ?_
                        refine l_ireturn rfl rfl ?_
                        exact ⟨rfl, _, rfl, ⟨by omega, by omega⟩, (by omega), (by first | (exact fdR_hit (by omega) h3 ⟨by omega, by omega, by omega, by omega, by omega⟩ (by omega)) | (rw [show Xi S 904 15 = v8 by omega]; exact h3.symm))⟩
  refine l_iconst rfl ?_
  refine l_istore rfl rfl rfl ?_
  exact Rl_weak (C3 _ (0) (by omega) (by omega) (by first | rfl | exact fdR_no (by omega) h3 (fun q => by obtain ⟨q1, q2, q3, q4, q5⟩ := q; omega)) rfl) (And.intro rfl (And.intro rfl (And.intro rfl (And.intro rfl (And.intro rfl (And.intro rfl (True.intro)))))))
abbrev Q_mo_mean__2 (S : sS) (t : Int) (m : Int) : pst := fun r S1 => S = S1 ∧ (∃ z : Int, r = some (iv z) ∧ (-1 ≤ z ∧ z ≤ 299) ∧ (z ≠ -1 → z < Xi S 904 15) ∧ (z = nmR S t m))
set_option maxRecDepth 100000 in
theorem t_mo_mean__2 {S : sS} (hH : HI S) (t : Int) (m : Int) (ht : 0 ≤ t ∧ t ≤ 5001) (hm : -2147483648 ≤ m ∧ m ≤ 2147483647) (hn : m ≤ 3 → t + m ≤ 5002) (d : Nat) : Mt lay0 (d + 2) m_mo_mean [.ref 904, iv t, iv m] S (Q_mo_mean__2 S t m) := by
  refine Mt_R rfl rfl ?_
  have w1 : 0 ≤ Xi S 904 15 ∧ Xi S 904 15 ≤ 300 := hH.c _ _
  refine l_iload_n rfl rfl ?_
  refine l_iconst rfl ?_
  refine l_icmp_lt rfl rfl (by unfold rg; omega) (by unfold rg; omega) (fun w2 => ?_) (fun w3 => ?_)
  · refine l_iconst rfl ?_
    refine l_goto rfl rfl ?_
    refine l_ireturn rfl rfl ?_
    exact ⟨rfl, _, rfl, ⟨by omega, by omega⟩, (by omega), (by first | (exfalso; omega) | (unfold nmR; rw [if_pos (by omega)]) | (unfold nmR; rw [if_neg (by omega), if_neg (by omega), if_neg (by omega)]; assumption) | (unfold nmR; rw [if_neg (by omega), if_pos (by omega), if_neg (by omega)]; assumption) | (unfold nmR; rw [if_neg (by omega), if_pos (by omega), if_pos (by omega)]; assumption))⟩
  · refine l_iload_n rfl rfl ?_
    refine l_iconst rfl ?_
    refine l_icmp_le rfl rfl (by unfold rg; omega) (by unfold rg; omega) (fun w4 => ?_) (fun w5 => ?_)
    · refine l_aload_n rfl rfl ?_
      refine l_aload_n rfl rfl ?_
      refine l_gfr rfl rfl rfl rfl rfl (hH.r 904 7 910 rfl) ?_
      refine l_iload_n rfl rfl ?_
      refine l_laload (n := 5002) rfl rfl (by omega) (by omega) (by unfold rg; omega) ?_
      have w6 : -9223372036854775808 ≤ (Xj S 910 ((t).toNat)) ∧ (Xj S 910 ((t).toNat)) < 9223372036854775808 := Xj_rg
      refine l_iload_n rfl rfl ?_
      refine l_iconst rfl ?_
      refine l_icmp_le rfl rfl (by unfold rg; omega) (by unfold rg; omega) (fun w7 => ?_) (fun w8 => ?_)
      · refine l_lconst (z := 0) rfl rfl ?_
        refine l_iload_n rfl rfl ?_
        refine l_iconst rfl ?_
        refine l_icmp_le rfl rfl (by unfold rg; omega) (by unfold rg; omega) (fun w9 => ?_) (fun w10 => ?_)
        · refine l_lconst (z := 0) rfl rfl ?_
          refine l_iload_n rfl rfl ?_
          have w11 : 0 ≤ Xi S 904 15 ∧ Xi S 904 15 ≤ 300 := hH.c _ _
          refine l_callV rfl rfl rfl (t_mo_find__2 hH (Xj S 910 ((t).toNat)) 0 0 m ⟨by omega, by omega⟩ (by first | exact Xj_rg | (unfold rgL; omega)) (by first | exact Xj_rg | (unfold rgL; omega)) (by first | exact Xj_rg | (unfold rgL; omega)) _) ?_
          rintro _ _ ⟨rfl, z14, rfl, w14, w12, w13⟩
          show Rl _ _ _ _ _ [iv z14] _ _
          refine l_ireturn rfl rfl ?_
          exact ⟨rfl, _, rfl, ⟨by omega, by omega⟩, (by omega), (by first | (exfalso; omega) | (unfold nmR; rw [if_pos (by omega)]) | (unfold nmR; rw [if_neg (by omega), if_neg (by omega), if_neg (by omega)]; assumption) | (unfold nmR; rw [if_neg (by omega), if_pos (by omega), if_neg (by omega)]; assumption) | (unfold nmR; rw [if_neg (by omega), if_pos (by omega), if_pos (by omega)]; assumption))⟩
        · refine l_aload_n rfl rfl ?_
          refine l_gfr rfl rfl rfl rfl rfl (hH.r 904 7 910 rfl) ?_
          refine l_iload_n rfl rfl ?_
          refine l_iconst rfl ?_
          refine l_iadd rfl ?_
          refine l_laload (n := 5002) rfl rfl (by omega) (by omega) (by unfold rg; omega) ?_
          have w15 : -9223372036854775808 ≤ (Xj S 910 (((t + 2)).toNat)) ∧ (Xj S 910 (((t + 2)).toNat)) < 9223372036854775808 := Xj_rg
          refine l_goto rfl rfl ?_
          refine l_iload_n rfl rfl ?_
          have w16 : 0 ≤ Xi S 904 15 ∧ Xi S 904 15 ≤ 300 := hH.c _ _
          refine l_callV rfl rfl rfl (t_mo_find__2 hH (Xj S 910 ((t).toNat)) 0 (Xj S 910 (((t + 2)).toNat)) m ⟨by omega, by omega⟩ (by first | exact Xj_rg | (unfold rgL; omega)) (by first | exact Xj_rg | (unfold rgL; omega)) (by first | exact Xj_rg | (unfold rgL; omega)) _) ?_
          rintro _ _ ⟨rfl, z19, rfl, w19, w17, w18⟩
          show Rl _ _ _ _ _ [iv z19] _ _
          refine l_ireturn rfl rfl ?_
          exact ⟨rfl, _, rfl, ⟨by omega, by omega⟩, (by omega), (by first | (exfalso; omega) | (unfold nmR; rw [if_pos (by omega)]) | (unfold nmR; rw [if_neg (by omega), if_neg (by omega), if_neg (by omega)]; assumption) | (unfold nmR; rw [if_neg (by omega), if_pos (by omega), if_neg (by omega)]; assumption) | (unfold nmR; rw [if_neg (by omega), if_pos (by omega), if_pos (by omega)]; assumption))⟩
      · refine l_aload_n rfl rfl ?_
        refine l_gfr rfl rfl rfl rfl rfl (hH.r 904 7 910 rfl) ?_
        refine l_iload_n rfl rfl ?_
        refine l_iconst rfl ?_
        refine l_iadd rfl ?_
        refine l_laload (n := 5002) rfl rfl (by omega) (by omega) (by unfold rg; omega) ?_
        have w20 : -9223372036854775808 ≤ (Xj S 910 (((t + 1)).toNat)) ∧ (Xj S 910 (((t + 1)).toNat)) < 9223372036854775808 := Xj_rg
        refine l_goto rfl rfl ?_
        refine l_iload_n rfl rfl ?_
        refine l_iconst rfl ?_
        refine l_icmp_le rfl rfl (by unfold rg; omega) (by unfold rg; omega) (fun w21 => ?_) (fun w22 => ?_)
        · refine l_lconst (z := 0) rfl rfl ?_
          refine l_iload_n rfl rfl ?_
          have w23 : 0 ≤ Xi S 904 15 ∧ Xi S 904 15 ≤ 300 := hH.c _ _
          refine l_callV rfl rfl rfl (t_mo_find__2 hH (Xj S 910 ((t).toNat)) (Xj S 910 (((t + 1)).toNat)) 0 m ⟨by omega, by omega⟩ (by first | exact Xj_rg | (unfold rgL; omega)) (by first | exact Xj_rg | (unfold rgL; omega)) (by first | exact Xj_rg | (unfold rgL; omega)) _) ?_
          rintro _ _ ⟨rfl, z26, rfl, w26, w24, w25⟩
          show Rl _ _ _ _ _ [iv z26] _ _
          refine l_ireturn rfl rfl ?_
          exact ⟨rfl, _, rfl, ⟨by omega, by omega⟩, (by omega), (by first | (exfalso; omega) | (unfold nmR; rw [if_pos (by omega)]) | (unfold nmR; rw [if_neg (by omega), if_neg (by omega), if_neg (by omega)]; assumption) | (unfold nmR; rw [if_neg (by omega), if_pos (by omega), if_neg (by omega)]; assumption) | (unfold nmR; rw [if_neg (by omega), if_pos (by omega), if_pos (by omega)]; assumption))⟩
        · refine l_aload_n rfl rfl ?_
          refine l_gfr rfl rfl rfl rfl rfl (hH.r 904 7 910 rfl) ?_
          refine l_iload_n rfl rfl ?_
          refine l_iconst rfl ?_
          refine l_iadd rfl ?_
          refine l_laload (n := 5002) rfl rfl (by omega) (by omega) (by unfold rg; omega) ?_
          have w27 : -9223372036854775808 ≤ (Xj S 910 (((t + 2)).toNat)) ∧ (Xj S 910 (((t + 2)).toNat)) < 9223372036854775808 := Xj_rg
          refine l_goto rfl rfl ?_
          refine l_iload_n rfl rfl ?_
          have w28 : 0 ≤ Xi S 904 15 ∧ Xi S 904 15 ≤ 300 := hH.c _ _
          refine l_callV rfl rfl rfl (t_mo_find__2 hH (Xj S 910 ((t).toNat)) (Xj S 910 (((t + 1)).toNat)) (Xj S 910 (((t + 2)).toNat)) m ⟨by omega, by omega⟩ (by first | exact Xj_rg | (unfold rgL; omega)) (by first | exact Xj_rg | (unfold rgL; omega)) (by first | exact Xj_rg | (unfold rgL; omega)) _) ?_
          rintro _ _ ⟨rfl, z31, rfl, w31, w29, w30⟩
          show Rl _ _ _ _ _ [iv z31] _ _
          refine l_ireturn rfl rfl ?_
          exact ⟨rfl, _, rfl, ⟨by omega, by omega⟩, (by omega), (by first | (exfalso; omega) | (unfold nmR; rw [if_pos (by omega)]) | (unfold nmR; rw [if_neg (by omega), if_neg (by omega), if_neg (by omega)]; assumption) | (unfold nmR; rw [if_neg (by omega), if_pos (by omega), if_neg (by omega)]; assumption) | (unfold nmR; rw [if_neg (by omega), if_pos (by omega), if_pos (by omega)]; assumption))⟩
    · refine l_iconst rfl ?_
      refine l_goto rfl rfl ?_
      refine l_ireturn rfl rfl ?_
      exact ⟨rfl, _, rfl, ⟨by omega, by omega⟩, (by omega), (by first | (exfalso; omega) | (unfold nmR; rw [if_pos (by omega)]) | (unfold nmR; rw [if_neg (by omega), if_neg (by omega), if_neg (by omega)]; assumption) | (unfold nmR; rw [if_neg (by omega), if_pos (by omega), if_neg (by omega)]; assumption) | (unfold nmR; rw [if_neg (by omega), if_pos (by omega), if_pos (by omega)]; assumption))⟩
abbrev Q_mo_means__2 (S : sS) (t : Int) (m : Int) (so : Int) : pst := fun r S1 => S = S1 ∧ (∃ z : Int, r = some (iv z) ∧ (-1 ≤ z ∧ z ≤ 63) ∧ (z ≠ -1 → z < cM S so) ∧ (z = msR S t m so))
set_option maxRecDepth 100000 in
theorem t_mo_means__2 {S : sS} (hH : HI S) (t : Int) (m : Int) (so : Int) (ht : 0 ≤ t ∧ t ≤ 5001) (hm : -2147483648 ≤ m ∧ m ≤ 2147483647) (hso : 0 ≤ so ∧ so ≤ 12) (hn : m ≤ 3 → t + m ≤ 5002) (hM : LXM S) (d : Nat) : Mt lay0 (d + 3) m_mo_means [.ref 904, iv t, iv m, iv so] S (Q_mo_means__2 S t m so) := by
  refine Mt_R rfl rfl ?_
  refine l_aload_n rfl rfl ?_
  refine l_iload_n rfl rfl ?_
  refine l_iload_n rfl rfl ?_
  have w1 : 0 ≤ Xi S 904 15 ∧ Xi S 904 15 ≤ 300 := hH.c _ _
  refine l_callV rfl rfl rfl (t_mo_mean__2 hH t m ⟨by omega, by omega⟩ ⟨by omega, by omega⟩ (by first | assumption | omega) _) ?_
  rintro _ _ ⟨rfl, z4, rfl, w4, w2, w3⟩
  show Rl _ _ _ _ _ [iv z4] _ _
  refine l_istore rfl rfl rfl ?_
  refine l_iload rfl rfl ?_
  refine l_iconst rfl ?_
  refine l_icmp_eq rfl rfl (by unfold rg; omega) (by unfold rg; omega) (fun w5 => ?_) (fun w6 => ?_)
  · refine l_iconst rfl ?_
    refine l_ireturn rfl rfl ?_
    exact ⟨rfl, _, rfl, ⟨by omega, by omega⟩, (by first | omega | (intro _; exact x31)), (by unfold msR; rw [← (by assumption : _ = nmR S t m)]; first | rw [if_pos ⟨by omega, by omega⟩] | rw [if_neg (fun q => by omega)])⟩
  · refine l_aload_n rfl rfl ?_
    refine l_gfr rfl rfl rfl rfl rfl (hH.r 904 12 914 rfl) ?_
    refine l_iload rfl rfl ?_
    refine l_iaload (n := 300) rfl rfl (by omega) (by omega) (by unfold rg; omega) ?_
    have w7 : 0 ≤ (Xi S 914 ((z4).toNat)) ∧ (Xi S 914 ((z4).toNat)) ≤ 12 := hH.c _ _
    refine l_iload_n rfl rfl ?_
    refine l_icmp_ne rfl rfl (by unfold rg; omega) (by unfold rg; omega) (fun w8 => ?_) (fun w9 => ?_)
    · refine l_iconst rfl ?_
      refine l_ireturn rfl rfl ?_
      exact ⟨rfl, _, rfl, ⟨by omega, by omega⟩, (by first | omega | (intro _; exact x31)), (by unfold msR; rw [← (by assumption : _ = nmR S t m)]; first | rw [if_pos ⟨by omega, by omega⟩] | rw [if_neg (fun q => by omega)])⟩
    · refine l_aload_n rfl rfl ?_
      refine l_gfr rfl rfl rfl rfl rfl (hH.r 904 13 915 rfl) ?_
      refine l_iload rfl rfl ?_
      refine l_iaload (n := 300) rfl rfl (by omega) (by omega) (by unfold rg; omega) ?_
      have w10 : 0 ≤ (Xi S 915 ((z4).toNat)) ∧ (Xi S 915 ((z4).toNat)) ≤ 63 := hH.c _ _
      have x31 : (Xi S 915 ((z4).toNat)) < cM S so := lxm (s := so) hM (k := z4) (by omega) (by omega) (by omega)
      refine l_goto rfl rfl ?_
      refine l_ireturn rfl rfl ?_
      exact ⟨rfl, _, rfl, ⟨by omega, by omega⟩, (by first | omega | (intro _; exact x31)), (by unfold msR; rw [← (by assumption : _ = nmR S t m)]; first | rw [if_pos ⟨by omega, by omega⟩] | rw [if_neg (fun q => by omega)])⟩
abbrev Q_mo_meansRun__2 (S : sS) (n : Nat) (rn : Int) (so : Int) : pst := fun r S1 => S = S1 ∧ (∃ z : Int, r = some (iv z) ∧ (-1 ≤ z ∧ z ≤ 63) ∧ (z ≠ -1 → z < cM S so) ∧ (z = rnR S rn so))
set_option maxRecDepth 100000 in
theorem t_mo_meansRun__2 {S : sS} (hH : HI S) (n : Nat) (rn : Int) (so : Int) (hrn : 0 ≤ rn ∧ rn ≤ 2599) (hso : 0 ≤ so ∧ so ≤ 12) (hT : TK S n) (hv : RNV S n) (hrr : rn < Xi S 904 69) (hM : LXM S) (d : Nat) : Mt lay0 (d + 4) m_mo_meansRun [.ref 904, iv rn, iv so] S (Q_mo_meansRun__2 S n rn so) := by
  refine Mt_R rfl rfl ?_
  have w1 : 0 ≤ Xi S 904 69 ∧ Xi S 904 69 ≤ 2600 := hH.c _ _
  have hn5 := hT.1
  have hq := hv rn.toNat (by omega)
  have hq0 : 0 ≤ Xi S 950 rn.toNat ∧ Xi S 950 rn.toNat ≤ 5010 := hH.c 950 rn.toNat
  have hc69 : 0 ≤ Xi S 904 69 ∧ Xi S 904 69 ≤ 2600 := hH.c _ _
  refine l_aload_n rfl rfl ?_
  refine l_aload_n rfl rfl ?_
  refine l_gfr rfl rfl rfl rfl rfl (hH.r 904 67 950 rfl) ?_
  refine l_iload_n rfl rfl ?_
  refine l_iaload (n := 2600) rfl rfl (by omega) (by omega) (by unfold rg; omega) ?_
  have w2 : 0 ≤ (Xi S 950 ((rn).toNat)) ∧ (Xi S 950 ((rn).toNat)) ≤ 5010 := hH.c _ _
  refine l_aload_n rfl rfl ?_
  refine l_gfr rfl rfl rfl rfl rfl (hH.r 904 68 951 rfl) ?_
  refine l_iload_n rfl rfl ?_
  refine l_iaload (n := 2600) rfl rfl (by omega) (by omega) (by unfold rg; omega) ?_
  have w3 : 0 ≤ (Xi S 951 ((rn).toNat)) ∧ (Xi S 951 ((rn).toNat)) ≤ 5010 := hH.c _ _
  refine l_iload_n rfl rfl ?_
  refine l_callV rfl rfl rfl (t_mo_means__2 hH (Xi S 950 ((rn).toNat)) (Xi S 951 ((rn).toNat)) so ⟨by omega, by omega⟩ ⟨by omega, by omega⟩ ⟨by omega, by omega⟩ (by first | assumption | omega) (by first | assumption | exact (by assumption : LXM S)) _) ?_
  rintro _ _ ⟨rfl, z6, rfl, w6, w4, w5⟩
  show Rl _ _ _ _ _ [iv z6] _ _
  refine l_ireturn rfl rfl ?_
  exact ⟨rfl, _, rfl, ⟨by omega, by omega⟩, (by assumption), (by assumption)⟩
abbrev Q_mo_meansNothing__2 (S : sS) (n : Nat) (rn : Int) : pst := fun r S1 => S = S1 ∧ (∃ z : Int, r = some (iv z) ∧ (0 ≤ z ∧ z ≤ 1) ∧ ((z = 1 → rmR S rn = -1) ∧ (z = 0 → rmR S rn ≠ -1)))
set_option maxRecDepth 100000 in
theorem t_mo_meansNothing__2 {S : sS} (hH : HI S) (n : Nat) (rn : Int) (hrn : 0 ≤ rn ∧ rn ≤ 2599) (hT : TK S n) (hv : RNV S n) (hrr : rn < Xi S 904 69) (d : Nat) : Mt lay0 (d + 3) m_mo_meansNothing [.ref 904, iv rn] S (Q_mo_meansNothing__2 S n rn) := by
  refine Mt_R rfl rfl ?_
  have w1 : 0 ≤ Xi S 904 69 ∧ Xi S 904 69 ≤ 2600 := hH.c _ _
  have hn5 := hT.1
  have hq := hv rn.toNat (by omega)
  have hq0 : 0 ≤ Xi S 950 rn.toNat ∧ Xi S 950 rn.toNat ≤ 5010 := hH.c 950 rn.toNat
  have hc69 : 0 ≤ Xi S 904 69 ∧ Xi S 904 69 ≤ 2600 := hH.c _ _
  refine l_aload_n rfl rfl ?_
  refine l_aload_n rfl rfl ?_
  refine l_gfr rfl rfl rfl rfl rfl (hH.r 904 67 950 rfl) ?_
  refine l_iload_n rfl rfl ?_
  refine l_iaload (n := 2600) rfl rfl (by omega) (by omega) (by unfold rg; omega) ?_
  have w2 : 0 ≤ (Xi S 950 ((rn).toNat)) ∧ (Xi S 950 ((rn).toNat)) ≤ 5010 := hH.c _ _
  refine l_aload_n rfl rfl ?_
  refine l_gfr rfl rfl rfl rfl rfl (hH.r 904 68 951 rfl) ?_
  refine l_iload_n rfl rfl ?_
  refine l_iaload (n := 2600) rfl rfl (by omega) (by omega) (by unfold rg; omega) ?_
  have w3 : 0 ≤ (Xi S 951 ((rn).toNat)) ∧ (Xi S 951 ((rn).toNat)) ≤ 5010 := hH.c _ _
  have w4 : 0 ≤ Xi S 904 15 ∧ Xi S 904 15 ≤ 300 := hH.c _ _
  refine l_callV rfl rfl rfl (t_mo_mean__2 hH (Xi S 950 ((rn).toNat)) (Xi S 951 ((rn).toNat)) ⟨by omega, by omega⟩ ⟨by omega, by omega⟩ (by first | assumption | omega) _) ?_
  rintro _ _ ⟨rfl, z7, rfl, w7, w5, w6⟩
  show Rl _ _ _ _ _ [iv z7] _ _
  refine l_iconst rfl ?_
  refine l_icmp_ne rfl rfl (by unfold rg; omega) (by unfold rg; omega) (fun w8 => ?_) (fun w9 => ?_)
  · refine l_iconst rfl ?_
    refine l_ireturn rfl rfl ?_
    exact ⟨rfl, _, rfl, ⟨by omega, by omega⟩, (by unfold rmR; rw [← (by assumption : _ = nmR S _ _)]; omega)⟩
  · refine l_iconst rfl ?_
    refine l_goto rfl rfl ?_
    refine l_ireturn rfl rfl ?_
    exact ⟨rfl, _, rfl, ⟨by omega, by omega⟩, (by unfold rmR; rw [← (by assumption : _ = nmR S _ _)]; omega)⟩
def md_mo_kindOfRun__2 : List rec := [(904, 905, 104, 105), (904, 905, 105, 106), (904, 905, 106, 107)]
abbrev Q_mo_kindOfRun__2 (S : sS) (n : Nat) (rn : Int) : pst := fun r S1 => HI S1 ∧ FR md_mo_kindOfRun__2 S S1 ∧ (∃ z : Int, r = some (iv z) ∧ (-1 ≤ z ∧ z ≤ 15) ∧ (z ≠ -1 → z < Xi S 904 16) ∧ (z = -1 → Xi S1 904 106 ≠ 0) ∧ (Xi S 904 106 ≠ 0 → Xi S1 904 106 ≠ 0) ∧ (z = rnR S rn 0))
set_option maxRecDepth 100000 in
theorem t_mo_kindOfRun__2 {S : sS} (hH : HI S) (n : Nat) (rn : Int) (hrn : 0 ≤ rn ∧ rn ≤ 2599) (hT : TK S n) (hv : RNV S n) (hrr : rn < Xi S 904 69) (hM : LXM S) (d : Nat) : Mt lay0 (d + 5) m_mo_kindOfRun [.ref 904, iv rn] S (Q_mo_kindOfRun__2 S n rn) := by
  refine Mt_R rfl rfl ?_
  have hF : FR md_mo_kindOfRun__2 S S := FR.rf
  have w1 : 0 ≤ Xi S 904 106 ∧ Xi S 904 106 ≤ 9 := hH.c _ _
  have w2 : 0 ≤ Xi S 904 16 ∧ Xi S 904 16 ≤ 16 := hH.c _ _
  have w3 : 0 ≤ Xi S 904 69 ∧ Xi S 904 69 ≤ 2600 := hH.c _ _
  have hn5 := hT.1
  have hq := hv rn.toNat (by omega)
  have hq0 : 0 ≤ Xi S 950 rn.toNat ∧ Xi S 950 rn.toNat ≤ 5010 := hH.c 950 rn.toNat
  have hc69 : 0 ≤ Xi S 904 69 ∧ Xi S 904 69 ≤ 2600 := hH.c _ _
  have hc16 : 0 ≤ Xi S 904 16 ∧ Xi S 904 16 ≤ 16 := hH.c _ _
  have hc18 : 0 ≤ Xi S 904 18 ∧ Xi S 904 18 ≤ 8 := hH.c _ _
  refine l_aload_n rfl rfl ?_
  refine l_iload_n rfl rfl ?_
  refine l_iconst rfl ?_
  have w4 : 0 ≤ Xi S 904 69 ∧ Xi S 904 69 ≤ 2600 := hH.c _ _
  refine l_callV rfl rfl rfl (t_mo_meansRun__2 hH n rn 0 ⟨by omega, by omega⟩ ⟨by omega, by omega⟩ (by first | assumption | exact (TK_FR hF rfl (by assumption : TK S _))) (by first | assumption | exact (RNV_FR hF rfl (by assumption : RNV S _))) (by first | assumption | omega) (by first | assumption | exact (LXM_FR hF rfl (by assumption : LXM S))) _) ?_
  rintro _ _ ⟨rfl, z7, rfl, w7, w5, w6⟩
  show Rl _ _ _ _ _ [iv z7] _ _
  have x3 : z7 ≠ -1 → z7 < Xi S 904 16 := fun q => by have t := (by assumption : z7 ≠ -1 → z7 < cM S 0) q; rw [cM0] at t; exact t
  refine l_istore_n rfl rfl rfl ?_
  refine l_aload_n rfl rfl ?_
  refine l_iload_n rfl rfl ?_
  refine l_iconst rfl ?_
  refine l_icmp_eq rfl rfl (by unfold rg; omega) (by unfold rg; omega) (fun w8 => ?_) (fun w9 => ?_)
  · refine l_iconst rfl ?_
    refine l_iconst rfl ?_
    refine l_aload_n rfl rfl ?_
    refine l_gfr rfl rfl rfl rfl rfl (hH.r 904 67 950 rfl) ?_
    refine l_iload_n rfl rfl ?_
    refine l_iaload (n := 2600) rfl rfl (by omega) (by omega) (by unfold rg; omega) ?_
    have w10 : 0 ≤ (Xi S 950 ((rn).toNat)) ∧ (Xi S 950 ((rn).toNat)) ≤ 5010 := hH.c _ _
    have w11 : 0 ≤ Xi S 904 106 ∧ Xi S 904 106 ≤ 9 := hH.c _ _
    refine l_callV rfl rfl rfl (t_mo_need hH 0 4 (Xi S 950 ((rn).toNat)) ⟨by omega, by omega⟩ ⟨by omega, by omega⟩ ⟨by omega, by omega⟩ _) ?_
    rintro _ T1 ⟨hHT1, w15, rfl, w12, w13⟩
    have hFT1 : FR md_mo_kindOfRun__2 S T1 := FR.tr hF w15 rfl
    show Rl _ _ _ _ _ [] _ _
    refine l_iload_n rfl rfl ?_
    refine l_ireturn rfl rfl ?_
    have w16 : 0 ≤ Xi T1 904 106 ∧ Xi T1 904 106 ≤ 9 := hHT1.c _ _
    exact ⟨hHT1, hFT1, _, rfl, ⟨by omega, by omega⟩, (by first | assumption | omega), (by first | assumption | omega), (by first | assumption | omega), (by assumption)⟩
  · refine l_iconst rfl ?_
    refine l_goto rfl rfl ?_
    refine l_iconst rfl ?_
    refine l_aload_n rfl rfl ?_
    refine l_gfr rfl rfl rfl rfl rfl (hH.r 904 67 950 rfl) ?_
    refine l_iload_n rfl rfl ?_
    refine l_iaload (n := 2600) rfl rfl (by omega) (by omega) (by unfold rg; omega) ?_
    have w17 : 0 ≤ (Xi S 950 ((rn).toNat)) ∧ (Xi S 950 ((rn).toNat)) ≤ 5010 := hH.c _ _
    have w18 : 0 ≤ Xi S 904 106 ∧ Xi S 904 106 ≤ 9 := hH.c _ _
    refine l_callV rfl rfl rfl (t_mo_need hH 1 4 (Xi S 950 ((rn).toNat)) ⟨by omega, by omega⟩ ⟨by omega, by omega⟩ ⟨by omega, by omega⟩ _) ?_
    rintro _ T2 ⟨hHT2, w22, rfl, w19, w20⟩
    have hFT2 : FR md_mo_kindOfRun__2 S T2 := FR.tr hF w22 rfl
    show Rl _ _ _ _ _ [] _ _
    refine l_iload_n rfl rfl ?_
    refine l_ireturn rfl rfl ?_
    have w23 : 0 ≤ Xi T2 904 106 ∧ Xi T2 904 106 ≤ 9 := hHT2.c _ _
    exact ⟨hHT2, hFT2, _, rfl, ⟨by omega, by omega⟩, (by first | assumption | omega), (by first | assumption | omega), (by first | assumption | omega), (by assumption)⟩
abbrev Q_mo_kindOrPlural__2 (S : sS) (n : Nat) (rn : Int) : pst := fun r S1 => S = S1 ∧ (∃ z : Int, r = some (iv z) ∧ (-1 ≤ z ∧ z ≤ 15) ∧ (z ≠ -1 → z < Xi S 904 16) ∧ (z = r2R S rn 0 1))
set_option maxRecDepth 100000 in
theorem t_mo_kindOrPlural__2 {S : sS} (hH : HI S) (n : Nat) (rn : Int) (hrn : 0 ≤ rn ∧ rn ≤ 2599) (hT : TK S n) (hv : RNV S n) (hrr : rn < Xi S 904 69) (hM : LXM S) (d : Nat) : Mt lay0 (d + 5) m_mo_kindOrPlural [.ref 904, iv rn] S (Q_mo_kindOrPlural__2 S n rn) := by
  refine Mt_R rfl rfl ?_
  have w1 : 0 ≤ Xi S 904 16 ∧ Xi S 904 16 ≤ 16 := hH.c _ _
  have w2 : 0 ≤ Xi S 904 69 ∧ Xi S 904 69 ≤ 2600 := hH.c _ _
  have hn5 := hT.1
  have hq := hv rn.toNat (by omega)
  have hq0 : 0 ≤ Xi S 950 rn.toNat ∧ Xi S 950 rn.toNat ≤ 5010 := hH.c 950 rn.toNat
  have hc69 : 0 ≤ Xi S 904 69 ∧ Xi S 904 69 ≤ 2600 := hH.c _ _
  have hc16 : 0 ≤ Xi S 904 16 ∧ Xi S 904 16 ≤ 16 := hH.c _ _
  have hc18 : 0 ≤ Xi S 904 18 ∧ Xi S 904 18 ≤ 8 := hH.c _ _
  refine l_aload_n rfl rfl ?_
  refine l_iload_n rfl rfl ?_
  refine l_iconst rfl ?_
  have w3 : 0 ≤ Xi S 904 69 ∧ Xi S 904 69 ≤ 2600 := hH.c _ _
  refine l_callV rfl rfl rfl (t_mo_meansRun__2 hH n rn 0 ⟨by omega, by omega⟩ ⟨by omega, by omega⟩ (by first | assumption | exact (by assumption : TK S _)) (by first | assumption | exact (by assumption : RNV S _)) (by first | assumption | omega) (by first | assumption | exact (by assumption : LXM S)) _) ?_
  rintro _ _ ⟨rfl, z6, rfl, w6, w4, w5⟩
  show Rl _ _ _ _ _ [iv z6] _ _
  have x3 : z6 ≠ -1 → z6 < Xi S 904 16 := fun q => by have t := (by assumption : z6 ≠ -1 → z6 < cM S 0) q; rw [cM0] at t; exact t
  refine l_istore_n rfl rfl rfl ?_
  refine l_iload_n rfl rfl ?_
  refine l_iconst rfl ?_
  refine l_icmp_eq rfl rfl (by unfold rg; omega) (by unfold rg; omega) (fun w7 => ?_) (fun w8 => ?_)
  · refine l_aload_n rfl rfl ?_
    refine l_iload_n rfl rfl ?_
    refine l_iconst rfl ?_
    have w9 : 0 ≤ Xi S 904 69 ∧ Xi S 904 69 ≤ 2600 := hH.c _ _
    refine l_callV rfl rfl rfl (t_mo_meansRun__2 hH n rn 1 ⟨by omega, by omega⟩ ⟨by omega, by omega⟩ (by first | assumption | exact (by assumption : TK S _)) (by first | assumption | exact (by assumption : RNV S _)) (by first | assumption | omega) (by first | assumption | exact (by assumption : LXM S)) _) ?_
    rintro _ _ ⟨rfl, z12, rfl, w12, w10, w11⟩
    show Rl _ _ _ _ _ [iv z12] _ _
    have x19 : z12 ≠ -1 → z12 < Xi S 904 16 := fun q => by have t := (by assumption : z12 ≠ -1 → z12 < cM S 1) q; rw [cM1] at t; exact t
    refine l_ireturn rfl rfl ?_
    exact ⟨rfl, _, rfl, ⟨by omega, by omega⟩, (by first | assumption | omega), (by unfold r2R; first | (rw [← (by assumption : _ = rnR S rn 0), if_pos (by omega)]) | (rw [← (by assumption : _ = rnR S rn 0), if_neg (by omega)]; assumption))⟩
  · refine l_iload_n rfl rfl ?_
    refine l_goto rfl rfl ?_
    refine l_ireturn rfl rfl ?_
    exact ⟨rfl, _, rfl, ⟨by omega, by omega⟩, (by first | assumption | omega), (by unfold r2R; first | (rw [← (by assumption : _ = rnR S rn 0), if_pos (by omega)]) | (rw [← (by assumption : _ = rnR S rn 0), if_neg (by omega)]; assumption))⟩
abbrev Q_mo_typeOrPlural__2 (S : sS) (n : Nat) (rn : Int) : pst := fun r S1 => S = S1 ∧ (∃ z : Int, r = some (iv z) ∧ (-1 ≤ z ∧ z ≤ 7) ∧ (z = r2R S rn 2 3))
set_option maxRecDepth 100000 in
theorem t_mo_typeOrPlural__2 {S : sS} (hH : HI S) (n : Nat) (rn : Int) (hrn : 0 ≤ rn ∧ rn ≤ 2599) (hT : TK S n) (hv : RNV S n) (hrr : rn < Xi S 904 69) (hM : LXM S) (d : Nat) : Mt lay0 (d + 5) m_mo_typeOrPlural [.ref 904, iv rn] S (Q_mo_typeOrPlural__2 S n rn) := by
  refine Mt_R rfl rfl ?_
  have w1 : 0 ≤ Xi S 904 69 ∧ Xi S 904 69 ≤ 2600 := hH.c _ _
  have hn5 := hT.1
  have hq := hv rn.toNat (by omega)
  have hq0 : 0 ≤ Xi S 950 rn.toNat ∧ Xi S 950 rn.toNat ≤ 5010 := hH.c 950 rn.toNat
  have hc69 : 0 ≤ Xi S 904 69 ∧ Xi S 904 69 ≤ 2600 := hH.c _ _
  have hc16 : 0 ≤ Xi S 904 16 ∧ Xi S 904 16 ≤ 16 := hH.c _ _
  have hc18 : 0 ≤ Xi S 904 18 ∧ Xi S 904 18 ≤ 8 := hH.c _ _
  refine l_aload_n rfl rfl ?_
  refine l_iload_n rfl rfl ?_
  refine l_iconst rfl ?_
  have w2 : 0 ≤ Xi S 904 69 ∧ Xi S 904 69 ≤ 2600 := hH.c _ _
  refine l_callV rfl rfl rfl (t_mo_meansRun__2 hH n rn 2 ⟨by omega, by omega⟩ ⟨by omega, by omega⟩ (by first | assumption | exact (by assumption : TK S _)) (by first | assumption | exact (by assumption : RNV S _)) (by first | assumption | omega) (by first | assumption | exact (by assumption : LXM S)) _) ?_
  rintro _ _ ⟨rfl, z5, rfl, w5, w3, w4⟩
  show Rl _ _ _ _ _ [iv z5] _ _
  have x3 : z5 ≠ -1 → z5 < Xi S 904 18 := fun q => by have t := (by assumption : z5 ≠ -1 → z5 < cM S 2) q; rw [cM2] at t; exact t
  refine l_istore_n rfl rfl rfl ?_
  refine l_iload_n rfl rfl ?_
  refine l_iconst rfl ?_
  refine l_icmp_eq rfl rfl (by unfold rg; omega) (by unfold rg; omega) (fun w6 => ?_) (fun w7 => ?_)
  · refine l_aload_n rfl rfl ?_
    refine l_iload_n rfl rfl ?_
    refine l_iconst rfl ?_
    have w8 : 0 ≤ Xi S 904 69 ∧ Xi S 904 69 ≤ 2600 := hH.c _ _
    refine l_callV rfl rfl rfl (t_mo_meansRun__2 hH n rn 3 ⟨by omega, by omega⟩ ⟨by omega, by omega⟩ (by first | assumption | exact (by assumption : TK S _)) (by first | assumption | exact (by assumption : RNV S _)) (by first | assumption | omega) (by first | assumption | exact (by assumption : LXM S)) _) ?_
    rintro _ _ ⟨rfl, z11, rfl, w11, w9, w10⟩
    show Rl _ _ _ _ _ [iv z11] _ _
    have x19 : z11 ≠ -1 → z11 < Xi S 904 18 := fun q => by have t := (by assumption : z11 ≠ -1 → z11 < cM S 3) q; rw [cM3] at t; exact t
    refine l_ireturn rfl rfl ?_
    exact ⟨rfl, _, rfl, ⟨by omega, by omega⟩, (by unfold r2R; first | (rw [← (by assumption : _ = rnR S rn 2), if_pos (by omega)]) | (rw [← (by assumption : _ = rnR S rn 2), if_neg (by omega)]; assumption))⟩
  · refine l_iload_n rfl rfl ?_
    refine l_goto rfl rfl ?_
    refine l_ireturn rfl rfl ?_
    exact ⟨rfl, _, rfl, ⟨by omega, by omega⟩, (by unfold r2R; first | (rw [← (by assumption : _ = rnR S rn 2), if_pos (by omega)]) | (rw [← (by assumption : _ = rnR S rn 2), if_neg (by omega)]; assumption))⟩
/-! SAFETY of the reference: new names -/
def alK (S : sS) (r s : Int) (m : Nat) : Prop := ∀ k : Int, 0 ≤ k → k < m → Xj S 910 (Xi S 950 r.toNat + k).toNat = Xj S 910 (Xi S 950 s.toNat + k).toNat
def alR (S : sS) (r s : Int) : Prop := Xi S 951 r.toNat = Xi S 951 s.toNat ∧ ∀ k : Int, 0 ≤ k → k < Xi S 951 r.toNat → Xj S 910 (Xi S 950 r.toNat + k).toNat = Xj S 910 (Xi S 950 s.toNat + k).toNat
theorem alK_0 {S : sS} {r s : Int} : alK S r s (0 : Int).toNat := fun k a b => absurd b (by omega)
theorem alK_s {S : sS} {r s v : Int} (h : alK S r s v.toNat) (h0 : 0 ≤ v) (e : Xj S 910 (Xi S 950 r.toNat + v).toNat = Xj S 910 (Xi S 950 s.toNat + v).toNat) : alK S r s (v + 1).toNat := fun k a b => by
  rcases (by omega : k < v ∨ k = v) with q | q
  · exact h k a (by omega)
  · rw [q]; exact e
def nwR (S : sS) (r : Int) : Prop := Xi S 951 r.toNat ≤ 3 ∧ rmR S r = -1 ∧ ∀ k : Nat, (k : Int) < Xi S 904 108 → ¬ alR S r (Xi S 966 k)
/-- how many of the first runs of the list mean nothing of that sort -/
noncomputable def cnR (S : sS) (f s : Int) : Nat → Int
  | 0 => 0
  | m + 1 => cnR S f s m + (if rnR S (f + m) s = -1 then 1 else 0)
theorem cnR_s {S : sS} {f s v : Int} (h0 : 0 ≤ v) : cnR S f s (v + 1).toNat = cnR S f s v.toNat + (if rnR S (f + v) s = -1 then 1 else 0) := by
  rw [show (v + 1).toNat = v.toNat + 1 by omega]
  show cnR S f s v.toNat + (if rnR S (f + (v.toNat : Int)) s = -1 then 1 else 0) = _
  rw [show ((v.toNat : Nat) : Int) = v by omega]
/-- the new objects of the list find room -/
def ON (S : sS) (a v : Int) : Prop := a = Xi S 904 19 + cnR S (Xi S 904 71) 4 v.toNat ∧ ∀ i : Int, 0 ≤ i → i < v → rnR S (Xi S 904 71 + i) 4 = -1 → Xi S 951 (Xi S 904 71 + i).toNat ≤ 3 ∧ Xi S 904 19 + cnR S (Xi S 904 71) 4 i.toNat < 24
def ONA (S : sS) : Prop := ∃ a, ON S a (Xi S 904 72)
theorem on_0 {S : sS} : ON S (Xi S 904 19) 0 := ⟨(Int.add_zero _).symm, fun i a b => absurd b (by omega)⟩
theorem on_skip {S : sS} {a v : Int} (h : ON S a v) (h0 : 0 ≤ v) (hn : rnR S (Xi S 904 71 + v) 4 ≠ -1) : ON S a (v + 1) := by
  refine ⟨?_, fun i x y z => ?_⟩
  · rw [cnR_s h0, if_neg hn]; have := h.1; omega
  · rcases (by omega : i < v ∨ i = v) with q | q
    · exact h.2 i x q z
    · rw [q] at z; exact absurd z hn
theorem on_new {S : sS} {a v : Int} (h : ON S a v) (h0 : 0 ≤ v) (hn : rnR S (Xi S 904 71 + v) 4 = -1) (h3 : Xi S 951 (Xi S 904 71 + v).toNat ≤ 3) (hl : a < 24) : ON S (a + 1) (v + 1) := by
  refine ⟨?_, fun i x y z => ?_⟩
  · rw [cnR_s h0, if_pos hn]; have := h.1; omega
  · rcases (by omega : i < v ∨ i = v) with q | q
    · exact h.2 i x q z
    · rw [q]; exact ⟨h3, by have := h.1; omega⟩
abbrev Q_mo_isAlike__2 (S : sS) (n : Nat) (r1 : Int) (s1 : Int) : pst := fun r S1 => S = S1 ∧ (∃ z : Int, r = some (iv z) ∧ (0 ≤ z ∧ z ≤ 1) ∧ ((z = 1 → alR S r1 s1) ∧ (z = 0 → ¬ alR S r1 s1)))
set_option maxRecDepth 100000 in
theorem t_mo_isAlike__2 {S : sS} (hH : HI S) (n : Nat) (r1 : Int) (s1 : Int) (hr1 : 0 ≤ r1 ∧ r1 ≤ 2599) (hs1 : 0 ≤ s1 ∧ s1 ≤ 2599) (hT : TK S n) (hv : RNV S n) (hr : r1 < Xi S 904 69) (hs : s1 < Xi S 904 69) (d : Nat) : Mt lay0 (d + 1) m_mo_isAlike [.ref 904, iv r1, iv s1] S (Q_mo_isAlike__2 S n r1 s1) := by
  refine Mt_R rfl rfl ?_
  have w1 : 0 ≤ Xi S 904 69 ∧ Xi S 904 69 ≤ 2600 := hH.c _ _
  have hn5 := hT.1
  have hq1 := hv r1.toNat (by omega)
  have hq2 := hv s1.toNat (by omega)
  have h1 : 0 ≤ Xi S 950 r1.toNat ∧ Xi S 950 r1.toNat ≤ 5010 := hH.c 950 r1.toNat
  have h2 : 0 ≤ Xi S 950 s1.toNat ∧ Xi S 950 s1.toNat ≤ 5010 := hH.c 950 s1.toNat
  have C24 : ∀ (n24 : Nat) (v3 : Int) (v4 : Int), (0 ≤ v3 ∧ v3 ≤ 1) → (0 ≤ v4 ∧ v4 ≤ 5010) → (v3 ≠ 0 → Xi S 951 r1.toNat = Xi S 951 s1.toNat) → (v4 ≤ Xi S 951 r1.toNat) → (v3 ≠ 0 → alK S r1 s1 (v4).toNat) → (v3 = 0 → ¬ alR S r1 s1) → n24 = (5012 - v4).toNat → Rl lay0 (d + 0) m_mo_isAlike 24 [(0, .ref 904), (1, iv r1), (2, iv s1), (3, iv v3), (4, iv v4)] [] S (Q_mo_isAlike__2 S n r1 s1) := by
    intro n24
    induction n24 using Nat.strongRecOn with
    | ind n24 ih24 =>
      intro v3 v4 w2 w3 w4 w5 E24 F24 hm24
      have C83 : ∀  (v3 : Int), (0 ≤ v3 ∧ v3 ≤ 1) → (v3 = 1 → alR S r1 s1) → (v3 = 0 → ¬ alR S r1 s1) → Rl lay0 (d + 0) m_mo_isAlike 83 [(3, iv v3)] [] S (Q_mo_isAlike__2 S n r1 s1) := by
        intro v3 w6 E83 F83
        refine l_iload_n rfl rfl ?_
        refine l_ireturn rfl (retI_z (by omega)) ?_
        exact ⟨rfl, _, rfl, ⟨by omega, by omega⟩, (⟨E83, F83⟩)⟩
      refine l_iload rfl rfl ?_
      refine l_aload_n rfl rfl ?_
      refine l_gfr rfl rfl rfl rfl rfl (hH.r 904 68 951 rfl) ?_
      refine l_iload_n rfl rfl ?_
      refine l_iaload (n := 2600) rfl rfl (by omega) (by omega) (by unfold rg; omega) ?_
      have w7 : 0 ≤ (Xi S 951 ((r1).toNat)) ∧ (Xi S 951 ((r1).toNat)) ≤ 5010 := hH.c _ _
      refine l_icmp_ge rfl rfl (by unfold rg; omega) (by unfold rg; omega) (fun w8 => ?_) (fun w9 => ?_)
      · exact Rl_weak (C83 (v3) (by omega) (by first | exact fun q => absurd q (by omega) | exact fun q => ⟨by omega, fun k a b => E24 (by omega) k a (by omega)⟩) (F24)) (And.intro rfl (True.intro))
      · refine l_iload_n rfl rfl ?_
        refine l_if_eq rfl rfl (by unfold rg; omega) (fun w10 => ?_) (fun w11 => ?_)
        · exact Rl_weak (C83 (v3) (by omega) (by first | exact fun q => absurd q (by omega) | exact fun q => ⟨by omega, fun k a b => E24 (by omega) k a (by omega)⟩) (F24)) (And.intro rfl (True.intro))
        · refine l_aload_n rfl rfl ?_
          refine l_gfr rfl rfl rfl rfl rfl (hH.r 904 7 910 rfl) ?_
          refine l_aload_n rfl rfl ?_
          refine l_gfr rfl rfl rfl rfl rfl (hH.r 904 67 950 rfl) ?_
          refine l_iload_n rfl rfl ?_
          refine l_iaload (n := 2600) rfl rfl (by omega) (by omega) (by unfold rg; omega) ?_
          have w12 : 0 ≤ (Xi S 950 ((r1).toNat)) ∧ (Xi S 950 ((r1).toNat)) ≤ 5010 := hH.c _ _
          refine l_iload rfl rfl ?_
          refine l_iadd rfl ?_
          refine l_laload (n := 5002) rfl rfl (by omega) (by omega) (by unfold rg; omega) ?_
          have w13 : -9223372036854775808 ≤ (Xj S 910 ((((Xi S 950 ((r1).toNat)) + v4)).toNat)) ∧ (Xj S 910 ((((Xi S 950 ((r1).toNat)) + v4)).toNat)) < 9223372036854775808 := Xj_rg
          refine l_aload_n rfl rfl ?_
          refine l_gfr rfl rfl rfl rfl rfl (hH.r 904 7 910 rfl) ?_
          refine l_aload_n rfl rfl ?_
          refine l_gfr rfl rfl rfl rfl rfl (hH.r 904 67 950 rfl) ?_
          refine l_iload_n rfl rfl ?_
          refine l_iaload (n := 2600) rfl rfl (by omega) (by omega) (by unfold rg; omega) ?_
          have w14 : 0 ≤ (Xi S 950 ((s1).toNat)) ∧ (Xi S 950 ((s1).toNat)) ≤ 5010 := hH.c _ _
          refine l_iload rfl rfl ?_
          refine l_iadd rfl ?_
          refine l_laload (n := 5002) rfl rfl (by omega) (by omega) (by unfold rg; omega) ?_
          have w15 : -9223372036854775808 ≤ (Xj S 910 ((((Xi S 950 ((s1).toNat)) + v4)).toNat)) ∧ (Xj S 910 ((((Xi S 950 ((s1).toNat)) + v4)).toNat)) < 9223372036854775808 := Xj_rg
          refine l_lcmp rfl (by unfold rgL; omega) (by unfold rgL; omega) (fun c16 w16 w16a w16b w16c => ?_)
          refine l_if_ne rfl rfl (by unfold rg; omega) (fun w17 => ?_) (fun w18 => ?_)
          · refine l_iconst rfl ?_
            refine l_istore_n rfl rfl rfl ?_
            refine l_iinc rfl rfl rfl rfl ?_
            refine l_goto rfl rfl ?_
            exact Rl_weak (ih24 _ (by omega) (0) ((v4 + 1)) (by omega) (by omega) (by omega) (by omega) (by first | exact fun _ => alK_0 | exact fun q => alK_s (E24 (by omega)) (by omega) (by omega) | exact fun q => absurd q (by omega)) (by first | exact fun q => absurd q (by omega) | exact fun q h => absurd h.1 (by omega) | exact fun q h => absurd (h.2 (v4) (by omega) (by omega)) (by omega)) rfl) (And.intro rfl (And.intro rfl (And.intro rfl (And.intro rfl (And.intro rfl (True.intro))))))
          · refine l_iconst rfl ?_
            refine l_goto rfl rfl ?_
            refine l_istore_n rfl rfl rfl ?_
            refine l_iinc rfl rfl rfl rfl ?_
            refine l_goto rfl rfl ?_
            exact Rl_weak (ih24 _ (by omega) (1) ((v4 + 1)) (by omega) (by omega) (by omega) (by omega) (by first | exact fun _ => alK_0 | exact fun q => alK_s (E24 (by omega)) (by omega) (by omega) | exact fun q => absurd q (by omega)) (by first | exact fun q => absurd q (by omega) | exact fun q h => absurd h.1 (by omega) | exact fun q h => absurd (h.2 (v4) (by omega) (by omega)) (by omega)) rfl) (And.intro rfl (And.intro rfl (And.intro rfl (And.intro rfl (And.intro rfl (True.intro))))))
  refine l_aload_n rfl rfl ?_
  refine l_gfr rfl rfl rfl rfl rfl (hH.r 904 68 951 rfl) ?_
  refine l_iload_n rfl rfl ?_
  refine l_iaload (n := 2600) rfl rfl (by omega) (by omega) (by unfold rg; omega) ?_
  have w19 : 0 ≤ (Xi S 951 ((r1).toNat)) ∧ (Xi S 951 ((r1).toNat)) ≤ 5010 := hH.c _ _
  refine l_aload_n rfl rfl ?_
  refine l_gfr rfl rfl rfl rfl rfl (hH.r 904 68 951 rfl) ?_
  refine l_iload_n rfl rfl ?_
  refine l_iaload (n := 2600) rfl rfl (by omega) (by omega) (by unfold rg; omega) ?_
  have w20 : 0 ≤ (Xi S 951 ((s1).toNat)) ∧ (Xi S 951 ((s1).toNat)) ≤ 5010 := hH.c _ _
  refine l_icmp_ne rfl rfl (by unfold rg; omega) (by unfold rg; omega) (fun w21 => ?_) (fun w22 => ?_)
  · refine l_iconst rfl ?_
    refine l_istore_n rfl rfl rfl ?_
    refine l_iconst rfl ?_
    refine l_istore rfl rfl rfl ?_
    exact Rl_weak (C24 _ (0) (0) (by omega) (by omega) (by omega) (by omega) (by first | exact fun _ => alK_0 | exact fun q => alK_s (E24 (by omega)) (by omega) (by omega) | exact fun q => absurd q (by omega)) (by first | exact fun q => absurd q (by omega) | exact fun q h => absurd h.1 (by omega) | exact fun q h => absurd (h.2 (v4) (by omega) (by omega)) (by omega)) rfl) (And.intro rfl (And.intro rfl (And.intro rfl (And.intro rfl (And.intro rfl (True.intro))))))
  · refine l_iconst rfl ?_
    refine l_goto rfl rfl ?_
    refine l_istore_n rfl rfl rfl ?_
    refine l_iconst rfl ?_
    refine l_istore rfl rfl rfl ?_
    exact Rl_weak (C24 _ (1) (0) (by omega) (by omega) (by omega) (by omega) (by first | exact fun _ => alK_0 | exact fun q => alK_s (E24 (by omega)) (by omega) (by omega) | exact fun q => absurd q (by omega)) (by first | exact fun q => absurd q (by omega) | exact fun q h => absurd h.1 (by omega) | exact fun q h => absurd (h.2 (v4) (by omega) (by omega)) (by omega)) rfl) (And.intro rfl (And.intro rfl (And.intro rfl (And.intro rfl (And.intro rfl (True.intro))))))
abbrev Q_mo_isNew (S : sS) (n : Nat) (rn : Int) : pst := fun r S1 => S = S1 ∧ (∃ z : Int, r = some (iv z) ∧ (0 ≤ z ∧ z ≤ 1) ∧ ((z = 1 → nwR S rn) ∧ (z = 0 → ¬ nwR S rn)))
set_option maxRecDepth 100000 in
theorem t_mo_isNew {S : sS} (hH : HI S) (n : Nat) (rn : Int) (hrn : 0 ≤ rn ∧ rn ≤ 2599) (hT : TK S n) (hv : RNV S n) (hrr : rn < Xi S 904 69) (hN : NWV S) (d : Nat) : Mt lay0 (d + 3) m_mo_isNew [.ref 904, iv rn] S (Q_mo_isNew S n rn) := by
  refine Mt_R rfl rfl ?_
  have w1 : 0 ≤ Xi S 904 69 ∧ Xi S 904 69 ≤ 2600 := hH.c _ _
  have hn5 := hT.1
  have hq := hv rn.toNat (by omega)
  have hq0 : 0 ≤ Xi S 950 rn.toNat ∧ Xi S 950 rn.toNat ≤ 5010 := hH.c 950 rn.toNat
  have hc69 : 0 ≤ Xi S 904 69 ∧ Xi S 904 69 ≤ 2600 := hH.c _ _
  have C38 : ∀ (n38 : Nat) (v2 : Int) (v3 : Int), (0 ≤ v2 ∧ v2 ≤ 1) → (0 ≤ v3 ∧ v3 ≤ 2600) → (v2 = 1 → (Xi S 951 rn.toNat ≤ 3 ∧ rmR S rn = -1) ∧ ∀ k : Nat, (k : Int) < v3 → ¬ alR S rn (Xi S 966 k)) → (v2 = 0 → ¬ nwR S rn) → n38 = (2601 - v3).toNat → Rl lay0 (d + 2) m_mo_isNew 38 [(0, .ref 904), (1, iv rn), (2, iv v2), (3, iv v3)] [] S (Q_mo_isNew S n rn) := by
    intro n38
    induction n38 using Nat.strongRecOn with
    | ind n38 ih38 =>
      intro v2 v3 w2 w3 E38 F38 hm38
      have C76 : ∀  (v2 : Int), (0 ≤ v2 ∧ v2 ≤ 1) → (v2 = 1 → nwR S rn) → (v2 = 0 → ¬ nwR S rn) → Rl lay0 (d + 2) m_mo_isNew 76 [(2, iv v2)] [] S (Q_mo_isNew S n rn) := by
        intro v2 w4 E76 F76
        refine l_iload_n rfl rfl ?_
        refine l_ireturn rfl (retI_z (by omega)) ?_
        exact ⟨rfl, _, rfl, ⟨by omega, by omega⟩, (⟨E76, F76⟩)⟩
      refine l_iload_n rfl rfl ?_
      refine l_aload_n rfl rfl ?_
      refine l_gfi rfl rfl rfl rfl rfl ?_
      have w5 : 0 ≤ (Xi S 904 108) ∧ (Xi S 904 108) ≤ 2600 := hH.c _ _
      refine l_icmp_ge rfl rfl (by unfold rg; omega) (by unfold rg; omega) (fun w6 => ?_) (fun w7 => ?_)
      · exact Rl_weak (C76 (v2) (by omega) (fun q => ⟨(E38 q).1.1, (E38 q).1.2, fun k hk => (E38 q).2 k (by omega)⟩) (F38)) (And.intro rfl (True.intro))
      · refine l_iload_n rfl rfl ?_
        refine l_if_eq rfl rfl (by unfold rg; omega) (fun w8 => ?_) (fun w9 => ?_)
        · exact Rl_weak (C76 (v2) (by omega) (fun q => ⟨(E38 q).1.1, (E38 q).1.2, fun k hk => (E38 q).2 k (by omega)⟩) (F38)) (And.intro rfl (True.intro))
        · refine l_aload_n rfl rfl ?_
          refine l_iload_n rfl rfl ?_
          refine l_aload_n rfl rfl ?_
          refine l_gfr rfl rfl rfl rfl rfl (hH.r 904 107 966 rfl) ?_
          refine l_iload_n rfl rfl ?_
          refine l_iaload (n := 2600) rfl rfl (by omega) (by omega) (by unfold rg; omega) ?_
          have w10 : 0 ≤ (Xi S 966 ((v3).toNat)) ∧ (Xi S 966 ((v3).toNat)) ≤ 2600 := hH.c _ _
          have q57 : (Xi S 966 ((v3).toNat)) < Xi S 904 69 := hN (v3).toNat (by omega)
          have w11 : 0 ≤ Xi S 904 69 ∧ Xi S 904 69 ≤ 2600 := hH.c _ _
          refine l_callV rfl rfl rfl (t_mo_isAlike__2 hH n rn (Xi S 966 ((v3).toNat)) ⟨by omega, by omega⟩ ⟨by omega, by omega⟩ (by first | assumption | exact (by assumption : TK S _)) (by first | assumption | exact (by assumption : RNV S _)) (by first | assumption | omega) (by first | assumption | omega) _) ?_
          rintro _ _ ⟨rfl, z13, rfl, w13, w12⟩
          show Rl _ _ _ _ _ [iv z13] _ _
          have f58 : (z13 = 1 → alR S rn (Xi S 966 (v3).toNat)) ∧ (z13 = 0 → ¬ alR S rn (Xi S 966 (v3).toNat)) := by assumption
          refine l_if_ne rfl rfl (by unfold rg; omega) (fun w14 => ?_) (fun w15 => ?_)
          · refine l_iconst rfl ?_
            refine l_istore_n rfl rfl rfl ?_
            refine l_iinc rfl rfl rfl rfl ?_
            refine l_goto rfl rfl ?_
            exact Rl_weak (ih38 _ (by omega) (0) ((v3 + 1)) (by omega) (by omega) (by first | exact fun q => absurd q (by omega) | exact fun q => ⟨⟨by omega, by omega⟩, fun k hk => absurd hk (by omega)⟩ | exact fun q => ⟨(E38 (by omega)).1, fun k hk => (Int.lt_or_le (k : Int) v3).elim (fun h => (E38 (by omega)).2 k h) (fun h => by rw [show k = (v3).toNat by omega]; exact f58.2 (by omega))⟩) (by first | exact fun q => absurd q (by omega) | exact fun q h => h.2.2 (v3).toNat (by omega) (f58.1 (by omega)) | exact fun q h => absurd h.1 (by omega) | exact fun q h => absurd h.2.1 (by omega)) rfl) (And.intro rfl (And.intro rfl (And.intro rfl (And.intro rfl (True.intro)))))
          · refine l_iconst rfl ?_
            refine l_goto rfl rfl ?_
            refine l_istore_n rfl rfl rfl ?_
            refine l_iinc rfl rfl rfl rfl ?_
            refine l_goto rfl rfl ?_
            exact Rl_weak (ih38 _ (by omega) (1) ((v3 + 1)) (by omega) (by omega) (by first | exact fun q => absurd q (by omega) | exact fun q => ⟨⟨by omega, by omega⟩, fun k hk => absurd hk (by omega)⟩ | exact fun q => ⟨(E38 (by omega)).1, fun k hk => (Int.lt_or_le (k : Int) v3).elim (fun h => (E38 (by omega)).2 k h) (fun h => by rw [show k = (v3).toNat by omega]; exact f58.2 (by omega))⟩) (by first | exact fun q => absurd q (by omega) | exact fun q h => h.2.2 (v3).toNat (by omega) (f58.1 (by omega)) | exact fun q h => absurd h.1 (by omega) | exact fun q h => absurd h.2.1 (by omega)) rfl) (And.intro rfl (And.intro rfl (And.intro rfl (And.intro rfl (True.intro)))))
  refine l_aload_n rfl rfl ?_
  refine l_gfr rfl rfl rfl rfl rfl (hH.r 904 68 951 rfl) ?_
  refine l_iload_n rfl rfl ?_
  refine l_iaload (n := 2600) rfl rfl (by omega) (by omega) (by unfold rg; omega) ?_
  have w16 : 0 ≤ (Xi S 951 ((rn).toNat)) ∧ (Xi S 951 ((rn).toNat)) ≤ 5010 := hH.c _ _
  refine l_iconst rfl ?_
  refine l_icmp_gt rfl rfl (by unfold rg; omega) (by unfold rg; omega) (fun w17 => ?_) (fun w18 => ?_)
  · refine l_iconst rfl ?_
    refine l_istore_n rfl rfl rfl ?_
    refine l_iconst rfl ?_
    refine l_istore_n rfl rfl rfl ?_
    exact Rl_weak (C38 _ (0) (0) (by omega) (by omega) (by first | exact fun q => absurd q (by omega) | exact fun q => ⟨⟨by omega, by omega⟩, fun k hk => absurd hk (by omega)⟩ | exact fun q => ⟨(E38 (by omega)).1, fun k hk => (Int.lt_or_le (k : Int) v3).elim (fun h => (E38 (by omega)).2 k h) (fun h => by rw [show k = (v3).toNat by omega]; exact f58.2 (by omega))⟩) (by first | exact fun q => absurd q (by omega) | exact fun q h => h.2.2 (v3).toNat (by omega) (f58.1 (by omega)) | exact fun q h => absurd h.1 (by omega) | exact fun q h => absurd h.2.1 (by omega)) rfl) (And.intro rfl (And.intro rfl (And.intro rfl (And.intro rfl (True.intro)))))
  · refine l_aload_n rfl rfl ?_
    refine l_aload_n rfl rfl ?_
    refine l_gfr rfl rfl rfl rfl rfl (hH.r 904 67 950 rfl) ?_
    refine l_iload_n rfl rfl ?_
    refine l_iaload (n := 2600) rfl rfl (by omega) (by omega) (by unfold rg; omega) ?_
    have w19 : 0 ≤ (Xi S 950 ((rn).toNat)) ∧ (Xi S 950 ((rn).toNat)) ≤ 5010 := hH.c _ _
    refine l_aload_n rfl rfl ?_
    refine l_gfr rfl rfl rfl rfl rfl (hH.r 904 68 951 rfl) ?_
    refine l_iload_n rfl rfl ?_
    refine l_iaload (n := 2600) rfl rfl (by omega) (by omega) (by unfold rg; omega) ?_
    have w20 : 0 ≤ Xi S 904 15 ∧ Xi S 904 15 ≤ 300 := hH.c _ _
    refine l_callV rfl rfl rfl (t_mo_mean__2 hH (Xi S 950 ((rn).toNat)) (Xi S 951 ((rn).toNat)) ⟨by omega, by omega⟩ ⟨by omega, by omega⟩ (by first | assumption | omega) _) ?_
    rintro _ _ ⟨rfl, z23, rfl, w23, w21, w22⟩
    show Rl _ _ _ _ _ [iv z23] _ _
    have m23 : z23 = rmR S rn := by assumption
    refine l_iconst rfl ?_
    refine l_icmp_ne rfl rfl (by unfold rg; omega) (by unfold rg; omega) (fun w24 => ?_) (fun w25 => ?_)
    · refine l_iconst rfl ?_
      refine l_istore_n rfl rfl rfl ?_
      refine l_iconst rfl ?_
      refine l_istore_n rfl rfl rfl ?_
      exact Rl_weak (C38 _ (0) (0) (by omega) (by omega) (by first | exact fun q => absurd q (by omega) | exact fun q => ⟨⟨by omega, by omega⟩, fun k hk => absurd hk (by omega)⟩ | exact fun q => ⟨(E38 (by omega)).1, fun k hk => (Int.lt_or_le (k : Int) v3).elim (fun h => (E38 (by omega)).2 k h) (fun h => by rw [show k = (v3).toNat by omega]; exact f58.2 (by omega))⟩) (by first | exact fun q => absurd q (by omega) | exact fun q h => h.2.2 (v3).toNat (by omega) (f58.1 (by omega)) | exact fun q h => absurd h.1 (by omega) | exact fun q h => absurd h.2.1 (by omega)) rfl) (And.intro rfl (And.intro rfl (And.intro rfl (And.intro rfl (True.intro)))))
    · refine l_iconst rfl ?_
      refine l_goto rfl rfl ?_
      refine l_istore_n rfl rfl rfl ?_
      refine l_iconst rfl ?_
      refine l_istore_n rfl rfl rfl ?_
      exact Rl_weak (C38 _ (1) (0) (by omega) (by omega) (by first | exact fun q => absurd q (by omega) | exact fun q => ⟨⟨by omega, by omega⟩, fun k hk => absurd hk (by omega)⟩ | exact fun q => ⟨(E38 (by omega)).1, fun k hk => (Int.lt_or_le (k : Int) v3).elim (fun h => (E38 (by omega)).2 k h) (fun h => by rw [show k = (v3).toNat by omega]; exact f58.2 (by omega))⟩) (by first | exact fun q => absurd q (by omega) | exact fun q h => h.2.2 (v3).toNat (by omega) (f58.1 (by omega)) | exact fun q h => absurd h.1 (by omega) | exact fun q h => absurd h.2.1 (by omega)) rfl) (And.intro rfl (And.intro rfl (And.intro rfl (And.intro rfl (True.intro)))))
theorem nwv_add {P U1 U2 : sS} {m r y : Int} {j : Nat} (k : ∀ i : Nat, (i : Int) < m → Xi U1 966 i < r) (e1 : U1 = uI P 966 j (Int32.ofInt y)) (e2 : U2 = uI U1 904 108 (Int32.ofInt (m + 1))) (hj : (j : Int) = m) (hy : 0 ≤ y ∧ y ≤ 2600) (hr : y < r) (hU : Xi U2 904 69 = r) (hm : m ≤ 2600) (h0 : 0 ≤ m) : NWV U2 := fun i hi => by
  have x : Xi U2 904 108 = m + 1 := by rw [e2]; exact Xi_same ⟨by omega, by omega⟩
  rw [x] at hi
  rw [hU]
  have y1 : Xi U2 966 i = Xi U1 966 i := by rw [e2, Xi_ne (by omega)]
  rw [y1]
  rcases (by omega : (i : Int) < m ∨ i = j) with q | q
  · exact k i q
  · rw [q, e1, Xi_same ⟨by omega, by omega⟩]; exact hr
def md_mo_mustBeNew : List rec := [(904, 905, 104, 105), (904, 905, 105, 106), (904, 905, 106, 107), (904, 905, 108, 109), (966, 967, 0, 100000)]
abbrev Q_mo_mustBeNew (S : sS) (n : Nat) (rn : Int) (there : Int) (most : Int) : pst := fun r S1 => HI S1 ∧ FR md_mo_mustBeNew S S1 ∧ (r = none ∧ (Xi S 904 106 ≠ 0 → Xi S1 904 106 ≠ 0) ∧ (Xi S1 904 106 = 0 → there < most ∧ nwR S rn) ∧ (NWV S1) ∧ (Xi S 904 108 ≤ Xi S1 904 108 ∧ Xi S1 904 108 ≤ Xi S 904 108 + 1))
set_option maxRecDepth 100000 in
theorem t_mo_mustBeNew {S : sS} (hH : HI S) (n : Nat) (rn : Int) (there : Int) (most : Int) (hrn : 0 ≤ rn ∧ rn ≤ 2599) (hthere : -2147483648 ≤ there ∧ there ≤ 2147483647) (hmost : -2147483648 ≤ most ∧ most ≤ 2147483647) (hT : TK S n) (hv : RNV S n) (hrr : rn < Xi S 904 69) (hN : NWV S) (h9 : Xi S 904 108 ≤ 2599) (d : Nat) : Mt lay0 (d + 4) m_mo_mustBeNew [.ref 904, iv rn, iv there, iv most] S (Q_mo_mustBeNew S n rn there most) := by
  refine Mt_R rfl rfl ?_
  have hF : FR md_mo_mustBeNew S S := FR.rf
  have w1 : 0 ≤ Xi S 904 106 ∧ Xi S 904 106 ≤ 9 := hH.c _ _
  have w2 : 0 ≤ Xi S 904 108 ∧ Xi S 904 108 ≤ 2600 := hH.c _ _
  have w3 : 0 ≤ Xi S 904 69 ∧ Xi S 904 69 ≤ 2600 := hH.c _ _
  have hn5 := hT.1
  have hq := hv rn.toNat (by omega)
  have hq0 : 0 ≤ Xi S 950 rn.toNat ∧ Xi S 950 rn.toNat ≤ 5010 := hH.c 950 rn.toNat
  have hc69 : 0 ≤ Xi S 904 69 ∧ Xi S 904 69 ≤ 2600 := hH.c _ _
  refine l_aload_n rfl rfl ?_
  refine l_iload_n rfl rfl ?_
  have w4 : 0 ≤ Xi S 904 106 ∧ Xi S 904 106 ≤ 9 := hH.c _ _
  have w5 : 0 ≤ Xi S 904 108 ∧ Xi S 904 108 ≤ 2600 := hH.c _ _
  have w6 : 0 ≤ Xi S 904 69 ∧ Xi S 904 69 ≤ 2600 := hH.c _ _
  refine l_callV rfl rfl rfl (t_mo_isNew hH n rn ⟨by omega, by omega⟩ (by first | assumption | exact (TK_FR hF rfl (by assumption : TK S _))) (by first | assumption | exact (RNV_FR hF rfl (by assumption : RNV S _))) (by first | assumption | omega) (by first | assumption | exact (by assumption : NWV S)) _) ?_
  rintro _ _ ⟨rfl, z7, rfl, w7, f2⟩
  show Rl _ _ _ _ _ [iv z7] _ _
  refine l_if_eq rfl rfl (by unfold rg; omega) (fun w8 => ?_) (fun w9 => ?_)
  · refine l_aload_n rfl rfl ?_
    refine l_iconst rfl ?_
    refine l_aload_n rfl rfl ?_
    refine l_gfr rfl rfl rfl rfl rfl (hH.r 904 67 950 rfl) ?_
    refine l_iload_n rfl rfl ?_
    refine l_iaload (n := 2600) rfl rfl (by omega) (by omega) (by unfold rg; omega) ?_
    have w10 : 0 ≤ (Xi S 950 ((rn).toNat)) ∧ (Xi S 950 ((rn).toNat)) ≤ 5010 := hH.c _ _
    have w11 : 0 ≤ Xi S 904 106 ∧ Xi S 904 106 ≤ 9 := hH.c _ _
    have w12 : 0 ≤ Xi S 904 108 ∧ Xi S 904 108 ≤ 2600 := hH.c _ _
    have w13 : 0 ≤ Xi S 904 69 ∧ Xi S 904 69 ≤ 2600 := hH.c _ _
    refine l_callV rfl rfl rfl (t_mo_note hH 3 (Xi S 950 ((rn).toNat)) ⟨by omega, by omega⟩ ⟨by omega, by omega⟩ _) ?_
    rintro _ T1 ⟨hHT1, w16, rfl, w14⟩
    have hFT1 : FR md_mo_mustBeNew S T1 := FR.tr hF w16 rfl
    show Rl _ _ _ _ _ [] _ _
    refine l_return rfl rfl ?_
    have w17 : 0 ≤ Xi T1 904 106 ∧ Xi T1 904 106 ≤ 9 := hHT1.c _ _
    have w18 : Xi T1 904 108 = Xi S 904 108 := (show Xi T1 904 108 = Xi S 904 108 from w16.x _ _ rfl)
    have w19 : 0 ≤ Xi S 904 108 ∧ Xi S 904 108 ≤ 2600 := hH.c _ _
    have w20 : Xi T1 904 69 = Xi S 904 69 := (show Xi T1 904 69 = Xi S 904 69 from w16.x _ _ rfl)
    have w21 : 0 ≤ Xi S 904 69 ∧ Xi S 904 69 ≤ 2600 := hH.c _ _
    exact ⟨hHT1, hFT1, rfl, (by omega), (fun q => by first | exact ⟨by omega, f2.1 (by omega)⟩ | (exfalso; omega)), (by first | exact N47 | exact NWV_FR (by assumption : FR md_mo_note S T1) rfl hN), (by omega)⟩
  · refine l_aload_n rfl rfl ?_
    refine l_iload_n rfl rfl ?_
    refine l_iload_n rfl rfl ?_
    refine l_icmp_ge rfl rfl (by unfold rg; omega) (by unfold rg; omega) (fun w22 => ?_) (fun w23 => ?_)
    · refine l_iconst rfl ?_
      refine l_bipush rfl rfl ?_
      refine l_aload_n rfl rfl ?_
      refine l_gfr rfl rfl rfl rfl rfl (hH.r 904 67 950 rfl) ?_
      refine l_iload_n rfl rfl ?_
      refine l_iaload (n := 2600) rfl rfl (by omega) (by omega) (by unfold rg; omega) ?_
      have w24 : 0 ≤ (Xi S 950 ((rn).toNat)) ∧ (Xi S 950 ((rn).toNat)) ≤ 5010 := hH.c _ _
      have w25 : 0 ≤ Xi S 904 106 ∧ Xi S 904 106 ≤ 9 := hH.c _ _
      have w26 : 0 ≤ Xi S 904 108 ∧ Xi S 904 108 ≤ 2600 := hH.c _ _
      have w27 : 0 ≤ Xi S 904 69 ∧ Xi S 904 69 ≤ 2600 := hH.c _ _
      refine l_callV rfl rfl rfl (t_mo_need hH 0 9 (Xi S 950 ((rn).toNat)) ⟨by omega, by omega⟩ ⟨by omega, by omega⟩ ⟨by omega, by omega⟩ _) ?_
      rintro _ T2 ⟨hHT2, w31, rfl, w28, w29⟩
      have hFT2 : FR md_mo_mustBeNew S T2 := FR.tr hF w31 rfl
      show Rl _ _ _ _ _ [] _ _
      refine l_aload_n rfl rfl ?_
      refine l_gfr rfl rfl rfl rfl rfl (hHT2.r 904 107 966 rfl) ?_
      refine l_aload_n rfl rfl ?_
      refine l_gfi rfl rfl rfl rfl rfl ?_
      have w32 : (Xi T2 904 108) = (Xi S 904 108) := (show Xi T2 904 108 = Xi S 904 108 from w31.x _ _ rfl)
      rw [w32]
      refine l_iload_n rfl rfl ?_
      refine l_iastore (n := 2600) rfl rfl (by omega) (by omega) (by unfold rg; omega) ?_
      obtain ⟨U3, eU3⟩ : ∃ T : sS, T = uI T2 966 (((Xi S 904 108)).toNat) (Int32.ofInt rn) := ⟨_, rfl⟩
      rw [← eU3]
      have hHU3 : HI U3 := by rw [eU3]; exact HI_w hHT2 (show 0 ≤ rn by omega) (show rn ≤ 2600 by omega)
      have hFU3 : FR md_mo_mustBeNew S U3 := by rw [eU3]; exact FR.wI hFT2 (mdf_i (r := (966, 967, 0, 100000)) (List.mem_of_getElem? (i := 4) rfl) (inR_i (by omega) (by omega) (by omega) (by omega)))
      have w33 : Xi U3 966 (((Xi S 904 108)).toNat) = rn := by rw [eU3]; exact Xi_same (by unfold rg; omega)
      have n39 : ∀ k : Nat, (k : Int) < Xi S 904 108 → Xi U3 966 k < Xi S 904 69 := fun k hk => by rw [eU3, Xi_ne (by omega), ((by assumption : FR md_mo_need S T2).cx 966 rfl _).1]; exact hN k hk
      refine l_aload_n rfl rfl ?_
      refine l_dup rfl rfl ?_
      refine l_gfi rfl rfl rfl rfl rfl ?_
      have w34 : (Xi U3 904 108) = (Xi S 904 108) := (show Xi U3 904 108 = Xi T2 904 108 from by rw [eU3]; exact Xi_ne (by omega)).trans ((show Xi T2 904 108 = Xi S 904 108 from w31.x _ _ rfl))
      rw [w34]
      refine l_iconst rfl ?_
      refine l_iadd rfl ?_
      refine l_pfi rfl rfl rfl rfl ?_
      obtain ⟨U4, eU4⟩ : ∃ T : sS, T = uI U3 904 108 (Int32.ofInt ((Xi S 904 108) + 1)) := ⟨_, rfl⟩
      rw [← eU4]
      have hHU4 : HI U4 := by rw [eU4]; exact HI_w hHU3 (show 0 ≤ ((Xi S 904 108) + 1) by omega) (show ((Xi S 904 108) + 1) ≤ 2600 by omega)
      have hFU4 : FR md_mo_mustBeNew S U4 := by rw [eU4]; exact FR.wI hFU3 (mdf_i (r := (904, 905, 108, 109)) (List.mem_of_getElem? (i := 3) rfl) (inR_i (by omega) (by omega) (by omega) (by omega)))
      have w35 : Xi U4 904 108 = ((Xi S 904 108) + 1) := by rw [eU4]; exact Xi_same (by unfold rg; omega)
      have N47 : NWV U4 := nwv_add n39 eU3 eU4 (by omega) (by omega) (by omega) (hFU4.x 904 69 rfl) (by omega) (by omega)
      refine l_goto rfl rfl ?_
      refine l_return rfl rfl ?_
      have w36 : Xi U4 904 106 = Xi T2 904 106 := (show Xi U4 904 106 = Xi U3 904 106 from by rw [eU4]; exact Xi_ne (by omega)).trans ((show Xi U3 904 106 = Xi T2 904 106 from by rw [eU3]; exact Xi_ne (by omega)))
      have w37 : 0 ≤ Xi T2 904 106 ∧ Xi T2 904 106 ≤ 9 := hHT2.c _ _
      have w38 : 0 ≤ Xi U4 904 108 ∧ Xi U4 904 108 ≤ 2600 := hHU4.c _ _
      have w39 : Xi U4 904 69 = Xi S 904 69 := (show Xi U4 904 69 = Xi U3 904 69 from by rw [eU4]; exact Xi_ne (by omega)).trans ( (show Xi U3 904 69 = Xi T2 904 69 from by rw [eU3]; exact Xi_ne (by omega)).trans ((show Xi T2 904 69 = Xi S 904 69 from w31.x _ _ rfl)))
      have w40 : 0 ≤ Xi S 904 69 ∧ Xi S 904 69 ≤ 2600 := hH.c _ _
      exact ⟨hHU4, hFU4, rfl, (by omega), (fun q => by first | exact ⟨by omega, f2.1 (by omega)⟩ | (exfalso; omega)), (by first | exact N47 | exact NWV_FR (by assumption : FR md_mo_note U3 U4) rfl hN), (by omega)⟩
    · refine l_iconst rfl ?_
      refine l_goto rfl rfl ?_
      refine l_bipush rfl rfl ?_
      refine l_aload_n rfl rfl ?_
      refine l_gfr rfl rfl rfl rfl rfl (hH.r 904 67 950 rfl) ?_
      refine l_iload_n rfl rfl ?_
      refine l_iaload (n := 2600) rfl rfl (by omega) (by omega) (by unfold rg; omega) ?_
      have w41 : 0 ≤ (Xi S 950 ((rn).toNat)) ∧ (Xi S 950 ((rn).toNat)) ≤ 5010 := hH.c _ _
      have w42 : 0 ≤ Xi S 904 106 ∧ Xi S 904 106 ≤ 9 := hH.c _ _
      have w43 : 0 ≤ Xi S 904 108 ∧ Xi S 904 108 ≤ 2600 := hH.c _ _
      have w44 : 0 ≤ Xi S 904 69 ∧ Xi S 904 69 ≤ 2600 := hH.c _ _
      refine l_callV rfl rfl rfl (t_mo_need hH 1 9 (Xi S 950 ((rn).toNat)) ⟨by omega, by omega⟩ ⟨by omega, by omega⟩ ⟨by omega, by omega⟩ _) ?_
      rintro _ T5 ⟨hHT5, w48, rfl, w45, w46⟩
      have hFT5 : FR md_mo_mustBeNew S T5 := FR.tr hF w48 rfl
      show Rl _ _ _ _ _ [] _ _
      refine l_aload_n rfl rfl ?_
      refine l_gfr rfl rfl rfl rfl rfl (hHT5.r 904 107 966 rfl) ?_
      refine l_aload_n rfl rfl ?_
      refine l_gfi rfl rfl rfl rfl rfl ?_
      have w49 : (Xi T5 904 108) = (Xi S 904 108) := (show Xi T5 904 108 = Xi S 904 108 from w48.x _ _ rfl)
      rw [w49]
      refine l_iload_n rfl rfl ?_
      refine l_iastore (n := 2600) rfl rfl (by omega) (by omega) (by unfold rg; omega) ?_
      obtain ⟨U6, eU6⟩ : ∃ T : sS, T = uI T5 966 (((Xi S 904 108)).toNat) (Int32.ofInt rn) := ⟨_, rfl⟩
      rw [← eU6]
      have hHU6 : HI U6 := by rw [eU6]; exact HI_w hHT5 (show 0 ≤ rn by omega) (show rn ≤ 2600 by omega)
      have hFU6 : FR md_mo_mustBeNew S U6 := by rw [eU6]; exact FR.wI hFT5 (mdf_i (r := (966, 967, 0, 100000)) (List.mem_of_getElem? (i := 4) rfl) (inR_i (by omega) (by omega) (by omega) (by omega)))
      have w50 : Xi U6 966 (((Xi S 904 108)).toNat) = rn := by rw [eU6]; exact Xi_same (by unfold rg; omega)
      have n39 : ∀ k : Nat, (k : Int) < Xi S 904 108 → Xi U6 966 k < Xi S 904 69 := fun k hk => by rw [eU6, Xi_ne (by omega), ((by assumption : FR md_mo_need S T5).cx 966 rfl _).1]; exact hN k hk
      refine l_aload_n rfl rfl ?_
      refine l_dup rfl rfl ?_
      refine l_gfi rfl rfl rfl rfl rfl ?_
      have w51 : (Xi U6 904 108) = (Xi S 904 108) := (show Xi U6 904 108 = Xi T5 904 108 from by rw [eU6]; exact Xi_ne (by omega)).trans ((show Xi T5 904 108 = Xi S 904 108 from w48.x _ _ rfl))
      rw [w51]
      refine l_iconst rfl ?_
      refine l_iadd rfl ?_
      refine l_pfi rfl rfl rfl rfl ?_
      obtain ⟨U7, eU7⟩ : ∃ T : sS, T = uI U6 904 108 (Int32.ofInt ((Xi S 904 108) + 1)) := ⟨_, rfl⟩
      rw [← eU7]
      have hHU7 : HI U7 := by rw [eU7]; exact HI_w hHU6 (show 0 ≤ ((Xi S 904 108) + 1) by omega) (show ((Xi S 904 108) + 1) ≤ 2600 by omega)
      have hFU7 : FR md_mo_mustBeNew S U7 := by rw [eU7]; exact FR.wI hFU6 (mdf_i (r := (904, 905, 108, 109)) (List.mem_of_getElem? (i := 3) rfl) (inR_i (by omega) (by omega) (by omega) (by omega)))
      have w52 : Xi U7 904 108 = ((Xi S 904 108) + 1) := by rw [eU7]; exact Xi_same (by unfold rg; omega)
      have N47 : NWV U7 := nwv_add n39 eU6 eU7 (by omega) (by omega) (by omega) (hFU7.x 904 69 rfl) (by omega) (by omega)
      refine l_goto rfl rfl ?_
      refine l_return rfl rfl ?_
      have w53 : Xi U7 904 106 = Xi T5 904 106 := (show Xi U7 904 106 = Xi U6 904 106 from by rw [eU7]; exact Xi_ne (by omega)).trans ((show Xi U6 904 106 = Xi T5 904 106 from by rw [eU6]; exact Xi_ne (by omega)))
      have w54 : 0 ≤ Xi T5 904 106 ∧ Xi T5 904 106 ≤ 9 := hHT5.c _ _
      have w55 : 0 ≤ Xi U7 904 108 ∧ Xi U7 904 108 ≤ 2600 := hHU7.c _ _
      have w56 : Xi U7 904 69 = Xi S 904 69 := (show Xi U7 904 69 = Xi U6 904 69 from by rw [eU7]; exact Xi_ne (by omega)).trans ( (show Xi U6 904 69 = Xi T5 904 69 from by rw [eU6]; exact Xi_ne (by omega)).trans ((show Xi T5 904 69 = Xi S 904 69 from w48.x _ _ rfl)))
      have w57 : 0 ≤ Xi S 904 69 ∧ Xi S 904 69 ≤ 2600 := hH.c _ _
      exact ⟨hHU7, hFU7, rfl, (by omega), (fun q => by first | exact ⟨by omega, f2.1 (by omega)⟩ | (exfalso; omega)), (by first | exact N47 | exact NWV_FR (by assumption : FR md_mo_note U6 U7) rfl hN), (by omega)⟩
