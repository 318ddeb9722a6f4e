/-! SAFETY of methods: printed by wip/safe (vc.py, decl.py) -/
/-- where phrases begin -/
def PF (S : sS) : Prop := ∀ j : Nat, Xi S 965 j ≤ 5001
theorem PF_FR {l : List rec} {S T : sS} (h : FR l S T) (e : kdis l [(965, 966)] = true) (hP : PF S) : PF T := fun j => by rw [(h.smk e).x 965 rfl]; exact hP j
theorem pf_w {S U : sS} {i : Nat} {v : Int} (hP : PF S) (e : U = uI S 965 i (Int32.ofInt v)) (hr : rg v) (hv : v ≤ 5001) : PF U := fun j => by
  by_cases q : j = i
  · rw [q, e, Xi_same hr]; exact hv
  · rw [e, Xi_ne (by omega)]; exact hP j
def md_mo_phrase__3 : List rec := [(904, 905, 8, 9), (904, 905, 65, 66), (904, 905, 66, 67), (904, 905, 69, 70), (904, 905, 78, 79), (904, 905, 93, 94), (904, 905, 98, 99), (904, 905, 99, 100), (904, 905, 100, 101), (904, 905, 101, 102), (950, 951, 0, 100000), (951, 952, 0, 100000), (952, 953, 0, 100000), (953, 954, 0, 100000), (954, 955, 0, 100000), (955, 956, 0, 100000), (956, 957, 0, 100000), (957, 958, 0, 100000), (958, 959, 0, 100000), (959, 960, 0, 100000), (960, 961, 0, 100000), (961, 962, 0, 100000), (962, 963, 0, 100000), (963, 964, 0, 100000), (964, 965, 0, 100000), (965, 966, 0, 100000)]
abbrev Q_mo_phrase__3 (S : sS) (n : Nat) (c : Nat) : pst := fun r S1 => HI S1 ∧ FR md_mo_phrase__3 S S1 ∧ (r = none ∧ (AT S1 n c) ∧ (Xi S 904 8 ≤ Xi S1 904 8 ∧ (Xi S1 904 8 ≤ n ∨ Xi S1 904 8 = Xi S 904 8)) ∧ (RNV S1 n) ∧ (Xi S1 904 65 = 0 → Xi S 904 65 = 0) ∧ (Xi S 904 69 ≤ Xi S1 904 69) ∧ (KT S1 S (Xi S 904 93)) ∧ (KP S1 S (Xi S 904 98)) ∧ (Xi S1 904 98 = Xi S 904 98 + 1) ∧ (Xi S1 904 65 = 0 → Xi S1 904 93 = Xi S 904 93 + 1) ∧ (Xi S 904 93 ≤ Xi S1 904 93 ∧ Xi S1 904 93 ≤ Xi S 904 93 + 1) ∧ (Xi S1 904 65 = 0 → Xi S1 964 (Xi S 904 98).toNat < Xi S1 904 93 ∧ PV S1 n (Xi S 904 98).toNat) ∧ (PF S1) ∧ (BDA S1))
set_option maxRecDepth 100000 in
set_option maxHeartbeats 12000000 in
theorem c409_mo_phrase__3 {S : sS} (hH : HI S) (n : Nat) (c : Nat) (hT : TK S n) (hA : AT S n c) (hv : RNV S n) (hx : Xi S 904 8 ≤ n) (tc : Xi S 904 93 ≤ 1690) (pc : Xi S 904 98 ≤ 1690) (hPF : PF S) (hBDA : BDA S) (d : Nat) : ∀  (T1 : sS) (_ : HI T1) (_ : FR md_mo_phrase__3 S T1), (AT T1 n c) → (RNV T1 n) → (Xi S 904 8 ≤ Xi T1 904 8) → (Xi T1 904 8 ≤ n) → (Xi S 904 93 ≤ Xi T1 904 93 ∧ Xi T1 904 93 ≤ Xi S 904 93 + 1) → (Xi T1 904 65 = 0 → Xi T1 904 93 = Xi S 904 93 + 1) → (Xi S 904 69 ≤ Xi T1 904 69) → (Xi T1 904 65 = 0 → Xi S 904 65 = 0) → (Xi T1 904 98 = Xi S 904 98) → (Xi T1 964 (Xi S 904 98).toNat = Xi S 904 93) → (KT T1 S (Xi S 904 93)) → (KP T1 S (Xi S 904 98)) → (Xi T1 904 65 = 0 → PV T1 n (Xi S 904 98).toNat) → (PF T1) → (BDA T1) → Rl lay0 (d + 6) m_mo_phrase 409 [(0, .ref 904)] [] T1 (Q_mo_phrase__3 S n c) := by
  have hF : FR md_mo_phrase__3 S S := FR.rf
  have w1 : 0 ≤ Xi S 904 65 ∧ Xi S 904 65 ≤ 1 := hH.c _ _
  have w2 : 0 ≤ Xi S 904 69 ∧ Xi S 904 69 ≤ 2600 := hH.c _ _
  have w3 : 0 ≤ Xi S 904 8 ∧ Xi S 904 8 ≤ 5010 := hH.c _ _
  have w4 : 0 ≤ Xi S 904 93 ∧ Xi S 904 93 ≤ 1700 := hH.c _ _
  have w5 : 0 ≤ Xi S 904 98 ∧ Xi S 904 98 ≤ 1700 := hH.c _ _
  have hn5 := hT.1
  have hat := hA
  have h8 : 0 ≤ Xi S 904 8 ∧ Xi S 904 8 ≤ 5010 := hH.c _ _
  have h69 : 0 ≤ Xi S 904 69 ∧ Xi S 904 69 ≤ 2600 := hH.c _ _
  have ha0 : Xi S 904 65 = 0 → Xi S 904 8 ≤ n := fun q => (hA q).1
  have ha3 : Xi S 904 65 = 0 → 2 * Xi S 904 69 ≤ Xi S 904 8 + 1 := fun q => (hA q).2.1
  clear hat
  have h93 : 0 ≤ Xi S 904 93 := (hH.c 904 93).1
  have h98 : 0 ≤ Xi S 904 98 := (hH.c 904 98).1
  intro T1 hHT1 hFT1 A409 V409 w6 w7 w8 w9 w10 w11 w12 w13 K409 P409 E409 PF_409 BDA_409
  have w14 : 0 ≤ Xi T1 904 65 ∧ Xi T1 904 65 ≤ 1 := hHT1.c _ _
  have w15 : 0 ≤ Xi T1 904 69 ∧ Xi T1 904 69 ≤ 2600 := hHT1.c _ _
  have w16 : 0 ≤ Xi T1 904 8 ∧ Xi T1 904 8 ≤ 5010 := hHT1.c _ _
  have w17 : 0 ≤ Xi T1 904 93 ∧ Xi T1 904 93 ≤ 1700 := hHT1.c _ _
  have w18 : 0 ≤ Xi T1 904 98 ∧ Xi T1 904 98 ≤ 1700 := hHT1.c _ _
  refine l_aload_n rfl rfl ?_
  refine l_dup rfl rfl ?_
  refine l_gfi rfl rfl rfl rfl rfl ?_
  refine l_iconst rfl ?_
  refine l_iadd rfl ?_
  refine l_pfi rfl rfl rfl rfl ?_
  obtain ⟨U2, eU2⟩ : ∃ T : sS, T = uI T1 904 98 (Int32.ofInt ((Xi T1 904 98) + 1)) := ⟨_, rfl⟩
  rw [← eU2]
  have hHU2 : HI U2 := by rw [eU2]; exact HI_w hHT1 (show 0 ≤ ((Xi T1 904 98) + 1) by omega) (show ((Xi T1 904 98) + 1) ≤ 1700 by omega)
  have hFU2 : FR md_mo_phrase__3 S U2 := by rw [eU2]; exact FR.wI hFT1 (mdf_i (r := (904, 905, 98, 99)) (List.mem_of_getElem? (i := 6) rfl) (inR_i (by omega) (by omega) (by omega) (by omega)))
  have w19 : Xi U2 904 98 = ((Xi T1 904 98) + 1) := by rw [eU2]; exact Xi_same (by unfold rg; omega)
  have E416 : Xi U2 904 65 = 0 → PV U2 n (Xi S 904 98).toNat := fun q => pv_w (E409 (by rw [eU2, Xi_ne (by omega)] at q; exact q)) eU2 (by omega)
  refine l_aload_n rfl rfl ?_
  refine l_gfi rfl rfl rfl rfl rfl ?_
  have w20 : (Xi U2 904 65) = (Xi T1 904 65) := (show Xi U2 904 65 = Xi T1 904 65 from by rw [eU2]; exact Xi_ne (by omega))
  rw [w20]
  refine l_if_ne rfl rfl (by unfold rg; omega) (fun w21 => ?_) (fun w22 => ?_)
  · refine l_return rfl rfl ?_
    have w23 : Xi U2 963 (Xi S 904 98).toNat = Xi T1 963 (Xi S 904 98).toNat := (show Xi U2 963 (Xi S 904 98).toNat = Xi T1 963 (Xi S 904 98).toNat from by rw [eU2]; exact Xi_ne (by omega))
    have w24 : Xi U2 964 (Xi S 904 98).toNat = Xi T1 964 (Xi S 904 98).toNat := (show Xi U2 964 (Xi S 904 98).toNat = Xi T1 964 (Xi S 904 98).toNat from by rw [eU2]; exact Xi_ne (by omega))
    have w25 : Xi U2 904 65 = Xi T1 904 65 := (show Xi U2 904 65 = Xi T1 904 65 from by rw [eU2]; exact Xi_ne (by omega))
    have w27 : Xi U2 904 69 = Xi T1 904 69 := (show Xi U2 904 69 = Xi T1 904 69 from by rw [eU2]; exact Xi_ne (by omega))
    have w29 : Xi U2 904 8 = Xi T1 904 8 := (show Xi U2 904 8 = Xi T1 904 8 from by rw [eU2]; exact Xi_ne (by omega))
    have w31 : Xi U2 904 93 = Xi T1 904 93 := (show Xi U2 904 93 = Xi T1 904 93 from by rw [eU2]; exact Xi_ne (by omega))
    have w33 : 0 ≤ Xi U2 904 98 ∧ Xi U2 904 98 ≤ 1700 := hHU2.c _ _
    exact ⟨hHU2, hFU2, rfl, (by first | exact AT_FR (FR_e eU2) rfl A409 | exact AT_bad (by omega)), (by omega), (by first | assumption | exact (RNV_FR (FR_e eU2) rfl (by assumption : RNV T1 _))), (by omega), (by omega), ((KT_FR (FR_e eU2) rfl (by assumption : KT T1 S _))), ((KP.w (by assumption : KP T1 S _) eU2 (by omega))), (by omega), (by omega), (by omega), (by first | exact fun q => ⟨by omega, E416 (by omega)⟩ | exact fun q => absurd q (by omega)), (by first | assumption | exact (PF_FR (FR_e eU2) rfl (by assumption : PF T1))), (by first | assumption | exact (BDA_FR (FR_e eU2) rfl (by assumption : BDA T1)))⟩
  · refine l_aload_n rfl rfl ?_
    refine l_gfr rfl rfl rfl rfl rfl (hHU2.r 904 4 907 rfl) ?_
    refine l_aload_n rfl rfl ?_
    refine l_gfi rfl rfl rfl rfl rfl ?_
    have w34 : (Xi U2 904 8) = (Xi T1 904 8) := (show Xi U2 904 8 = Xi T1 904 8 from by rw [eU2]; exact Xi_ne (by omega))
    rw [w34]
    refine l_iaload (n := 5002) rfl rfl (by omega) (by omega) (by unfold rg; omega) ?_
    have w35 : 0 ≤ (Xi U2 907 (((Xi T1 904 8)).toNat)) ∧ (Xi U2 907 (((Xi T1 904 8)).toNat)) ≤ 154 := hHU2.c _ _
    refine l_bipush rfl rfl ?_
    refine l_icmp_eq rfl rfl (by unfold rg; omega) (by unfold rg; omega) (fun w36 => ?_) (fun w37 => ?_)
    · refine l_return rfl rfl ?_
      have w38 : Xi U2 963 (Xi S 904 98).toNat = Xi T1 963 (Xi S 904 98).toNat := (show Xi U2 963 (Xi S 904 98).toNat = Xi T1 963 (Xi S 904 98).toNat from by rw [eU2]; exact Xi_ne (by omega))
      have w39 : Xi U2 964 (Xi S 904 98).toNat = Xi T1 964 (Xi S 904 98).toNat := (show Xi U2 964 (Xi S 904 98).toNat = Xi T1 964 (Xi S 904 98).toNat from by rw [eU2]; exact Xi_ne (by omega))
      have w40 : Xi U2 904 65 = Xi T1 904 65 := (show Xi U2 904 65 = Xi T1 904 65 from by rw [eU2]; exact Xi_ne (by omega))
      have w42 : Xi U2 904 69 = Xi T1 904 69 := (show Xi U2 904 69 = Xi T1 904 69 from by rw [eU2]; exact Xi_ne (by omega))
      have w44 : Xi U2 904 8 = Xi T1 904 8 := (show Xi U2 904 8 = Xi T1 904 8 from by rw [eU2]; exact Xi_ne (by omega))
      have w46 : Xi U2 904 93 = Xi T1 904 93 := (show Xi U2 904 93 = Xi T1 904 93 from by rw [eU2]; exact Xi_ne (by omega))
      have w48 : 0 ≤ Xi U2 904 98 ∧ Xi U2 904 98 ≤ 1700 := hHU2.c _ _
      exact ⟨hHU2, hFU2, rfl, (by first | exact AT_FR (FR_e eU2) rfl A409 | exact AT_bad (by omega)), (by omega), (by first | assumption | exact (RNV_FR (FR_e eU2) rfl (by assumption : RNV T1 _))), (by omega), (by omega), ((KT_FR (FR_e eU2) rfl (by assumption : KT T1 S _))), ((KP.w (by assumption : KP T1 S _) eU2 (by omega))), (by omega), (by omega), (by omega), (by first | exact fun q => ⟨by omega, E416 (by omega)⟩ | exact fun q => absurd q (by omega)), (by first | assumption | exact (PF_FR (FR_e eU2) rfl (by assumption : PF T1))), (by first | assumption | exact (BDA_FR (FR_e eU2) rfl (by assumption : BDA T1)))⟩
    · refine l_aload_n rfl rfl ?_
      refine l_gfr rfl rfl rfl rfl rfl (hHU2.r 904 4 907 rfl) ?_
      refine l_aload_n rfl rfl ?_
      refine l_gfi rfl rfl rfl rfl rfl ?_
      have w49 : (Xi U2 904 8) = (Xi T1 904 8) := (show Xi U2 904 8 = Xi T1 904 8 from by rw [eU2]; exact Xi_ne (by omega))
      rw [w49]
      refine l_iaload (n := 5002) rfl rfl (by omega) (by omega) (by unfold rg; omega) ?_
      refine l_bipush rfl rfl ?_
      refine l_icmp_eq rfl rfl (by unfold rg; omega) (by unfold rg; omega) (fun w50 => ?_) (fun w51 => ?_)
      · refine l_return rfl rfl ?_
        have w52 : Xi U2 963 (Xi S 904 98).toNat = Xi T1 963 (Xi S 904 98).toNat := (show Xi U2 963 (Xi S 904 98).toNat = Xi T1 963 (Xi S 904 98).toNat from by rw [eU2]; exact Xi_ne (by omega))
        have w53 : Xi U2 964 (Xi S 904 98).toNat = Xi T1 964 (Xi S 904 98).toNat := (show Xi U2 964 (Xi S 904 98).toNat = Xi T1 964 (Xi S 904 98).toNat from by rw [eU2]; exact Xi_ne (by omega))
        have w54 : Xi U2 904 65 = Xi T1 904 65 := (show Xi U2 904 65 = Xi T1 904 65 from by rw [eU2]; exact Xi_ne (by omega))
        have w56 : Xi U2 904 69 = Xi T1 904 69 := (show Xi U2 904 69 = Xi T1 904 69 from by rw [eU2]; exact Xi_ne (by omega))
        have w58 : Xi U2 904 8 = Xi T1 904 8 := (show Xi U2 904 8 = Xi T1 904 8 from by rw [eU2]; exact Xi_ne (by omega))
        have w60 : Xi U2 904 93 = Xi T1 904 93 := (show Xi U2 904 93 = Xi T1 904 93 from by rw [eU2]; exact Xi_ne (by omega))
        have w62 : 0 ≤ Xi U2 904 98 ∧ Xi U2 904 98 ≤ 1700 := hHU2.c _ _
        exact ⟨hHU2, hFU2, rfl, (by first | exact AT_FR (FR_e eU2) rfl A409 | exact AT_bad (by omega)), (by omega), (by first | assumption | exact (RNV_FR (FR_e eU2) rfl (by assumption : RNV T1 _))), (by omega), (by omega), ((KT_FR (FR_e eU2) rfl (by assumption : KT T1 S _))), ((KP.w (by assumption : KP T1 S _) eU2 (by omega))), (by omega), (by omega), (by omega), (by first | exact fun q => ⟨by omega, E416 (by omega)⟩ | exact fun q => absurd q (by omega)), (by first | assumption | exact (PF_FR (FR_e eU2) rfl (by assumption : PF T1))), (by first | assumption | exact (BDA_FR (FR_e eU2) rfl (by assumption : BDA T1)))⟩
      · refine l_aload_n rfl rfl ?_
        have w63 : Xi U2 904 65 = Xi T1 904 65 := (show Xi U2 904 65 = Xi T1 904 65 from by rw [eU2]; exact Xi_ne (by omega))
        have w67 : Xi U2 904 8 = Xi T1 904 8 := (show Xi U2 904 8 = Xi T1 904 8 from by rw [eU2]; exact Xi_ne (by omega))
        refine l_callV rfl rfl rfl (t_mo_odd__2 hHU2 (by first | assumption | exact (BDA_FR (FR_e eU2) rfl (by assumption : BDA T1))) (by first | omega | exact fun q => (by have t := ((AT_FR (FR_e eU2) rfl (by assumption : AT T1 _ _)) q).1; have u := hT.1; omega)) _) ?_
        rintro _ T3 ⟨hHT3, w76, rfl, w72, w73, w74⟩
        have hFT3 : FR md_mo_phrase__3 S T3 := FR.tr hFU2 w76 rfl
        show Rl _ _ _ _ _ [] _ _
        have w78 : Xi T3 904 8 = Xi T1 904 8 := (show Xi T3 904 8 = Xi U2 904 8 from w76.x _ _ rfl).trans ((show Xi U2 904 8 = Xi T1 904 8 from by rw [eU2]; exact Xi_ne (by omega)))
        have w80 : 0 ≤ Xi T3 904 65 ∧ Xi T3 904 65 ≤ 1 := hHT3.c _ _
        have w81 : Xi T3 904 69 = Xi T1 904 69 := (show Xi T3 904 69 = Xi U2 904 69 from w76.x _ _ rfl).trans ((show Xi U2 904 69 = Xi T1 904 69 from by rw [eU2]; exact Xi_ne (by omega)))
        have w83 : Xi T3 904 93 = Xi T1 904 93 := (show Xi T3 904 93 = Xi U2 904 93 from w76.x _ _ rfl).trans ((show Xi U2 904 93 = Xi T1 904 93 from by rw [eU2]; exact Xi_ne (by omega)))
        have w77 : Xi S 904 8 ≤ Xi T3 904 8 ∧ Xi T3 904 8 ≤ n ∧ Xi S 904 69 ≤ Xi T3 904 69 ∧ (Xi T3 904 65 = 0 → Xi S 904 65 = 0) := by omega
        clear w73
        refine l_return rfl rfl ?_
        have w85 : Xi T3 963 (Xi S 904 98).toNat = Xi T1 963 (Xi S 904 98).toNat := (show Xi T3 963 (Xi S 904 98).toNat = Xi U2 963 (Xi S 904 98).toNat from (w76.cx 963 rfl _).1).trans ((show Xi U2 963 (Xi S 904 98).toNat = Xi T1 963 (Xi S 904 98).toNat from by rw [eU2]; exact Xi_ne (by omega)))
        have w86 : Xi T3 964 (Xi S 904 98).toNat = Xi T1 964 (Xi S 904 98).toNat := (show Xi T3 964 (Xi S 904 98).toNat = Xi U2 964 (Xi S 904 98).toNat from (w76.cx 964 rfl _).1).trans ((show Xi U2 964 (Xi S 904 98).toNat = Xi T1 964 (Xi S 904 98).toNat from by rw [eU2]; exact Xi_ne (by omega)))
        have w94 : Xi T3 904 98 = Xi U2 904 98 := (show Xi T3 904 98 = Xi U2 904 98 from w76.x _ _ rfl)
        have w95 : 0 ≤ Xi U2 904 98 ∧ Xi U2 904 98 ≤ 1700 := hHU2.c _ _
        exact ⟨hHT3, hFT3, rfl, (by first | exact AT_FR (FR_e rfl) rfl A409 | exact AT_bad (by omega)), (by omega), (by first | assumption | exact (RNV_FR w76 rfl (RNV_FR (FR_e eU2) rfl (by assumption : RNV T1 _)))), (by omega), (by omega), ((KT_FR w76 rfl (KT_FR (FR_e eU2) rfl (by assumption : KT T1 S _)))), ((KP_FR w76 rfl (KP.w (by assumption : KP T1 S _) eU2 (by omega)))), (by omega), (by omega), (by omega), (by first | exact fun q => ⟨by omega, E416 (by omega)⟩ | exact fun q => absurd q (by omega)), (by first | assumption | exact (PF_FR w76 rfl (PF_FR (FR_e eU2) rfl (by assumption : PF T1)))), (by first | assumption | exact (by assumption : BDA T3))⟩
set_option maxRecDepth 100000 in
set_option maxHeartbeats 12000000 in
theorem c121_mo_phrase__3 {S : sS} (hH : HI S) (n : Nat) (c : Nat) (hT : TK S n) (hA : AT S n c) (hv : RNV S n) (hx : Xi S 904 8 ≤ n) (tc : Xi S 904 93 ≤ 1690) (pc : Xi S 904 98 ≤ 1690) (hPF : PF S) (hBDA : BDA S) (d : Nat) : ∀  (T4 : sS) (_ : HI T4) (_ : FR md_mo_phrase__3 S T4), (AT T4 n (c + 1)) → (RNV T4 n) → (Xi S 904 8 ≤ Xi T4 904 8) → (Xi T4 904 8 ≤ n) → (Xi T4 904 93 = Xi S 904 93) → (Xi S 904 69 ≤ Xi T4 904 69) → (Xi T4 904 65 = 0 → Xi S 904 65 = 0) → (Xi T4 904 98 = Xi S 904 98) → (Xi T4 964 (Xi S 904 98).toNat = Xi S 904 93) → (KT T4 S (Xi S 904 93)) → (KP T4 S (Xi S 904 98)) → (Xi T4 963 (Xi S 904 98).toNat = 0) → (Xi T4 957 (Xi S 904 93).toNat ≤ n) → (Xi T4 904 65 = 0 → Xi T4 907 (Xi T4 957 (Xi S 904 93).toNat).toNat = 5) → (PF T4) → (BDA T4) → Rl lay0 (d + 6) m_mo_phrase 121 [(0, .ref 904)] [] T4 (Q_mo_phrase__3 S n c) := by
  have C409 := c409_mo_phrase__3 hH n c hT hA hv hx tc pc hPF hBDA d 
  have hF : FR md_mo_phrase__3 S S := FR.rf
  have w1 : 0 ≤ Xi S 904 65 ∧ Xi S 904 65 ≤ 1 := hH.c _ _
  have w2 : 0 ≤ Xi S 904 69 ∧ Xi S 904 69 ≤ 2600 := hH.c _ _
  have w3 : 0 ≤ Xi S 904 8 ∧ Xi S 904 8 ≤ 5010 := hH.c _ _
  have w4 : 0 ≤ Xi S 904 93 ∧ Xi S 904 93 ≤ 1700 := hH.c _ _
  have w5 : 0 ≤ Xi S 904 98 ∧ Xi S 904 98 ≤ 1700 := hH.c _ _
  have hn5 := hT.1
  have hat := hA
  have h8 : 0 ≤ Xi S 904 8 ∧ Xi S 904 8 ≤ 5010 := hH.c _ _
  have h69 : 0 ≤ Xi S 904 69 ∧ Xi S 904 69 ≤ 2600 := hH.c _ _
  have ha0 : Xi S 904 65 = 0 → Xi S 904 8 ≤ n := fun q => (hA q).1
  have ha3 : Xi S 904 65 = 0 → 2 * Xi S 904 69 ≤ Xi S 904 8 + 1 := fun q => (hA q).2.1
  clear hat
  have h93 : 0 ≤ Xi S 904 93 := (hH.c 904 93).1
  have h98 : 0 ≤ Xi S 904 98 := (hH.c 904 98).1
  intro T4 hHT4 hFT4 A121 V121 w96 w97 w98 w99 w100 w101 w102 K121 P121 w103 m121 d121 PF_121 BDA_121
  have w104 : 0 ≤ Xi T4 904 65 ∧ Xi T4 904 65 ≤ 1 := hHT4.c _ _
  have w105 : 0 ≤ Xi T4 904 69 ∧ Xi T4 904 69 ≤ 2600 := hHT4.c _ _
  have w106 : 0 ≤ Xi T4 904 8 ∧ Xi T4 904 8 ≤ 5010 := hHT4.c _ _
  have w107 : 0 ≤ Xi T4 904 93 ∧ Xi T4 904 93 ≤ 1700 := hHT4.c _ _
  have w108 : 0 ≤ Xi T4 904 98 ∧ Xi T4 904 98 ≤ 1700 := hHT4.c _ _
  refine l_aload_n rfl rfl ?_
  refine l_dup rfl rfl ?_
  refine l_gfi rfl rfl rfl rfl rfl ?_
  refine l_iconst rfl ?_
  refine l_iadd rfl ?_
  refine l_pfi rfl rfl rfl rfl ?_
  obtain ⟨U5, eU5⟩ : ∃ T : sS, T = uI T4 904 93 (Int32.ofInt ((Xi T4 904 93) + 1)) := ⟨_, rfl⟩
  rw [← eU5]
  have hHU5 : HI U5 := by rw [eU5]; exact HI_w hHT4 (show 0 ≤ ((Xi T4 904 93) + 1) by omega) (show ((Xi T4 904 93) + 1) ≤ 1700 by omega)
  have hFU5 : FR md_mo_phrase__3 S U5 := by rw [eU5]; exact FR.wI hFT4 (mdf_i (r := (904, 905, 93, 94)) (List.mem_of_getElem? (i := 5) rfl) (inR_i (by omega) (by omega) (by omega) (by omega)))
  have w109 : Xi U5 904 93 = ((Xi T4 904 93) + 1) := by rw [eU5]; exact Xi_same (by unfold rg; omega)
  have a128 : AT U5 n c := at_ct (c := c + 1) (by first | assumption | exact AT_FR (FR_e ) rfl (by assumption) | exact AT_FR (FR_e ) rfl (AT_FR (FR_e ) rfl (by assumption))) eU5 (by omega) (by omega) rfl
  have E128 : Xi U5 904 65 = 0 → PVt U5 n 0 (Xi S 904 93).toNat := fun q => (by rw [eU5, Xi_ne (by omega)] at q; exact pvt_w (pvt_0 m121 (d121 q)) eU5 (by omega))
  refine l_goto rfl rfl ?_
  have w110 : Xi U5 963 (Xi S 904 98).toNat = Xi T4 963 (Xi S 904 98).toNat := (show Xi U5 963 (Xi S 904 98).toNat = Xi T4 963 (Xi S 904 98).toNat from by rw [eU5]; exact Xi_ne (by omega))
  have w111 : Xi U5 964 (Xi S 904 98).toNat = Xi T4 964 (Xi S 904 98).toNat := (show Xi U5 964 (Xi S 904 98).toNat = Xi T4 964 (Xi S 904 98).toNat from by rw [eU5]; exact Xi_ne (by omega))
  have w112 : Xi U5 904 65 = Xi T4 904 65 := (show Xi U5 904 65 = Xi T4 904 65 from by rw [eU5]; exact Xi_ne (by omega))
  have w114 : Xi U5 904 69 = Xi T4 904 69 := (show Xi U5 904 69 = Xi T4 904 69 from by rw [eU5]; exact Xi_ne (by omega))
  have w116 : Xi U5 904 8 = Xi T4 904 8 := (show Xi U5 904 8 = Xi T4 904 8 from by rw [eU5]; exact Xi_ne (by omega))
  have w118 : 0 ≤ Xi U5 904 93 ∧ Xi U5 904 93 ≤ 1700 := hHU5.c _ _
  have w119 : Xi U5 904 98 = Xi T4 904 98 := (show Xi U5 904 98 = Xi T4 904 98 from by rw [eU5]; exact Xi_ne (by omega))
  exact Rl_weak (C409 U5 hHU5 hFU5  (by first | assumption | exact AT_bad (by omega)) (by first | assumption | exact (RNV_FR (FR_e eU5) rfl (by assumption : RNV T4 _))) (by omega) (by omega) (by omega) (by omega) (by omega) (by omega) (by omega) (by omega) ((KT_FR (FR_e eU5) rfl (by assumption : KT T4 S _))) ((KP.w (by assumption : KP T4 S _) eU5 (by omega))) (by first | exact fun q => pv_i (t := (Xi S 904 93).toNat) (E128 q) (by omega) (by omega) | exact fun q => pv_i (t := (Xi S 904 93).toNat) (E143 q) (by omega) (by omega) | exact fun q => pv_i (t := (Xi S 904 93).toNat) (E212 q) (by omega) (by omega) | exact fun q => pv_i (t := (Xi S 904 93).toNat) (E368 q) (by omega) (by omega) | exact fun q => pv_i (t := (Xi S 904 93).toNat) (E389 q) (by omega) (by omega) | exact fun q => pv_i (t := (Xi S 904 93).toNat) (E275 _ (by omega) q) rfl (by omega) | exact fun q => absurd q (by omega)) (by first | assumption | exact (PF_FR (FR_e eU5) rfl (by assumption : PF T4))) (by first | assumption | exact (BDA_FR (FR_e eU5) rfl (by assumption : BDA T4)))) (And.intro rfl (True.intro))
set_option maxRecDepth 100000 in
set_option maxHeartbeats 12000000 in
theorem c205_mo_phrase__3 {S : sS} (hH : HI S) (n : Nat) (c : Nat) (hT : TK S n) (hA : AT S n c) (hv : RNV S n) (hx : Xi S 904 8 ≤ n) (tc : Xi S 904 93 ≤ 1690) (pc : Xi S 904 98 ≤ 1690) (hPF : PF S) (hBDA : BDA S) (d : Nat) : ∀  (T6 : sS) (_ : HI T6) (_ : FR md_mo_phrase__3 S T6), (AT T6 n (c + 1)) → (RNV T6 n) → (Xi S 904 8 ≤ Xi T6 904 8) → (Xi T6 904 8 ≤ n) → (Xi T6 904 93 = Xi S 904 93) → (Xi S 904 69 ≤ Xi T6 904 69) → (Xi T6 904 65 = 0 → Xi S 904 65 = 0) → (Xi T6 904 98 = Xi S 904 98) → (Xi T6 964 (Xi S 904 98).toNat = Xi S 904 93) → (KT T6 S (Xi S 904 93)) → (KP T6 S (Xi S 904 98)) → (Xi T6 963 (Xi S 904 98).toNat = 2) → (Xi T6 904 65 = 0 → THV (Xi T6 904 69) n (Xi T6 954 (Xi S 904 93).toNat) (Xi T6 955 (Xi S 904 93).toNat)) → (Xi T6 904 65 = 0 → THV (Xi T6 904 69) n (Xi T6 959 (Xi S 904 93).toNat) (Xi T6 960 (Xi S 904 93).toNat)) → (PF T6) → (BDA T6) → Rl lay0 (d + 6) m_mo_phrase 205 [(0, .ref 904)] [] T6 (Q_mo_phrase__3 S n c) := by
  have C409 := c409_mo_phrase__3 hH n c hT hA hv hx tc pc hPF hBDA d 
  have hF : FR md_mo_phrase__3 S S := FR.rf
  have w1 : 0 ≤ Xi S 904 65 ∧ Xi S 904 65 ≤ 1 := hH.c _ _
  have w2 : 0 ≤ Xi S 904 69 ∧ Xi S 904 69 ≤ 2600 := hH.c _ _
  have w3 : 0 ≤ Xi S 904 8 ∧ Xi S 904 8 ≤ 5010 := hH.c _ _
  have w4 : 0 ≤ Xi S 904 93 ∧ Xi S 904 93 ≤ 1700 := hH.c _ _
  have w5 : 0 ≤ Xi S 904 98 ∧ Xi S 904 98 ≤ 1700 := hH.c _ _
  have hn5 := hT.1
  have hat := hA
  have h8 : 0 ≤ Xi S 904 8 ∧ Xi S 904 8 ≤ 5010 := hH.c _ _
  have h69 : 0 ≤ Xi S 904 69 ∧ Xi S 904 69 ≤ 2600 := hH.c _ _
  have ha0 : Xi S 904 65 = 0 → Xi S 904 8 ≤ n := fun q => (hA q).1
  have ha3 : Xi S 904 65 = 0 → 2 * Xi S 904 69 ≤ Xi S 904 8 + 1 := fun q => (hA q).2.1
  clear hat
  have h93 : 0 ≤ Xi S 904 93 := (hH.c 904 93).1
  have h98 : 0 ≤ Xi S 904 98 := (hH.c 904 98).1
  intro T6 hHT6 hFT6 A205 V205 w121 w122 w123 w124 w125 w126 w127 K205 P205 w128 h205 o205 PF_205 BDA_205
  have w129 : 0 ≤ Xi T6 904 65 ∧ Xi T6 904 65 ≤ 1 := hHT6.c _ _
  have w130 : 0 ≤ Xi T6 904 69 ∧ Xi T6 904 69 ≤ 2600 := hHT6.c _ _
  have w131 : 0 ≤ Xi T6 904 8 ∧ Xi T6 904 8 ≤ 5010 := hHT6.c _ _
  have w132 : 0 ≤ Xi T6 904 93 ∧ Xi T6 904 93 ≤ 1700 := hHT6.c _ _
  have w133 : 0 ≤ Xi T6 904 98 ∧ Xi T6 904 98 ≤ 1700 := hHT6.c _ _
  refine l_aload_n rfl rfl ?_
  refine l_dup rfl rfl ?_
  refine l_gfi rfl rfl rfl rfl rfl ?_
  refine l_iconst rfl ?_
  refine l_iadd rfl ?_
  refine l_pfi rfl rfl rfl rfl ?_
  obtain ⟨U7, eU7⟩ : ∃ T : sS, T = uI T6 904 93 (Int32.ofInt ((Xi T6 904 93) + 1)) := ⟨_, rfl⟩
  rw [← eU7]
  have hHU7 : HI U7 := by rw [eU7]; exact HI_w hHT6 (show 0 ≤ ((Xi T6 904 93) + 1) by omega) (show ((Xi T6 904 93) + 1) ≤ 1700 by omega)
  have hFU7 : FR md_mo_phrase__3 S U7 := by rw [eU7]; exact FR.wI hFT6 (mdf_i (r := (904, 905, 93, 94)) (List.mem_of_getElem? (i := 5) rfl) (inR_i (by omega) (by omega) (by omega) (by omega)))
  have w134 : Xi U7 904 93 = ((Xi T6 904 93) + 1) := by rw [eU7]; exact Xi_same (by unfold rg; omega)
  have a212 : AT U7 n c := at_ct (c := c + 1) (by first | assumption | exact AT_FR (FR_e ) rfl (by assumption) | exact AT_FR (FR_e ) rfl (AT_FR (FR_e ) rfl (by assumption))) eU7 (by omega) (by omega) rfl
  have E212 : Xi U7 904 65 = 0 → PVt U7 n 2 (Xi S 904 93).toNat := fun q => (by rw [eU7, Xi_ne (by omega)] at q; exact pvt_w (pvt_2 (h205 q) (o205 q)) eU7 (by omega))
  refine l_goto rfl rfl ?_
  have w135 : Xi U7 963 (Xi S 904 98).toNat = Xi T6 963 (Xi S 904 98).toNat := (show Xi U7 963 (Xi S 904 98).toNat = Xi T6 963 (Xi S 904 98).toNat from by rw [eU7]; exact Xi_ne (by omega))
  have w136 : Xi U7 964 (Xi S 904 98).toNat = Xi T6 964 (Xi S 904 98).toNat := (show Xi U7 964 (Xi S 904 98).toNat = Xi T6 964 (Xi S 904 98).toNat from by rw [eU7]; exact Xi_ne (by omega))
  have w137 : Xi U7 904 65 = Xi T6 904 65 := (show Xi U7 904 65 = Xi T6 904 65 from by rw [eU7]; exact Xi_ne (by omega))
  have w139 : Xi U7 904 69 = Xi T6 904 69 := (show Xi U7 904 69 = Xi T6 904 69 from by rw [eU7]; exact Xi_ne (by omega))
  have w141 : Xi U7 904 8 = Xi T6 904 8 := (show Xi U7 904 8 = Xi T6 904 8 from by rw [eU7]; exact Xi_ne (by omega))
  have w143 : 0 ≤ Xi U7 904 93 ∧ Xi U7 904 93 ≤ 1700 := hHU7.c _ _
  have w144 : Xi U7 904 98 = Xi T6 904 98 := (show Xi U7 904 98 = Xi T6 904 98 from by rw [eU7]; exact Xi_ne (by omega))
  exact Rl_weak (C409 U7 hHU7 hFU7  (by first | assumption | exact AT_bad (by omega)) (by first | assumption | exact (RNV_FR (FR_e eU7) rfl (by assumption : RNV T6 _))) (by omega) (by omega) (by omega) (by omega) (by omega) (by omega) (by omega) (by omega) ((KT_FR (FR_e eU7) rfl (by assumption : KT T6 S _))) ((KP.w (by assumption : KP T6 S _) eU7 (by omega))) (by first | exact fun q => pv_i (t := (Xi S 904 93).toNat) (E128 q) (by omega) (by omega) | exact fun q => pv_i (t := (Xi S 904 93).toNat) (E143 q) (by omega) (by omega) | exact fun q => pv_i (t := (Xi S 904 93).toNat) (E212 q) (by omega) (by omega) | exact fun q => pv_i (t := (Xi S 904 93).toNat) (E368 q) (by omega) (by omega) | exact fun q => pv_i (t := (Xi S 904 93).toNat) (E389 q) (by omega) (by omega) | exact fun q => pv_i (t := (Xi S 904 93).toNat) (E275 _ (by omega) q) rfl (by omega) | exact fun q => absurd q (by omega)) (by first | assumption | exact (PF_FR (FR_e eU7) rfl (by assumption : PF T6))) (by first | assumption | exact (BDA_FR (FR_e eU7) rfl (by assumption : BDA T6)))) (And.intro rfl (True.intro))
set_option maxRecDepth 100000 in
set_option maxHeartbeats 12000000 in
theorem c166_mo_phrase__3 {S : sS} (hH : HI S) (n : Nat) (c : Nat) (hT : TK S n) (hA : AT S n c) (hv : RNV S n) (hx : Xi S 904 8 ≤ n) (tc : Xi S 904 93 ≤ 1690) (pc : Xi S 904 98 ≤ 1690) (hPF : PF S) (hBDA : BDA S) (d : Nat) : ∀  (T8 : sS) (_ : HI T8) (_ : FR md_mo_phrase__3 S T8), (AT T8 n (c + 1)) → (RNV T8 n) → (Xi S 904 8 ≤ Xi T8 904 8) → (Xi T8 904 8 ≤ n) → (Xi T8 904 93 = Xi S 904 93) → (Xi S 904 69 ≤ Xi T8 904 69) → (Xi T8 904 65 = 0 → Xi S 904 65 = 0) → (Xi T8 904 98 = Xi S 904 98) → (Xi T8 964 (Xi S 904 98).toNat = Xi S 904 93) → (KT T8 S (Xi S 904 93)) → (KP T8 S (Xi S 904 98)) → (Xi T8 963 (Xi S 904 98).toNat = 2) → (Xi T8 904 65 = 0 → THV (Xi T8 904 69) n (Xi T8 954 (Xi S 904 93).toNat) (Xi T8 955 (Xi S 904 93).toNat)) → (PF T8) → (BDA T8) → Rl lay0 (d + 6) m_mo_phrase 166 [(0, .ref 904)] [] T8 (Q_mo_phrase__3 S n c) := by
  have C205 := c205_mo_phrase__3 hH n c hT hA hv hx tc pc hPF hBDA d 
  have hF : FR md_mo_phrase__3 S S := FR.rf
  have w1 : 0 ≤ Xi S 904 65 ∧ Xi S 904 65 ≤ 1 := hH.c _ _
  have w2 : 0 ≤ Xi S 904 69 ∧ Xi S 904 69 ≤ 2600 := hH.c _ _
  have w3 : 0 ≤ Xi S 904 8 ∧ Xi S 904 8 ≤ 5010 := hH.c _ _
  have w4 : 0 ≤ Xi S 904 93 ∧ Xi S 904 93 ≤ 1700 := hH.c _ _
  have w5 : 0 ≤ Xi S 904 98 ∧ Xi S 904 98 ≤ 1700 := hH.c _ _
  have hn5 := hT.1
  have hat := hA
  have h8 : 0 ≤ Xi S 904 8 ∧ Xi S 904 8 ≤ 5010 := hH.c _ _
  have h69 : 0 ≤ Xi S 904 69 ∧ Xi S 904 69 ≤ 2600 := hH.c _ _
  have ha0 : Xi S 904 65 = 0 → Xi S 904 8 ≤ n := fun q => (hA q).1
  have ha3 : Xi S 904 65 = 0 → 2 * Xi S 904 69 ≤ Xi S 904 8 + 1 := fun q => (hA q).2.1
  clear hat
  have h93 : 0 ≤ Xi S 904 93 := (hH.c 904 93).1
  have h98 : 0 ≤ Xi S 904 98 := (hH.c 904 98).1
  intro T8 hHT8 hFT8 A166 V166 w146 w147 w148 w149 w150 w151 w152 K166 P166 w153 h166 PF_166 BDA_166
  have w154 : 0 ≤ Xi T8 904 65 ∧ Xi T8 904 65 ≤ 1 := hHT8.c _ _
  have w155 : 0 ≤ Xi T8 904 69 ∧ Xi T8 904 69 ≤ 2600 := hHT8.c _ _
  have w156 : 0 ≤ Xi T8 904 8 ∧ Xi T8 904 8 ≤ 5010 := hHT8.c _ _
  have w157 : 0 ≤ Xi T8 904 93 ∧ Xi T8 904 93 ≤ 1700 := hHT8.c _ _
  have w158 : 0 ≤ Xi T8 904 98 ∧ Xi T8 904 98 ≤ 1700 := hHT8.c _ _
  refine l_aload_n rfl rfl ?_
  refine l_callV rfl rfl rfl (t_mo_thing__2 hHT8 n (c + 1) (by first | assumption | exact (TK_FR hFT8 rfl (by assumption : TK S _))) (by first | assumption | exact (by assumption : AT T8 _ _)) (by first | assumption | exact (by assumption : RNV T8 _)) (by first | assumption | exact (by assumption : BDA T8)) _) ?_
  rintro _ T9 ⟨hHT9, w170, rfl, w164, w165, w166, kb167, w167, o167, w168⟩
  have hFT9 : FR md_mo_phrase__3 S T9 := FR.tr hFT8 w170 rfl
  show Rl _ _ _ _ _ [] _ _
  have w172 : 0 ≤ Xi T9 904 8 ∧ Xi T9 904 8 ≤ 5010 := hHT9.c _ _
  have w173 : 0 ≤ Xi T9 904 65 ∧ Xi T9 904 65 ≤ 1 := hHT9.c _ _
  have w174 : 0 ≤ Xi T9 904 69 ∧ Xi T9 904 69 ≤ 2600 := hHT9.c _ _
  have w175 : Xi T9 904 93 = Xi T8 904 93 := (show Xi T9 904 93 = Xi T8 904 93 from w170.x _ _ rfl)
  have h167 : Xi T9 904 65 = 0 → THV (Xi T9 904 69) n (Xi T9 954 (Xi S 904 93).toNat) (Xi T9 955 (Xi S 904 93).toNat) := fun q => thv_c (h166 (kb167 q)) (by omega) ((by assumption : FR md_mo_thing T8 T9).cx 954 rfl _).1 ((by assumption : FR md_mo_thing T8 T9).cx 955 rfl _).1
  have y167 : (0 ≤ Xi T9 904 100 ∧ Xi T9 904 100 ≤ 2) ∧ (0 ≤ Xi T9 904 101 ∧ Xi T9 904 101 ≤ 5010) ∧ 0 ≤ Xi T9 904 99 := ⟨hHT9.c 904 100, hHT9.c 904 101, (hHT9.c 904 99).1⟩
  clear h166
  have w171 : Xi S 904 8 ≤ Xi T9 904 8 ∧ Xi T9 904 8 ≤ n ∧ Xi S 904 69 ≤ Xi T9 904 69 ∧ (Xi T9 904 65 = 0 → Xi S 904 65 = 0) := by omega
  clear w165 kb167 w167
  refine l_aload_n rfl rfl ?_
  refine l_gfr rfl rfl rfl rfl rfl (hHT9.r 904 89 959 rfl) ?_
  refine l_aload_n rfl rfl ?_
  refine l_gfi rfl rfl rfl rfl rfl ?_
  have w177 : (Xi T9 904 93) = (Xi T8 904 93) := (show Xi T9 904 93 = Xi T8 904 93 from w170.x _ _ rfl)
  rw [w177]
  refine l_aload_n rfl rfl ?_
  refine l_gfi rfl rfl rfl rfl rfl ?_
  have w178 : 0 ≤ (Xi T9 904 100) ∧ (Xi T9 904 100) ≤ 2 := hHT9.c _ _
  refine l_sipush rfl rfl ?_
  refine l_imul rfl ?_
  refine l_aload_n rfl rfl ?_
  refine l_gfi rfl rfl rfl rfl rfl ?_
  have w179 : 0 ≤ (Xi T9 904 101) ∧ (Xi T9 904 101) ≤ 5010 := hHT9.c _ _
  refine l_iadd rfl ?_
  refine l_iastore (n := 1700) rfl rfl (by omega) (by omega) (by unfold rg; omega) ?_
  obtain ⟨U10, eU10⟩ : ∃ T : sS, T = uI T9 959 (((Xi T8 904 93)).toNat) (Int32.ofInt (((Xi T9 904 100) * 10000) + (Xi T9 904 101))) := ⟨_, rfl⟩
  rw [← eU10]
  have hHU10 : HI U10 := by rw [eU10]; exact HI_w hHT9 (show 0 ≤ (((Xi T9 904 100) * 10000) + (Xi T9 904 101)) by omega) (show (((Xi T9 904 100) * 10000) + (Xi T9 904 101)) ≤ 25010 by omega)
  have hFU10 : FR md_mo_phrase__3 S U10 := by rw [eU10]; exact FR.wI hFT9 (mdf_i (r := (959, 960, 0, 100000)) (List.mem_of_getElem? (i := 19) rfl) (inR_i (by omega) (by omega) (by omega) (by omega)))
  have w180 : Xi U10 959 (((Xi T8 904 93)).toNat) = (((Xi T9 904 100) * 10000) + (Xi T9 904 101)) := by rw [eU10]; exact Xi_same (by unfold rg; omega)
  have h191 : Xi U10 904 65 = 0 → THV (Xi U10 904 69) n (Xi U10 954 (Xi S 904 93).toNat) (Xi U10 955 (Xi S 904 93).toNat) := fun q => (by rw [eU10, Xi_ne (by omega)] at q; exact thv_c (h167 q) (by rw [eU10, Xi_ne (by omega)]; exact Int.le_refl _) (by rw [eU10, Xi_ne (by omega)]) (by rw [eU10, Xi_ne (by omega)]))
  have o191 : Xi U10 959 (Xi S 904 93).toNat = Xi T9 904 100 * 10000 + Xi T9 904 101 := by rw [show (Xi S 904 93).toNat = (Xi T8 904 93).toNat by omega]; assumption
  have x191 : Xi U10 904 65 = Xi T9 904 65 ∧ Xi U10 904 69 = Xi T9 904 69 := ⟨by rw [eU10, Xi_ne (by omega)], by rw [eU10, Xi_ne (by omega)]⟩
  clear h167
  refine l_aload_n rfl rfl ?_
  refine l_gfr rfl rfl rfl rfl rfl (hHU10.r 904 90 960 rfl) ?_
  refine l_aload_n rfl rfl ?_
  refine l_gfi rfl rfl rfl rfl rfl ?_
  have w181 : (Xi U10 904 93) = (Xi T8 904 93) := (show Xi U10 904 93 = Xi T9 904 93 from by rw [eU10]; exact Xi_ne (by omega)).trans ((show Xi T9 904 93 = Xi T8 904 93 from w170.x _ _ rfl))
  rw [w181]
  refine l_aload_n rfl rfl ?_
  refine l_gfi rfl rfl rfl rfl rfl ?_
  have w182 : 0 ≤ (Xi U10 904 99) ∧ (Xi U10 904 99) ≤ 2600 := hHU10.c _ _
  have e201 : (Xi U10 904 99) = Xi T9 904 99 := by rw [eU10]; exact Xi_ne (by omega)
  refine l_iastore (n := 1700) rfl rfl (by omega) (by omega) (by unfold rg; omega) ?_
  obtain ⟨U11, eU11⟩ : ∃ T : sS, T = uI U10 960 (((Xi T8 904 93)).toNat) (Int32.ofInt (Xi U10 904 99)) := ⟨_, rfl⟩
  rw [← eU11]
  have hHU11 : HI U11 := by rw [eU11]; exact HI_w hHU10 (show -1 ≤ (Xi U10 904 99) by omega) (show (Xi U10 904 99) ≤ 2600 by omega)
  have hFU11 : FR md_mo_phrase__3 S U11 := by rw [eU11]; exact FR.wI hFU10 (mdf_i (r := (960, 961, 0, 100000)) (List.mem_of_getElem? (i := 20) rfl) (inR_i (by omega) (by omega) (by omega) (by omega)))
  have w183 : Xi U11 960 (((Xi T8 904 93)).toNat) = (Xi U10 904 99) := by rw [eU11]; exact Xi_same (by unfold rg; omega)
  have h204 : Xi U11 904 65 = 0 → THV (Xi U11 904 69) n (Xi U11 954 (Xi S 904 93).toNat) (Xi U11 955 (Xi S 904 93).toNat) := fun q => (by rw [eU11, Xi_ne (by omega)] at q; exact thv_c (h191 q) (by rw [eU11, Xi_ne (by omega)]; exact Int.le_refl _) (by rw [eU11, Xi_ne (by omega)]) (by rw [eU11, Xi_ne (by omega)]))
  have x204 : Xi U11 904 65 = Xi U10 904 65 ∧ Xi U11 904 69 = Xi U10 904 69 ∧ Xi U11 959 (Xi S 904 93).toNat = Xi U10 959 (Xi S 904 93).toNat := ⟨by rw [eU11, Xi_ne (by omega)], by rw [eU11, Xi_ne (by omega)], by rw [eU11, Xi_ne (by omega)]⟩
  have z204 : Xi U11 960 (Xi S 904 93).toNat = Xi T9 904 99 := by rw [show (Xi S 904 93).toNat = (Xi T8 904 93).toNat by omega]; omega
  have o204 : Xi U11 904 65 = 0 → THV (Xi U11 904 69) n (Xi U11 959 (Xi S 904 93).toNat) (Xi U11 960 (Xi S 904 93).toNat) := fun q => thv_i (s := Xi T9 904 100) (t := Xi T9 904 101) (r := Xi T9 904 99) (by omega) (by omega) y167.1 y167.2.1 (by have t := o167 (by omega); omega) y167.2.2 (fun w => by have t := (o167 (by omega)).2 w; omega)
  clear h191 o167
  have w184 : Xi U11 963 (Xi S 904 98).toNat = Xi T8 963 (Xi S 904 98).toNat := (show Xi U11 963 (Xi S 904 98).toNat = Xi U10 963 (Xi S 904 98).toNat from by rw [eU11]; exact Xi_ne (by omega)).trans ( (show Xi U10 963 (Xi S 904 98).toNat = Xi T9 963 (Xi S 904 98).toNat from by rw [eU10]; exact Xi_ne (by omega)).trans ((show Xi T9 963 (Xi S 904 98).toNat = Xi T8 963 (Xi S 904 98).toNat from (w170.cx 963 rfl _).1)))
  have w185 : Xi U11 964 (Xi S 904 98).toNat = Xi T8 964 (Xi S 904 98).toNat := (show Xi U11 964 (Xi S 904 98).toNat = Xi U10 964 (Xi S 904 98).toNat from by rw [eU11]; exact Xi_ne (by omega)).trans ( (show Xi U10 964 (Xi S 904 98).toNat = Xi T9 964 (Xi S 904 98).toNat from by rw [eU10]; exact Xi_ne (by omega)).trans ((show Xi T9 964 (Xi S 904 98).toNat = Xi T8 964 (Xi S 904 98).toNat from (w170.cx 964 rfl _).1)))
  have w186 : Xi U11 904 65 = Xi T9 904 65 := (show Xi U11 904 65 = Xi U10 904 65 from by rw [eU11]; exact Xi_ne (by omega)).trans ((show Xi U10 904 65 = Xi T9 904 65 from by rw [eU10]; exact Xi_ne (by omega)))
  have w188 : Xi U11 904 69 = Xi T9 904 69 := (show Xi U11 904 69 = Xi U10 904 69 from by rw [eU11]; exact Xi_ne (by omega)).trans ((show Xi U10 904 69 = Xi T9 904 69 from by rw [eU10]; exact Xi_ne (by omega)))
  have w190 : Xi U11 904 8 = Xi T9 904 8 := (show Xi U11 904 8 = Xi U10 904 8 from by rw [eU11]; exact Xi_ne (by omega)).trans ((show Xi U10 904 8 = Xi T9 904 8 from by rw [eU10]; exact Xi_ne (by omega)))
  have w192 : Xi U11 904 93 = Xi T8 904 93 := (show Xi U11 904 93 = Xi U10 904 93 from by rw [eU11]; exact Xi_ne (by omega)).trans ( (show Xi U10 904 93 = Xi T9 904 93 from by rw [eU10]; exact Xi_ne (by omega)).trans ((show Xi T9 904 93 = Xi T8 904 93 from w170.x _ _ rfl)))
  have w194 : Xi U11 904 98 = Xi T8 904 98 := (show Xi U11 904 98 = Xi U10 904 98 from by rw [eU11]; exact Xi_ne (by omega)).trans ( (show Xi U10 904 98 = Xi T9 904 98 from by rw [eU10]; exact Xi_ne (by omega)).trans ((show Xi T9 904 98 = Xi T8 904 98 from w170.x _ _ rfl)))
  exact Rl_weak (C205 U11 hHU11 hFU11  (by first | assumption | exact (AT_FR (FR_e eU11) rfl (AT_FR (FR_e eU10) rfl (by assumption : AT T9 _ _)))) (by first | assumption | exact (RNV_FR (FR_e eU11) rfl (RNV_FR (FR_e eU10) rfl (by assumption : RNV T9 _)))) (by omega) (by omega) (by omega) (by omega) (by omega) (by omega) (by omega) ((KT.w (KT.w (KT_FR w170 rfl (by assumption : KT T8 S _)) eU10 (by omega)) eU11 (by omega))) ((KP.w (KP.w (KP_FR w170 rfl (by assumption : KP T8 S _)) eU10 (by omega)) eU11 (by omega))) (by omega) (h204) (o204) (by first | assumption | exact (PF_FR (FR_e eU11) rfl (PF_FR (FR_e eU10) rfl (PF_FR w170 rfl (by assumption : PF T8))))) (by first | assumption | exact (BDA_FR (FR_e eU11) rfl (BDA_FR (FR_e eU10) rfl (by assumption : BDA T9))))) (And.intro rfl (True.intro))
set_option maxRecDepth 100000 in
set_option maxHeartbeats 12000000 in
theorem c268_mo_phrase__3 {S : sS} (hH : HI S) (n : Nat) (c : Nat) (hT : TK S n) (hA : AT S n c) (hv : RNV S n) (hx : Xi S 904 8 ≤ n) (tc : Xi S 904 93 ≤ 1690) (pc : Xi S 904 98 ≤ 1690) (hPF : PF S) (hBDA : BDA S) (d : Nat) : ∀  (T12 : sS) (_ : HI T12) (_ : FR md_mo_phrase__3 S T12), (AT T12 n (c + 1)) → (RNV T12 n) → (Xi S 904 8 ≤ Xi T12 904 8) → (Xi T12 904 8 ≤ n) → (Xi T12 904 93 = Xi S 904 93) → (Xi S 904 69 ≤ Xi T12 904 69) → (Xi T12 904 65 = 0 → Xi S 904 65 = 0) → (Xi T12 904 98 = Xi S 904 98) → (Xi T12 964 (Xi S 904 98).toNat = Xi S 904 93) → (KT T12 S (Xi S 904 93)) → (KP T12 S (Xi S 904 98)) → (3 ≤ Xi T12 963 (Xi S 904 98).toNat ∧ Xi T12 963 (Xi S 904 98).toNat ≤ 4) → (Xi T12 904 65 = 0 → Xi T12 956 (Xi S 904 93).toNat < Xi T12 904 69) → (Xi T12 904 65 = 0 → THV (Xi T12 904 69) n (Xi T12 954 (Xi S 904 93).toNat) (Xi T12 955 (Xi S 904 93).toNat)) → (Xi T12 957 (Xi S 904 93).toNat ≤ n) → (PF T12) → (BDA T12) → Rl lay0 (d + 6) m_mo_phrase 268 [(0, .ref 904)] [] T12 (Q_mo_phrase__3 S n c) := by
  have C409 := c409_mo_phrase__3 hH n c hT hA hv hx tc pc hPF hBDA d 
  have hF : FR md_mo_phrase__3 S S := FR.rf
  have w1 : 0 ≤ Xi S 904 65 ∧ Xi S 904 65 ≤ 1 := hH.c _ _
  have w2 : 0 ≤ Xi S 904 69 ∧ Xi S 904 69 ≤ 2600 := hH.c _ _
  have w3 : 0 ≤ Xi S 904 8 ∧ Xi S 904 8 ≤ 5010 := hH.c _ _
  have w4 : 0 ≤ Xi S 904 93 ∧ Xi S 904 93 ≤ 1700 := hH.c _ _
  have w5 : 0 ≤ Xi S 904 98 ∧ Xi S 904 98 ≤ 1700 := hH.c _ _
  have hn5 := hT.1
  have hat := hA
  have h8 : 0 ≤ Xi S 904 8 ∧ Xi S 904 8 ≤ 5010 := hH.c _ _
  have h69 : 0 ≤ Xi S 904 69 ∧ Xi S 904 69 ≤ 2600 := hH.c _ _
  have ha0 : Xi S 904 65 = 0 → Xi S 904 8 ≤ n := fun q => (hA q).1
  have ha3 : Xi S 904 65 = 0 → 2 * Xi S 904 69 ≤ Xi S 904 8 + 1 := fun q => (hA q).2.1
  clear hat
  have h93 : 0 ≤ Xi S 904 93 := (hH.c 904 93).1
  have h98 : 0 ≤ Xi S 904 98 := (hH.c 904 98).1
  intro T12 hHT12 hFT12 A268 V268 w196 w197 w198 w199 w200 w201 w202 K268 P268 w203 p268 h268 m268 PF_268 BDA_268
  have w204 : 0 ≤ Xi T12 904 65 ∧ Xi T12 904 65 ≤ 1 := hHT12.c _ _
  have w205 : 0 ≤ Xi T12 904 69 ∧ Xi T12 904 69 ≤ 2600 := hHT12.c _ _
  have w206 : 0 ≤ Xi T12 904 8 ∧ Xi T12 904 8 ≤ 5010 := hHT12.c _ _
  have w207 : 0 ≤ Xi T12 904 93 ∧ Xi T12 904 93 ≤ 1700 := hHT12.c _ _
  have w208 : 0 ≤ Xi T12 904 98 ∧ Xi T12 904 98 ≤ 1700 := hHT12.c _ _
  refine l_aload_n rfl rfl ?_
  refine l_dup rfl rfl ?_
  refine l_gfi rfl rfl rfl rfl rfl ?_
  refine l_iconst rfl ?_
  refine l_iadd rfl ?_
  refine l_pfi rfl rfl rfl rfl ?_
  obtain ⟨U13, eU13⟩ : ∃ T : sS, T = uI T12 904 93 (Int32.ofInt ((Xi T12 904 93) + 1)) := ⟨_, rfl⟩
  rw [← eU13]
  have hHU13 : HI U13 := by rw [eU13]; exact HI_w hHT12 (show 0 ≤ ((Xi T12 904 93) + 1) by omega) (show ((Xi T12 904 93) + 1) ≤ 1700 by omega)
  have hFU13 : FR md_mo_phrase__3 S U13 := by rw [eU13]; exact FR.wI hFT12 (mdf_i (r := (904, 905, 93, 94)) (List.mem_of_getElem? (i := 5) rfl) (inR_i (by omega) (by omega) (by omega) (by omega)))
  have w209 : Xi U13 904 93 = ((Xi T12 904 93) + 1) := by rw [eU13]; exact Xi_same (by unfold rg; omega)
  have a275 : AT U13 n c := at_ct (c := c + 1) (by first | assumption | exact AT_FR (FR_e ) rfl (by assumption) | exact AT_FR (FR_e ) rfl (AT_FR (FR_e ) rfl (by assumption))) eU13 (by omega) (by omega) rfl
  have E275 : ∀ w : Int, (w = 3 ∨ w = 4) → Xi U13 904 65 = 0 → PVt U13 n w (Xi S 904 93).toNat := fun w hw q => (by rw [eU13, Xi_ne (by omega)] at q; exact pvt_w (pvt_3 hw (h268 q) (p268 q) m268) eU13 (by omega))
  refine l_goto rfl rfl ?_
  have w210 : Xi U13 963 (Xi S 904 98).toNat = Xi T12 963 (Xi S 904 98).toNat := (show Xi U13 963 (Xi S 904 98).toNat = Xi T12 963 (Xi S 904 98).toNat from by rw [eU13]; exact Xi_ne (by omega))
  have w211 : Xi U13 964 (Xi S 904 98).toNat = Xi T12 964 (Xi S 904 98).toNat := (show Xi U13 964 (Xi S 904 98).toNat = Xi T12 964 (Xi S 904 98).toNat from by rw [eU13]; exact Xi_ne (by omega))
  have w212 : Xi U13 904 65 = Xi T12 904 65 := (show Xi U13 904 65 = Xi T12 904 65 from by rw [eU13]; exact Xi_ne (by omega))
  have w214 : Xi U13 904 69 = Xi T12 904 69 := (show Xi U13 904 69 = Xi T12 904 69 from by rw [eU13]; exact Xi_ne (by omega))
  have w216 : Xi U13 904 8 = Xi T12 904 8 := (show Xi U13 904 8 = Xi T12 904 8 from by rw [eU13]; exact Xi_ne (by omega))
  have w218 : 0 ≤ Xi U13 904 93 ∧ Xi U13 904 93 ≤ 1700 := hHU13.c _ _
  have w219 : Xi U13 904 98 = Xi T12 904 98 := (show Xi U13 904 98 = Xi T12 904 98 from by rw [eU13]; exact Xi_ne (by omega))
  exact Rl_weak (C409 U13 hHU13 hFU13  (by first | assumption | exact AT_bad (by omega)) (by first | assumption | exact (RNV_FR (FR_e eU13) rfl (by assumption : RNV T12 _))) (by omega) (by omega) (by omega) (by omega) (by omega) (by omega) (by omega) (by omega) ((KT_FR (FR_e eU13) rfl (by assumption : KT T12 S _))) ((KP.w (by assumption : KP T12 S _) eU13 (by omega))) (by first | exact fun q => pv_i (t := (Xi S 904 93).toNat) (E128 q) (by omega) (by omega) | exact fun q => pv_i (t := (Xi S 904 93).toNat) (E143 q) (by omega) (by omega) | exact fun q => pv_i (t := (Xi S 904 93).toNat) (E212 q) (by omega) (by omega) | exact fun q => pv_i (t := (Xi S 904 93).toNat) (E368 q) (by omega) (by omega) | exact fun q => pv_i (t := (Xi S 904 93).toNat) (E389 q) (by omega) (by omega) | exact fun q => pv_i (t := (Xi S 904 93).toNat) (E275 _ (by omega) q) rfl (by omega) | exact fun q => absurd q (by omega)) (by first | assumption | exact (PF_FR (FR_e eU13) rfl (by assumption : PF T12))) (by first | assumption | exact (BDA_FR (FR_e eU13) rfl (by assumption : BDA T12)))) (And.intro rfl (True.intro))
set_option maxRecDepth 100000 in
set_option maxHeartbeats 12000000 in
theorem c250_mo_phrase__3 {S : sS} (hH : HI S) (n : Nat) (c : Nat) (hT : TK S n) (hA : AT S n c) (hv : RNV S n) (hx : Xi S 904 8 ≤ n) (tc : Xi S 904 93 ≤ 1690) (pc : Xi S 904 98 ≤ 1690) (hPF : PF S) (hBDA : BDA S) (d : Nat) : ∀  (T14 : sS) (_ : HI T14) (_ : FR md_mo_phrase__3 S T14), (AT T14 n (c + 1)) → (RNV T14 n) → (Xi S 904 8 ≤ Xi T14 904 8) → (Xi T14 904 8 ≤ n) → (Xi T14 904 93 = Xi S 904 93) → (Xi S 904 69 ≤ Xi T14 904 69) → (Xi T14 904 65 = 0 → Xi S 904 65 = 0) → (Xi T14 904 98 = Xi S 904 98) → (Xi T14 964 (Xi S 904 98).toNat = Xi S 904 93) → (KT T14 S (Xi S 904 93)) → (KP T14 S (Xi S 904 98)) → (3 ≤ Xi T14 963 (Xi S 904 98).toNat ∧ Xi T14 963 (Xi S 904 98).toNat ≤ 4) → (Xi T14 904 65 = 0 → Xi T14 956 (Xi S 904 93).toNat < Xi T14 904 69) → (Xi T14 904 65 = 0 → THV (Xi T14 904 69) n (Xi T14 954 (Xi S 904 93).toNat) (Xi T14 955 (Xi S 904 93).toNat)) → (PF T14) → (BDA T14) → Rl lay0 (d + 6) m_mo_phrase 250 [(0, .ref 904)] [] T14 (Q_mo_phrase__3 S n c) := by
  have C268 := c268_mo_phrase__3 hH n c hT hA hv hx tc pc hPF hBDA d 
  have hF : FR md_mo_phrase__3 S S := FR.rf
  have w1 : 0 ≤ Xi S 904 65 ∧ Xi S 904 65 ≤ 1 := hH.c _ _
  have w2 : 0 ≤ Xi S 904 69 ∧ Xi S 904 69 ≤ 2600 := hH.c _ _
  have w3 : 0 ≤ Xi S 904 8 ∧ Xi S 904 8 ≤ 5010 := hH.c _ _
  have w4 : 0 ≤ Xi S 904 93 ∧ Xi S 904 93 ≤ 1700 := hH.c _ _
  have w5 : 0 ≤ Xi S 904 98 ∧ Xi S 904 98 ≤ 1700 := hH.c _ _
  have hn5 := hT.1
  have hat := hA
  have h8 : 0 ≤ Xi S 904 8 ∧ Xi S 904 8 ≤ 5010 := hH.c _ _
  have h69 : 0 ≤ Xi S 904 69 ∧ Xi S 904 69 ≤ 2600 := hH.c _ _
  have ha0 : Xi S 904 65 = 0 → Xi S 904 8 ≤ n := fun q => (hA q).1
  have ha3 : Xi S 904 65 = 0 → 2 * Xi S 904 69 ≤ Xi S 904 8 + 1 := fun q => (hA q).2.1
  clear hat
  have h93 : 0 ≤ Xi S 904 93 := (hH.c 904 93).1
  have h98 : 0 ≤ Xi S 904 98 := (hH.c 904 98).1
  intro T14 hHT14 hFT14 A250 V250 w221 w222 w223 w224 w225 w226 w227 K250 P250 w228 p250 h250 PF_250 BDA_250
  have w229 : 0 ≤ Xi T14 904 65 ∧ Xi T14 904 65 ≤ 1 := hHT14.c _ _
  have w230 : 0 ≤ Xi T14 904 69 ∧ Xi T14 904 69 ≤ 2600 := hHT14.c _ _
  have w231 : 0 ≤ Xi T14 904 8 ∧ Xi T14 904 8 ≤ 5010 := hHT14.c _ _
  have w232 : 0 ≤ Xi T14 904 93 ∧ Xi T14 904 93 ≤ 1700 := hHT14.c _ _
  have w233 : 0 ≤ Xi T14 904 98 ∧ Xi T14 904 98 ≤ 1700 := hHT14.c _ _
  refine l_aload_n rfl rfl ?_
  refine l_gfr rfl rfl rfl rfl rfl (hHT14.r 904 87 957 rfl) ?_
  refine l_aload_n rfl rfl ?_
  refine l_gfi rfl rfl rfl rfl rfl ?_
  refine l_aload_n rfl rfl ?_
  refine l_gfi rfl rfl rfl rfl rfl ?_
  refine l_iastore (n := 1700) rfl rfl (by omega) (by omega) (by unfold rg; omega) ?_
  obtain ⟨U15, eU15⟩ : ∃ T : sS, T = uI T14 957 (((Xi T14 904 93)).toNat) (Int32.ofInt (Xi T14 904 8)) := ⟨_, rfl⟩
  rw [← eU15]
  have hHU15 : HI U15 := by rw [eU15]; exact HI_w hHT14 (show 0 ≤ (Xi T14 904 8) by omega) (show (Xi T14 904 8) ≤ 5010 by omega)
  have hFU15 : FR md_mo_phrase__3 S U15 := by rw [eU15]; exact FR.wI hFT14 (mdf_i (r := (957, 958, 0, 100000)) (List.mem_of_getElem? (i := 17) rfl) (inR_i (by omega) (by omega) (by omega) (by omega)))
  have w234 : Xi U15 957 (((Xi T14 904 93)).toNat) = (Xi T14 904 8) := by rw [eU15]; exact Xi_same (by unfold rg; omega)
  have p262 : Xi U15 904 65 = 0 → Xi U15 956 (Xi S 904 93).toNat < Xi U15 904 69 := fun q => (by rw [eU15, Xi_ne (by omega)] at q; have t := p250 q; rw [eU15, Xi_ne (by omega), Xi_ne (by omega)]; exact t)
  have h262 : Xi U15 904 65 = 0 → THV (Xi U15 904 69) n (Xi U15 954 (Xi S 904 93).toNat) (Xi U15 955 (Xi S 904 93).toNat) := fun q => (by rw [eU15, Xi_ne (by omega)] at q; exact thv_c (h250 q) (by rw [eU15, Xi_ne (by omega)]; exact Int.le_refl _) (by rw [eU15, Xi_ne (by omega)]) (by rw [eU15, Xi_ne (by omega)]))
  have m262 : Xi U15 957 (Xi S 904 93).toNat ≤ n := by rw [show (Xi S 904 93).toNat = (Xi T14 904 93).toNat by omega]; omega
  clear p250 h250
  refine l_aload_n rfl rfl ?_
  refine l_iconst rfl ?_
  have w235 : Xi U15 904 65 = Xi T14 904 65 := (show Xi U15 904 65 = Xi T14 904 65 from by rw [eU15]; exact Xi_ne (by omega))
  have w237 : Xi U15 904 69 = Xi T14 904 69 := (show Xi U15 904 69 = Xi T14 904 69 from by rw [eU15]; exact Xi_ne (by omega))
  have w239 : Xi U15 904 8 = Xi T14 904 8 := (show Xi U15 904 8 = Xi T14 904 8 from by rw [eU15]; exact Xi_ne (by omega))
  have w241 : Xi U15 904 93 = Xi T14 904 93 := (show Xi U15 904 93 = Xi T14 904 93 from by rw [eU15]; exact Xi_ne (by omega))
  refine l_callV rfl rfl rfl (t_mo_take__3 hHU15 n (c + 1) 4 ⟨by omega, by omega⟩ (by first | assumption | exact (TK_FR hFU15 rfl (by assumption : TK S _))) (by first | assumption | exact (AT_FR (FR_e eU15) rfl (by assumption : AT T14 _ _))) (by first | assumption | omega) (by first | assumption | exact (BDA_FR (FR_e eU15) rfl (by assumption : BDA T14))) _) ?_
  rintro _ T16 ⟨hHT16, w250, rfl, w245, w246, kb265, w247, w248⟩
  have hFT16 : FR md_mo_phrase__3 S T16 := FR.tr hFU15 w250 rfl
  show Rl _ _ _ _ _ [] _ _
  have w252 : 0 ≤ Xi T16 904 8 ∧ Xi T16 904 8 ≤ 5010 := hHT16.c _ _
  have w253 : 0 ≤ Xi T16 904 65 ∧ Xi T16 904 65 ≤ 1 := hHT16.c _ _
  have w254 : Xi T16 904 69 = Xi T14 904 69 := (show Xi T16 904 69 = Xi U15 904 69 from w250.x _ _ rfl).trans ((show Xi U15 904 69 = Xi T14 904 69 from by rw [eU15]; exact Xi_ne (by omega)))
  have w256 : Xi T16 904 93 = Xi T14 904 93 := (show Xi T16 904 93 = Xi U15 904 93 from w250.x _ _ rfl).trans ((show Xi U15 904 93 = Xi T14 904 93 from by rw [eU15]; exact Xi_ne (by omega)))
  have p265 : Xi T16 904 65 = 0 → Xi T16 956 (Xi S 904 93).toNat < Xi T16 904 69 := fun q => by have t := p262 (kb265 q); rw [((by assumption : FR md_mo_take U15 T16).cx 956 rfl _).1]; omega
  have h265 : Xi T16 904 65 = 0 → THV (Xi T16 904 69) n (Xi T16 954 (Xi S 904 93).toNat) (Xi T16 955 (Xi S 904 93).toNat) := fun q => thv_c (h262 (kb265 q)) (by omega) ((by assumption : FR md_mo_take U15 T16).cx 954 rfl _).1 ((by assumption : FR md_mo_take U15 T16).cx 955 rfl _).1
  have m265 : Xi T16 957 (Xi S 904 93).toNat ≤ n := by rw [((by assumption : FR md_mo_take U15 T16).cx 957 rfl _).1]; exact m262
  clear p262 h262
  have w251 : Xi S 904 8 ≤ Xi T16 904 8 ∧ Xi T16 904 8 ≤ n ∧ Xi S 904 69 ≤ Xi T16 904 69 ∧ (Xi T16 904 65 = 0 → Xi S 904 65 = 0) := by omega
  clear w246 kb265 w247
  have w258 : Xi T16 963 (Xi S 904 98).toNat = Xi T14 963 (Xi S 904 98).toNat := (show Xi T16 963 (Xi S 904 98).toNat = Xi U15 963 (Xi S 904 98).toNat from (w250.cx 963 rfl _).1).trans ((show Xi U15 963 (Xi S 904 98).toNat = Xi T14 963 (Xi S 904 98).toNat from by rw [eU15]; exact Xi_ne (by omega)))
  have w259 : Xi T16 964 (Xi S 904 98).toNat = Xi T14 964 (Xi S 904 98).toNat := (show Xi T16 964 (Xi S 904 98).toNat = Xi U15 964 (Xi S 904 98).toNat from (w250.cx 964 rfl _).1).trans ((show Xi U15 964 (Xi S 904 98).toNat = Xi T14 964 (Xi S 904 98).toNat from by rw [eU15]; exact Xi_ne (by omega)))
  have w266 : Xi T16 904 98 = Xi T14 904 98 := (show Xi T16 904 98 = Xi U15 904 98 from w250.x _ _ rfl).trans ((show Xi U15 904 98 = Xi T14 904 98 from by rw [eU15]; exact Xi_ne (by omega)))
  exact Rl_weak (C268 T16 hHT16 hFT16  (by first | assumption | exact (by assumption : AT T16 _ _)) (by first | assumption | exact (RNV_FR w250 rfl (RNV_FR (FR_e eU15) rfl (by assumption : RNV T14 _)))) (by omega) (by omega) (by omega) (by omega) (by omega) (by omega) (by omega) ((KT_FR w250 rfl (KT.w (by assumption : KT T14 S _) eU15 (by omega)))) ((KP_FR w250 rfl (KP.w (by assumption : KP T14 S _) eU15 (by omega)))) (by omega) (p265) (h265) (m265) (by first | assumption | exact (PF_FR w250 rfl (PF_FR (FR_e eU15) rfl (by assumption : PF T14)))) (by first | assumption | exact (by assumption : BDA T16))) (And.intro rfl (True.intro))
set_option maxRecDepth 100000 in
set_option maxHeartbeats 12000000 in
theorem c236_mo_phrase__3 {S : sS} (hH : HI S) (n : Nat) (c : Nat) (hT : TK S n) (hA : AT S n c) (hv : RNV S n) (hx : Xi S 904 8 ≤ n) (tc : Xi S 904 93 ≤ 1690) (pc : Xi S 904 98 ≤ 1690) (hPF : PF S) (hBDA : BDA S) (d : Nat) : ∀  (T17 : sS) (_ : HI T17) (_ : FR md_mo_phrase__3 S T17), (AT T17 n (c + 1)) → (RNV T17 n) → (Xi S 904 8 ≤ Xi T17 904 8) → (Xi T17 904 8 ≤ n) → (Xi T17 904 93 = Xi S 904 93) → (Xi S 904 69 ≤ Xi T17 904 69) → (Xi T17 904 65 = 0 → Xi S 904 65 = 0) → (Xi T17 904 98 = Xi S 904 98) → (Xi T17 964 (Xi S 904 98).toNat = Xi S 904 93) → (KT T17 S (Xi S 904 93)) → (KP T17 S (Xi S 904 98)) → (3 ≤ Xi T17 963 (Xi S 904 98).toNat ∧ Xi T17 963 (Xi S 904 98).toNat ≤ 4) → (PF T17) → (BDA T17) → Rl lay0 (d + 6) m_mo_phrase 236 [(0, .ref 904)] [] T17 (Q_mo_phrase__3 S n c) := by
  have C250 := c250_mo_phrase__3 hH n c hT hA hv hx tc pc hPF hBDA d 
  have hF : FR md_mo_phrase__3 S S := FR.rf
  have w1 : 0 ≤ Xi S 904 65 ∧ Xi S 904 65 ≤ 1 := hH.c _ _
  have w2 : 0 ≤ Xi S 904 69 ∧ Xi S 904 69 ≤ 2600 := hH.c _ _
  have w3 : 0 ≤ Xi S 904 8 ∧ Xi S 904 8 ≤ 5010 := hH.c _ _
  have w4 : 0 ≤ Xi S 904 93 ∧ Xi S 904 93 ≤ 1700 := hH.c _ _
  have w5 : 0 ≤ Xi S 904 98 ∧ Xi S 904 98 ≤ 1700 := hH.c _ _
  have hn5 := hT.1
  have hat := hA
  have h8 : 0 ≤ Xi S 904 8 ∧ Xi S 904 8 ≤ 5010 := hH.c _ _
  have h69 : 0 ≤ Xi S 904 69 ∧ Xi S 904 69 ≤ 2600 := hH.c _ _
  have ha0 : Xi S 904 65 = 0 → Xi S 904 8 ≤ n := fun q => (hA q).1
  have ha3 : Xi S 904 65 = 0 → 2 * Xi S 904 69 ≤ Xi S 904 8 + 1 := fun q => (hA q).2.1
  clear hat
  have h93 : 0 ≤ Xi S 904 93 := (hH.c 904 93).1
  have h98 : 0 ≤ Xi S 904 98 := (hH.c 904 98).1
  intro T17 hHT17 hFT17 A236 V236 w268 w269 w270 w271 w272 w273 w274 K236 P236 w275 PF_236 BDA_236
  have w276 : 0 ≤ Xi T17 904 65 ∧ Xi T17 904 65 ≤ 1 := hHT17.c _ _
  have w277 : 0 ≤ Xi T17 904 69 ∧ Xi T17 904 69 ≤ 2600 := hHT17.c _ _
  have w278 : 0 ≤ Xi T17 904 8 ∧ Xi T17 904 8 ≤ 5010 := hHT17.c _ _
  have w279 : 0 ≤ Xi T17 904 93 ∧ Xi T17 904 93 ≤ 1700 := hHT17.c _ _
  have w280 : 0 ≤ Xi T17 904 98 ∧ Xi T17 904 98 ≤ 1700 := hHT17.c _ _
  refine l_aload_n rfl rfl ?_
  refine l_callV rfl rfl rfl (t_mo_property__2 hHT17 n (c + 1) (by first | assumption | exact (TK_FR hFT17 rfl (by assumption : TK S _))) (by first | assumption | exact (by assumption : AT T17 _ _)) (by first | assumption | exact (by assumption : RNV T17 _)) (by first | assumption | omega) (by first | assumption | exact (by assumption : BDA T17)) _) ?_
  rintro _ T18 ⟨hHT18, w294, rfl, w286, w287, w288, w289, w290, w291, p237_, w292⟩
  have hFT18 : FR md_mo_phrase__3 S T18 := FR.tr hFT17 w294 rfl
  show Rl _ _ _ _ _ [] _ _
  have w296 : 0 ≤ Xi T18 904 8 ∧ Xi T18 904 8 ≤ 5010 := hHT18.c _ _
  have w297 : 0 ≤ Xi T18 904 65 ∧ Xi T18 904 65 ≤ 1 := hHT18.c _ _
  have w298 : 0 ≤ Xi T18 904 69 ∧ Xi T18 904 69 ≤ 2600 := hHT18.c _ _
  have w299 : Xi T18 904 93 = Xi T17 904 93 := (show Xi T18 904 93 = Xi T17 904 93 from w294.x _ _ rfl)
  have p237 : Xi T18 904 65 = 0 → Xi T18 956 (Xi S 904 93).toNat < Xi T18 904 69 := by rw [show (Xi S 904 93).toNat = (Xi T17 904 93).toNat by omega]; exact p237_
  clear p237_
  have w295 : Xi S 904 8 ≤ Xi T18 904 8 ∧ Xi T18 904 8 ≤ n ∧ Xi S 904 69 ≤ Xi T18 904 69 ∧ (Xi T18 904 65 = 0 → Xi S 904 65 = 0) := by omega
  clear w287 w289 w290
  refine l_aload_n rfl rfl ?_
  refine l_callV rfl rfl rfl (t_mo_thingOfTest__2 hHT18 n (c + 1) (by first | assumption | exact (TK_FR hFT18 rfl (by assumption : TK S _))) (by first | assumption | exact (by assumption : AT T18 _ _)) (by first | assumption | exact (by assumption : RNV T18 _)) (by first | assumption | omega) (by first | assumption | exact (by assumption : BDA T18)) _) ?_
  rintro _ T19 ⟨hHT19, w315, rfl, w308, w309, w310, kb241, w311, w312, h241_, w313⟩
  have hFT19 : FR md_mo_phrase__3 S T19 := FR.tr hFT18 w315 rfl
  show Rl _ _ _ _ _ [] _ _
  have w317 : 0 ≤ Xi T19 904 8 ∧ Xi T19 904 8 ≤ 5010 := hHT19.c _ _
  have w318 : 0 ≤ Xi T19 904 65 ∧ Xi T19 904 65 ≤ 1 := hHT19.c _ _
  have w319 : 0 ≤ Xi T19 904 69 ∧ Xi T19 904 69 ≤ 2600 := hHT19.c _ _
  have w320 : Xi T19 904 93 = Xi T17 904 93 := (show Xi T19 904 93 = Xi T18 904 93 from w315.x _ _ rfl).trans ((show Xi T18 904 93 = Xi T17 904 93 from w294.x _ _ rfl))
  have h241 : Xi T19 904 65 = 0 → THV (Xi T19 904 69) n (Xi T19 954 (Xi S 904 93).toNat) (Xi T19 955 (Xi S 904 93).toNat) := by rw [show (Xi S 904 93).toNat = (Xi T18 904 93).toNat by omega]; exact h241_
  clear h241_
  have p241 : Xi T19 904 65 = 0 → Xi T19 956 (Xi S 904 93).toNat < Xi T19 904 69 := fun q => by have t := p237 (kb241 q); rw [((by assumption : FR md_mo_thingOfTest T18 T19).cx 956 rfl _).1]; omega
  clear p237
  have w316 : Xi S 904 8 ≤ Xi T19 904 8 ∧ Xi T19 904 8 ≤ n ∧ Xi S 904 69 ≤ Xi T19 904 69 ∧ (Xi T19 904 65 = 0 → Xi S 904 65 = 0) := by omega
  clear w309 kb241 w311 w295
  refine l_aload_n rfl rfl ?_
  refine l_bipush rfl rfl ?_
  refine l_callV rfl rfl rfl (t_mo_take__3 hHT19 n (c + 1) 110 ⟨by omega, by omega⟩ (by first | assumption | exact (TK_FR hFT19 rfl (by assumption : TK S _))) (by first | assumption | exact (by assumption : AT T19 _ _)) (by first | assumption | omega) (by first | assumption | exact (by assumption : BDA T19)) _) ?_
  rintro _ T20 ⟨hHT20, w334, rfl, w329, w330, kb247, w331, w332⟩
  have hFT20 : FR md_mo_phrase__3 S T20 := FR.tr hFT19 w334 rfl
  show Rl _ _ _ _ _ [] _ _
  have w336 : 0 ≤ Xi T20 904 8 ∧ Xi T20 904 8 ≤ 5010 := hHT20.c _ _
  have w337 : 0 ≤ Xi T20 904 65 ∧ Xi T20 904 65 ≤ 1 := hHT20.c _ _
  have w338 : Xi T20 904 69 = Xi T19 904 69 := (show Xi T20 904 69 = Xi T19 904 69 from w334.x _ _ rfl)
  have w340 : Xi T20 904 93 = Xi T17 904 93 := (show Xi T20 904 93 = Xi T19 904 93 from w334.x _ _ rfl).trans ( (show Xi T19 904 93 = Xi T18 904 93 from w315.x _ _ rfl).trans ((show Xi T18 904 93 = Xi T17 904 93 from w294.x _ _ rfl)))
  have p247 : Xi T20 904 65 = 0 → Xi T20 956 (Xi S 904 93).toNat < Xi T20 904 69 := fun q => by have t := p241 (kb247 q); rw [((by assumption : FR md_mo_take T19 T20).cx 956 rfl _).1]; omega
  have h247 : Xi T20 904 65 = 0 → THV (Xi T20 904 69) n (Xi T20 954 (Xi S 904 93).toNat) (Xi T20 955 (Xi S 904 93).toNat) := fun q => thv_c (h241 (kb247 q)) (by omega) ((by assumption : FR md_mo_take T19 T20).cx 954 rfl _).1 ((by assumption : FR md_mo_take T19 T20).cx 955 rfl _).1
  clear p241 h241
  have w335 : Xi S 904 8 ≤ Xi T20 904 8 ∧ Xi T20 904 8 ≤ n ∧ Xi S 904 69 ≤ Xi T20 904 69 ∧ (Xi T20 904 65 = 0 → Xi S 904 65 = 0) := by omega
  clear w330 kb247 w331 w316
  have w342 : Xi T20 963 (Xi S 904 98).toNat = Xi T17 963 (Xi S 904 98).toNat := (show Xi T20 963 (Xi S 904 98).toNat = Xi T19 963 (Xi S 904 98).toNat from (w334.cx 963 rfl _).1).trans ( (show Xi T19 963 (Xi S 904 98).toNat = Xi T18 963 (Xi S 904 98).toNat from (w315.cx 963 rfl _).1).trans ((show Xi T18 963 (Xi S 904 98).toNat = Xi T17 963 (Xi S 904 98).toNat from (w294.cx 963 rfl _).1)))
  have w343 : Xi T20 964 (Xi S 904 98).toNat = Xi T17 964 (Xi S 904 98).toNat := (show Xi T20 964 (Xi S 904 98).toNat = Xi T19 964 (Xi S 904 98).toNat from (w334.cx 964 rfl _).1).trans ( (show Xi T19 964 (Xi S 904 98).toNat = Xi T18 964 (Xi S 904 98).toNat from (w315.cx 964 rfl _).1).trans ((show Xi T18 964 (Xi S 904 98).toNat = Xi T17 964 (Xi S 904 98).toNat from (w294.cx 964 rfl _).1)))
  have w350 : Xi T20 904 98 = Xi T17 904 98 := (show Xi T20 904 98 = Xi T19 904 98 from w334.x _ _ rfl).trans ( (show Xi T19 904 98 = Xi T18 904 98 from w315.x _ _ rfl).trans ((show Xi T18 904 98 = Xi T17 904 98 from w294.x _ _ rfl)))
  exact Rl_weak (C250 T20 hHT20 hFT20  (by first | assumption | exact (by assumption : AT T20 _ _)) (by first | assumption | exact (RNV_FR w334 rfl (by assumption : RNV T19 _))) (by omega) (by omega) (by omega) (by omega) (by omega) (by omega) (by omega) ((KT_FR w334 rfl (KT.tr (KT.tr (by assumption : KT T17 S _) (by assumption : KT T18 T17 _) (by omega)) (by assumption : KT T19 T18 _) (by omega)))) ((KP_FR w334 rfl (KP_FR w315 rfl (KP_FR w294 rfl (by assumption : KP T17 S _))))) (by omega) (p247) (h247) (by first | assumption | exact (PF_FR w334 rfl (PF_FR w315 rfl (PF_FR w294 rfl (by assumption : PF T17))))) (by first | assumption | exact (by assumption : BDA T20))) (And.intro rfl (True.intro))
set_option maxRecDepth 100000 in
set_option maxHeartbeats 12000000 in
theorem c345_mo_phrase__3 {S : sS} (hH : HI S) (n : Nat) (c : Nat) (hT : TK S n) (hA : AT S n c) (hv : RNV S n) (hx : Xi S 904 8 ≤ n) (tc : Xi S 904 93 ≤ 1690) (pc : Xi S 904 98 ≤ 1690) (hPF : PF S) (hBDA : BDA S) (d : Nat) : ∀  (T21 : sS) (_ : HI T21) (_ : FR md_mo_phrase__3 S T21), (AT T21 n (c + 1)) → (RNV T21 n) → (Xi S 904 8 ≤ Xi T21 904 8) → (Xi T21 904 8 ≤ n) → (Xi T21 904 93 = Xi S 904 93) → (Xi S 904 69 ≤ Xi T21 904 69) → (Xi T21 904 65 = 0 → Xi S 904 65 = 0) → (Xi T21 904 98 = Xi S 904 98) → (Xi T21 963 (Xi S 904 98).toNat = 5) → (Xi T21 964 (Xi S 904 98).toNat = Xi S 904 93) → (Xi T21 904 65 = 0 → Xi T21 956 (Xi S 904 93).toNat < Xi T21 904 69) → (KT T21 S (Xi S 904 93)) → (KP T21 S (Xi S 904 98)) → (PF T21) → (BDA T21) → Rl lay0 (d + 6) m_mo_phrase 345 [(0, .ref 904)] [] T21 (Q_mo_phrase__3 S n c) := by
  have C409 := c409_mo_phrase__3 hH n c hT hA hv hx tc pc hPF hBDA d 
  have hF : FR md_mo_phrase__3 S S := FR.rf
  have w1 : 0 ≤ Xi S 904 65 ∧ Xi S 904 65 ≤ 1 := hH.c _ _
  have w2 : 0 ≤ Xi S 904 69 ∧ Xi S 904 69 ≤ 2600 := hH.c _ _
  have w3 : 0 ≤ Xi S 904 8 ∧ Xi S 904 8 ≤ 5010 := hH.c _ _
  have w4 : 0 ≤ Xi S 904 93 ∧ Xi S 904 93 ≤ 1700 := hH.c _ _
  have w5 : 0 ≤ Xi S 904 98 ∧ Xi S 904 98 ≤ 1700 := hH.c _ _
  have hn5 := hT.1
  have hat := hA
  have h8 : 0 ≤ Xi S 904 8 ∧ Xi S 904 8 ≤ 5010 := hH.c _ _
  have h69 : 0 ≤ Xi S 904 69 ∧ Xi S 904 69 ≤ 2600 := hH.c _ _
  have ha0 : Xi S 904 65 = 0 → Xi S 904 8 ≤ n := fun q => (hA q).1
  have ha3 : Xi S 904 65 = 0 → 2 * Xi S 904 69 ≤ Xi S 904 8 + 1 := fun q => (hA q).2.1
  clear hat
  have h93 : 0 ≤ Xi S 904 93 := (hH.c 904 93).1
  have h98 : 0 ≤ Xi S 904 98 := (hH.c 904 98).1
  intro T21 hHT21 hFT21 A345 V345 w352 w353 w354 w355 w356 w357 w358 w359 p345 K345 P345 PF_345 BDA_345
  have w360 : 0 ≤ Xi T21 904 65 ∧ Xi T21 904 65 ≤ 1 := hHT21.c _ _
  have w361 : 0 ≤ Xi T21 904 69 ∧ Xi T21 904 69 ≤ 2600 := hHT21.c _ _
  have w362 : 0 ≤ Xi T21 904 8 ∧ Xi T21 904 8 ≤ 5010 := hHT21.c _ _
  have w363 : 0 ≤ Xi T21 904 93 ∧ Xi T21 904 93 ≤ 1700 := hHT21.c _ _
  have w364 : 0 ≤ Xi T21 904 98 ∧ Xi T21 904 98 ≤ 1700 := hHT21.c _ _
  refine l_aload_n rfl rfl ?_
  refine l_gfr rfl rfl rfl rfl rfl (hHT21.r 904 83 953 rfl) ?_
  refine l_aload_n rfl rfl ?_
  refine l_gfi rfl rfl rfl rfl rfl ?_
  refine l_baload (n := 1700) rfl rfl rfl (by decide) (by omega) (by omega) (by unfold rg; omega) ?_
  have w365 : 0 ≤ (Xi T21 953 (((Xi T21 904 93)).toNat)) ∧ (Xi T21 953 (((Xi T21 904 93)).toNat)) ≤ 1 := hHT21.c _ _
  have e353 : (Xi T21 953 (((Xi T21 904 93)).toNat)) = Xi T21 953 (Xi S 904 93).toNat := by rw [show (Xi S 904 93).toNat = (Xi T21 904 93).toNat by omega]
  refine l_if_eq rfl rfl (by unfold rg; omega) (fun w366 => ?_) (fun w367 => ?_)
  · refine l_aload_n rfl rfl ?_
    refine l_dup rfl rfl ?_
    refine l_gfi rfl rfl rfl rfl rfl ?_
    refine l_iconst rfl ?_
    refine l_iadd rfl ?_
    refine l_pfi rfl rfl rfl rfl ?_
    obtain ⟨U22, eU22⟩ : ∃ T : sS, T = uI T21 904 93 (Int32.ofInt ((Xi T21 904 93) + 1)) := ⟨_, rfl⟩
    rw [← eU22]
    have hHU22 : HI U22 := by rw [eU22]; exact HI_w hHT21 (show 0 ≤ ((Xi T21 904 93) + 1) by omega) (show ((Xi T21 904 93) + 1) ≤ 1700 by omega)
    have hFU22 : FR md_mo_phrase__3 S U22 := by rw [eU22]; exact FR.wI hFT21 (mdf_i (r := (904, 905, 93, 94)) (List.mem_of_getElem? (i := 5) rfl) (inR_i (by omega) (by omega) (by omega) (by omega)))
    have w368 : Xi U22 904 93 = ((Xi T21 904 93) + 1) := by rw [eU22]; exact Xi_same (by unfold rg; omega)
    have a368 : AT U22 n c := at_ct (c := c + 1) (by first | assumption | exact AT_FR (FR_e ) rfl (by assumption) | exact AT_FR (FR_e ) rfl (AT_FR (FR_e ) rfl (by assumption))) eU22 (by omega) (by omega) rfl
    have E368 : Xi U22 904 65 = 0 → PVt U22 n 5 (Xi S 904 93).toNat := by first | exact fun q => (by rw [eU22, Xi_ne (by omega)] at q; exact pvt_w (pvt_5 (p358 q) (fun _ => h358 q)) eU22 (by omega)) | exact fun q => (by rw [eU22, Xi_ne (by omega)] at q; exact pvt_w (pvt_5 (p345 q) (fun y => absurd (by omega) y)) eU22 (by omega))
    refine l_goto rfl rfl ?_
    have w369 : Xi U22 963 (Xi S 904 98).toNat = Xi T21 963 (Xi S 904 98).toNat := (show Xi U22 963 (Xi S 904 98).toNat = Xi T21 963 (Xi S 904 98).toNat from by rw [eU22]; exact Xi_ne (by omega))
    have w370 : Xi U22 964 (Xi S 904 98).toNat = Xi T21 964 (Xi S 904 98).toNat := (show Xi U22 964 (Xi S 904 98).toNat = Xi T21 964 (Xi S 904 98).toNat from by rw [eU22]; exact Xi_ne (by omega))
    have w371 : Xi U22 904 65 = Xi T21 904 65 := (show Xi U22 904 65 = Xi T21 904 65 from by rw [eU22]; exact Xi_ne (by omega))
    have w373 : Xi U22 904 69 = Xi T21 904 69 := (show Xi U22 904 69 = Xi T21 904 69 from by rw [eU22]; exact Xi_ne (by omega))
    have w375 : Xi U22 904 8 = Xi T21 904 8 := (show Xi U22 904 8 = Xi T21 904 8 from by rw [eU22]; exact Xi_ne (by omega))
    have w377 : 0 ≤ Xi U22 904 93 ∧ Xi U22 904 93 ≤ 1700 := hHU22.c _ _
    have w378 : Xi U22 904 98 = Xi T21 904 98 := (show Xi U22 904 98 = Xi T21 904 98 from by rw [eU22]; exact Xi_ne (by omega))
    exact Rl_weak (C409 U22 hHU22 hFU22  (by first | assumption | exact AT_bad (by omega)) (by first | assumption | exact (RNV_FR (FR_e eU22) rfl (by assumption : RNV T21 _))) (by omega) (by omega) (by omega) (by omega) (by omega) (by omega) (by omega) (by omega) ((KT_FR (FR_e eU22) rfl (by assumption : KT T21 S _))) ((KP.w (by assumption : KP T21 S _) eU22 (by omega))) (by first | exact fun q => pv_i (t := (Xi S 904 93).toNat) (E128 q) (by omega) (by omega) | exact fun q => pv_i (t := (Xi S 904 93).toNat) (E143 q) (by omega) (by omega) | exact fun q => pv_i (t := (Xi S 904 93).toNat) (E212 q) (by omega) (by omega) | exact fun q => pv_i (t := (Xi S 904 93).toNat) (E368 q) (by omega) (by omega) | exact fun q => pv_i (t := (Xi S 904 93).toNat) (E389 q) (by omega) (by omega) | exact fun q => pv_i (t := (Xi S 904 93).toNat) (E275 _ (by omega) q) rfl (by omega) | exact fun q => absurd q (by omega)) (by first | assumption | exact (PF_FR (FR_e eU22) rfl (by assumption : PF T21))) (by first | assumption | exact (BDA_FR (FR_e eU22) rfl (by assumption : BDA T21)))) (And.intro rfl (True.intro))
  · refine l_aload_n rfl rfl ?_
    refine l_callV rfl rfl rfl (t_mo_thingOfTest__2 hHT21 n (c + 1) (by first | assumption | exact (TK_FR hFT21 rfl (by assumption : TK S _))) (by first | assumption | exact (by assumption : AT T21 _ _)) (by first | assumption | exact (by assumption : RNV T21 _)) (by first | assumption | omega) (by first | assumption | exact (by assumption : BDA T21)) _) ?_
    rintro _ T23 ⟨hHT23, w392, rfl, w385, w386, w387, kb358, w388, w389, h358_, w390⟩
    have hFT23 : FR md_mo_phrase__3 S T23 := FR.tr hFT21 w392 rfl
    show Rl _ _ _ _ _ [] _ _
    have w394 : 0 ≤ Xi T23 904 8 ∧ Xi T23 904 8 ≤ 5010 := hHT23.c _ _
    have w395 : 0 ≤ Xi T23 904 65 ∧ Xi T23 904 65 ≤ 1 := hHT23.c _ _
    have w396 : 0 ≤ Xi T23 904 69 ∧ Xi T23 904 69 ≤ 2600 := hHT23.c _ _
    have w397 : Xi T23 904 93 = Xi T21 904 93 := (show Xi T23 904 93 = Xi T21 904 93 from w392.x _ _ rfl)
    have h358 : Xi T23 904 65 = 0 → THV (Xi T23 904 69) n (Xi T23 954 (Xi S 904 93).toNat) (Xi T23 955 (Xi S 904 93).toNat) := by rw [show (Xi S 904 93).toNat = (Xi T21 904 93).toNat by omega]; exact h358_
    clear h358_
    have p358 : Xi T23 904 65 = 0 → Xi T23 956 (Xi S 904 93).toNat < Xi T23 904 69 := fun q => by have t := p345 (kb358 q); rw [((by assumption : FR md_mo_thingOfTest T21 T23).cx 956 rfl _).1]; omega
    have w393 : Xi S 904 8 ≤ Xi T23 904 8 ∧ Xi T23 904 8 ≤ n ∧ Xi S 904 69 ≤ Xi T23 904 69 ∧ (Xi T23 904 65 = 0 → Xi S 904 65 = 0) := by omega
    clear w386 kb358 w388
    refine l_aload_n rfl rfl ?_
    refine l_dup rfl rfl ?_
    refine l_gfi rfl rfl rfl rfl rfl ?_
    have w399 : (Xi T23 904 93) = (Xi T21 904 93) := (show Xi T23 904 93 = Xi T21 904 93 from w392.x _ _ rfl)
    rw [w399]
    refine l_iconst rfl ?_
    refine l_iadd rfl ?_
    refine l_pfi rfl rfl rfl rfl ?_
    obtain ⟨U24, eU24⟩ : ∃ T : sS, T = uI T23 904 93 (Int32.ofInt ((Xi T21 904 93) + 1)) := ⟨_, rfl⟩
    rw [← eU24]
    have hHU24 : HI U24 := by rw [eU24]; exact HI_w hHT23 (show 0 ≤ ((Xi T21 904 93) + 1) by omega) (show ((Xi T21 904 93) + 1) ≤ 1700 by omega)
    have hFU24 : FR md_mo_phrase__3 S U24 := by rw [eU24]; exact FR.wI hFT23 (mdf_i (r := (904, 905, 93, 94)) (List.mem_of_getElem? (i := 5) rfl) (inR_i (by omega) (by omega) (by omega) (by omega)))
    have w400 : Xi U24 904 93 = ((Xi T21 904 93) + 1) := by rw [eU24]; exact Xi_same (by unfold rg; omega)
    have a368 : AT U24 n c := at_ct (c := c + 1) (by first | assumption | exact AT_FR (FR_e ) rfl (by assumption) | exact AT_FR (FR_e ) rfl (AT_FR (FR_e ) rfl (by assumption))) eU24 (by omega) (by omega) rfl
    have E368 : Xi U24 904 65 = 0 → PVt U24 n 5 (Xi S 904 93).toNat := by first | exact fun q => (by rw [eU24, Xi_ne (by omega)] at q; exact pvt_w (pvt_5 (p358 q) (fun _ => h358 q)) eU24 (by omega)) | exact fun q => (by rw [eU24, Xi_ne (by omega)] at q; exact pvt_w (pvt_5 (p345 q) (fun y => absurd (by omega) y)) eU24 (by omega))
    refine l_goto rfl rfl ?_
    have w401 : Xi U24 963 (Xi S 904 98).toNat = Xi T21 963 (Xi S 904 98).toNat := (show Xi U24 963 (Xi S 904 98).toNat = Xi T23 963 (Xi S 904 98).toNat from by rw [eU24]; exact Xi_ne (by omega)).trans ((show Xi T23 963 (Xi S 904 98).toNat = Xi T21 963 (Xi S 904 98).toNat from (w392.cx 963 rfl _).1))
    have w402 : Xi U24 964 (Xi S 904 98).toNat = Xi T21 964 (Xi S 904 98).toNat := (show Xi U24 964 (Xi S 904 98).toNat = Xi T23 964 (Xi S 904 98).toNat from by rw [eU24]; exact Xi_ne (by omega)).trans ((show Xi T23 964 (Xi S 904 98).toNat = Xi T21 964 (Xi S 904 98).toNat from (w392.cx 964 rfl _).1))
    have w403 : Xi U24 904 65 = Xi T23 904 65 := (show Xi U24 904 65 = Xi T23 904 65 from by rw [eU24]; exact Xi_ne (by omega))
    have w405 : Xi U24 904 69 = Xi T23 904 69 := (show Xi U24 904 69 = Xi T23 904 69 from by rw [eU24]; exact Xi_ne (by omega))
    have w407 : Xi U24 904 8 = Xi T23 904 8 := (show Xi U24 904 8 = Xi T23 904 8 from by rw [eU24]; exact Xi_ne (by omega))
    have w409 : 0 ≤ Xi U24 904 93 ∧ Xi U24 904 93 ≤ 1700 := hHU24.c _ _
    have w410 : Xi U24 904 98 = Xi T21 904 98 := (show Xi U24 904 98 = Xi T23 904 98 from by rw [eU24]; exact Xi_ne (by omega)).trans ((show Xi T23 904 98 = Xi T21 904 98 from w392.x _ _ rfl))
    exact Rl_weak (C409 U24 hHU24 hFU24  (by first | assumption | exact AT_bad (by omega)) (by first | assumption | exact (RNV_FR (FR_e eU24) rfl (by assumption : RNV T23 _))) (by omega) (by omega) (by omega) (by omega) (by omega) (by omega) (by omega) (by omega) ((KT_FR (FR_e eU24) rfl (KT.tr (by assumption : KT T21 S _) (by assumption : KT T23 T21 _) (by omega)))) ((KP.w (KP_FR w392 rfl (by assumption : KP T21 S _)) eU24 (by omega))) (by first | exact fun q => pv_i (t := (Xi S 904 93).toNat) (E128 q) (by omega) (by omega) | exact fun q => pv_i (t := (Xi S 904 93).toNat) (E143 q) (by omega) (by omega) | exact fun q => pv_i (t := (Xi S 904 93).toNat) (E212 q) (by omega) (by omega) | exact fun q => pv_i (t := (Xi S 904 93).toNat) (E368 q) (by omega) (by omega) | exact fun q => pv_i (t := (Xi S 904 93).toNat) (E389 q) (by omega) (by omega) | exact fun q => pv_i (t := (Xi S 904 93).toNat) (E275 _ (by omega) q) rfl (by omega) | exact fun q => absurd q (by omega)) (by first | assumption | exact (PF_FR (FR_e eU24) rfl (PF_FR w392 rfl (by assumption : PF T21)))) (by first | assumption | exact (BDA_FR (FR_e eU24) rfl (by assumption : BDA T23)))) (And.intro rfl (True.intro))
set_option maxRecDepth 100000 in
set_option maxHeartbeats 12000000 in
theorem t_mo_phrase__3 {S : sS} (hH : HI S) (n : Nat) (c : Nat) (hT : TK S n) (hA : AT S n c) (hv : RNV S n) (hx : Xi S 904 8 ≤ n) (tc : Xi S 904 93 ≤ 1690) (pc : Xi S 904 98 ≤ 1690) (hPF : PF S) (hBDA : BDA S) (d : Nat) : Mt lay0 (d + 7) m_mo_phrase [.ref 904] S (Q_mo_phrase__3 S n c) := by
  refine Mt_R rfl rfl ?_
  have C409 := c409_mo_phrase__3 hH n c hT hA hv hx tc pc hPF hBDA d 
  have C121 := c121_mo_phrase__3 hH n c hT hA hv hx tc pc hPF hBDA d 
  have C205 := c205_mo_phrase__3 hH n c hT hA hv hx tc pc hPF hBDA d 
  have C166 := c166_mo_phrase__3 hH n c hT hA hv hx tc pc hPF hBDA d 
  have C268 := c268_mo_phrase__3 hH n c hT hA hv hx tc pc hPF hBDA d 
  have C250 := c250_mo_phrase__3 hH n c hT hA hv hx tc pc hPF hBDA d 
  have C236 := c236_mo_phrase__3 hH n c hT hA hv hx tc pc hPF hBDA d 
  have C345 := c345_mo_phrase__3 hH n c hT hA hv hx tc pc hPF hBDA d 
  have hF : FR md_mo_phrase__3 S S := FR.rf
  have w1 : 0 ≤ Xi S 904 65 ∧ Xi S 904 65 ≤ 1 := hH.c _ _
  have w2 : 0 ≤ Xi S 904 69 ∧ Xi S 904 69 ≤ 2600 := hH.c _ _
  have w3 : 0 ≤ Xi S 904 8 ∧ Xi S 904 8 ≤ 5010 := hH.c _ _
  have w4 : 0 ≤ Xi S 904 93 ∧ Xi S 904 93 ≤ 1700 := hH.c _ _
  have w5 : 0 ≤ Xi S 904 98 ∧ Xi S 904 98 ≤ 1700 := hH.c _ _
  have hn5 := hT.1
  have hat := hA
  have h8 : 0 ≤ Xi S 904 8 ∧ Xi S 904 8 ≤ 5010 := hH.c _ _
  have h69 : 0 ≤ Xi S 904 69 ∧ Xi S 904 69 ≤ 2600 := hH.c _ _
  have ha0 : Xi S 904 65 = 0 → Xi S 904 8 ≤ n := fun q => (hA q).1
  have ha3 : Xi S 904 65 = 0 → 2 * Xi S 904 69 ≤ Xi S 904 8 + 1 := fun q => (hA q).2.1
  clear hat
  have h93 : 0 ≤ Xi S 904 93 := (hH.c 904 93).1
  have h98 : 0 ≤ Xi S 904 98 := (hH.c 904 98).1
  refine l_aload_n rfl rfl ?_
  refine l_gfi rfl rfl rfl rfl rfl ?_
  refine l_istore_n rfl rfl rfl ?_
  refine l_aload_n rfl rfl ?_
  refine l_gfr rfl rfl rfl rfl rfl (hH.r 904 97 965 rfl) ?_
  refine l_iload_n rfl rfl ?_
  refine l_aload_n rfl rfl ?_
  refine l_gfi rfl rfl rfl rfl rfl ?_
  refine l_iastore (n := 1700) rfl rfl (by omega) (by omega) (by unfold rg; omega) ?_
  obtain ⟨U25, eU25⟩ : ∃ T : sS, T = uI S 965 (((Xi S 904 98)).toNat) (Int32.ofInt (Xi S 904 8)) := ⟨_, rfl⟩
  rw [← eU25]
  have hHU25 : HI U25 := by rw [eU25]; exact HI_w hH (show 0 ≤ (Xi S 904 8) by omega) (show (Xi S 904 8) ≤ 5010 by omega)
  have hFU25 : FR md_mo_phrase__3 S U25 := by rw [eU25]; exact FR.wI hF (mdf_i (r := (965, 966, 0, 100000)) (List.mem_of_getElem? (i := 25) rfl) (inR_i (by omega) (by omega) (by omega) (by omega)))
  have w412 : Xi U25 965 (((Xi S 904 98)).toNat) = (Xi S 904 8) := by rw [eU25]; exact Xi_same (by unfold rg; omega)
  have pf14 : PF U25 := pf_w hPF eU25 (by unfold rg; omega) (by omega)
  refine l_aload_n rfl rfl ?_
  refine l_gfr rfl rfl rfl rfl rfl (hHU25.r 904 96 964 rfl) ?_
  refine l_iload_n rfl rfl ?_
  refine l_aload_n rfl rfl ?_
  refine l_gfi rfl rfl rfl rfl rfl ?_
  have w413 : (Xi U25 904 93) = (Xi S 904 93) := (show Xi U25 904 93 = Xi S 904 93 from by rw [eU25]; exact Xi_ne (by omega))
  rw [w413]
  refine l_iastore (n := 1700) rfl rfl (by omega) (by omega) (by unfold rg; omega) ?_
  obtain ⟨U26, eU26⟩ : ∃ T : sS, T = uI U25 964 (((Xi S 904 98)).toNat) (Int32.ofInt (Xi S 904 93)) := ⟨_, rfl⟩
  rw [← eU26]
  have hHU26 : HI U26 := by rw [eU26]; exact HI_w hHU25 (show 0 ≤ (Xi S 904 93) by omega) (show (Xi S 904 93) ≤ 1700 by omega)
  have hFU26 : FR md_mo_phrase__3 S U26 := by rw [eU26]; exact FR.wI hFU25 (mdf_i (r := (964, 965, 0, 100000)) (List.mem_of_getElem? (i := 24) rfl) (inR_i (by omega) (by omega) (by omega) (by omega)))
  have w414 : Xi U26 964 (((Xi S 904 98)).toNat) = (Xi S 904 93) := by rw [eU26]; exact Xi_same (by unfold rg; omega)
  refine l_aload_n rfl rfl ?_
  refine l_gfr rfl rfl rfl rfl rfl (hHU26.r 904 91 961 rfl) ?_
  refine l_aload_n rfl rfl ?_
  refine l_gfi rfl rfl rfl rfl rfl ?_
  have w415 : (Xi U26 904 93) = (Xi S 904 93) := (show Xi U26 904 93 = Xi U25 904 93 from by rw [eU26]; exact Xi_ne (by omega)).trans ((show Xi U25 904 93 = Xi S 904 93 from by rw [eU25]; exact Xi_ne (by omega)))
  rw [w415]
  refine l_aload_n rfl rfl ?_
  refine l_gfi rfl rfl rfl rfl rfl ?_
  have w416 : (Xi U26 904 8) = (Xi S 904 8) := (show Xi U26 904 8 = Xi U25 904 8 from by rw [eU26]; exact Xi_ne (by omega)).trans ((show Xi U25 904 8 = Xi S 904 8 from by rw [eU25]; exact Xi_ne (by omega)))
  rw [w416]
  refine l_iastore (n := 1700) rfl rfl (by omega) (by omega) (by unfold rg; omega) ?_
  obtain ⟨U27, eU27⟩ : ∃ T : sS, T = uI U26 961 (((Xi S 904 93)).toNat) (Int32.ofInt (Xi S 904 8)) := ⟨_, rfl⟩
  rw [← eU27]
  have hHU27 : HI U27 := by rw [eU27]; exact HI_w hHU26 (show 0 ≤ (Xi S 904 8) by omega) (show (Xi S 904 8) ≤ 5010 by omega)
  have hFU27 : FR md_mo_phrase__3 S U27 := by rw [eU27]; exact FR.wI hFU26 (mdf_i (r := (961, 962, 0, 100000)) (List.mem_of_getElem? (i := 21) rfl) (inR_i (by omega) (by omega) (by omega) (by omega)))
  have w417 : Xi U27 961 (((Xi S 904 93)).toNat) = (Xi S 904 8) := by rw [eU27]; exact Xi_same (by unfold rg; omega)
  refine l_aload_n rfl rfl ?_
  have w418 : Xi U27 904 65 = Xi S 904 65 := (show Xi U27 904 65 = Xi U26 904 65 from by rw [eU27]; exact Xi_ne (by omega)).trans ( (show Xi U26 904 65 = Xi U25 904 65 from by rw [eU26]; exact Xi_ne (by omega)).trans ((show Xi U25 904 65 = Xi S 904 65 from by rw [eU25]; exact Xi_ne (by omega))))
  have w420 : Xi U27 904 69 = Xi S 904 69 := (show Xi U27 904 69 = Xi U26 904 69 from by rw [eU27]; exact Xi_ne (by omega)).trans ( (show Xi U26 904 69 = Xi U25 904 69 from by rw [eU26]; exact Xi_ne (by omega)).trans ((show Xi U25 904 69 = Xi S 904 69 from by rw [eU25]; exact Xi_ne (by omega))))
  have w422 : Xi U27 904 8 = Xi S 904 8 := (show Xi U27 904 8 = Xi U26 904 8 from by rw [eU27]; exact Xi_ne (by omega)).trans ( (show Xi U26 904 8 = Xi U25 904 8 from by rw [eU26]; exact Xi_ne (by omega)).trans ((show Xi U25 904 8 = Xi S 904 8 from by rw [eU25]; exact Xi_ne (by omega))))
  have w424 : Xi U27 904 93 = Xi S 904 93 := (show Xi U27 904 93 = Xi U26 904 93 from by rw [eU27]; exact Xi_ne (by omega)).trans ( (show Xi U26 904 93 = Xi U25 904 93 from by rw [eU26]; exact Xi_ne (by omega)).trans ((show Xi U25 904 93 = Xi S 904 93 from by rw [eU25]; exact Xi_ne (by omega))))
  have w426 : Xi U27 904 98 = Xi S 904 98 := (show Xi U27 904 98 = Xi U26 904 98 from by rw [eU27]; exact Xi_ne (by omega)).trans ( (show Xi U26 904 98 = Xi U25 904 98 from by rw [eU26]; exact Xi_ne (by omega)).trans ((show Xi U25 904 98 = Xi S 904 98 from by rw [eU25]; exact Xi_ne (by omega))))
  refine l_callV rfl rfl rfl (t_mo_look hHU27 n c (by first | assumption | exact (TK_FR hFU27 rfl (by assumption : TK S _))) (by first | assumption | exact (AT_FR (FR_e eU27) rfl (AT_FR (FR_e eU26) rfl (AT_FR (FR_e eU25) rfl (by assumption : AT S _ _))))) _) ?_
  rintro _ _ ⟨rfl, z429, rfl, w429, w428⟩
  show Rl _ _ _ _ _ [iv z429] _ _
  have l39 : z429 ≠ 1 → Xi S 904 65 = 0 ∧ Xi S 907 (Xi S 904 8).toNat = z429 := fun q => by have t := (by assumption : z429 ≠ 1 → Xi U27 904 65 = 0 ∧ Xi U27 907 (Xi U27 904 8).toNat = z429) q; rw [show Xi U27 904 8 = Xi S 904 8 by omega, (hFU27.cx 907 rfl _).1] at t; exact ⟨by omega, t.2⟩
  refine l_istore_n rfl rfl rfl ?_
  refine l_aload_n rfl rfl ?_
  refine l_dup rfl rfl ?_
  refine l_gfi rfl rfl rfl rfl rfl ?_
  have w430 : (Xi U27 904 8) = (Xi S 904 8) := (show Xi U27 904 8 = Xi U26 904 8 from by rw [eU27]; exact Xi_ne (by omega)).trans ( (show Xi U26 904 8 = Xi U25 904 8 from by rw [eU26]; exact Xi_ne (by omega)).trans ((show Xi U25 904 8 = Xi S 904 8 from by rw [eU25]; exact Xi_ne (by omega))))
  rw [w430]
  refine l_iconst rfl ?_
  refine l_iadd rfl ?_
  refine l_pfi rfl rfl rfl rfl ?_
  obtain ⟨U28, eU28⟩ : ∃ T : sS, T = uI U27 904 8 (Int32.ofInt ((Xi S 904 8) + 1)) := ⟨_, rfl⟩
  rw [← eU28]
  have hHU28 : HI U28 := by rw [eU28]; exact HI_w hHU27 (show 0 ≤ ((Xi S 904 8) + 1) by omega) (show ((Xi S 904 8) + 1) ≤ 5010 by omega)
  have hFU28 : FR md_mo_phrase__3 S U28 := by rw [eU28]; exact FR.wI hFU27 (mdf_i (r := (904, 905, 8, 9)) (List.mem_of_getElem? (i := 0) rfl) (inR_i (by omega) (by omega) (by omega) (by omega)))
  have w431 : Xi U28 904 8 = ((Xi S 904 8) + 1) := by rw [eU28]; exact Xi_same (by unfold rg; omega)
  refine l_iload_n rfl rfl ?_
  refine l_tsw rfl rfl rfl rfl (by unfold rg; omega) (fun w432 => ?_) (fun ii tt hii w432 => ?_)
  · refine l_aload_n rfl rfl ?_
    refine l_dup rfl rfl ?_
    refine l_gfi rfl rfl rfl rfl rfl ?_
    refine l_iconst rfl ?_
    refine l_isub rfl ?_
    refine l_pfi rfl rfl rfl rfl ?_
    obtain ⟨U29, eU29⟩ : ∃ T : sS, T = uI U28 904 8 (Int32.ofInt ((Xi U28 904 8) - 1)) := ⟨_, rfl⟩
    rw [← eU29]
    have hHU29 : HI U29 := by rw [eU29]; exact HI_w hHU28 (show 0 ≤ ((Xi U28 904 8) - 1) by omega) (show ((Xi U28 904 8) - 1) ≤ 5010 by omega)
    have hFU29 : FR md_mo_phrase__3 S U29 := by rw [eU29]; exact FR.wI hFU28 (mdf_i (r := (904, 905, 8, 9)) (List.mem_of_getElem? (i := 0) rfl) (inR_i (by omega) (by omega) (by omega) (by omega)))
    have w433 : Xi U29 904 8 = ((Xi U28 904 8) - 1) := by rw [eU29]; exact Xi_same (by unfold rg; omega)
    refine l_aload_n rfl rfl ?_
    have w434 : Xi U29 904 65 = Xi S 904 65 := (show Xi U29 904 65 = Xi U28 904 65 from by rw [eU29]; exact Xi_ne (by omega)).trans ( (show Xi U28 904 65 = Xi U27 904 65 from by rw [eU28]; exact Xi_ne (by omega)).trans ( (show Xi U27 904 65 = Xi U26 904 65 from by rw [eU27]; exact Xi_ne (by omega)).trans ( (show Xi U26 904 65 = Xi U25 904 65 from by rw [eU26]; exact Xi_ne (by omega)).trans ((show Xi U25 904 65 = Xi S 904 65 from by rw [eU25]; exact Xi_ne (by omega))))))
    have w436 : Xi U29 904 69 = Xi S 904 69 := (show Xi U29 904 69 = Xi U28 904 69 from by rw [eU29]; exact Xi_ne (by omega)).trans ( (show Xi U28 904 69 = Xi U27 904 69 from by rw [eU28]; exact Xi_ne (by omega)).trans ( (show Xi U27 904 69 = Xi U26 904 69 from by rw [eU27]; exact Xi_ne (by omega)).trans ( (show Xi U26 904 69 = Xi U25 904 69 from by rw [eU26]; exact Xi_ne (by omega)).trans ((show Xi U25 904 69 = Xi S 904 69 from by rw [eU25]; exact Xi_ne (by omega))))))
    have w438 : 0 ≤ Xi U29 904 8 ∧ Xi U29 904 8 ≤ 5010 := hHU29.c _ _
    have w439 : Xi U29 904 93 = Xi S 904 93 := (show Xi U29 904 93 = Xi U28 904 93 from by rw [eU29]; exact Xi_ne (by omega)).trans ( (show Xi U28 904 93 = Xi U27 904 93 from by rw [eU28]; exact Xi_ne (by omega)).trans ( (show Xi U27 904 93 = Xi U26 904 93 from by rw [eU27]; exact Xi_ne (by omega)).trans ( (show Xi U26 904 93 = Xi U25 904 93 from by rw [eU26]; exact Xi_ne (by omega)).trans ((show Xi U25 904 93 = Xi S 904 93 from by rw [eU25]; exact Xi_ne (by omega))))))
    have w441 : Xi U29 904 98 = Xi S 904 98 := (show Xi U29 904 98 = Xi U28 904 98 from by rw [eU29]; exact Xi_ne (by omega)).trans ( (show Xi U28 904 98 = Xi U27 904 98 from by rw [eU28]; exact Xi_ne (by omega)).trans ( (show Xi U27 904 98 = Xi U26 904 98 from by rw [eU27]; exact Xi_ne (by omega)).trans ( (show Xi U26 904 98 = Xi U25 904 98 from by rw [eU26]; exact Xi_ne (by omega)).trans ((show Xi U25 904 98 = Xi S 904 98 from by rw [eU25]; exact Xi_ne (by omega))))))
    refine l_callV rfl rfl rfl (t_mo_odd__2 hHU29 (by first | assumption | exact (BDA_FR (FR_e eU29) rfl (BDA_FR (FR_e eU28) rfl (BDA_FR (FR_e eU27) rfl (BDA_FR (FR_e eU26) rfl (BDA_FR (FR_e eU25) rfl (by assumption : BDA S))))))) (by first | omega | exact fun q => (by have t := ((by assumption : AT U29 _ _) q).1; have u := hT.1; omega)) _) ?_
    rintro _ T30 ⟨hHT30, w447, rfl, w443, w444, w445⟩
    have hFT30 : FR md_mo_phrase__3 S T30 := FR.tr hFU29 w447 rfl
    show Rl _ _ _ _ _ [] _ _
    have w449 : Xi T30 904 8 = Xi U29 904 8 := (show Xi T30 904 8 = Xi U29 904 8 from w447.x _ _ rfl)
    have w451 : 0 ≤ Xi T30 904 65 ∧ Xi T30 904 65 ≤ 1 := hHT30.c _ _
    have w452 : Xi T30 904 69 = Xi S 904 69 := (show Xi T30 904 69 = Xi U29 904 69 from w447.x _ _ rfl).trans ( (show Xi U29 904 69 = Xi U28 904 69 from by rw [eU29]; exact Xi_ne (by omega)).trans ( (show Xi U28 904 69 = Xi U27 904 69 from by rw [eU28]; exact Xi_ne (by omega)).trans ( (show Xi U27 904 69 = Xi U26 904 69 from by rw [eU27]; exact Xi_ne (by omega)).trans ( (show Xi U26 904 69 = Xi U25 904 69 from by rw [eU26]; exact Xi_ne (by omega)).trans ((show Xi U25 904 69 = Xi S 904 69 from by rw [eU25]; exact Xi_ne (by omega)))))))
    have w454 : Xi T30 904 93 = Xi S 904 93 := (show Xi T30 904 93 = Xi U29 904 93 from w447.x _ _ rfl).trans ( (show Xi U29 904 93 = Xi U28 904 93 from by rw [eU29]; exact Xi_ne (by omega)).trans ( (show Xi U28 904 93 = Xi U27 904 93 from by rw [eU28]; exact Xi_ne (by omega)).trans ( (show Xi U27 904 93 = Xi U26 904 93 from by rw [eU27]; exact Xi_ne (by omega)).trans ( (show Xi U26 904 93 = Xi U25 904 93 from by rw [eU26]; exact Xi_ne (by omega)).trans ((show Xi U25 904 93 = Xi S 904 93 from by rw [eU25]; exact Xi_ne (by omega)))))))
    have w448 : Xi S 904 8 ≤ Xi T30 904 8 ∧ Xi T30 904 8 ≤ n ∧ Xi S 904 69 ≤ Xi T30 904 69 ∧ (Xi T30 904 65 = 0 → Xi S 904 65 = 0) := by omega
    clear w444
    have w456 : Xi T30 963 (Xi S 904 98).toNat = Xi S 963 (Xi S 904 98).toNat := (show Xi T30 963 (Xi S 904 98).toNat = Xi U29 963 (Xi S 904 98).toNat from (w447.cx 963 rfl _).1).trans ( (show Xi U29 963 (Xi S 904 98).toNat = Xi U28 963 (Xi S 904 98).toNat from by rw [eU29]; exact Xi_ne (by omega)).trans ( (show Xi U28 963 (Xi S 904 98).toNat = Xi U27 963 (Xi S 904 98).toNat from by rw [eU28]; exact Xi_ne (by omega)).trans ( (show Xi U27 963 (Xi S 904 98).toNat = Xi U26 963 (Xi S 904 98).toNat from by rw [eU27]; exact Xi_ne (by omega)).trans ( (show Xi U26 963 (Xi S 904 98).toNat = Xi U25 963 (Xi S 904 98).toNat from by rw [eU26]; exact Xi_ne (by omega)).trans ((show Xi U25 963 (Xi S 904 98).toNat = Xi S 963 (Xi S 904 98).toNat from by rw [eU25]; exact Xi_ne (by omega)))))))
    have w457 : Xi T30 964 (Xi S 904 98).toNat = Xi U26 964 (Xi S 904 98).toNat := (show Xi T30 964 (Xi S 904 98).toNat = Xi U29 964 (Xi S 904 98).toNat from (w447.cx 964 rfl _).1).trans ( (show Xi U29 964 (Xi S 904 98).toNat = Xi U28 964 (Xi S 904 98).toNat from by rw [eU29]; exact Xi_ne (by omega)).trans ( (show Xi U28 964 (Xi S 904 98).toNat = Xi U27 964 (Xi S 904 98).toNat from by rw [eU28]; exact Xi_ne (by omega)).trans ((show Xi U27 964 (Xi S 904 98).toNat = Xi U26 964 (Xi S 904 98).toNat from by rw [eU27]; exact Xi_ne (by omega)))))
    have w465 : Xi T30 904 98 = Xi S 904 98 := (show Xi T30 904 98 = Xi U29 904 98 from w447.x _ _ rfl).trans ( (show Xi U29 904 98 = Xi U28 904 98 from by rw [eU29]; exact Xi_ne (by omega)).trans ( (show Xi U28 904 98 = Xi U27 904 98 from by rw [eU28]; exact Xi_ne (by omega)).trans ( (show Xi U27 904 98 = Xi U26 904 98 from by rw [eU27]; exact Xi_ne (by omega)).trans ( (show Xi U26 904 98 = Xi U25 904 98 from by rw [eU26]; exact Xi_ne (by omega)).trans ((show Xi U25 904 98 = Xi S 904 98 from by rw [eU25]; exact Xi_ne (by omega)))))))
    exact Rl_weak (C409 T30 hHT30 hFT30  (by first | assumption | exact AT_bad (by omega)) (by first | assumption | exact (RNV_FR w447 rfl (RNV_FR (FR_e eU29) rfl (RNV_FR (FR_e eU28) rfl (RNV_FR (FR_e eU27) rfl (RNV_FR (FR_e eU26) rfl (RNV_FR (FR_e eU25) rfl (by assumption : RNV S _)))))))) (by omega) (by omega) (by omega) (by omega) (by omega) (by omega) (by omega) (by omega) ((KT_FR w447 rfl (KT_FR (FR_e eU29) rfl (KT_FR (FR_e eU28) rfl (KT.w (KT_FR (FR_e eU26) rfl (KT_FR (FR_e eU25) rfl KT.rf)) eU27 (by omega)))))) ((KP_FR w447 rfl (KP.w (KP.w (KP.w (KP.w (KP.w KP.rf eU25 (by omega)) eU26 (by omega)) eU27 (by omega)) eU28 (by omega)) eU29 (by omega)))) (by first | exact fun q => pv_i (t := (Xi S 904 93).toNat) (E128 q) (by omega) (by omega) | exact fun q => pv_i (t := (Xi S 904 93).toNat) (E143 q) (by omega) (by omega) | exact fun q => pv_i (t := (Xi S 904 93).toNat) (E212 q) (by omega) (by omega) | exact fun q => pv_i (t := (Xi S 904 93).toNat) (E368 q) (by omega) (by omega) | exact fun q => pv_i (t := (Xi S 904 93).toNat) (E389 q) (by omega) (by omega) | exact fun q => pv_i (t := (Xi S 904 93).toNat) (E275 _ (by omega) q) rfl (by omega) | exact fun q => absurd q (by omega)) (by first | assumption | exact (PF_FR w447 rfl (PF_FR (FR_e eU29) rfl (PF_FR (FR_e eU28) rfl (PF_FR (FR_e eU27) rfl (PF_FR (FR_e eU26) rfl (by assumption : PF U25))))))) (by first | assumption | exact (by assumption : BDA T30))) (And.intro rfl (True.intro))
  · match ii, hii with
    | 0, hii =>
      cases hii
      have w467 : z429 = 143 := by simpa using w432
      refine l_aload_n rfl rfl ?_
      have t96 : AT U28 n (c + 1) ∧ _ := at_mv (c2 := c + 1) hT hA (fun j => (hFU27.cx 907 rfl j).1) (fun j => (hFU27.cx 908 rfl j).1) (by omega) (by omega) (by omega) (by omega) eU28 (by omega) (by omega) (by omega) (by omega) (Or.inr ⟨rfl, by unfold K3; omega⟩)
      have a96 : AT U28 n (c + 1) := t96.1
      have l96 := t96.2
      clear t96 l39
      refine l_gfr rfl rfl rfl rfl rfl (hHU28.r 904 95 963 rfl) ?_
      refine l_iload_n rfl rfl ?_
      refine l_iconst rfl ?_
      refine l_iastore (n := 1700) rfl rfl (by omega) (by omega) (by unfold rg; omega) ?_
      obtain ⟨U31, eU31⟩ : ∃ T : sS, T = uI U28 963 (((Xi S 904 98)).toNat) (Int32.ofInt 0) := ⟨_, rfl⟩
      rw [← eU31]
      have hHU31 : HI U31 := by rw [eU31]; exact HI_w hHU28 (show 0 ≤ 0 by omega) (show 0 ≤ 6 by omega)
      have hFU31 : FR md_mo_phrase__3 S U31 := by rw [eU31]; exact FR.wI hFU28 (mdf_i (r := (963, 964, 0, 100000)) (List.mem_of_getElem? (i := 23) rfl) (inR_i (by omega) (by omega) (by omega) (by omega)))
      have w468 : Xi U31 963 (((Xi S 904 98)).toNat) = 0 := by rw [eU31]; exact Xi_same (by unfold rg; omega)
      refine l_aload_n rfl rfl ?_
      refine l_gfr rfl rfl rfl rfl rfl (hHU31.r 904 87 957 rfl) ?_
      refine l_aload_n rfl rfl ?_
      refine l_gfi rfl rfl rfl rfl rfl ?_
      have w469 : (Xi U31 904 93) = (Xi S 904 93) := (show Xi U31 904 93 = Xi U28 904 93 from by rw [eU31]; exact Xi_ne (by omega)).trans ( (show Xi U28 904 93 = Xi U27 904 93 from by rw [eU28]; exact Xi_ne (by omega)).trans ( (show Xi U27 904 93 = Xi U26 904 93 from by rw [eU27]; exact Xi_ne (by omega)).trans ( (show Xi U26 904 93 = Xi U25 904 93 from by rw [eU26]; exact Xi_ne (by omega)).trans ((show Xi U25 904 93 = Xi S 904 93 from by rw [eU25]; exact Xi_ne (by omega))))))
      rw [w469]
      refine l_aload_n rfl rfl ?_
      refine l_gfi rfl rfl rfl rfl rfl ?_
      have w470 : (Xi U31 904 8) = (Xi U28 904 8) := (show Xi U31 904 8 = Xi U28 904 8 from by rw [eU31]; exact Xi_ne (by omega))
      rw [w470]
      refine l_iastore (n := 1700) rfl rfl (by omega) (by omega) (by unfold rg; omega) ?_
      obtain ⟨U32, eU32⟩ : ∃ T : sS, T = uI U31 957 (((Xi S 904 93)).toNat) (Int32.ofInt (Xi U28 904 8)) := ⟨_, rfl⟩
      rw [← eU32]
      have hHU32 : HI U32 := by rw [eU32]; exact HI_w hHU31 (show 0 ≤ (Xi U28 904 8) by omega) (show (Xi U28 904 8) ≤ 5010 by omega)
      have hFU32 : FR md_mo_phrase__3 S U32 := by rw [eU32]; exact FR.wI hFU31 (mdf_i (r := (957, 958, 0, 100000)) (List.mem_of_getElem? (i := 17) rfl) (inR_i (by omega) (by omega) (by omega) (by omega)))
      have w471 : Xi U32 957 (((Xi S 904 93)).toNat) = (Xi U28 904 8) := by rw [eU32]; exact Xi_same (by unfold rg; omega)
      have m115 : Xi U32 957 (Xi S 904 93).toNat = Xi U32 904 8 := by have t : Xi U32 904 8 = Xi U31 904 8 := (by rw [eU32, Xi_ne (by omega)]); omega
      refine l_aload_n rfl rfl ?_
      refine l_iconst rfl ?_
      have w472 : Xi U32 904 65 = Xi S 904 65 := (show Xi U32 904 65 = Xi U31 904 65 from by rw [eU32]; exact Xi_ne (by omega)).trans ( (show Xi U31 904 65 = Xi U28 904 65 from by rw [eU31]; exact Xi_ne (by omega)).trans ( (show Xi U28 904 65 = Xi U27 904 65 from by rw [eU28]; exact Xi_ne (by omega)).trans ( (show Xi U27 904 65 = Xi U26 904 65 from by rw [eU27]; exact Xi_ne (by omega)).trans ( (show Xi U26 904 65 = Xi U25 904 65 from by rw [eU26]; exact Xi_ne (by omega)).trans ((show Xi U25 904 65 = Xi S 904 65 from by rw [eU25]; exact Xi_ne (by omega)))))))
      have w474 : Xi U32 904 69 = Xi S 904 69 := (show Xi U32 904 69 = Xi U31 904 69 from by rw [eU32]; exact Xi_ne (by omega)).trans ( (show Xi U31 904 69 = Xi U28 904 69 from by rw [eU31]; exact Xi_ne (by omega)).trans ( (show Xi U28 904 69 = Xi U27 904 69 from by rw [eU28]; exact Xi_ne (by omega)).trans ( (show Xi U27 904 69 = Xi U26 904 69 from by rw [eU27]; exact Xi_ne (by omega)).trans ( (show Xi U26 904 69 = Xi U25 904 69 from by rw [eU26]; exact Xi_ne (by omega)).trans ((show Xi U25 904 69 = Xi S 904 69 from by rw [eU25]; exact Xi_ne (by omega)))))))
      have w476 : Xi U32 904 8 = Xi U28 904 8 := (show Xi U32 904 8 = Xi U31 904 8 from by rw [eU32]; exact Xi_ne (by omega)).trans ((show Xi U31 904 8 = Xi U28 904 8 from by rw [eU31]; exact Xi_ne (by omega)))
      have w477 : 0 ≤ Xi U28 904 8 ∧ Xi U28 904 8 ≤ 5010 := hHU28.c _ _
      have w478 : Xi U32 904 93 = Xi S 904 93 := (show Xi U32 904 93 = Xi U31 904 93 from by rw [eU32]; exact Xi_ne (by omega)).trans ( (show Xi U31 904 93 = Xi U28 904 93 from by rw [eU31]; exact Xi_ne (by omega)).trans ( (show Xi U28 904 93 = Xi U27 904 93 from by rw [eU28]; exact Xi_ne (by omega)).trans ( (show Xi U27 904 93 = Xi U26 904 93 from by rw [eU27]; exact Xi_ne (by omega)).trans ( (show Xi U26 904 93 = Xi U25 904 93 from by rw [eU26]; exact Xi_ne (by omega)).trans ((show Xi U25 904 93 = Xi S 904 93 from by rw [eU25]; exact Xi_ne (by omega)))))))
      have w480 : Xi U32 904 98 = Xi S 904 98 := (show Xi U32 904 98 = Xi U31 904 98 from by rw [eU32]; exact Xi_ne (by omega)).trans ( (show Xi U31 904 98 = Xi U28 904 98 from by rw [eU31]; exact Xi_ne (by omega)).trans ( (show Xi U28 904 98 = Xi U27 904 98 from by rw [eU28]; exact Xi_ne (by omega)).trans ( (show Xi U27 904 98 = Xi U26 904 98 from by rw [eU27]; exact Xi_ne (by omega)).trans ( (show Xi U26 904 98 = Xi U25 904 98 from by rw [eU26]; exact Xi_ne (by omega)).trans ((show Xi U25 904 98 = Xi S 904 98 from by rw [eU25]; exact Xi_ne (by omega)))))))
      refine l_callV rfl rfl rfl (t_mo_take__3 hHU32 n (c + 1) 5 ⟨by omega, by omega⟩ (by first | assumption | exact (TK_FR hFU32 rfl (by assumption : TK S _))) (by first | assumption | exact (AT_FR (FR_e eU32) rfl (AT_FR (FR_e eU31) rfl (by assumption : AT U28 _ _)))) (by first | assumption | omega) (by first | assumption | exact (BDA_FR (FR_e eU32) rfl (BDA_FR (FR_e eU31) rfl (BDA_FR (FR_e eU28) rfl (BDA_FR (FR_e eU27) rfl (BDA_FR (FR_e eU26) rfl (BDA_FR (FR_e eU25) rfl (by assumption : BDA S)))))))) _) ?_
      rintro _ T33 ⟨hHT33, w488, rfl, w482, w483, w484, w485, w486⟩
      have hFT33 : FR md_mo_phrase__3 S T33 := FR.tr hFU32 w488 rfl
      show Rl _ _ _ _ _ [] _ _
      have w490 : 0 ≤ Xi T33 904 8 ∧ Xi T33 904 8 ≤ 5010 := hHT33.c _ _
      have w491 : 0 ≤ Xi T33 904 65 ∧ Xi T33 904 65 ≤ 1 := hHT33.c _ _
      have w492 : Xi T33 904 69 = Xi S 904 69 := (show Xi T33 904 69 = Xi U32 904 69 from w488.x _ _ rfl).trans ( (show Xi U32 904 69 = Xi U31 904 69 from by rw [eU32]; exact Xi_ne (by omega)).trans ( (show Xi U31 904 69 = Xi U28 904 69 from by rw [eU31]; exact Xi_ne (by omega)).trans ( (show Xi U28 904 69 = Xi U27 904 69 from by rw [eU28]; exact Xi_ne (by omega)).trans ( (show Xi U27 904 69 = Xi U26 904 69 from by rw [eU27]; exact Xi_ne (by omega)).trans ( (show Xi U26 904 69 = Xi U25 904 69 from by rw [eU26]; exact Xi_ne (by omega)).trans ((show Xi U25 904 69 = Xi S 904 69 from by rw [eU25]; exact Xi_ne (by omega))))))))
      have w494 : Xi T33 904 93 = Xi S 904 93 := (show Xi T33 904 93 = Xi U32 904 93 from w488.x _ _ rfl).trans ( (show Xi U32 904 93 = Xi U31 904 93 from by rw [eU32]; exact Xi_ne (by omega)).trans ( (show Xi U31 904 93 = Xi U28 904 93 from by rw [eU31]; exact Xi_ne (by omega)).trans ( (show Xi U28 904 93 = Xi U27 904 93 from by rw [eU28]; exact Xi_ne (by omega)).trans ( (show Xi U27 904 93 = Xi U26 904 93 from by rw [eU27]; exact Xi_ne (by omega)).trans ( (show Xi U26 904 93 = Xi U25 904 93 from by rw [eU26]; exact Xi_ne (by omega)).trans ((show Xi U25 904 93 = Xi S 904 93 from by rw [eU25]; exact Xi_ne (by omega))))))))
      have d118 : Xi T33 904 65 = 0 → Xi T33 907 (Xi T33 957 (Xi S 904 93).toNat).toNat = 5 := fun q => by have t := (by assumption : Xi T33 904 65 = 0 → Xi T33 904 8 = Xi U32 904 8 + 1 ∧ Xi U32 907 (Xi U32 904 8).toNat = 5) q; rw [((by assumption : FR md_mo_take U32 T33).cx 957 rfl _).1, m115, ((by assumption : FR md_mo_take U32 T33).cx 907 rfl _).1]; exact t.2
      have m118 : Xi T33 957 (Xi S 904 93).toNat ≤ n := by rw [((by assumption : FR md_mo_take U32 T33).cx 957 rfl _).1, m115]; omega
      have w489 : Xi S 904 8 ≤ Xi T33 904 8 ∧ Xi T33 904 8 ≤ n ∧ Xi S 904 69 ≤ Xi T33 904 69 ∧ (Xi T33 904 65 = 0 → Xi S 904 65 = 0) := by omega
      clear w483 w484 w485
      have w496 : Xi T33 963 (Xi S 904 98).toNat = Xi U31 963 (Xi S 904 98).toNat := (show Xi T33 963 (Xi S 904 98).toNat = Xi U32 963 (Xi S 904 98).toNat from (w488.cx 963 rfl _).1).trans ((show Xi U32 963 (Xi S 904 98).toNat = Xi U31 963 (Xi S 904 98).toNat from by rw [eU32]; exact Xi_ne (by omega)))
      have w497 : Xi T33 964 (Xi S 904 98).toNat = Xi U26 964 (Xi S 904 98).toNat := (show Xi T33 964 (Xi S 904 98).toNat = Xi U32 964 (Xi S 904 98).toNat from (w488.cx 964 rfl _).1).trans ( (show Xi U32 964 (Xi S 904 98).toNat = Xi U31 964 (Xi S 904 98).toNat from by rw [eU32]; exact Xi_ne (by omega)).trans ( (show Xi U31 964 (Xi S 904 98).toNat = Xi U28 964 (Xi S 904 98).toNat from by rw [eU31]; exact Xi_ne (by omega)).trans ( (show Xi U28 964 (Xi S 904 98).toNat = Xi U27 964 (Xi S 904 98).toNat from by rw [eU28]; exact Xi_ne (by omega)).trans ((show Xi U27 964 (Xi S 904 98).toNat = Xi U26 964 (Xi S 904 98).toNat from by rw [eU27]; exact Xi_ne (by omega))))))
      have w504 : Xi T33 904 98 = Xi S 904 98 := (show Xi T33 904 98 = Xi U32 904 98 from w488.x _ _ rfl).trans ( (show Xi U32 904 98 = Xi U31 904 98 from by rw [eU32]; exact Xi_ne (by omega)).trans ( (show Xi U31 904 98 = Xi U28 904 98 from by rw [eU31]; exact Xi_ne (by omega)).trans ( (show Xi U28 904 98 = Xi U27 904 98 from by rw [eU28]; exact Xi_ne (by omega)).trans ( (show Xi U27 904 98 = Xi U26 904 98 from by rw [eU27]; exact Xi_ne (by omega)).trans ( (show Xi U26 904 98 = Xi U25 904 98 from by rw [eU26]; exact Xi_ne (by omega)).trans ((show Xi U25 904 98 = Xi S 904 98 from by rw [eU25]; exact Xi_ne (by omega))))))))
      exact Rl_weak (C121 T33 hHT33 hFT33  (by first | assumption | exact (by assumption : AT T33 _ _)) (by first | assumption | exact (RNV_FR w488 rfl (RNV_FR (FR_e eU32) rfl (RNV_FR (FR_e eU31) rfl (RNV_FR (FR_e eU28) rfl (RNV_FR (FR_e eU27) rfl (RNV_FR (FR_e eU26) rfl (RNV_FR (FR_e eU25) rfl (by assumption : RNV S _))))))))) (by omega) (by omega) (by omega) (by omega) (by omega) (by omega) (by omega) ((KT_FR w488 rfl (KT.w (KT_FR (FR_e eU31) rfl (KT_FR (FR_e eU28) rfl (KT.w (KT_FR (FR_e eU26) rfl (KT_FR (FR_e eU25) rfl KT.rf)) eU27 (by omega)))) eU32 (by omega)))) ((KP_FR w488 rfl (KP.w (KP.w (KP.w (KP.w (KP.w (KP.w KP.rf eU25 (by omega)) eU26 (by omega)) eU27 (by omega)) eU28 (by omega)) eU31 (by omega)) eU32 (by omega)))) (by omega) (m118) (d118) (by first | assumption | exact (PF_FR w488 rfl (PF_FR (FR_e eU32) rfl (PF_FR (FR_e eU31) rfl (PF_FR (FR_e eU28) rfl (PF_FR (FR_e eU27) rfl (PF_FR (FR_e eU26) rfl (by assumption : PF U25)))))))) (by first | assumption | exact (by assumption : BDA T33))) (And.intro rfl (True.intro))
    | 1, hii =>
      cases hii
      have w506 : z429 = 144 := by simpa using w432
      refine l_aload_n rfl rfl ?_
      have t134 : AT U28 n (c + 1) ∧ _ := at_mv (c2 := c + 1) hT hA (fun j => (hFU27.cx 907 rfl j).1) (fun j => (hFU27.cx 908 rfl j).1) (by omega) (by omega) (by omega) (by omega) eU28 (by omega) (by omega) (by omega) (by omega) (Or.inr ⟨rfl, by unfold K3; omega⟩)
      have a134 : AT U28 n (c + 1) := t134.1
      have l134 := t134.2
      clear t134 l39
      refine l_gfr rfl rfl rfl rfl rfl (hHU28.r 904 95 963 rfl) ?_
      refine l_iload_n rfl rfl ?_
      refine l_iconst rfl ?_
      refine l_iastore (n := 1700) rfl rfl (by omega) (by omega) (by unfold rg; omega) ?_
      obtain ⟨U34, eU34⟩ : ∃ T : sS, T = uI U28 963 (((Xi S 904 98)).toNat) (Int32.ofInt 1) := ⟨_, rfl⟩
      rw [← eU34]
      have hHU34 : HI U34 := by rw [eU34]; exact HI_w hHU28 (show 0 ≤ 1 by omega) (show 1 ≤ 6 by omega)
      have hFU34 : FR md_mo_phrase__3 S U34 := by rw [eU34]; exact FR.wI hFU28 (mdf_i (r := (963, 964, 0, 100000)) (List.mem_of_getElem? (i := 23) rfl) (inR_i (by omega) (by omega) (by omega) (by omega)))
      have w507 : Xi U34 963 (((Xi S 904 98)).toNat) = 1 := by rw [eU34]; exact Xi_same (by unfold rg; omega)
      refine l_aload_n rfl rfl ?_
      refine l_iconst rfl ?_
      have w508 : Xi U34 904 65 = Xi S 904 65 := (show Xi U34 904 65 = Xi U28 904 65 from by rw [eU34]; exact Xi_ne (by omega)).trans ( (show Xi U28 904 65 = Xi U27 904 65 from by rw [eU28]; exact Xi_ne (by omega)).trans ( (show Xi U27 904 65 = Xi U26 904 65 from by rw [eU27]; exact Xi_ne (by omega)).trans ( (show Xi U26 904 65 = Xi U25 904 65 from by rw [eU26]; exact Xi_ne (by omega)).trans ((show Xi U25 904 65 = Xi S 904 65 from by rw [eU25]; exact Xi_ne (by omega))))))
      have w510 : Xi U34 904 69 = Xi S 904 69 := (show Xi U34 904 69 = Xi U28 904 69 from by rw [eU34]; exact Xi_ne (by omega)).trans ( (show Xi U28 904 69 = Xi U27 904 69 from by rw [eU28]; exact Xi_ne (by omega)).trans ( (show Xi U27 904 69 = Xi U26 904 69 from by rw [eU27]; exact Xi_ne (by omega)).trans ( (show Xi U26 904 69 = Xi U25 904 69 from by rw [eU26]; exact Xi_ne (by omega)).trans ((show Xi U25 904 69 = Xi S 904 69 from by rw [eU25]; exact Xi_ne (by omega))))))
      have w512 : Xi U34 904 8 = Xi U28 904 8 := (show Xi U34 904 8 = Xi U28 904 8 from by rw [eU34]; exact Xi_ne (by omega))
      have w513 : 0 ≤ Xi U28 904 8 ∧ Xi U28 904 8 ≤ 5010 := hHU28.c _ _
      have w514 : Xi U34 904 93 = Xi S 904 93 := (show Xi U34 904 93 = Xi U28 904 93 from by rw [eU34]; exact Xi_ne (by omega)).trans ( (show Xi U28 904 93 = Xi U27 904 93 from by rw [eU28]; exact Xi_ne (by omega)).trans ( (show Xi U27 904 93 = Xi U26 904 93 from by rw [eU27]; exact Xi_ne (by omega)).trans ( (show Xi U26 904 93 = Xi U25 904 93 from by rw [eU26]; exact Xi_ne (by omega)).trans ((show Xi U25 904 93 = Xi S 904 93 from by rw [eU25]; exact Xi_ne (by omega))))))
      have w516 : Xi U34 904 98 = Xi S 904 98 := (show Xi U34 904 98 = Xi U28 904 98 from by rw [eU34]; exact Xi_ne (by omega)).trans ( (show Xi U28 904 98 = Xi U27 904 98 from by rw [eU28]; exact Xi_ne (by omega)).trans ( (show Xi U27 904 98 = Xi U26 904 98 from by rw [eU27]; exact Xi_ne (by omega)).trans ( (show Xi U26 904 98 = Xi U25 904 98 from by rw [eU26]; exact Xi_ne (by omega)).trans ((show Xi U25 904 98 = Xi S 904 98 from by rw [eU25]; exact Xi_ne (by omega))))))
      refine l_callV rfl rfl rfl (t_mo_test__2 hHU34 n (c + 1) 1 ⟨by omega, by omega⟩ (by first | assumption | exact (TK_FR hFU34 rfl (by assumption : TK S _))) (by first | assumption | exact (AT_FR (FR_e eU34) rfl (by assumption : AT U28 _ _))) (by first | assumption | exact (RNV_FR (FR_e eU34) rfl (RNV_FR (FR_e eU28) rfl (RNV_FR (FR_e eU27) rfl (RNV_FR (FR_e eU26) rfl (RNV_FR (FR_e eU25) rfl (by assumption : RNV S _))))))) (by first | assumption | omega) (by first | assumption | omega) (by first | assumption | omega) (by first | assumption | exact (BDA_FR (FR_e eU34) rfl (BDA_FR (FR_e eU28) rfl (BDA_FR (FR_e eU27) rfl (BDA_FR (FR_e eU26) rfl (BDA_FR (FR_e eU25) rfl (by assumption : BDA S))))))) _) ?_
      rintro _ T35 ⟨hHT35, w527, rfl, w518, w519, w520, w521, w522, w523, w524, v143_, f143_, w525⟩
      have hFT35 : FR md_mo_phrase__3 S T35 := FR.tr hFU34 w527 rfl
      show Rl _ _ _ _ _ [] _ _
      have w529 : 0 ≤ Xi T35 904 8 ∧ Xi T35 904 8 ≤ 5010 := hHT35.c _ _
      have w530 : 0 ≤ Xi T35 904 65 ∧ Xi T35 904 65 ≤ 1 := hHT35.c _ _
      have w531 : 0 ≤ Xi T35 904 69 ∧ Xi T35 904 69 ≤ 2600 := hHT35.c _ _
      have w532 : 0 ≤ Xi T35 904 93 ∧ Xi T35 904 93 ≤ 1700 := hHT35.c _ _
      have a143 : AT T35 n c := (by assumption : AT T35 n (c + 1 - 1))
      have v143 : Xi T35 904 65 = 0 → TV T35 n (Xi S 904 93).toNat := by rw [show (Xi S 904 93).toNat = (Xi U34 904 93).toNat by omega]; exact v143_
      clear v143_
      have f143 : Xi T35 904 65 = 0 → (1 : Int) = 1 → Xi T35 952 (Xi S 904 93).toNat = 0 ∨ Xi T35 952 (Xi S 904 93).toNat = 3 ∨ Xi T35 952 (Xi S 904 93).toNat = 5 := by rw [show (Xi S 904 93).toNat = (Xi U34 904 93).toNat by omega]; exact f143_
      clear f143_
      have E143 : Xi T35 904 65 = 0 → PVt T35 n 1 (Xi S 904 93).toNat := fun q => pvt_1 (v143 q) (f143 q rfl)
      clear v143 f143
      have w528 : Xi S 904 8 ≤ Xi T35 904 8 ∧ Xi T35 904 8 ≤ n ∧ Xi S 904 69 ≤ Xi T35 904 69 ∧ (Xi T35 904 65 = 0 → Xi S 904 65 = 0) := by omega
      clear w519 w521 w522
      refine l_goto rfl rfl ?_
      have w533 : Xi T35 963 (Xi S 904 98).toNat = Xi U34 963 (Xi S 904 98).toNat := (show Xi T35 963 (Xi S 904 98).toNat = Xi U34 963 (Xi S 904 98).toNat from (w527.cx 963 rfl _).1)
      have w534 : Xi T35 964 (Xi S 904 98).toNat = Xi U26 964 (Xi S 904 98).toNat := (show Xi T35 964 (Xi S 904 98).toNat = Xi U34 964 (Xi S 904 98).toNat from (w527.cx 964 rfl _).1).trans ( (show Xi U34 964 (Xi S 904 98).toNat = Xi U28 964 (Xi S 904 98).toNat from by rw [eU34]; exact Xi_ne (by omega)).trans ( (show Xi U28 964 (Xi S 904 98).toNat = Xi U27 964 (Xi S 904 98).toNat from by rw [eU28]; exact Xi_ne (by omega)).trans ((show Xi U27 964 (Xi S 904 98).toNat = Xi U26 964 (Xi S 904 98).toNat from by rw [eU27]; exact Xi_ne (by omega)))))
      have w539 : Xi T35 904 98 = Xi S 904 98 := (show Xi T35 904 98 = Xi U34 904 98 from w527.x _ _ rfl).trans ( (show Xi U34 904 98 = Xi U28 904 98 from by rw [eU34]; exact Xi_ne (by omega)).trans ( (show Xi U28 904 98 = Xi U27 904 98 from by rw [eU28]; exact Xi_ne (by omega)).trans ( (show Xi U27 904 98 = Xi U26 904 98 from by rw [eU27]; exact Xi_ne (by omega)).trans ( (show Xi U26 904 98 = Xi U25 904 98 from by rw [eU26]; exact Xi_ne (by omega)).trans ((show Xi U25 904 98 = Xi S 904 98 from by rw [eU25]; exact Xi_ne (by omega)))))))
      exact Rl_weak (C409 T35 hHT35 hFT35  (by first | assumption | exact AT_bad (by omega)) (by first | assumption | exact (by assumption : RNV T35 _)) (by omega) (by omega) (by omega) (by omega) (by omega) (by omega) (by omega) (by omega) ((KT.tr (KT_FR (FR_e eU34) rfl (KT_FR (FR_e eU28) rfl (KT.w (KT_FR (FR_e eU26) rfl (KT_FR (FR_e eU25) rfl KT.rf)) eU27 (by omega)))) (by assumption : KT T35 U34 _) (by omega))) ((KP_FR w527 rfl (KP.w (KP.w (KP.w (KP.w (KP.w KP.rf eU25 (by omega)) eU26 (by omega)) eU27 (by omega)) eU28 (by omega)) eU34 (by omega)))) (by first | exact fun q => pv_i (t := (Xi S 904 93).toNat) (E128 q) (by omega) (by omega) | exact fun q => pv_i (t := (Xi S 904 93).toNat) (E143 q) (by omega) (by omega) | exact fun q => pv_i (t := (Xi S 904 93).toNat) (E212 q) (by omega) (by omega) | exact fun q => pv_i (t := (Xi S 904 93).toNat) (E368 q) (by omega) (by omega) | exact fun q => pv_i (t := (Xi S 904 93).toNat) (E389 q) (by omega) (by omega) | exact fun q => pv_i (t := (Xi S 904 93).toNat) (E275 _ (by omega) q) rfl (by omega) | exact fun q => absurd q (by omega)) (by first | assumption | exact (PF_FR w527 rfl (PF_FR (FR_e eU34) rfl (PF_FR (FR_e eU28) rfl (PF_FR (FR_e eU27) rfl (PF_FR (FR_e eU26) rfl (by assumption : PF U25))))))) (by first | assumption | exact (by assumption : BDA T35))) (And.intro rfl (True.intro))
    | 2, hii =>
      cases hii
      have w541 : z429 = 145 := by simpa using w432
      refine l_aload_n rfl rfl ?_
      have t149 : AT U28 n (c + 1) ∧ _ := at_mv (c2 := c + 1) hT hA (fun j => (hFU27.cx 907 rfl j).1) (fun j => (hFU27.cx 908 rfl j).1) (by omega) (by omega) (by omega) (by omega) eU28 (by omega) (by omega) (by omega) (by omega) (Or.inr ⟨rfl, by unfold K3; omega⟩)
      have a149 : AT U28 n (c + 1) := t149.1
      have l149 := t149.2
      clear t149 l39
      refine l_gfr rfl rfl rfl rfl rfl (hHU28.r 904 95 963 rfl) ?_
      refine l_iload_n rfl rfl ?_
      refine l_iconst rfl ?_
      refine l_iastore (n := 1700) rfl rfl (by omega) (by omega) (by unfold rg; omega) ?_
      obtain ⟨U36, eU36⟩ : ∃ T : sS, T = uI U28 963 (((Xi S 904 98)).toNat) (Int32.ofInt 2) := ⟨_, rfl⟩
      rw [← eU36]
      have hHU36 : HI U36 := by rw [eU36]; exact HI_w hHU28 (show 0 ≤ 2 by omega) (show 2 ≤ 6 by omega)
      have hFU36 : FR md_mo_phrase__3 S U36 := by rw [eU36]; exact FR.wI hFU28 (mdf_i (r := (963, 964, 0, 100000)) (List.mem_of_getElem? (i := 23) rfl) (inR_i (by omega) (by omega) (by omega) (by omega)))
      have w542 : Xi U36 963 (((Xi S 904 98)).toNat) = 2 := by rw [eU36]; exact Xi_same (by unfold rg; omega)
      refine l_aload_n rfl rfl ?_
      have w543 : Xi U36 904 65 = Xi S 904 65 := (show Xi U36 904 65 = Xi U28 904 65 from by rw [eU36]; exact Xi_ne (by omega)).trans ( (show Xi U28 904 65 = Xi U27 904 65 from by rw [eU28]; exact Xi_ne (by omega)).trans ( (show Xi U27 904 65 = Xi U26 904 65 from by rw [eU27]; exact Xi_ne (by omega)).trans ( (show Xi U26 904 65 = Xi U25 904 65 from by rw [eU26]; exact Xi_ne (by omega)).trans ((show Xi U25 904 65 = Xi S 904 65 from by rw [eU25]; exact Xi_ne (by omega))))))
      have w545 : Xi U36 904 69 = Xi S 904 69 := (show Xi U36 904 69 = Xi U28 904 69 from by rw [eU36]; exact Xi_ne (by omega)).trans ( (show Xi U28 904 69 = Xi U27 904 69 from by rw [eU28]; exact Xi_ne (by omega)).trans ( (show Xi U27 904 69 = Xi U26 904 69 from by rw [eU27]; exact Xi_ne (by omega)).trans ( (show Xi U26 904 69 = Xi U25 904 69 from by rw [eU26]; exact Xi_ne (by omega)).trans ((show Xi U25 904 69 = Xi S 904 69 from by rw [eU25]; exact Xi_ne (by omega))))))
      have w547 : Xi U36 904 8 = Xi U28 904 8 := (show Xi U36 904 8 = Xi U28 904 8 from by rw [eU36]; exact Xi_ne (by omega))
      have w548 : 0 ≤ Xi U28 904 8 ∧ Xi U28 904 8 ≤ 5010 := hHU28.c _ _
      have w549 : Xi U36 904 93 = Xi S 904 93 := (show Xi U36 904 93 = Xi U28 904 93 from by rw [eU36]; exact Xi_ne (by omega)).trans ( (show Xi U28 904 93 = Xi U27 904 93 from by rw [eU28]; exact Xi_ne (by omega)).trans ( (show Xi U27 904 93 = Xi U26 904 93 from by rw [eU27]; exact Xi_ne (by omega)).trans ( (show Xi U26 904 93 = Xi U25 904 93 from by rw [eU26]; exact Xi_ne (by omega)).trans ((show Xi U25 904 93 = Xi S 904 93 from by rw [eU25]; exact Xi_ne (by omega))))))
      have w551 : Xi U36 904 98 = Xi S 904 98 := (show Xi U36 904 98 = Xi U28 904 98 from by rw [eU36]; exact Xi_ne (by omega)).trans ( (show Xi U28 904 98 = Xi U27 904 98 from by rw [eU28]; exact Xi_ne (by omega)).trans ( (show Xi U27 904 98 = Xi U26 904 98 from by rw [eU27]; exact Xi_ne (by omega)).trans ( (show Xi U26 904 98 = Xi U25 904 98 from by rw [eU26]; exact Xi_ne (by omega)).trans ((show Xi U25 904 98 = Xi S 904 98 from by rw [eU25]; exact Xi_ne (by omega))))))
      refine l_callV rfl rfl rfl (t_mo_thingOfTest__2 hHU36 n (c + 1) (by first | assumption | exact (TK_FR hFU36 rfl (by assumption : TK S _))) (by first | assumption | exact (AT_FR (FR_e eU36) rfl (by assumption : AT U28 _ _))) (by first | assumption | exact (RNV_FR (FR_e eU36) rfl (RNV_FR (FR_e eU28) rfl (RNV_FR (FR_e eU27) rfl (RNV_FR (FR_e eU26) rfl (RNV_FR (FR_e eU25) rfl (by assumption : RNV S _))))))) (by first | assumption | omega) (by first | assumption | exact (BDA_FR (FR_e eU36) rfl (BDA_FR (FR_e eU28) rfl (BDA_FR (FR_e eU27) rfl (BDA_FR (FR_e eU26) rfl (BDA_FR (FR_e eU25) rfl (by assumption : BDA S))))))) _) ?_
      rintro _ T37 ⟨hHT37, w561, rfl, w553, w554, w555, w556, w557, w558, h157_, w559⟩
      have hFT37 : FR md_mo_phrase__3 S T37 := FR.tr hFU36 w561 rfl
      show Rl _ _ _ _ _ [] _ _
      have w563 : 0 ≤ Xi T37 904 8 ∧ Xi T37 904 8 ≤ 5010 := hHT37.c _ _
      have w564 : 0 ≤ Xi T37 904 65 ∧ Xi T37 904 65 ≤ 1 := hHT37.c _ _
      have w565 : 0 ≤ Xi T37 904 69 ∧ Xi T37 904 69 ≤ 2600 := hHT37.c _ _
      have w566 : Xi T37 904 93 = Xi S 904 93 := (show Xi T37 904 93 = Xi U36 904 93 from w561.x _ _ rfl).trans ( (show Xi U36 904 93 = Xi U28 904 93 from by rw [eU36]; exact Xi_ne (by omega)).trans ( (show Xi U28 904 93 = Xi U27 904 93 from by rw [eU28]; exact Xi_ne (by omega)).trans ( (show Xi U27 904 93 = Xi U26 904 93 from by rw [eU27]; exact Xi_ne (by omega)).trans ( (show Xi U26 904 93 = Xi U25 904 93 from by rw [eU26]; exact Xi_ne (by omega)).trans ((show Xi U25 904 93 = Xi S 904 93 from by rw [eU25]; exact Xi_ne (by omega)))))))
      have h157 : Xi T37 904 65 = 0 → THV (Xi T37 904 69) n (Xi T37 954 (Xi S 904 93).toNat) (Xi T37 955 (Xi S 904 93).toNat) := by rw [show (Xi S 904 93).toNat = (Xi U36 904 93).toNat by omega]; exact h157_
      clear h157_
      have w562 : Xi S 904 8 ≤ Xi T37 904 8 ∧ Xi T37 904 8 ≤ n ∧ Xi S 904 69 ≤ Xi T37 904 69 ∧ (Xi T37 904 65 = 0 → Xi S 904 65 = 0) := by omega
      clear w554 w556 w557
      refine l_aload_n rfl rfl ?_
      refine l_bipush rfl rfl ?_
      have w573 : Xi T37 904 98 = Xi S 904 98 := (show Xi T37 904 98 = Xi U36 904 98 from w561.x _ _ rfl).trans ( (show Xi U36 904 98 = Xi U28 904 98 from by rw [eU36]; exact Xi_ne (by omega)).trans ( (show Xi U28 904 98 = Xi U27 904 98 from by rw [eU28]; exact Xi_ne (by omega)).trans ( (show Xi U27 904 98 = Xi U26 904 98 from by rw [eU27]; exact Xi_ne (by omega)).trans ( (show Xi U26 904 98 = Xi U25 904 98 from by rw [eU26]; exact Xi_ne (by omega)).trans ((show Xi U25 904 98 = Xi S 904 98 from by rw [eU25]; exact Xi_ne (by omega)))))))
      refine l_callV rfl rfl rfl (t_mo_take__3 hHT37 n (c + 1) 111 ⟨by omega, by omega⟩ (by first | assumption | exact (TK_FR hFT37 rfl (by assumption : TK S _))) (by first | assumption | exact (by assumption : AT T37 _ _)) (by first | assumption | omega) (by first | assumption | exact (by assumption : BDA T37)) _) ?_
      rintro _ T38 ⟨hHT38, w580, rfl, w575, w576, kb163, w577, w578⟩
      have hFT38 : FR md_mo_phrase__3 S T38 := FR.tr hFT37 w580 rfl
      show Rl _ _ _ _ _ [] _ _
      have w582 : 0 ≤ Xi T38 904 8 ∧ Xi T38 904 8 ≤ 5010 := hHT38.c _ _
      have w583 : 0 ≤ Xi T38 904 65 ∧ Xi T38 904 65 ≤ 1 := hHT38.c _ _
      have w584 : Xi T38 904 69 = Xi T37 904 69 := (show Xi T38 904 69 = Xi T37 904 69 from w580.x _ _ rfl)
      have w586 : Xi T38 904 93 = Xi S 904 93 := (show Xi T38 904 93 = Xi T37 904 93 from w580.x _ _ rfl).trans ( (show Xi T37 904 93 = Xi U36 904 93 from w561.x _ _ rfl).trans ( (show Xi U36 904 93 = Xi U28 904 93 from by rw [eU36]; exact Xi_ne (by omega)).trans ( (show Xi U28 904 93 = Xi U27 904 93 from by rw [eU28]; exact Xi_ne (by omega)).trans ( (show Xi U27 904 93 = Xi U26 904 93 from by rw [eU27]; exact Xi_ne (by omega)).trans ( (show Xi U26 904 93 = Xi U25 904 93 from by rw [eU26]; exact Xi_ne (by omega)).trans ((show Xi U25 904 93 = Xi S 904 93 from by rw [eU25]; exact Xi_ne (by omega))))))))
      have h163 : Xi T38 904 65 = 0 → THV (Xi T38 904 69) n (Xi T38 954 (Xi S 904 93).toNat) (Xi T38 955 (Xi S 904 93).toNat) := fun q => thv_c (h157 (kb163 q)) (by omega) ((by assumption : FR md_mo_take T37 T38).cx 954 rfl _).1 ((by assumption : FR md_mo_take T37 T38).cx 955 rfl _).1
      clear h157
      have w581 : Xi S 904 8 ≤ Xi T38 904 8 ∧ Xi T38 904 8 ≤ n ∧ Xi S 904 69 ≤ Xi T38 904 69 ∧ (Xi T38 904 65 = 0 → Xi S 904 65 = 0) := by omega
      clear w576 kb163 w577 w562
      have w588 : Xi T38 963 (Xi S 904 98).toNat = Xi U36 963 (Xi S 904 98).toNat := (show Xi T38 963 (Xi S 904 98).toNat = Xi T37 963 (Xi S 904 98).toNat from (w580.cx 963 rfl _).1).trans ((show Xi T37 963 (Xi S 904 98).toNat = Xi U36 963 (Xi S 904 98).toNat from (w561.cx 963 rfl _).1))
      have w589 : Xi T38 964 (Xi S 904 98).toNat = Xi U26 964 (Xi S 904 98).toNat := (show Xi T38 964 (Xi S 904 98).toNat = Xi T37 964 (Xi S 904 98).toNat from (w580.cx 964 rfl _).1).trans ( (show Xi T37 964 (Xi S 904 98).toNat = Xi U36 964 (Xi S 904 98).toNat from (w561.cx 964 rfl _).1).trans ( (show Xi U36 964 (Xi S 904 98).toNat = Xi U28 964 (Xi S 904 98).toNat from by rw [eU36]; exact Xi_ne (by omega)).trans ( (show Xi U28 964 (Xi S 904 98).toNat = Xi U27 964 (Xi S 904 98).toNat from by rw [eU28]; exact Xi_ne (by omega)).trans ((show Xi U27 964 (Xi S 904 98).toNat = Xi U26 964 (Xi S 904 98).toNat from by rw [eU27]; exact Xi_ne (by omega))))))
      have w596 : Xi T38 904 98 = Xi S 904 98 := (show Xi T38 904 98 = Xi T37 904 98 from w580.x _ _ rfl).trans ( (show Xi T37 904 98 = Xi U36 904 98 from w561.x _ _ rfl).trans ( (show Xi U36 904 98 = Xi U28 904 98 from by rw [eU36]; exact Xi_ne (by omega)).trans ( (show Xi U28 904 98 = Xi U27 904 98 from by rw [eU28]; exact Xi_ne (by omega)).trans ( (show Xi U27 904 98 = Xi U26 904 98 from by rw [eU27]; exact Xi_ne (by omega)).trans ( (show Xi U26 904 98 = Xi U25 904 98 from by rw [eU26]; exact Xi_ne (by omega)).trans ((show Xi U25 904 98 = Xi S 904 98 from by rw [eU25]; exact Xi_ne (by omega))))))))
      exact Rl_weak (C166 T38 hHT38 hFT38  (by first | assumption | exact (by assumption : AT T38 _ _)) (by first | assumption | exact (RNV_FR w580 rfl (by assumption : RNV T37 _))) (by omega) (by omega) (by omega) (by omega) (by omega) (by omega) (by omega) ((KT_FR w580 rfl (KT.tr (KT_FR (FR_e eU36) rfl (KT_FR (FR_e eU28) rfl (KT.w (KT_FR (FR_e eU26) rfl (KT_FR (FR_e eU25) rfl KT.rf)) eU27 (by omega)))) (by assumption : KT T37 U36 _) (by omega)))) ((KP_FR w580 rfl (KP_FR w561 rfl (KP.w (KP.w (KP.w (KP.w (KP.w KP.rf eU25 (by omega)) eU26 (by omega)) eU27 (by omega)) eU28 (by omega)) eU36 (by omega))))) (by omega) (h163) (by first | assumption | exact (PF_FR w580 rfl (PF_FR w561 rfl (PF_FR (FR_e eU36) rfl (PF_FR (FR_e eU28) rfl (PF_FR (FR_e eU27) rfl (PF_FR (FR_e eU26) rfl (by assumption : PF U25)))))))) (by first | assumption | exact (by assumption : BDA T38))) (And.intro rfl (True.intro))
    | 3, hii =>
      cases hii
      have w598 : z429 = 146 := by simpa using w432
      refine l_aload_n rfl rfl ?_
      have t218 : AT U28 n (c + 1) ∧ _ := at_mv (c2 := c + 1) hT hA (fun j => (hFU27.cx 907 rfl j).1) (fun j => (hFU27.cx 908 rfl j).1) (by omega) (by omega) (by omega) (by omega) eU28 (by omega) (by omega) (by omega) (by omega) (Or.inr ⟨rfl, by unfold K3; omega⟩)
      have a218 : AT U28 n (c + 1) := t218.1
      have l218 := t218.2
      clear t218 l39
      refine l_gfr rfl rfl rfl rfl rfl (hHU28.r 904 95 963 rfl) ?_
      refine l_iload_n rfl rfl ?_
      refine l_iload_n rfl rfl ?_
      refine l_sipush rfl rfl ?_
      refine l_icmp_ne rfl rfl (by unfold rg; omega) (by unfold rg; omega) (fun w599 => ?_) (fun w600 => ?_)
      · refine l_iconst rfl ?_
        refine l_iastore (n := 1700) rfl rfl (by omega) (by omega) (by unfold rg; omega) ?_
        obtain ⟨U39, eU39⟩ : ∃ T : sS, T = uI U28 963 (((Xi S 904 98)).toNat) (Int32.ofInt 4) := ⟨_, rfl⟩
        rw [← eU39]
        have hHU39 : HI U39 := by rw [eU39]; exact HI_w hHU28 (show 0 ≤ 4 by omega) (show 4 ≤ 6 by omega)
        have hFU39 : FR md_mo_phrase__3 S U39 := by rw [eU39]; exact FR.wI hFU28 (mdf_i (r := (963, 964, 0, 100000)) (List.mem_of_getElem? (i := 23) rfl) (inR_i (by omega) (by omega) (by omega) (by omega)))
        have w601 : Xi U39 963 (((Xi S 904 98)).toNat) = 4 := by rw [eU39]; exact Xi_same (by unfold rg; omega)
        have w602 : Xi U39 964 (Xi S 904 98).toNat = Xi U26 964 (Xi S 904 98).toNat := (show Xi U39 964 (Xi S 904 98).toNat = Xi U28 964 (Xi S 904 98).toNat from by rw [eU39]; exact Xi_ne (by omega)).trans ( (show Xi U28 964 (Xi S 904 98).toNat = Xi U27 964 (Xi S 904 98).toNat from by rw [eU28]; exact Xi_ne (by omega)).trans ((show Xi U27 964 (Xi S 904 98).toNat = Xi U26 964 (Xi S 904 98).toNat from by rw [eU27]; exact Xi_ne (by omega))))
        have w603 : Xi U39 904 65 = Xi S 904 65 := (show Xi U39 904 65 = Xi U28 904 65 from by rw [eU39]; exact Xi_ne (by omega)).trans ( (show Xi U28 904 65 = Xi U27 904 65 from by rw [eU28]; exact Xi_ne (by omega)).trans ( (show Xi U27 904 65 = Xi U26 904 65 from by rw [eU27]; exact Xi_ne (by omega)).trans ( (show Xi U26 904 65 = Xi U25 904 65 from by rw [eU26]; exact Xi_ne (by omega)).trans ((show Xi U25 904 65 = Xi S 904 65 from by rw [eU25]; exact Xi_ne (by omega))))))
        have w605 : Xi U39 904 69 = Xi S 904 69 := (show Xi U39 904 69 = Xi U28 904 69 from by rw [eU39]; exact Xi_ne (by omega)).trans ( (show Xi U28 904 69 = Xi U27 904 69 from by rw [eU28]; exact Xi_ne (by omega)).trans ( (show Xi U27 904 69 = Xi U26 904 69 from by rw [eU27]; exact Xi_ne (by omega)).trans ( (show Xi U26 904 69 = Xi U25 904 69 from by rw [eU26]; exact Xi_ne (by omega)).trans ((show Xi U25 904 69 = Xi S 904 69 from by rw [eU25]; exact Xi_ne (by omega))))))
        have w607 : Xi U39 904 8 = Xi U28 904 8 := (show Xi U39 904 8 = Xi U28 904 8 from by rw [eU39]; exact Xi_ne (by omega))
        have w608 : 0 ≤ Xi U28 904 8 ∧ Xi U28 904 8 ≤ 5010 := hHU28.c _ _
        have w609 : Xi U39 904 93 = Xi S 904 93 := (show Xi U39 904 93 = Xi U28 904 93 from by rw [eU39]; exact Xi_ne (by omega)).trans ( (show Xi U28 904 93 = Xi U27 904 93 from by rw [eU28]; exact Xi_ne (by omega)).trans ( (show Xi U27 904 93 = Xi U26 904 93 from by rw [eU27]; exact Xi_ne (by omega)).trans ( (show Xi U26 904 93 = Xi U25 904 93 from by rw [eU26]; exact Xi_ne (by omega)).trans ((show Xi U25 904 93 = Xi S 904 93 from by rw [eU25]; exact Xi_ne (by omega))))))
        have w611 : Xi U39 904 98 = Xi S 904 98 := (show Xi U39 904 98 = Xi U28 904 98 from by rw [eU39]; exact Xi_ne (by omega)).trans ( (show Xi U28 904 98 = Xi U27 904 98 from by rw [eU28]; exact Xi_ne (by omega)).trans ( (show Xi U27 904 98 = Xi U26 904 98 from by rw [eU27]; exact Xi_ne (by omega)).trans ( (show Xi U26 904 98 = Xi U25 904 98 from by rw [eU26]; exact Xi_ne (by omega)).trans ((show Xi U25 904 98 = Xi S 904 98 from by rw [eU25]; exact Xi_ne (by omega))))))
        exact Rl_weak (C236 U39 hHU39 hFU39  (by first | assumption | exact (AT_FR (FR_e eU39) rfl (by assumption : AT U28 _ _))) (by first | assumption | exact (RNV_FR (FR_e eU39) rfl (RNV_FR (FR_e eU28) rfl (RNV_FR (FR_e eU27) rfl (RNV_FR (FR_e eU26) rfl (RNV_FR (FR_e eU25) rfl (by assumption : RNV S _))))))) (by omega) (by omega) (by omega) (by omega) (by omega) (by omega) (by omega) ((KT_FR (FR_e eU39) rfl (KT_FR (FR_e eU28) rfl (KT.w (KT_FR (FR_e eU26) rfl (KT_FR (FR_e eU25) rfl KT.rf)) eU27 (by omega))))) ((KP.w (KP.w (KP.w (KP.w (KP.w KP.rf eU25 (by omega)) eU26 (by omega)) eU27 (by omega)) eU28 (by omega)) eU39 (by omega))) (by omega) (by first | assumption | exact (PF_FR (FR_e eU39) rfl (PF_FR (FR_e eU28) rfl (PF_FR (FR_e eU27) rfl (PF_FR (FR_e eU26) rfl (by assumption : PF U25)))))) (by first | assumption | exact (BDA_FR (FR_e eU39) rfl (BDA_FR (FR_e eU28) rfl (BDA_FR (FR_e eU27) rfl (BDA_FR (FR_e eU26) rfl (BDA_FR (FR_e eU25) rfl (by assumption : BDA S)))))))) (And.intro rfl (True.intro))
      · refine l_iconst rfl ?_
        refine l_goto rfl rfl ?_
        refine l_iastore (n := 1700) rfl rfl (by omega) (by omega) (by unfold rg; omega) ?_
        obtain ⟨U40, eU40⟩ : ∃ T : sS, T = uI U28 963 (((Xi S 904 98)).toNat) (Int32.ofInt 3) := ⟨_, rfl⟩
        rw [← eU40]
        have hHU40 : HI U40 := by rw [eU40]; exact HI_w hHU28 (show 0 ≤ 3 by omega) (show 3 ≤ 6 by omega)
        have hFU40 : FR md_mo_phrase__3 S U40 := by rw [eU40]; exact FR.wI hFU28 (mdf_i (r := (963, 964, 0, 100000)) (List.mem_of_getElem? (i := 23) rfl) (inR_i (by omega) (by omega) (by omega) (by omega)))
        have w613 : Xi U40 963 (((Xi S 904 98)).toNat) = 3 := by rw [eU40]; exact Xi_same (by unfold rg; omega)
        have w614 : Xi U40 964 (Xi S 904 98).toNat = Xi U26 964 (Xi S 904 98).toNat := (show Xi U40 964 (Xi S 904 98).toNat = Xi U28 964 (Xi S 904 98).toNat from by rw [eU40]; exact Xi_ne (by omega)).trans ( (show Xi U28 964 (Xi S 904 98).toNat = Xi U27 964 (Xi S 904 98).toNat from by rw [eU28]; exact Xi_ne (by omega)).trans ((show Xi U27 964 (Xi S 904 98).toNat = Xi U26 964 (Xi S 904 98).toNat from by rw [eU27]; exact Xi_ne (by omega))))
        have w615 : Xi U40 904 65 = Xi S 904 65 := (show Xi U40 904 65 = Xi U28 904 65 from by rw [eU40]; exact Xi_ne (by omega)).trans ( (show Xi U28 904 65 = Xi U27 904 65 from by rw [eU28]; exact Xi_ne (by omega)).trans ( (show Xi U27 904 65 = Xi U26 904 65 from by rw [eU27]; exact Xi_ne (by omega)).trans ( (show Xi U26 904 65 = Xi U25 904 65 from by rw [eU26]; exact Xi_ne (by omega)).trans ((show Xi U25 904 65 = Xi S 904 65 from by rw [eU25]; exact Xi_ne (by omega))))))
        have w617 : Xi U40 904 69 = Xi S 904 69 := (show Xi U40 904 69 = Xi U28 904 69 from by rw [eU40]; exact Xi_ne (by omega)).trans ( (show Xi U28 904 69 = Xi U27 904 69 from by rw [eU28]; exact Xi_ne (by omega)).trans ( (show Xi U27 904 69 = Xi U26 904 69 from by rw [eU27]; exact Xi_ne (by omega)).trans ( (show Xi U26 904 69 = Xi U25 904 69 from by rw [eU26]; exact Xi_ne (by omega)).trans ((show Xi U25 904 69 = Xi S 904 69 from by rw [eU25]; exact Xi_ne (by omega))))))
        have w619 : Xi U40 904 8 = Xi U28 904 8 := (show Xi U40 904 8 = Xi U28 904 8 from by rw [eU40]; exact Xi_ne (by omega))
        have w620 : 0 ≤ Xi U28 904 8 ∧ Xi U28 904 8 ≤ 5010 := hHU28.c _ _
        have w621 : Xi U40 904 93 = Xi S 904 93 := (show Xi U40 904 93 = Xi U28 904 93 from by rw [eU40]; exact Xi_ne (by omega)).trans ( (show Xi U28 904 93 = Xi U27 904 93 from by rw [eU28]; exact Xi_ne (by omega)).trans ( (show Xi U27 904 93 = Xi U26 904 93 from by rw [eU27]; exact Xi_ne (by omega)).trans ( (show Xi U26 904 93 = Xi U25 904 93 from by rw [eU26]; exact Xi_ne (by omega)).trans ((show Xi U25 904 93 = Xi S 904 93 from by rw [eU25]; exact Xi_ne (by omega))))))
        have w623 : Xi U40 904 98 = Xi S 904 98 := (show Xi U40 904 98 = Xi U28 904 98 from by rw [eU40]; exact Xi_ne (by omega)).trans ( (show Xi U28 904 98 = Xi U27 904 98 from by rw [eU28]; exact Xi_ne (by omega)).trans ( (show Xi U27 904 98 = Xi U26 904 98 from by rw [eU27]; exact Xi_ne (by omega)).trans ( (show Xi U26 904 98 = Xi U25 904 98 from by rw [eU26]; exact Xi_ne (by omega)).trans ((show Xi U25 904 98 = Xi S 904 98 from by rw [eU25]; exact Xi_ne (by omega))))))
        exact Rl_weak (C236 U40 hHU40 hFU40  (by first | assumption | exact (AT_FR (FR_e eU40) rfl (by assumption : AT U28 _ _))) (by first | assumption | exact (RNV_FR (FR_e eU40) rfl (RNV_FR (FR_e eU28) rfl (RNV_FR (FR_e eU27) rfl (RNV_FR (FR_e eU26) rfl (RNV_FR (FR_e eU25) rfl (by assumption : RNV S _))))))) (by omega) (by omega) (by omega) (by omega) (by omega) (by omega) (by omega) ((KT_FR (FR_e eU40) rfl (KT_FR (FR_e eU28) rfl (KT.w (KT_FR (FR_e eU26) rfl (KT_FR (FR_e eU25) rfl KT.rf)) eU27 (by omega))))) ((KP.w (KP.w (KP.w (KP.w (KP.w KP.rf eU25 (by omega)) eU26 (by omega)) eU27 (by omega)) eU28 (by omega)) eU40 (by omega))) (by omega) (by first | assumption | exact (PF_FR (FR_e eU40) rfl (PF_FR (FR_e eU28) rfl (PF_FR (FR_e eU27) rfl (PF_FR (FR_e eU26) rfl (by assumption : PF U25)))))) (by first | assumption | exact (BDA_FR (FR_e eU40) rfl (BDA_FR (FR_e eU28) rfl (BDA_FR (FR_e eU27) rfl (BDA_FR (FR_e eU26) rfl (BDA_FR (FR_e eU25) rfl (by assumption : BDA S)))))))) (And.intro rfl (True.intro))
    | 4, hii =>
      cases hii
      have w625 : z429 = 147 := by simpa using w432
      refine l_aload_n rfl rfl ?_
      have t218 : AT U28 n (c + 1) ∧ _ := at_mv (c2 := c + 1) hT hA (fun j => (hFU27.cx 907 rfl j).1) (fun j => (hFU27.cx 908 rfl j).1) (by omega) (by omega) (by omega) (by omega) eU28 (by omega) (by omega) (by omega) (by omega) (Or.inr ⟨rfl, by unfold K3; omega⟩)
      have a218 : AT U28 n (c + 1) := t218.1
      have l218 := t218.2
      clear t218 l39
      refine l_gfr rfl rfl rfl rfl rfl (hHU28.r 904 95 963 rfl) ?_
      refine l_iload_n rfl rfl ?_
      refine l_iload_n rfl rfl ?_
      refine l_sipush rfl rfl ?_
      refine l_icmp_ne rfl rfl (by unfold rg; omega) (by unfold rg; omega) (fun w626 => ?_) (fun w627 => ?_)
      · refine l_iconst rfl ?_
        refine l_iastore (n := 1700) rfl rfl (by omega) (by omega) (by unfold rg; omega) ?_
        obtain ⟨U41, eU41⟩ : ∃ T : sS, T = uI U28 963 (((Xi S 904 98)).toNat) (Int32.ofInt 4) := ⟨_, rfl⟩
        rw [← eU41]
        have hHU41 : HI U41 := by rw [eU41]; exact HI_w hHU28 (show 0 ≤ 4 by omega) (show 4 ≤ 6 by omega)
        have hFU41 : FR md_mo_phrase__3 S U41 := by rw [eU41]; exact FR.wI hFU28 (mdf_i (r := (963, 964, 0, 100000)) (List.mem_of_getElem? (i := 23) rfl) (inR_i (by omega) (by omega) (by omega) (by omega)))
        have w628 : Xi U41 963 (((Xi S 904 98)).toNat) = 4 := by rw [eU41]; exact Xi_same (by unfold rg; omega)
        have w629 : Xi U41 964 (Xi S 904 98).toNat = Xi U26 964 (Xi S 904 98).toNat := (show Xi U41 964 (Xi S 904 98).toNat = Xi U28 964 (Xi S 904 98).toNat from by rw [eU41]; exact Xi_ne (by omega)).trans ( (show Xi U28 964 (Xi S 904 98).toNat = Xi U27 964 (Xi S 904 98).toNat from by rw [eU28]; exact Xi_ne (by omega)).trans ((show Xi U27 964 (Xi S 904 98).toNat = Xi U26 964 (Xi S 904 98).toNat from by rw [eU27]; exact Xi_ne (by omega))))
        have w630 : Xi U41 904 65 = Xi S 904 65 := (show Xi U41 904 65 = Xi U28 904 65 from by rw [eU41]; exact Xi_ne (by omega)).trans ( (show Xi U28 904 65 = Xi U27 904 65 from by rw [eU28]; exact Xi_ne (by omega)).trans ( (show Xi U27 904 65 = Xi U26 904 65 from by rw [eU27]; exact Xi_ne (by omega)).trans ( (show Xi U26 904 65 = Xi U25 904 65 from by rw [eU26]; exact Xi_ne (by omega)).trans ((show Xi U25 904 65 = Xi S 904 65 from by rw [eU25]; exact Xi_ne (by omega))))))
        have w632 : Xi U41 904 69 = Xi S 904 69 := (show Xi U41 904 69 = Xi U28 904 69 from by rw [eU41]; exact Xi_ne (by omega)).trans ( (show Xi U28 904 69 = Xi U27 904 69 from by rw [eU28]; exact Xi_ne (by omega)).trans ( (show Xi U27 904 69 = Xi U26 904 69 from by rw [eU27]; exact Xi_ne (by omega)).trans ( (show Xi U26 904 69 = Xi U25 904 69 from by rw [eU26]; exact Xi_ne (by omega)).trans ((show Xi U25 904 69 = Xi S 904 69 from by rw [eU25]; exact Xi_ne (by omega))))))
        have w634 : Xi U41 904 8 = Xi U28 904 8 := (show Xi U41 904 8 = Xi U28 904 8 from by rw [eU41]; exact Xi_ne (by omega))
        have w635 : 0 ≤ Xi U28 904 8 ∧ Xi U28 904 8 ≤ 5010 := hHU28.c _ _
        have w636 : Xi U41 904 93 = Xi S 904 93 := (show Xi U41 904 93 = Xi U28 904 93 from by rw [eU41]; exact Xi_ne (by omega)).trans ( (show Xi U28 904 93 = Xi U27 904 93 from by rw [eU28]; exact Xi_ne (by omega)).trans ( (show Xi U27 904 93 = Xi U26 904 93 from by rw [eU27]; exact Xi_ne (by omega)).trans ( (show Xi U26 904 93 = Xi U25 904 93 from by rw [eU26]; exact Xi_ne (by omega)).trans ((show Xi U25 904 93 = Xi S 904 93 from by rw [eU25]; exact Xi_ne (by omega))))))
        have w638 : Xi U41 904 98 = Xi S 904 98 := (show Xi U41 904 98 = Xi U28 904 98 from by rw [eU41]; exact Xi_ne (by omega)).trans ( (show Xi U28 904 98 = Xi U27 904 98 from by rw [eU28]; exact Xi_ne (by omega)).trans ( (show Xi U27 904 98 = Xi U26 904 98 from by rw [eU27]; exact Xi_ne (by omega)).trans ( (show Xi U26 904 98 = Xi U25 904 98 from by rw [eU26]; exact Xi_ne (by omega)).trans ((show Xi U25 904 98 = Xi S 904 98 from by rw [eU25]; exact Xi_ne (by omega))))))
        exact Rl_weak (C236 U41 hHU41 hFU41  (by first | assumption | exact (AT_FR (FR_e eU41) rfl (by assumption : AT U28 _ _))) (by first | assumption | exact (RNV_FR (FR_e eU41) rfl (RNV_FR (FR_e eU28) rfl (RNV_FR (FR_e eU27) rfl (RNV_FR (FR_e eU26) rfl (RNV_FR (FR_e eU25) rfl (by assumption : RNV S _))))))) (by omega) (by omega) (by omega) (by omega) (by omega) (by omega) (by omega) ((KT_FR (FR_e eU41) rfl (KT_FR (FR_e eU28) rfl (KT.w (KT_FR (FR_e eU26) rfl (KT_FR (FR_e eU25) rfl KT.rf)) eU27 (by omega))))) ((KP.w (KP.w (KP.w (KP.w (KP.w KP.rf eU25 (by omega)) eU26 (by omega)) eU27 (by omega)) eU28 (by omega)) eU41 (by omega))) (by omega) (by first | assumption | exact (PF_FR (FR_e eU41) rfl (PF_FR (FR_e eU28) rfl (PF_FR (FR_e eU27) rfl (PF_FR (FR_e eU26) rfl (by assumption : PF U25)))))) (by first | assumption | exact (BDA_FR (FR_e eU41) rfl (BDA_FR (FR_e eU28) rfl (BDA_FR (FR_e eU27) rfl (BDA_FR (FR_e eU26) rfl (BDA_FR (FR_e eU25) rfl (by assumption : BDA S)))))))) (And.intro rfl (True.intro))
      · refine l_iconst rfl ?_
        refine l_goto rfl rfl ?_
        refine l_iastore (n := 1700) rfl rfl (by omega) (by omega) (by unfold rg; omega) ?_
        obtain ⟨U42, eU42⟩ : ∃ T : sS, T = uI U28 963 (((Xi S 904 98)).toNat) (Int32.ofInt 3) := ⟨_, rfl⟩
        rw [← eU42]
        have hHU42 : HI U42 := by rw [eU42]; exact HI_w hHU28 (show 0 ≤ 3 by omega) (show 3 ≤ 6 by omega)
        have hFU42 : FR md_mo_phrase__3 S U42 := by rw [eU42]; exact FR.wI hFU28 (mdf_i (r := (963, 964, 0, 100000)) (List.mem_of_getElem? (i := 23) rfl) (inR_i (by omega) (by omega) (by omega) (by omega)))
        have w640 : Xi U42 963 (((Xi S 904 98)).toNat) = 3 := by rw [eU42]; exact Xi_same (by unfold rg; omega)
        have w641 : Xi U42 964 (Xi S 904 98).toNat = Xi U26 964 (Xi S 904 98).toNat := (show Xi U42 964 (Xi S 904 98).toNat = Xi U28 964 (Xi S 904 98).toNat from by rw [eU42]; exact Xi_ne (by omega)).trans ( (show Xi U28 964 (Xi S 904 98).toNat = Xi U27 964 (Xi S 904 98).toNat from by rw [eU28]; exact Xi_ne (by omega)).trans ((show Xi U27 964 (Xi S 904 98).toNat = Xi U26 964 (Xi S 904 98).toNat from by rw [eU27]; exact Xi_ne (by omega))))
        have w642 : Xi U42 904 65 = Xi S 904 65 := (show Xi U42 904 65 = Xi U28 904 65 from by rw [eU42]; exact Xi_ne (by omega)).trans ( (show Xi U28 904 65 = Xi U27 904 65 from by rw [eU28]; exact Xi_ne (by omega)).trans ( (show Xi U27 904 65 = Xi U26 904 65 from by rw [eU27]; exact Xi_ne (by omega)).trans ( (show Xi U26 904 65 = Xi U25 904 65 from by rw [eU26]; exact Xi_ne (by omega)).trans ((show Xi U25 904 65 = Xi S 904 65 from by rw [eU25]; exact Xi_ne (by omega))))))
        have w644 : Xi U42 904 69 = Xi S 904 69 := (show Xi U42 904 69 = Xi U28 904 69 from by rw [eU42]; exact Xi_ne (by omega)).trans ( (show Xi U28 904 69 = Xi U27 904 69 from by rw [eU28]; exact Xi_ne (by omega)).trans ( (show Xi U27 904 69 = Xi U26 904 69 from by rw [eU27]; exact Xi_ne (by omega)).trans ( (show Xi U26 904 69 = Xi U25 904 69 from by rw [eU26]; exact Xi_ne (by omega)).trans ((show Xi U25 904 69 = Xi S 904 69 from by rw [eU25]; exact Xi_ne (by omega))))))
        have w646 : Xi U42 904 8 = Xi U28 904 8 := (show Xi U42 904 8 = Xi U28 904 8 from by rw [eU42]; exact Xi_ne (by omega))
        have w647 : 0 ≤ Xi U28 904 8 ∧ Xi U28 904 8 ≤ 5010 := hHU28.c _ _
        have w648 : Xi U42 904 93 = Xi S 904 93 := (show Xi U42 904 93 = Xi U28 904 93 from by rw [eU42]; exact Xi_ne (by omega)).trans ( (show Xi U28 904 93 = Xi U27 904 93 from by rw [eU28]; exact Xi_ne (by omega)).trans ( (show Xi U27 904 93 = Xi U26 904 93 from by rw [eU27]; exact Xi_ne (by omega)).trans ( (show Xi U26 904 93 = Xi U25 904 93 from by rw [eU26]; exact Xi_ne (by omega)).trans ((show Xi U25 904 93 = Xi S 904 93 from by rw [eU25]; exact Xi_ne (by omega))))))
        have w650 : Xi U42 904 98 = Xi S 904 98 := (show Xi U42 904 98 = Xi U28 904 98 from by rw [eU42]; exact Xi_ne (by omega)).trans ( (show Xi U28 904 98 = Xi U27 904 98 from by rw [eU28]; exact Xi_ne (by omega)).trans ( (show Xi U27 904 98 = Xi U26 904 98 from by rw [eU27]; exact Xi_ne (by omega)).trans ( (show Xi U26 904 98 = Xi U25 904 98 from by rw [eU26]; exact Xi_ne (by omega)).trans ((show Xi U25 904 98 = Xi S 904 98 from by rw [eU25]; exact Xi_ne (by omega))))))
        exact Rl_weak (C236 U42 hHU42 hFU42  (by first | assumption | exact (AT_FR (FR_e eU42) rfl (by assumption : AT U28 _ _))) (by first | assumption | exact (RNV_FR (FR_e eU42) rfl (RNV_FR (FR_e eU28) rfl (RNV_FR (FR_e eU27) rfl (RNV_FR (FR_e eU26) rfl (RNV_FR (FR_e eU25) rfl (by assumption : RNV S _))))))) (by omega) (by omega) (by omega) (by omega) (by omega) (by omega) (by omega) ((KT_FR (FR_e eU42) rfl (KT_FR (FR_e eU28) rfl (KT.w (KT_FR (FR_e eU26) rfl (KT_FR (FR_e eU25) rfl KT.rf)) eU27 (by omega))))) ((KP.w (KP.w (KP.w (KP.w (KP.w KP.rf eU25 (by omega)) eU26 (by omega)) eU27 (by omega)) eU28 (by omega)) eU42 (by omega))) (by omega) (by first | assumption | exact (PF_FR (FR_e eU42) rfl (PF_FR (FR_e eU28) rfl (PF_FR (FR_e eU27) rfl (PF_FR (FR_e eU26) rfl (by assumption : PF U25)))))) (by first | assumption | exact (BDA_FR (FR_e eU42) rfl (BDA_FR (FR_e eU28) rfl (BDA_FR (FR_e eU27) rfl (BDA_FR (FR_e eU26) rfl (BDA_FR (FR_e eU25) rfl (by assumption : BDA S)))))))) (And.intro rfl (True.intro))
    | 5, hii =>
      cases hii
      have w652 : z429 = 148 := by simpa using w432
      refine l_aload_n rfl rfl ?_
      have t374 : AT U28 n (c + 1) ∧ _ := at_mv (c2 := c + 1) hT hA (fun j => (hFU27.cx 907 rfl j).1) (fun j => (hFU27.cx 908 rfl j).1) (by omega) (by omega) (by omega) (by omega) eU28 (by omega) (by omega) (by omega) (by omega) (Or.inr ⟨rfl, by unfold K3; omega⟩)
      have a374 : AT U28 n (c + 1) := t374.1
      have l374 := t374.2
      clear t374 l39
      refine l_gfr rfl rfl rfl rfl rfl (hHU28.r 904 95 963 rfl) ?_
      refine l_iload_n rfl rfl ?_
      refine l_bipush rfl rfl ?_
      refine l_iastore (n := 1700) rfl rfl (by omega) (by omega) (by unfold rg; omega) ?_
      obtain ⟨U43, eU43⟩ : ∃ T : sS, T = uI U28 963 (((Xi S 904 98)).toNat) (Int32.ofInt 6) := ⟨_, rfl⟩
      rw [← eU43]
      have hHU43 : HI U43 := by rw [eU43]; exact HI_w hHU28 (show 0 ≤ 6 by omega) (show 6 ≤ 6 by omega)
      have hFU43 : FR md_mo_phrase__3 S U43 := by rw [eU43]; exact FR.wI hFU28 (mdf_i (r := (963, 964, 0, 100000)) (List.mem_of_getElem? (i := 23) rfl) (inR_i (by omega) (by omega) (by omega) (by omega)))
      have w653 : Xi U43 963 (((Xi S 904 98)).toNat) = 6 := by rw [eU43]; exact Xi_same (by unfold rg; omega)
      refine l_aload_n rfl rfl ?_
      refine l_dup rfl rfl ?_
      refine l_gfi rfl rfl rfl rfl rfl ?_
      have w654 : (Xi U43 904 93) = (Xi S 904 93) := (show Xi U43 904 93 = Xi U28 904 93 from by rw [eU43]; exact Xi_ne (by omega)).trans ( (show Xi U28 904 93 = Xi U27 904 93 from by rw [eU28]; exact Xi_ne (by omega)).trans ( (show Xi U27 904 93 = Xi U26 904 93 from by rw [eU27]; exact Xi_ne (by omega)).trans ( (show Xi U26 904 93 = Xi U25 904 93 from by rw [eU26]; exact Xi_ne (by omega)).trans ((show Xi U25 904 93 = Xi S 904 93 from by rw [eU25]; exact Xi_ne (by omega))))))
      rw [w654]
      refine l_iconst rfl ?_
      refine l_iadd rfl ?_
      refine l_pfi rfl rfl rfl rfl ?_
      obtain ⟨U44, eU44⟩ : ∃ T : sS, T = uI U43 904 93 (Int32.ofInt ((Xi S 904 93) + 1)) := ⟨_, rfl⟩
      rw [← eU44]
      have hHU44 : HI U44 := by rw [eU44]; exact HI_w hHU43 (show 0 ≤ ((Xi S 904 93) + 1) by omega) (show ((Xi S 904 93) + 1) ≤ 1700 by omega)
      have hFU44 : FR md_mo_phrase__3 S U44 := by rw [eU44]; exact FR.wI hFU43 (mdf_i (r := (904, 905, 93, 94)) (List.mem_of_getElem? (i := 5) rfl) (inR_i (by omega) (by omega) (by omega) (by omega)))
      have w655 : Xi U44 904 93 = ((Xi S 904 93) + 1) := by rw [eU44]; exact Xi_same (by unfold rg; omega)
      have a389 : AT U44 n c := at_ct (c := c + 1) (by first | assumption | exact AT_FR (FR_e eU43) rfl (by assumption) | exact AT_FR (FR_e eU43) rfl (AT_FR (FR_e eU28) rfl (by assumption))) eU44 (by omega) (by omega) rfl
      have E389 : Xi U44 904 65 = 0 → PVt U44 n 6 (Xi S 904 93).toNat := fun q => (by rw [eU44, Xi_ne (by omega)] at q; exact pvt_w (pvt_6) eU44 (by omega))
      refine l_goto rfl rfl ?_
      have w656 : Xi U44 963 (Xi S 904 98).toNat = Xi U43 963 (Xi S 904 98).toNat := (show Xi U44 963 (Xi S 904 98).toNat = Xi U43 963 (Xi S 904 98).toNat from by rw [eU44]; exact Xi_ne (by omega))
      have w657 : Xi U44 964 (Xi S 904 98).toNat = Xi U26 964 (Xi S 904 98).toNat := (show Xi U44 964 (Xi S 904 98).toNat = Xi U43 964 (Xi S 904 98).toNat from by rw [eU44]; exact Xi_ne (by omega)).trans ( (show Xi U43 964 (Xi S 904 98).toNat = Xi U28 964 (Xi S 904 98).toNat from by rw [eU43]; exact Xi_ne (by omega)).trans ( (show Xi U28 964 (Xi S 904 98).toNat = Xi U27 964 (Xi S 904 98).toNat from by rw [eU28]; exact Xi_ne (by omega)).trans ((show Xi U27 964 (Xi S 904 98).toNat = Xi U26 964 (Xi S 904 98).toNat from by rw [eU27]; exact Xi_ne (by omega)))))
      have w658 : Xi U44 904 65 = Xi S 904 65 := (show Xi U44 904 65 = Xi U43 904 65 from by rw [eU44]; exact Xi_ne (by omega)).trans ( (show Xi U43 904 65 = Xi U28 904 65 from by rw [eU43]; exact Xi_ne (by omega)).trans ( (show Xi U28 904 65 = Xi U27 904 65 from by rw [eU28]; exact Xi_ne (by omega)).trans ( (show Xi U27 904 65 = Xi U26 904 65 from by rw [eU27]; exact Xi_ne (by omega)).trans ( (show Xi U26 904 65 = Xi U25 904 65 from by rw [eU26]; exact Xi_ne (by omega)).trans ((show Xi U25 904 65 = Xi S 904 65 from by rw [eU25]; exact Xi_ne (by omega)))))))
      have w660 : Xi U44 904 69 = Xi S 904 69 := (show Xi U44 904 69 = Xi U43 904 69 from by rw [eU44]; exact Xi_ne (by omega)).trans ( (show Xi U43 904 69 = Xi U28 904 69 from by rw [eU43]; exact Xi_ne (by omega)).trans ( (show Xi U28 904 69 = Xi U27 904 69 from by rw [eU28]; exact Xi_ne (by omega)).trans ( (show Xi U27 904 69 = Xi U26 904 69 from by rw [eU27]; exact Xi_ne (by omega)).trans ( (show Xi U26 904 69 = Xi U25 904 69 from by rw [eU26]; exact Xi_ne (by omega)).trans ((show Xi U25 904 69 = Xi S 904 69 from by rw [eU25]; exact Xi_ne (by omega)))))))
      have w662 : Xi U44 904 8 = Xi U28 904 8 := (show Xi U44 904 8 = Xi U43 904 8 from by rw [eU44]; exact Xi_ne (by omega)).trans ((show Xi U43 904 8 = Xi U28 904 8 from by rw [eU43]; exact Xi_ne (by omega)))
      have w663 : 0 ≤ Xi U28 904 8 ∧ Xi U28 904 8 ≤ 5010 := hHU28.c _ _
      have w664 : 0 ≤ Xi U44 904 93 ∧ Xi U44 904 93 ≤ 1700 := hHU44.c _ _
      have w665 : Xi U44 904 98 = Xi S 904 98 := (show Xi U44 904 98 = Xi U43 904 98 from by rw [eU44]; exact Xi_ne (by omega)).trans ( (show Xi U43 904 98 = Xi U28 904 98 from by rw [eU43]; exact Xi_ne (by omega)).trans ( (show Xi U28 904 98 = Xi U27 904 98 from by rw [eU28]; exact Xi_ne (by omega)).trans ( (show Xi U27 904 98 = Xi U26 904 98 from by rw [eU27]; exact Xi_ne (by omega)).trans ( (show Xi U26 904 98 = Xi U25 904 98 from by rw [eU26]; exact Xi_ne (by omega)).trans ((show Xi U25 904 98 = Xi S 904 98 from by rw [eU25]; exact Xi_ne (by omega)))))))
      exact Rl_weak (C409 U44 hHU44 hFU44  (by first | assumption | exact AT_bad (by omega)) (by first | assumption | exact (RNV_FR (FR_e eU44) rfl (RNV_FR (FR_e eU43) rfl (RNV_FR (FR_e eU28) rfl (RNV_FR (FR_e eU27) rfl (RNV_FR (FR_e eU26) rfl (RNV_FR (FR_e eU25) rfl (by assumption : RNV S _)))))))) (by omega) (by omega) (by omega) (by omega) (by omega) (by omega) (by omega) (by omega) ((KT_FR (FR_e eU44) rfl (KT_FR (FR_e eU43) rfl (KT_FR (FR_e eU28) rfl (KT.w (KT_FR (FR_e eU26) rfl (KT_FR (FR_e eU25) rfl KT.rf)) eU27 (by omega)))))) ((KP.w (KP.w (KP.w (KP.w (KP.w (KP.w KP.rf eU25 (by omega)) eU26 (by omega)) eU27 (by omega)) eU28 (by omega)) eU43 (by omega)) eU44 (by omega))) (by first | exact fun q => pv_i (t := (Xi S 904 93).toNat) (E128 q) (by omega) (by omega) | exact fun q => pv_i (t := (Xi S 904 93).toNat) (E143 q) (by omega) (by omega) | exact fun q => pv_i (t := (Xi S 904 93).toNat) (E212 q) (by omega) (by omega) | exact fun q => pv_i (t := (Xi S 904 93).toNat) (E368 q) (by omega) (by omega) | exact fun q => pv_i (t := (Xi S 904 93).toNat) (E389 q) (by omega) (by omega) | exact fun q => pv_i (t := (Xi S 904 93).toNat) (E275 _ (by omega) q) rfl (by omega) | exact fun q => absurd q (by omega)) (by first | assumption | exact (PF_FR (FR_e eU44) rfl (PF_FR (FR_e eU43) rfl (PF_FR (FR_e eU28) rfl (PF_FR (FR_e eU27) rfl (PF_FR (FR_e eU26) rfl (by assumption : PF U25))))))) (by first | assumption | exact (BDA_FR (FR_e eU44) rfl (BDA_FR (FR_e eU43) rfl (BDA_FR (FR_e eU28) rfl (BDA_FR (FR_e eU27) rfl (BDA_FR (FR_e eU26) rfl (BDA_FR (FR_e eU25) rfl (by assumption : BDA S))))))))) (And.intro rfl (True.intro))
    | 6, hii =>
      cases hii
      have w667 : z429 = 149 := by simpa using w432
      refine l_aload_n rfl rfl ?_
      have t281 : AT U28 n (c + 1) ∧ _ := at_mv (c2 := c + 1) hT hA (fun j => (hFU27.cx 907 rfl j).1) (fun j => (hFU27.cx 908 rfl j).1) (by omega) (by omega) (by omega) (by omega) eU28 (by omega) (by omega) (by omega) (by omega) (Or.inr ⟨rfl, by unfold K3; omega⟩)
      have a281 : AT U28 n (c + 1) := t281.1
      have l281 := t281.2
      clear t281 l39
      refine l_gfr rfl rfl rfl rfl rfl (hHU28.r 904 95 963 rfl) ?_
      refine l_iload_n rfl rfl ?_
      refine l_iconst rfl ?_
      refine l_iastore (n := 1700) rfl rfl (by omega) (by omega) (by unfold rg; omega) ?_
      obtain ⟨U45, eU45⟩ : ∃ T : sS, T = uI U28 963 (((Xi S 904 98)).toNat) (Int32.ofInt 5) := ⟨_, rfl⟩
      rw [← eU45]
      have hHU45 : HI U45 := by rw [eU45]; exact HI_w hHU28 (show 0 ≤ 5 by omega) (show 5 ≤ 6 by omega)
      have hFU45 : FR md_mo_phrase__3 S U45 := by rw [eU45]; exact FR.wI hFU28 (mdf_i (r := (963, 964, 0, 100000)) (List.mem_of_getElem? (i := 23) rfl) (inR_i (by omega) (by omega) (by omega) (by omega)))
      have w668 : Xi U45 963 (((Xi S 904 98)).toNat) = 5 := by rw [eU45]; exact Xi_same (by unfold rg; omega)
      refine l_aload_n rfl rfl ?_
      refine l_gfr rfl rfl rfl rfl rfl (hHU45.r 904 86 956 rfl) ?_
      refine l_aload_n rfl rfl ?_
      refine l_gfi rfl rfl rfl rfl rfl ?_
      have w669 : (Xi U45 904 93) = (Xi S 904 93) := (show Xi U45 904 93 = Xi U28 904 93 from by rw [eU45]; exact Xi_ne (by omega)).trans ( (show Xi U28 904 93 = Xi U27 904 93 from by rw [eU28]; exact Xi_ne (by omega)).trans ( (show Xi U27 904 93 = Xi U26 904 93 from by rw [eU27]; exact Xi_ne (by omega)).trans ( (show Xi U26 904 93 = Xi U25 904 93 from by rw [eU26]; exact Xi_ne (by omega)).trans ((show Xi U25 904 93 = Xi S 904 93 from by rw [eU25]; exact Xi_ne (by omega))))))
      rw [w669]
      refine l_aload_n rfl rfl ?_
      have w670 : Xi U45 904 65 = Xi S 904 65 := (show Xi U45 904 65 = Xi U28 904 65 from by rw [eU45]; exact Xi_ne (by omega)).trans ( (show Xi U28 904 65 = Xi U27 904 65 from by rw [eU28]; exact Xi_ne (by omega)).trans ( (show Xi U27 904 65 = Xi U26 904 65 from by rw [eU27]; exact Xi_ne (by omega)).trans ( (show Xi U26 904 65 = Xi U25 904 65 from by rw [eU26]; exact Xi_ne (by omega)).trans ((show Xi U25 904 65 = Xi S 904 65 from by rw [eU25]; exact Xi_ne (by omega))))))
      have w672 : Xi U45 904 69 = Xi S 904 69 := (show Xi U45 904 69 = Xi U28 904 69 from by rw [eU45]; exact Xi_ne (by omega)).trans ( (show Xi U28 904 69 = Xi U27 904 69 from by rw [eU28]; exact Xi_ne (by omega)).trans ( (show Xi U27 904 69 = Xi U26 904 69 from by rw [eU27]; exact Xi_ne (by omega)).trans ( (show Xi U26 904 69 = Xi U25 904 69 from by rw [eU26]; exact Xi_ne (by omega)).trans ((show Xi U25 904 69 = Xi S 904 69 from by rw [eU25]; exact Xi_ne (by omega))))))
      have w674 : Xi U45 904 8 = Xi U28 904 8 := (show Xi U45 904 8 = Xi U28 904 8 from by rw [eU45]; exact Xi_ne (by omega))
      have w675 : 0 ≤ Xi U28 904 8 ∧ Xi U28 904 8 ≤ 5010 := hHU28.c _ _
      have w676 : Xi U45 904 93 = Xi S 904 93 := (show Xi U45 904 93 = Xi U28 904 93 from by rw [eU45]; exact Xi_ne (by omega)).trans ( (show Xi U28 904 93 = Xi U27 904 93 from by rw [eU28]; exact Xi_ne (by omega)).trans ( (show Xi U27 904 93 = Xi U26 904 93 from by rw [eU27]; exact Xi_ne (by omega)).trans ( (show Xi U26 904 93 = Xi U25 904 93 from by rw [eU26]; exact Xi_ne (by omega)).trans ((show Xi U25 904 93 = Xi S 904 93 from by rw [eU25]; exact Xi_ne (by omega))))))
      have w678 : Xi U45 904 98 = Xi S 904 98 := (show Xi U45 904 98 = Xi U28 904 98 from by rw [eU45]; exact Xi_ne (by omega)).trans ( (show Xi U28 904 98 = Xi U27 904 98 from by rw [eU28]; exact Xi_ne (by omega)).trans ( (show Xi U27 904 98 = Xi U26 904 98 from by rw [eU27]; exact Xi_ne (by omega)).trans ( (show Xi U26 904 98 = Xi U25 904 98 from by rw [eU26]; exact Xi_ne (by omega)).trans ((show Xi U25 904 98 = Xi S 904 98 from by rw [eU25]; exact Xi_ne (by omega))))))
      refine l_callV rfl rfl rfl (t_mo_run__2 hHU45 n (c + 1) (by first | assumption | exact (TK_FR hFU45 rfl (by assumption : TK S _))) (by first | assumption | exact (AT_FR (FR_e eU45) rfl (by assumption : AT U28 _ _))) (by first | assumption | exact (RNV_FR (FR_e eU45) rfl (RNV_FR (FR_e eU28) rfl (RNV_FR (FR_e eU27) rfl (RNV_FR (FR_e eU26) rfl (RNV_FR (FR_e eU25) rfl (by assumption : RNV S _))))))) (by first | assumption | exact (BDA_FR (FR_e eU45) rfl (BDA_FR (FR_e eU28) rfl (BDA_FR (FR_e eU27) rfl (BDA_FR (FR_e eU26) rfl (BDA_FR (FR_e eU25) rfl (by assumption : BDA S))))))) _) ?_
      rintro _ T46 ⟨hHT46, w686, z685, rfl, w685, w680, w681, w682, r297, w683, w684⟩
      have hFT46 : FR md_mo_phrase__3 S T46 := FR.tr hFU45 w686 rfl
      show Rl _ _ _ _ _ [iv z685, iv (Xi S 904 93), .ref 956] _ _
      have w688 : 0 ≤ Xi T46 904 8 ∧ Xi T46 904 8 ≤ 5010 := hHT46.c _ _
      have w689 : 0 ≤ Xi T46 904 65 ∧ Xi T46 904 65 ≤ 1 := hHT46.c _ _
      have w690 : 0 ≤ Xi T46 904 69 ∧ Xi T46 904 69 ≤ 2600 := hHT46.c _ _
      have w691 : Xi T46 904 93 = Xi S 904 93 := (show Xi T46 904 93 = Xi U45 904 93 from w686.x _ _ rfl).trans ( (show Xi U45 904 93 = Xi U28 904 93 from by rw [eU45]; exact Xi_ne (by omega)).trans ( (show Xi U28 904 93 = Xi U27 904 93 from by rw [eU28]; exact Xi_ne (by omega)).trans ( (show Xi U27 904 93 = Xi U26 904 93 from by rw [eU27]; exact Xi_ne (by omega)).trans ( (show Xi U26 904 93 = Xi U25 904 93 from by rw [eU26]; exact Xi_ne (by omega)).trans ((show Xi U25 904 93 = Xi S 904 93 from by rw [eU25]; exact Xi_ne (by omega)))))))
      have w687 : Xi S 904 8 ≤ Xi T46 904 8 ∧ Xi T46 904 8 ≤ n ∧ Xi S 904 69 ≤ Xi T46 904 69 ∧ (Xi T46 904 65 = 0 → Xi S 904 65 = 0) := by omega
      clear w681 w683
      refine l_iastore (n := 1700) rfl rfl (by omega) (by omega) (by unfold rg; omega) ?_
      obtain ⟨U47, eU47⟩ : ∃ T : sS, T = uI T46 956 (((Xi S 904 93)).toNat) (Int32.ofInt z685) := ⟨_, rfl⟩
      rw [← eU47]
      have hHU47 : HI U47 := by rw [eU47]; exact HI_w hHT46 (show 0 ≤ z685 by omega) (show z685 ≤ 2600 by omega)
      have hFU47 : FR md_mo_phrase__3 S U47 := by rw [eU47]; exact FR.wI hFT46 (mdf_i (r := (956, 957, 0, 100000)) (List.mem_of_getElem? (i := 16) rfl) (inR_i (by omega) (by omega) (by omega) (by omega)))
      have w693 : Xi U47 956 (((Xi S 904 93)).toNat) = z685 := by rw [eU47]; exact Xi_same (by unfold rg; omega)
      have p300 : Xi U47 904 65 = 0 → Xi U47 956 (Xi S 904 93).toNat < Xi U47 904 69 := fun q => (by rw [eU47, Xi_ne (by omega)] at q; have t := r297 q; have u : Xi U47 904 69 = Xi T46 904 69 := (by rw [eU47, Xi_ne (by omega)]); omega)
      have k300 : Xi U47 904 65 = 0 → Xi S 904 65 = 0 := fun q => (by rw [eU47, Xi_ne (by omega)] at q; omega)
      clear r297
      refine l_aload_n rfl rfl ?_
      refine l_gfr rfl rfl rfl rfl rfl (hHU47.r 904 83 953 rfl) ?_
      refine l_aload_n rfl rfl ?_
      refine l_gfi rfl rfl rfl rfl rfl ?_
      have w694 : (Xi U47 904 93) = (Xi S 904 93) := (show Xi U47 904 93 = Xi T46 904 93 from by rw [eU47]; exact Xi_ne (by omega)).trans ( (show Xi T46 904 93 = Xi U45 904 93 from w686.x _ _ rfl).trans ( (show Xi U45 904 93 = Xi U28 904 93 from by rw [eU45]; exact Xi_ne (by omega)).trans ( (show Xi U28 904 93 = Xi U27 904 93 from by rw [eU28]; exact Xi_ne (by omega)).trans ( (show Xi U27 904 93 = Xi U26 904 93 from by rw [eU27]; exact Xi_ne (by omega)).trans ( (show Xi U26 904 93 = Xi U25 904 93 from by rw [eU26]; exact Xi_ne (by omega)).trans ((show Xi U25 904 93 = Xi S 904 93 from by rw [eU25]; exact Xi_ne (by omega))))))))
      rw [w694]
      refine l_aload_n rfl rfl ?_
      refine l_sipush rfl rfl ?_
      have w695 : Xi U47 904 65 = Xi T46 904 65 := (show Xi U47 904 65 = Xi T46 904 65 from by rw [eU47]; exact Xi_ne (by omega))
      have w697 : Xi U47 904 69 = Xi T46 904 69 := (show Xi U47 904 69 = Xi T46 904 69 from by rw [eU47]; exact Xi_ne (by omega))
      have w699 : Xi U47 904 8 = Xi T46 904 8 := (show Xi U47 904 8 = Xi T46 904 8 from by rw [eU47]; exact Xi_ne (by omega))
      have w701 : Xi U47 904 93 = Xi S 904 93 := (show Xi U47 904 93 = Xi T46 904 93 from by rw [eU47]; exact Xi_ne (by omega)).trans ( (show Xi T46 904 93 = Xi U45 904 93 from w686.x _ _ rfl).trans ( (show Xi U45 904 93 = Xi U28 904 93 from by rw [eU45]; exact Xi_ne (by omega)).trans ( (show Xi U28 904 93 = Xi U27 904 93 from by rw [eU28]; exact Xi_ne (by omega)).trans ( (show Xi U27 904 93 = Xi U26 904 93 from by rw [eU27]; exact Xi_ne (by omega)).trans ( (show Xi U26 904 93 = Xi U25 904 93 from by rw [eU26]; exact Xi_ne (by omega)).trans ((show Xi U25 904 93 = Xi S 904 93 from by rw [eU25]; exact Xi_ne (by omega))))))))
      have w703 : Xi U47 904 98 = Xi S 904 98 := (show Xi U47 904 98 = Xi T46 904 98 from by rw [eU47]; exact Xi_ne (by omega)).trans ( (show Xi T46 904 98 = Xi U45 904 98 from w686.x _ _ rfl).trans ( (show Xi U45 904 98 = Xi U28 904 98 from by rw [eU45]; exact Xi_ne (by omega)).trans ( (show Xi U28 904 98 = Xi U27 904 98 from by rw [eU28]; exact Xi_ne (by omega)).trans ( (show Xi U27 904 98 = Xi U26 904 98 from by rw [eU27]; exact Xi_ne (by omega)).trans ( (show Xi U26 904 98 = Xi U25 904 98 from by rw [eU26]; exact Xi_ne (by omega)).trans ((show Xi U25 904 98 = Xi S 904 98 from by rw [eU25]; exact Xi_ne (by omega))))))))
      refine l_callV rfl rfl rfl (t_mo_isNext hHU47 n (c + 1) 154 ⟨by omega, by omega⟩ (by first | assumption | exact (TK_FR hFU47 rfl (by assumption : TK S _))) (by first | assumption | exact (AT_FR (FR_e eU47) rfl (by assumption : AT T46 _ _))) _) ?_
      rintro _ _ ⟨rfl, z705, rfl, w705, p313, n313⟩
      show Rl _ _ _ _ _ [iv z705, iv (Xi S 904 93), .ref 953] _ _
      clear p313 n313
      refine l_if_ne rfl rfl (by unfold rg; omega) (fun w706 => ?_) (fun w707 => ?_)
      · refine l_iconst rfl ?_
        refine l_goto rfl rfl ?_
        refine l_bastoreZ1 (n := 1700) rfl rfl (by omega) (by omega) (by unfold rg; omega) ⟨by omega, by omega⟩ ?_
        obtain ⟨U48, eU48⟩ : ∃ T : sS, T = uI U47 953 (((Xi S 904 93)).toNat) (Int32.ofInt 1) := ⟨_, rfl⟩
        rw [← eU48]
        have hHU48 : HI U48 := by rw [eU48]; exact HI_w hHU47 (show 0 ≤ 1 by omega) (show 1 ≤ 1 by omega)
        have hFU48 : FR md_mo_phrase__3 S U48 := by rw [eU48]; exact FR.wI hFU47 (mdf_i (r := (953, 954, 0, 100000)) (List.mem_of_getElem? (i := 13) rfl) (inR_i (by omega) (by omega) (by omega) (by omega)))
        have w708 : Xi U48 953 (((Xi S 904 93)).toNat) = 1 := by rw [eU48]; exact Xi_same (by unfold rg; omega)
        have p344 : Xi U48 904 65 = 0 → Xi U48 956 (Xi S 904 93).toNat < Xi U48 904 69 := fun q => (by rw [eU48, Xi_ne (by omega)] at q; have t := p300 q; rw [eU48, Xi_ne (by omega), Xi_ne (by omega)]; exact t)
        have w709 : Xi U48 963 (Xi S 904 98).toNat = Xi U45 963 (Xi S 904 98).toNat := (show Xi U48 963 (Xi S 904 98).toNat = Xi U47 963 (Xi S 904 98).toNat from by rw [eU48]; exact Xi_ne (by omega)).trans ( (show Xi U47 963 (Xi S 904 98).toNat = Xi T46 963 (Xi S 904 98).toNat from by rw [eU47]; exact Xi_ne (by omega)).trans ((show Xi T46 963 (Xi S 904 98).toNat = Xi U45 963 (Xi S 904 98).toNat from (w686.cx 963 rfl _).1)))
        have w710 : Xi U48 964 (Xi S 904 98).toNat = Xi U26 964 (Xi S 904 98).toNat := (show Xi U48 964 (Xi S 904 98).toNat = Xi U47 964 (Xi S 904 98).toNat from by rw [eU48]; exact Xi_ne (by omega)).trans ( (show Xi U47 964 (Xi S 904 98).toNat = Xi T46 964 (Xi S 904 98).toNat from by rw [eU47]; exact Xi_ne (by omega)).trans ( (show Xi T46 964 (Xi S 904 98).toNat = Xi U45 964 (Xi S 904 98).toNat from (w686.cx 964 rfl _).1).trans ( (show Xi U45 964 (Xi S 904 98).toNat = Xi U28 964 (Xi S 904 98).toNat from by rw [eU45]; exact Xi_ne (by omega)).trans ( (show Xi U28 964 (Xi S 904 98).toNat = Xi U27 964 (Xi S 904 98).toNat from by rw [eU28]; exact Xi_ne (by omega)).trans ((show Xi U27 964 (Xi S 904 98).toNat = Xi U26 964 (Xi S 904 98).toNat from by rw [eU27]; exact Xi_ne (by omega)))))))
        have w711 : Xi U48 904 65 = Xi T46 904 65 := (show Xi U48 904 65 = Xi U47 904 65 from by rw [eU48]; exact Xi_ne (by omega)).trans ((show Xi U47 904 65 = Xi T46 904 65 from by rw [eU47]; exact Xi_ne (by omega)))
        have w713 : Xi U48 904 69 = Xi T46 904 69 := (show Xi U48 904 69 = Xi U47 904 69 from by rw [eU48]; exact Xi_ne (by omega)).trans ((show Xi U47 904 69 = Xi T46 904 69 from by rw [eU47]; exact Xi_ne (by omega)))
        have w715 : Xi U48 904 8 = Xi T46 904 8 := (show Xi U48 904 8 = Xi U47 904 8 from by rw [eU48]; exact Xi_ne (by omega)).trans ((show Xi U47 904 8 = Xi T46 904 8 from by rw [eU47]; exact Xi_ne (by omega)))
        have w717 : Xi U48 904 93 = Xi S 904 93 := (show Xi U48 904 93 = Xi U47 904 93 from by rw [eU48]; exact Xi_ne (by omega)).trans ( (show Xi U47 904 93 = Xi T46 904 93 from by rw [eU47]; exact Xi_ne (by omega)).trans ( (show Xi T46 904 93 = Xi U45 904 93 from w686.x _ _ rfl).trans ( (show Xi U45 904 93 = Xi U28 904 93 from by rw [eU45]; exact Xi_ne (by omega)).trans ( (show Xi U28 904 93 = Xi U27 904 93 from by rw [eU28]; exact Xi_ne (by omega)).trans ( (show Xi U27 904 93 = Xi U26 904 93 from by rw [eU27]; exact Xi_ne (by omega)).trans ( (show Xi U26 904 93 = Xi U25 904 93 from by rw [eU26]; exact Xi_ne (by omega)).trans ((show Xi U25 904 93 = Xi S 904 93 from by rw [eU25]; exact Xi_ne (by omega)))))))))
        have w719 : Xi U48 904 98 = Xi S 904 98 := (show Xi U48 904 98 = Xi U47 904 98 from by rw [eU48]; exact Xi_ne (by omega)).trans ( (show Xi U47 904 98 = Xi T46 904 98 from by rw [eU47]; exact Xi_ne (by omega)).trans ( (show Xi T46 904 98 = Xi U45 904 98 from w686.x _ _ rfl).trans ( (show Xi U45 904 98 = Xi U28 904 98 from by rw [eU45]; exact Xi_ne (by omega)).trans ( (show Xi U28 904 98 = Xi U27 904 98 from by rw [eU28]; exact Xi_ne (by omega)).trans ( (show Xi U27 904 98 = Xi U26 904 98 from by rw [eU27]; exact Xi_ne (by omega)).trans ( (show Xi U26 904 98 = Xi U25 904 98 from by rw [eU26]; exact Xi_ne (by omega)).trans ((show Xi U25 904 98 = Xi S 904 98 from by rw [eU25]; exact Xi_ne (by omega)))))))))
        exact Rl_weak (C345 U48 hHU48 hFU48  (by first | assumption | exact AT_FR (FR_e eU48) rfl (AT_FR (FR_e eU47) rfl (by assumption)) | exact AT_FR (FR_e eU48) rfl (by assumption)) (by first | assumption | exact (RNV_FR (FR_e eU48) rfl (RNV_FR (FR_e eU47) rfl (by assumption : RNV T46 _)))) (by omega) (by omega) (by omega) (by omega) (by omega) (by omega) (by omega) (by omega) (p344) ((KT.w (KT.w (KT_FR w686 rfl (KT_FR (FR_e eU45) rfl (KT_FR (FR_e eU28) rfl (KT.w (KT_FR (FR_e eU26) rfl (KT_FR (FR_e eU25) rfl KT.rf)) eU27 (by omega))))) eU47 (by omega)) eU48 (by omega))) ((KP.w (KP.w (KP_FR w686 rfl (KP.w (KP.w (KP.w (KP.w (KP.w KP.rf eU25 (by omega)) eU26 (by omega)) eU27 (by omega)) eU28 (by omega)) eU45 (by omega))) eU47 (by omega)) eU48 (by omega))) (by first | assumption | exact (PF_FR (FR_e eU48) rfl (PF_FR (FR_e eU47) rfl (PF_FR w686 rfl (PF_FR (FR_e eU45) rfl (PF_FR (FR_e eU28) rfl (PF_FR (FR_e eU27) rfl (PF_FR (FR_e eU26) rfl (by assumption : PF U25))))))))) (by first | assumption | exact (BDA_FR (FR_e eU48) rfl (BDA_FR (FR_e eU47) rfl (by assumption : BDA T46))))) (And.intro rfl (True.intro))
      · refine l_aload_n rfl rfl ?_
        refine l_sipush rfl rfl ?_
        refine l_callV rfl rfl rfl (t_mo_isNext hHU47 n (c + 1) 153 ⟨by omega, by omega⟩ (by first | assumption | exact (TK_FR hFU47 rfl (by assumption : TK S _))) (by first | assumption | exact (AT_FR (FR_e eU47) rfl (by assumption : AT T46 _ _))) _) ?_
        rintro _ _ ⟨rfl, z731, rfl, w731, p323, n323⟩
        show Rl _ _ _ _ _ [iv z731, iv (Xi S 904 93), .ref 953] _ _
        clear p323 n323
        refine l_if_ne rfl rfl (by unfold rg; omega) (fun w732 => ?_) (fun w733 => ?_)
        · refine l_iconst rfl ?_
          refine l_goto rfl rfl ?_
          refine l_bastoreZ1 (n := 1700) rfl rfl (by omega) (by omega) (by unfold rg; omega) ⟨by omega, by omega⟩ ?_
          obtain ⟨U49, eU49⟩ : ∃ T : sS, T = uI U47 953 (((Xi S 904 93)).toNat) (Int32.ofInt 1) := ⟨_, rfl⟩
          rw [← eU49]
          have hHU49 : HI U49 := by rw [eU49]; exact HI_w hHU47 (show 0 ≤ 1 by omega) (show 1 ≤ 1 by omega)
          have hFU49 : FR md_mo_phrase__3 S U49 := by rw [eU49]; exact FR.wI hFU47 (mdf_i (r := (953, 954, 0, 100000)) (List.mem_of_getElem? (i := 13) rfl) (inR_i (by omega) (by omega) (by omega) (by omega)))
          have w734 : Xi U49 953 (((Xi S 904 93)).toNat) = 1 := by rw [eU49]; exact Xi_same (by unfold rg; omega)
          have p344 : Xi U49 904 65 = 0 → Xi U49 956 (Xi S 904 93).toNat < Xi U49 904 69 := fun q => (by rw [eU49, Xi_ne (by omega)] at q; have t := p300 q; rw [eU49, Xi_ne (by omega), Xi_ne (by omega)]; exact t)
          have w735 : Xi U49 963 (Xi S 904 98).toNat = Xi U45 963 (Xi S 904 98).toNat := (show Xi U49 963 (Xi S 904 98).toNat = Xi U47 963 (Xi S 904 98).toNat from by rw [eU49]; exact Xi_ne (by omega)).trans ( (show Xi U47 963 (Xi S 904 98).toNat = Xi T46 963 (Xi S 904 98).toNat from by rw [eU47]; exact Xi_ne (by omega)).trans ((show Xi T46 963 (Xi S 904 98).toNat = Xi U45 963 (Xi S 904 98).toNat from (w686.cx 963 rfl _).1)))
          have w736 : Xi U49 964 (Xi S 904 98).toNat = Xi U26 964 (Xi S 904 98).toNat := (show Xi U49 964 (Xi S 904 98).toNat = Xi U47 964 (Xi S 904 98).toNat from by rw [eU49]; exact Xi_ne (by omega)).trans ( (show Xi U47 964 (Xi S 904 98).toNat = Xi T46 964 (Xi S 904 98).toNat from by rw [eU47]; exact Xi_ne (by omega)).trans ( (show Xi T46 964 (Xi S 904 98).toNat = Xi U45 964 (Xi S 904 98).toNat from (w686.cx 964 rfl _).1).trans ( (show Xi U45 964 (Xi S 904 98).toNat = Xi U28 964 (Xi S 904 98).toNat from by rw [eU45]; exact Xi_ne (by omega)).trans ( (show Xi U28 964 (Xi S 904 98).toNat = Xi U27 964 (Xi S 904 98).toNat from by rw [eU28]; exact Xi_ne (by omega)).trans ((show Xi U27 964 (Xi S 904 98).toNat = Xi U26 964 (Xi S 904 98).toNat from by rw [eU27]; exact Xi_ne (by omega)))))))
          have w737 : Xi U49 904 65 = Xi T46 904 65 := (show Xi U49 904 65 = Xi U47 904 65 from by rw [eU49]; exact Xi_ne (by omega)).trans ((show Xi U47 904 65 = Xi T46 904 65 from by rw [eU47]; exact Xi_ne (by omega)))
          have w739 : Xi U49 904 69 = Xi T46 904 69 := (show Xi U49 904 69 = Xi U47 904 69 from by rw [eU49]; exact Xi_ne (by omega)).trans ((show Xi U47 904 69 = Xi T46 904 69 from by rw [eU47]; exact Xi_ne (by omega)))
          have w741 : Xi U49 904 8 = Xi T46 904 8 := (show Xi U49 904 8 = Xi U47 904 8 from by rw [eU49]; exact Xi_ne (by omega)).trans ((show Xi U47 904 8 = Xi T46 904 8 from by rw [eU47]; exact Xi_ne (by omega)))
          have w743 : Xi U49 904 93 = Xi S 904 93 := (show Xi U49 904 93 = Xi U47 904 93 from by rw [eU49]; exact Xi_ne (by omega)).trans ( (show Xi U47 904 93 = Xi T46 904 93 from by rw [eU47]; exact Xi_ne (by omega)).trans ( (show Xi T46 904 93 = Xi U45 904 93 from w686.x _ _ rfl).trans ( (show Xi U45 904 93 = Xi U28 904 93 from by rw [eU45]; exact Xi_ne (by omega)).trans ( (show Xi U28 904 93 = Xi U27 904 93 from by rw [eU28]; exact Xi_ne (by omega)).trans ( (show Xi U27 904 93 = Xi U26 904 93 from by rw [eU27]; exact Xi_ne (by omega)).trans ( (show Xi U26 904 93 = Xi U25 904 93 from by rw [eU26]; exact Xi_ne (by omega)).trans ((show Xi U25 904 93 = Xi S 904 93 from by rw [eU25]; exact Xi_ne (by omega)))))))))
          have w745 : Xi U49 904 98 = Xi S 904 98 := (show Xi U49 904 98 = Xi U47 904 98 from by rw [eU49]; exact Xi_ne (by omega)).trans ( (show Xi U47 904 98 = Xi T46 904 98 from by rw [eU47]; exact Xi_ne (by omega)).trans ( (show Xi T46 904 98 = Xi U45 904 98 from w686.x _ _ rfl).trans ( (show Xi U45 904 98 = Xi U28 904 98 from by rw [eU45]; exact Xi_ne (by omega)).trans ( (show Xi U28 904 98 = Xi U27 904 98 from by rw [eU28]; exact Xi_ne (by omega)).trans ( (show Xi U27 904 98 = Xi U26 904 98 from by rw [eU27]; exact Xi_ne (by omega)).trans ( (show Xi U26 904 98 = Xi U25 904 98 from by rw [eU26]; exact Xi_ne (by omega)).trans ((show Xi U25 904 98 = Xi S 904 98 from by rw [eU25]; exact Xi_ne (by omega)))))))))
          exact Rl_weak (C345 U49 hHU49 hFU49  (by first | assumption | exact AT_FR (FR_e eU49) rfl (AT_FR (FR_e eU47) rfl (by assumption)) | exact AT_FR (FR_e eU49) rfl (by assumption)) (by first | assumption | exact (RNV_FR (FR_e eU49) rfl (RNV_FR (FR_e eU47) rfl (by assumption : RNV T46 _)))) (by omega) (by omega) (by omega) (by omega) (by omega) (by omega) (by omega) (by omega) (p344) ((KT.w (KT.w (KT_FR w686 rfl (KT_FR (FR_e eU45) rfl (KT_FR (FR_e eU28) rfl (KT.w (KT_FR (FR_e eU26) rfl (KT_FR (FR_e eU25) rfl KT.rf)) eU27 (by omega))))) eU47 (by omega)) eU49 (by omega))) ((KP.w (KP.w (KP_FR w686 rfl (KP.w (KP.w (KP.w (KP.w (KP.w KP.rf eU25 (by omega)) eU26 (by omega)) eU27 (by omega)) eU28 (by omega)) eU45 (by omega))) eU47 (by omega)) eU49 (by omega))) (by first | assumption | exact (PF_FR (FR_e eU49) rfl (PF_FR (FR_e eU47) rfl (PF_FR w686 rfl (PF_FR (FR_e eU45) rfl (PF_FR (FR_e eU28) rfl (PF_FR (FR_e eU27) rfl (PF_FR (FR_e eU26) rfl (by assumption : PF U25))))))))) (by first | assumption | exact (BDA_FR (FR_e eU49) rfl (BDA_FR (FR_e eU47) rfl (by assumption : BDA T46))))) (And.intro rfl (True.intro))
        · refine l_aload_n rfl rfl ?_
          refine l_callV rfl rfl rfl (t_mo_look hHU47 n (c + 1) (by first | assumption | exact (TK_FR hFU47 rfl (by assumption : TK S _))) (by first | assumption | exact (AT_FR (FR_e eU47) rfl (by assumption : AT T46 _ _))) _) ?_
          rintro _ _ ⟨rfl, z758, rfl, w758, w757⟩
          show Rl _ _ _ _ _ [iv z758, iv (Xi S 904 93), .ref 953] _ _
          refine l_callS rfl rfl (by decide) rfl (t_mo_isArt hHU47 z758 ⟨by omega, by omega⟩ _) ?_
          rintro _ _ ⟨rfl, z770, rfl, w770, w769⟩
          show Rl _ _ _ _ _ [iv z770, iv (Xi S 904 93), .ref 953] _ _
          refine l_if_eq rfl rfl (by unfold rg; omega) (fun w771 => ?_) (fun w772 => ?_)
          · refine l_iconst rfl ?_
            refine l_bastoreZ1 (n := 1700) rfl rfl (by omega) (by omega) (by unfold rg; omega) ⟨by omega, by omega⟩ ?_
            obtain ⟨U50, eU50⟩ : ∃ T : sS, T = uI U47 953 (((Xi S 904 93)).toNat) (Int32.ofInt 0) := ⟨_, rfl⟩
            rw [← eU50]
            have hHU50 : HI U50 := by rw [eU50]; exact HI_w hHU47 (show 0 ≤ 0 by omega) (show 0 ≤ 1 by omega)
            have hFU50 : FR md_mo_phrase__3 S U50 := by rw [eU50]; exact FR.wI hFU47 (mdf_i (r := (953, 954, 0, 100000)) (List.mem_of_getElem? (i := 13) rfl) (inR_i (by omega) (by omega) (by omega) (by omega)))
            have w773 : Xi U50 953 (((Xi S 904 93)).toNat) = 0 := by rw [eU50]; exact Xi_same (by unfold rg; omega)
            have p344 : Xi U50 904 65 = 0 → Xi U50 956 (Xi S 904 93).toNat < Xi U50 904 69 := fun q => (by rw [eU50, Xi_ne (by omega)] at q; have t := p300 q; rw [eU50, Xi_ne (by omega), Xi_ne (by omega)]; exact t)
            have w774 : Xi U50 963 (Xi S 904 98).toNat = Xi U45 963 (Xi S 904 98).toNat := (show Xi U50 963 (Xi S 904 98).toNat = Xi U47 963 (Xi S 904 98).toNat from by rw [eU50]; exact Xi_ne (by omega)).trans ( (show Xi U47 963 (Xi S 904 98).toNat = Xi T46 963 (Xi S 904 98).toNat from by rw [eU47]; exact Xi_ne (by omega)).trans ((show Xi T46 963 (Xi S 904 98).toNat = Xi U45 963 (Xi S 904 98).toNat from (w686.cx 963 rfl _).1)))
            have w775 : Xi U50 964 (Xi S 904 98).toNat = Xi U26 964 (Xi S 904 98).toNat := (show Xi U50 964 (Xi S 904 98).toNat = Xi U47 964 (Xi S 904 98).toNat from by rw [eU50]; exact Xi_ne (by omega)).trans ( (show Xi U47 964 (Xi S 904 98).toNat = Xi T46 964 (Xi S 904 98).toNat from by rw [eU47]; exact Xi_ne (by omega)).trans ( (show Xi T46 964 (Xi S 904 98).toNat = Xi U45 964 (Xi S 904 98).toNat from (w686.cx 964 rfl _).1).trans ( (show Xi U45 964 (Xi S 904 98).toNat = Xi U28 964 (Xi S 904 98).toNat from by rw [eU45]; exact Xi_ne (by omega)).trans ( (show Xi U28 964 (Xi S 904 98).toNat = Xi U27 964 (Xi S 904 98).toNat from by rw [eU28]; exact Xi_ne (by omega)).trans ((show Xi U27 964 (Xi S 904 98).toNat = Xi U26 964 (Xi S 904 98).toNat from by rw [eU27]; exact Xi_ne (by omega)))))))
            have w776 : Xi U50 904 65 = Xi T46 904 65 := (show Xi U50 904 65 = Xi U47 904 65 from by rw [eU50]; exact Xi_ne (by omega)).trans ((show Xi U47 904 65 = Xi T46 904 65 from by rw [eU47]; exact Xi_ne (by omega)))
            have w778 : Xi U50 904 69 = Xi T46 904 69 := (show Xi U50 904 69 = Xi U47 904 69 from by rw [eU50]; exact Xi_ne (by omega)).trans ((show Xi U47 904 69 = Xi T46 904 69 from by rw [eU47]; exact Xi_ne (by omega)))
            have w780 : Xi U50 904 8 = Xi T46 904 8 := (show Xi U50 904 8 = Xi U47 904 8 from by rw [eU50]; exact Xi_ne (by omega)).trans ((show Xi U47 904 8 = Xi T46 904 8 from by rw [eU47]; exact Xi_ne (by omega)))
            have w782 : Xi U50 904 93 = Xi S 904 93 := (show Xi U50 904 93 = Xi U47 904 93 from by rw [eU50]; exact Xi_ne (by omega)).trans ( (show Xi U47 904 93 = Xi T46 904 93 from by rw [eU47]; exact Xi_ne (by omega)).trans ( (show Xi T46 904 93 = Xi U45 904 93 from w686.x _ _ rfl).trans ( (show Xi U45 904 93 = Xi U28 904 93 from by rw [eU45]; exact Xi_ne (by omega)).trans ( (show Xi U28 904 93 = Xi U27 904 93 from by rw [eU28]; exact Xi_ne (by omega)).trans ( (show Xi U27 904 93 = Xi U26 904 93 from by rw [eU27]; exact Xi_ne (by omega)).trans ( (show Xi U26 904 93 = Xi U25 904 93 from by rw [eU26]; exact Xi_ne (by omega)).trans ((show Xi U25 904 93 = Xi S 904 93 from by rw [eU25]; exact Xi_ne (by omega)))))))))
            have w784 : Xi U50 904 98 = Xi S 904 98 := (show Xi U50 904 98 = Xi U47 904 98 from by rw [eU50]; exact Xi_ne (by omega)).trans ( (show Xi U47 904 98 = Xi T46 904 98 from by rw [eU47]; exact Xi_ne (by omega)).trans ( (show Xi T46 904 98 = Xi U45 904 98 from w686.x _ _ rfl).trans ( (show Xi U45 904 98 = Xi U28 904 98 from by rw [eU45]; exact Xi_ne (by omega)).trans ( (show Xi U28 904 98 = Xi U27 904 98 from by rw [eU28]; exact Xi_ne (by omega)).trans ( (show Xi U27 904 98 = Xi U26 904 98 from by rw [eU27]; exact Xi_ne (by omega)).trans ( (show Xi U26 904 98 = Xi U25 904 98 from by rw [eU26]; exact Xi_ne (by omega)).trans ((show Xi U25 904 98 = Xi S 904 98 from by rw [eU25]; exact Xi_ne (by omega)))))))))
            exact Rl_weak (C345 U50 hHU50 hFU50  (by first | assumption | exact AT_FR (FR_e eU50) rfl (AT_FR (FR_e eU47) rfl (by assumption)) | exact AT_FR (FR_e eU50) rfl (by assumption)) (by first | assumption | exact (RNV_FR (FR_e eU50) rfl (RNV_FR (FR_e eU47) rfl (by assumption : RNV T46 _)))) (by omega) (by omega) (by omega) (by omega) (by omega) (by omega) (by omega) (by omega) (p344) ((KT.w (KT.w (KT_FR w686 rfl (KT_FR (FR_e eU45) rfl (KT_FR (FR_e eU28) rfl (KT.w (KT_FR (FR_e eU26) rfl (KT_FR (FR_e eU25) rfl KT.rf)) eU27 (by omega))))) eU47 (by omega)) eU50 (by omega))) ((KP.w (KP.w (KP_FR w686 rfl (KP.w (KP.w (KP.w (KP.w (KP.w KP.rf eU25 (by omega)) eU26 (by omega)) eU27 (by omega)) eU28 (by omega)) eU45 (by omega))) eU47 (by omega)) eU50 (by omega))) (by first | assumption | exact (PF_FR (FR_e eU50) rfl (PF_FR (FR_e eU47) rfl (PF_FR w686 rfl (PF_FR (FR_e eU45) rfl (PF_FR (FR_e eU28) rfl (PF_FR (FR_e eU27) rfl (PF_FR (FR_e eU26) rfl (by assumption : PF U25))))))))) (by first | assumption | exact (BDA_FR (FR_e eU50) rfl (BDA_FR (FR_e eU47) rfl (by assumption : BDA T46))))) (And.intro rfl (True.intro))
          · refine l_iconst rfl ?_
            refine l_goto rfl rfl ?_
            refine l_bastoreZ1 (n := 1700) rfl rfl (by omega) (by omega) (by unfold rg; omega) ⟨by omega, by omega⟩ ?_
            obtain ⟨U51, eU51⟩ : ∃ T : sS, T = uI U47 953 (((Xi S 904 93)).toNat) (Int32.ofInt 1) := ⟨_, rfl⟩
            rw [← eU51]
            have hHU51 : HI U51 := by rw [eU51]; exact HI_w hHU47 (show 0 ≤ 1 by omega) (show 1 ≤ 1 by omega)
            have hFU51 : FR md_mo_phrase__3 S U51 := by rw [eU51]; exact FR.wI hFU47 (mdf_i (r := (953, 954, 0, 100000)) (List.mem_of_getElem? (i := 13) rfl) (inR_i (by omega) (by omega) (by omega) (by omega)))
            have w786 : Xi U51 953 (((Xi S 904 93)).toNat) = 1 := by rw [eU51]; exact Xi_same (by unfold rg; omega)
            have p344 : Xi U51 904 65 = 0 → Xi U51 956 (Xi S 904 93).toNat < Xi U51 904 69 := fun q => (by rw [eU51, Xi_ne (by omega)] at q; have t := p300 q; rw [eU51, Xi_ne (by omega), Xi_ne (by omega)]; exact t)
            have w787 : Xi U51 963 (Xi S 904 98).toNat = Xi U45 963 (Xi S 904 98).toNat := (show Xi U51 963 (Xi S 904 98).toNat = Xi U47 963 (Xi S 904 98).toNat from by rw [eU51]; exact Xi_ne (by omega)).trans ( (show Xi U47 963 (Xi S 904 98).toNat = Xi T46 963 (Xi S 904 98).toNat from by rw [eU47]; exact Xi_ne (by omega)).trans ((show Xi T46 963 (Xi S 904 98).toNat = Xi U45 963 (Xi S 904 98).toNat from (w686.cx 963 rfl _).1)))
            have w788 : Xi U51 964 (Xi S 904 98).toNat = Xi U26 964 (Xi S 904 98).toNat := (show Xi U51 964 (Xi S 904 98).toNat = Xi U47 964 (Xi S 904 98).toNat from by rw [eU51]; exact Xi_ne (by omega)).trans ( (show Xi U47 964 (Xi S 904 98).toNat = Xi T46 964 (Xi S 904 98).toNat from by rw [eU47]; exact Xi_ne (by omega)).trans ( (show Xi T46 964 (Xi S 904 98).toNat = Xi U45 964 (Xi S 904 98).toNat from (w686.cx 964 rfl _).1).trans ( (show Xi U45 964 (Xi S 904 98).toNat = Xi U28 964 (Xi S 904 98).toNat from by rw [eU45]; exact Xi_ne (by omega)).trans ( (show Xi U28 964 (Xi S 904 98).toNat = Xi U27 964 (Xi S 904 98).toNat from by rw [eU28]; exact Xi_ne (by omega)).trans ((show Xi U27 964 (Xi S 904 98).toNat = Xi U26 964 (Xi S 904 98).toNat from by rw [eU27]; exact Xi_ne (by omega)))))))
            have w789 : Xi U51 904 65 = Xi T46 904 65 := (show Xi U51 904 65 = Xi U47 904 65 from by rw [eU51]; exact Xi_ne (by omega)).trans ((show Xi U47 904 65 = Xi T46 904 65 from by rw [eU47]; exact Xi_ne (by omega)))
            have w791 : Xi U51 904 69 = Xi T46 904 69 := (show Xi U51 904 69 = Xi U47 904 69 from by rw [eU51]; exact Xi_ne (by omega)).trans ((show Xi U47 904 69 = Xi T46 904 69 from by rw [eU47]; exact Xi_ne (by omega)))
            have w793 : Xi U51 904 8 = Xi T46 904 8 := (show Xi U51 904 8 = Xi U47 904 8 from by rw [eU51]; exact Xi_ne (by omega)).trans ((show Xi U47 904 8 = Xi T46 904 8 from by rw [eU47]; exact Xi_ne (by omega)))
            have w795 : Xi U51 904 93 = Xi S 904 93 := (show Xi U51 904 93 = Xi U47 904 93 from by rw [eU51]; exact Xi_ne (by omega)).trans ( (show Xi U47 904 93 = Xi T46 904 93 from by rw [eU47]; exact Xi_ne (by omega)).trans ( (show Xi T46 904 93 = Xi U45 904 93 from w686.x _ _ rfl).trans ( (show Xi U45 904 93 = Xi U28 904 93 from by rw [eU45]; exact Xi_ne (by omega)).trans ( (show Xi U28 904 93 = Xi U27 904 93 from by rw [eU28]; exact Xi_ne (by omega)).trans ( (show Xi U27 904 93 = Xi U26 904 93 from by rw [eU27]; exact Xi_ne (by omega)).trans ( (show Xi U26 904 93 = Xi U25 904 93 from by rw [eU26]; exact Xi_ne (by omega)).trans ((show Xi U25 904 93 = Xi S 904 93 from by rw [eU25]; exact Xi_ne (by omega)))))))))
            have w797 : Xi U51 904 98 = Xi S 904 98 := (show Xi U51 904 98 = Xi U47 904 98 from by rw [eU51]; exact Xi_ne (by omega)).trans ( (show Xi U47 904 98 = Xi T46 904 98 from by rw [eU47]; exact Xi_ne (by omega)).trans ( (show Xi T46 904 98 = Xi U45 904 98 from w686.x _ _ rfl).trans ( (show Xi U45 904 98 = Xi U28 904 98 from by rw [eU45]; exact Xi_ne (by omega)).trans ( (show Xi U28 904 98 = Xi U27 904 98 from by rw [eU28]; exact Xi_ne (by omega)).trans ( (show Xi U27 904 98 = Xi U26 904 98 from by rw [eU27]; exact Xi_ne (by omega)).trans ( (show Xi U26 904 98 = Xi U25 904 98 from by rw [eU26]; exact Xi_ne (by omega)).trans ((show Xi U25 904 98 = Xi S 904 98 from by rw [eU25]; exact Xi_ne (by omega)))))))))
            exact Rl_weak (C345 U51 hHU51 hFU51  (by first | assumption | exact AT_FR (FR_e eU51) rfl (AT_FR (FR_e eU47) rfl (by assumption)) | exact AT_FR (FR_e eU51) rfl (by assumption)) (by first | assumption | exact (RNV_FR (FR_e eU51) rfl (RNV_FR (FR_e eU47) rfl (by assumption : RNV T46 _)))) (by omega) (by omega) (by omega) (by omega) (by omega) (by omega) (by omega) (by omega) (p344) ((KT.w (KT.w (KT_FR w686 rfl (KT_FR (FR_e eU45) rfl (KT_FR (FR_e eU28) rfl (KT.w (KT_FR (FR_e eU26) rfl (KT_FR (FR_e eU25) rfl KT.rf)) eU27 (by omega))))) eU47 (by omega)) eU51 (by omega))) ((KP.w (KP.w (KP_FR w686 rfl (KP.w (KP.w (KP.w (KP.w (KP.w KP.rf eU25 (by omega)) eU26 (by omega)) eU27 (by omega)) eU28 (by omega)) eU45 (by omega))) eU47 (by omega)) eU51 (by omega))) (by first | assumption | exact (PF_FR (FR_e eU51) rfl (PF_FR (FR_e eU47) rfl (PF_FR w686 rfl (PF_FR (FR_e eU45) rfl (PF_FR (FR_e eU28) rfl (PF_FR (FR_e eU27) rfl (PF_FR (FR_e eU26) rfl (by assumption : PF U25))))))))) (by first | assumption | exact (BDA_FR (FR_e eU51) rfl (BDA_FR (FR_e eU47) rfl (by assumption : BDA T46))))) (And.intro rfl (True.intro))
    | n + 7, hii => exact absurd hii (by simp)
