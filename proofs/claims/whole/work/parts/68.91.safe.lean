/-! SAFETY of methods: printed by wip/safe (vc.py, decl.py) -/
/-- where the sentence was odd -/
def BDA (S : sS) : Prop := Xi S 904 66 ≤ 5001
theorem BDA_FR {l : List rec} {S T : sS} (h : FR l S T) (e : mD l [66] = true) (hP : BDA S) : BDA T := by unfold BDA; rw [mD_x h e 66 (by decide)]; exact hP
def md_mo_odd__2 : List rec := [(904, 905, 65, 66), (904, 905, 66, 67)]
abbrev Q_mo_odd__2 (S : sS) : pst := fun r S1 => HI S1 ∧ FR md_mo_odd__2 S S1 ∧ (r = none ∧ (Xi S1 904 65 = 1) ∧ (Xi S1 904 8 = Xi S 904 8) ∧ (BDA S1))
set_option maxRecDepth 100000 in
theorem t_mo_odd__2 {S : sS} (hH : HI S) (hBDA : BDA S) (ho : Xi S 904 65 = 0 → Xi S 904 8 ≤ 5001) (d : Nat) : Mt lay0 (d + 1) m_mo_odd [.ref 904] S (Q_mo_odd__2 S) := by
  refine Mt_R rfl rfl ?_
  have hF : FR md_mo_odd__2 S S := FR.rf
  have w1 : 0 ≤ Xi S 904 65 ∧ Xi S 904 65 ≤ 1 := hH.c _ _
  have w2 : 0 ≤ Xi S 904 8 ∧ Xi S 904 8 ≤ 5010 := hH.c _ _
  refine l_aload_n rfl rfl ?_
  refine l_gfi rfl rfl rfl rfl rfl ?_
  refine l_if_ne rfl rfl (by unfold rg; omega) (fun w3 => ?_) (fun w4 => ?_)
  · refine l_return rfl rfl ?_
    exact ⟨hH, hF, rfl, (by first | assumption | omega), (by first | assumption | omega), (by first | assumption | (unfold BDA; omega) | exact (by assumption : BDA S))⟩
  · refine l_aload_n rfl rfl ?_
    refine l_iconst rfl ?_
    refine l_pfz rfl rfl rfl rfl (by omega) ?_
    obtain ⟨U1, eU1⟩ : ∃ T : sS, T = uI S 904 65 (Int32.ofInt 1) := ⟨_, rfl⟩
    rw [← eU1]
    have hHU1 : HI U1 := by rw [eU1]; exact HI_w hH (show 0 ≤ 1 by omega) (show 1 ≤ 1 by omega)
    have hFU1 : FR md_mo_odd__2 S U1 := by rw [eU1]; exact FR.wI hF (mdf_i (r := (904, 905, 65, 66)) (List.mem_of_getElem? (i := 0) rfl) (inR_i (by omega) (by omega) (by omega) (by omega)))
    have w8 : Xi U1 904 65 = 1 := by rw [eU1]; exact Xi_same (by unfold rg; omega)
    refine l_aload_n rfl rfl ?_
    refine l_aload_n rfl rfl ?_
    refine l_gfi rfl rfl rfl rfl rfl ?_
    have w9 : (Xi U1 904 8) = (Xi S 904 8) := (show Xi U1 904 8 = Xi S 904 8 from by rw [eU1]; exact Xi_ne (by omega))
    rw [w9]
    refine l_pfi rfl rfl rfl rfl ?_
    obtain ⟨U2, eU2⟩ : ∃ T : sS, T = uI U1 904 66 (Int32.ofInt (Xi S 904 8)) := ⟨_, rfl⟩
    rw [← eU2]
    have hHU2 : HI U2 := by rw [eU2]; exact HI_w hHU1 (show 0 ≤ (Xi S 904 8) by omega) (show (Xi S 904 8) ≤ 5010 by omega)
    have hFU2 : FR md_mo_odd__2 S U2 := by rw [eU2]; exact FR.wI hFU1 (mdf_i (r := (904, 905, 66, 67)) (List.mem_of_getElem? (i := 1) rfl) (inR_i (by omega) (by omega) (by omega) (by omega)))
    have w10 : Xi U2 904 66 = (Xi S 904 8) := by rw [eU2]; exact Xi_same (by unfold rg; omega)
    refine l_return rfl rfl ?_
    have w11 : Xi U2 904 65 = Xi U1 904 65 := (show Xi U2 904 65 = Xi U1 904 65 from by rw [eU2]; exact Xi_ne (by omega))
    have w12 : 0 ≤ Xi U1 904 65 ∧ Xi U1 904 65 ≤ 1 := hHU1.c _ _
    have w14 : Xi U2 904 8 = Xi S 904 8 := (show Xi U2 904 8 = Xi U1 904 8 from by rw [eU2]; exact Xi_ne (by omega)).trans ((show Xi U1 904 8 = Xi S 904 8 from by rw [eU1]; exact Xi_ne (by omega)))
    exact ⟨hHU2, hFU2, rfl, (by first | assumption | omega), (by first | assumption | omega), (by first | assumption | (unfold BDA; omega) | exact (by assumption : BDA U2))⟩
def md_mo_take__3 : List rec := [(904, 905, 8, 9), (904, 905, 65, 66), (904, 905, 66, 67)]
abbrev Q_mo_take__3 (S : sS) (n : Nat) (c : Nat) (k : Int) : pst := fun r S1 => HI S1 ∧ FR md_mo_take__3 S S1 ∧ (r = none ∧ (AT S1 n c) ∧ (Xi S 904 8 ≤ Xi S1 904 8 ∧ (Xi S1 904 8 ≤ n ∨ Xi S1 904 8 = Xi S 904 8)) ∧ (Xi S1 904 65 = 0 → Xi S 904 65 = 0) ∧ (Xi S1 904 65 = 0 → Xi S1 904 8 = Xi S 904 8 + 1 ∧ Xi S 907 (Xi S 904 8).toNat = k) ∧ (BDA S1))
set_option maxRecDepth 100000 in
theorem t_mo_take__3 {S : sS} (hH : HI S) (n : Nat) (c : Nat) (k : Int) (hk : 2 ≤ k ∧ k ≤ 154) (hT : TK S n) (hA : AT S n c) (hk : k ≠ 3 ∧ k ≠ 1) (hBDA : BDA S) (d : Nat) : Mt lay0 (d + 2) m_mo_take [.ref 904, iv k] S (Q_mo_take__3 S n c k) := by
  refine Mt_R rfl rfl ?_
  have hF : FR md_mo_take__3 S S := FR.rf
  have w1 : 0 ≤ Xi S 904 65 ∧ Xi S 904 65 ≤ 1 := hH.c _ _
  have w2 : 0 ≤ Xi S 904 8 ∧ Xi S 904 8 ≤ 5010 := hH.c _ _
  have hn5 := hT.1
  have hat := hA
  have h8 : 0 ≤ Xi S 904 8 ∧ Xi S 904 8 ≤ 5010 := hH.c _ _
  have h69 : 0 ≤ Xi S 904 69 ∧ Xi S 904 69 ≤ 2600 := hH.c _ _
  have ha0 : Xi S 904 65 = 0 → Xi S 904 8 ≤ n := fun q => (hA q).1
  have ha3 : Xi S 904 65 = 0 → 2 * Xi S 904 69 ≤ Xi S 904 8 + 1 := fun q => (hA q).2.1
  clear hat
  refine l_aload_n rfl rfl ?_
  refine l_iload_n rfl rfl ?_
  refine l_callV rfl rfl rfl (t_mo_isNext hH n c k ⟨by omega, by omega⟩ (by first | assumption | exact (TK_FR hF rfl (by assumption : TK S _))) (by first | assumption | exact (by assumption : AT S _ _)) _) ?_
  rintro _ _ ⟨rfl, z7, rfl, w7, w5, w6⟩
  show Rl _ _ _ _ _ [iv z7] _ _
  refine l_if_eq rfl rfl (by unfold rg; omega) (fun w8 => ?_) (fun w9 => ?_)
  · refine l_aload_n rfl rfl ?_
    refine l_callV rfl rfl rfl (t_mo_odd__2 hH (by first | assumption | exact (by assumption : BDA S)) (by first | omega | exact fun q => (by have t := ((by assumption : AT S _ _) q).1; have u := hT.1; omega)) _) ?_
    rintro _ T1 ⟨hHT1, w16, rfl, w12, w13, w14⟩
    have hFT1 : FR md_mo_take__3 S T1 := FR.tr hF w16 rfl
    show Rl _ _ _ _ _ [] _ _
    refine l_return rfl rfl ?_
    have w17 : 0 ≤ Xi T1 904 65 ∧ Xi T1 904 65 ≤ 1 := hHT1.c _ _
    have w18 : Xi T1 904 8 = Xi S 904 8 := (show Xi T1 904 8 = Xi S 904 8 from w16.x _ _ rfl)
    exact ⟨hHT1, hFT1, rfl, (by first | exact t15 | exact AT_bad (by omega)), (by omega), (by omega), (by omega), (by first | assumption | exact (by assumption : BDA T1))⟩
  · refine l_aload_n rfl rfl ?_
    refine l_dup rfl rfl ?_
    refine l_gfi rfl rfl rfl rfl rfl ?_
    refine l_iconst rfl ?_
    refine l_iadd rfl ?_
    refine l_pfi rfl rfl rfl rfl ?_
    obtain ⟨U2, eU2⟩ : ∃ T : sS, T = uI S 904 8 (Int32.ofInt ((Xi S 904 8) + 1)) := ⟨_, rfl⟩
    rw [← eU2]
    have hHU2 : HI U2 := by rw [eU2]; exact HI_w hH (show 0 ≤ ((Xi S 904 8) + 1) by omega) (show ((Xi S 904 8) + 1) ≤ 5010 by omega)
    have hFU2 : FR md_mo_take__3 S U2 := by rw [eU2]; exact FR.wI hF (mdf_i (r := (904, 905, 8, 9)) (List.mem_of_getElem? (i := 0) rfl) (inR_i (by omega) (by omega) (by omega) (by omega)))
    have w20 : Xi U2 904 8 = ((Xi S 904 8) + 1) := by rw [eU2]; exact Xi_same (by unfold rg; omega)
    have t15 : AT U2 n c := at_up hT hA eU2 (by omega) (by omega) (by omega) (by omega) (Or.inl rfl)
    have l15 : Xi U2 904 8 ≤ n := by have q := tk_lt hT (by omega) (ha0 (by omega)) (by omega); omega
    refine l_goto rfl rfl ?_
    refine l_return rfl rfl ?_
    have w21 : Xi U2 904 65 = Xi S 904 65 := (show Xi U2 904 65 = Xi S 904 65 from by rw [eU2]; exact Xi_ne (by omega))
    have w23 : 0 ≤ Xi U2 904 8 ∧ Xi U2 904 8 ≤ 5010 := hHU2.c _ _
    exact ⟨hHU2, hFU2, rfl, (by first | exact t15 | exact AT_bad (by omega)), (by omega), (by omega), (by omega), (by first | assumption | exact (BDA_FR (FR_e eU2) rfl (by assumption : BDA S)))⟩
def md_mo_art__3 : List rec := [(904, 905, 8, 9), (904, 905, 65, 66), (904, 905, 66, 67)]
abbrev Q_mo_art__3 (S : sS) (n : Nat) (c : Nat) : pst := fun r S1 => HI S1 ∧ FR md_mo_art__3 S S1 ∧ (r = none ∧ (AT S1 n c) ∧ (Xi S 904 8 ≤ Xi S1 904 8 ∧ (Xi S1 904 8 ≤ n ∨ Xi S1 904 8 = Xi S 904 8)) ∧ (Xi S1 904 65 = 0 → Xi S 904 65 = 0) ∧ (BDA S1))
set_option maxRecDepth 100000 in
theorem t_mo_art__3 {S : sS} (hH : HI S) (n : Nat) (c : Nat) (hT : TK S n) (hA : AT S n c) (hBDA : BDA S) (d : Nat) : Mt lay0 (d + 2) m_mo_art [.ref 904] S (Q_mo_art__3 S n c) := by
  refine Mt_R rfl rfl ?_
  have hF : FR md_mo_art__3 S S := FR.rf
  have w1 : 0 ≤ Xi S 904 65 ∧ Xi S 904 65 ≤ 1 := hH.c _ _
  have w2 : 0 ≤ Xi S 904 8 ∧ Xi S 904 8 ≤ 5010 := hH.c _ _
  have hn5 := hT.1
  have hat := hA
  have h8 : 0 ≤ Xi S 904 8 ∧ Xi S 904 8 ≤ 5010 := hH.c _ _
  have h69 : 0 ≤ Xi S 904 69 ∧ Xi S 904 69 ≤ 2600 := hH.c _ _
  have ha0 : Xi S 904 65 = 0 → Xi S 904 8 ≤ n := fun q => (hA q).1
  have ha3 : Xi S 904 65 = 0 → 2 * Xi S 904 69 ≤ Xi S 904 8 + 1 := fun q => (hA q).2.1
  clear hat
  refine l_aload_n rfl rfl ?_
  refine l_callV rfl rfl rfl (t_mo_look hH n c (by first | assumption | exact (TK_FR hF rfl (by assumption : TK S _))) (by first | assumption | exact (by assumption : AT S _ _)) _) ?_
  rintro _ _ ⟨rfl, z6, rfl, w6, w5⟩
  show Rl _ _ _ _ _ [iv z6] _ _
  refine l_callS rfl rfl (by decide) rfl (t_mo_isArt hH z6 ⟨by omega, by omega⟩ _) ?_
  rintro _ _ ⟨rfl, z10, rfl, w10, w9⟩
  show Rl _ _ _ _ _ [iv z10] _ _
  refine l_if_eq rfl rfl (by unfold rg; omega) (fun w11 => ?_) (fun w12 => ?_)
  · refine l_aload_n rfl rfl ?_
    refine l_callV rfl rfl rfl (t_mo_odd__2 hH (by first | assumption | exact (by assumption : BDA S)) (by first | omega | exact fun q => (by have t := ((by assumption : AT S _ _) q).1; have u := hT.1; omega)) _) ?_
    rintro _ T1 ⟨hHT1, w19, rfl, w15, w16, w17⟩
    have hFT1 : FR md_mo_art__3 S T1 := FR.tr hF w19 rfl
    show Rl _ _ _ _ _ [] _ _
    refine l_return rfl rfl ?_
    have w20 : 0 ≤ Xi T1 904 65 ∧ Xi T1 904 65 ≤ 1 := hHT1.c _ _
    have w21 : Xi T1 904 8 = Xi S 904 8 := (show Xi T1 904 8 = Xi S 904 8 from w19.x _ _ rfl)
    exact ⟨hHT1, hFT1, rfl, (by first | exact t17 | exact AT_bad (by omega)), (by omega), (by omega), (by first | assumption | exact (by assumption : BDA T1))⟩
  · refine l_aload_n rfl rfl ?_
    refine l_dup rfl rfl ?_
    refine l_gfi rfl rfl rfl rfl rfl ?_
    refine l_iconst rfl ?_
    refine l_iadd rfl ?_
    refine l_pfi rfl rfl rfl rfl ?_
    obtain ⟨U2, eU2⟩ : ∃ T : sS, T = uI S 904 8 (Int32.ofInt ((Xi S 904 8) + 1)) := ⟨_, rfl⟩
    rw [← eU2]
    have hHU2 : HI U2 := by rw [eU2]; exact HI_w hH (show 0 ≤ ((Xi S 904 8) + 1) by omega) (show ((Xi S 904 8) + 1) ≤ 5010 by omega)
    have hFU2 : FR md_mo_art__3 S U2 := by rw [eU2]; exact FR.wI hF (mdf_i (r := (904, 905, 8, 9)) (List.mem_of_getElem? (i := 0) rfl) (inR_i (by omega) (by omega) (by omega) (by omega)))
    have w23 : Xi U2 904 8 = ((Xi S 904 8) + 1) := by rw [eU2]; exact Xi_same (by unfold rg; omega)
    have t17 : AT U2 n c := at_up hT hA eU2 (by omega) (by omega) (by omega) (by omega) (Or.inl rfl)
    have l17 : Xi U2 904 8 ≤ n := by have q := tk_lt hT (by omega) (ha0 (by omega)) (by omega); omega
    refine l_goto rfl rfl ?_
    refine l_return rfl rfl ?_
    have w24 : Xi U2 904 65 = Xi S 904 65 := (show Xi U2 904 65 = Xi S 904 65 from by rw [eU2]; exact Xi_ne (by omega))
    have w26 : 0 ≤ Xi U2 904 8 ∧ Xi U2 904 8 ≤ 5010 := hHU2.c _ _
    exact ⟨hHU2, hFU2, rfl, (by first | exact t17 | exact AT_bad (by omega)), (by omega), (by omega), (by first | assumption | exact (BDA_FR (FR_e eU2) rfl (by assumption : BDA S)))⟩
def md_mo_run__2 : List rec := [(904, 905, 8, 9), (904, 905, 65, 66), (904, 905, 66, 67), (904, 905, 69, 70), (950, 951, 0, 100000), (951, 952, 0, 100000)]
abbrev Q_mo_run__2 (S : sS) (n : Nat) (c : Nat) : pst := fun r S1 => HI S1 ∧ FR md_mo_run__2 S S1 ∧ (∃ z : Int, r = some (iv z) ∧ (0 ≤ z ∧ z ≤ 2599) ∧ (AT S1 n c) ∧ (Xi S 904 8 ≤ Xi S1 904 8 ∧ (Xi S1 904 8 ≤ n ∨ Xi S1 904 8 = Xi S 904 8)) ∧ (RNV S1 n) ∧ (Xi S1 904 65 = 0 → z = Xi S 904 69 ∧ Xi S1 904 69 = Xi S 904 69 + 1 ∧ Xi S 904 65 = 0) ∧ (Xi S 904 69 ≤ Xi S1 904 69) ∧ (BDA S1))
set_option maxRecDepth 100000 in
theorem t_mo_run__2 {S : sS} (hH : HI S) (n : Nat) (c : Nat) (hT : TK S n) (hA : AT S n c) (hv : RNV S n) (hBDA : BDA S) (d : Nat) : Mt lay0 (d + 2) m_mo_run [.ref 904] S (Q_mo_run__2 S n c) := by
  refine Mt_R rfl rfl ?_
  have hF : FR md_mo_run__2 S S := FR.rf
  have w1 : 0 ≤ Xi S 904 65 ∧ Xi S 904 65 ≤ 1 := hH.c _ _
  have w2 : 0 ≤ Xi S 904 69 ∧ Xi S 904 69 ≤ 2600 := hH.c _ _
  have w3 : 0 ≤ Xi S 904 8 ∧ Xi S 904 8 ≤ 5010 := hH.c _ _
  have w4 : 0 ≤ Xi S 904 93 ∧ Xi S 904 93 ≤ 1700 := hH.c _ _
  have hn5 := hT.1
  have hat := hA
  have h8 : 0 ≤ Xi S 904 8 ∧ Xi S 904 8 ≤ 5010 := hH.c _ _
  have h69 : 0 ≤ Xi S 904 69 ∧ Xi S 904 69 ≤ 2600 := hH.c _ _
  have ha0 : Xi S 904 65 = 0 → Xi S 904 8 ≤ n := fun q => (hA q).1
  have ha3 : Xi S 904 65 = 0 → 2 * Xi S 904 69 ≤ Xi S 904 8 + 1 := fun q => (hA q).2.1
  clear hat
  have ha4 : Xi S 904 65 = 0 → Xi S 907 (Xi S 904 8).toNat = 3 → 2 * Xi S 904 69 ≤ Xi S 904 8 := fun q => (hA q).2.2.1
  have ha5 : Xi S 904 65 = 0 → 3 * (Xi S 904 93 + c) ≤ Xi S 908 (Xi S 904 8).toNat := fun q => (hA q).2.2.2
  have C27 : ∀ (n27 : Nat) (T1 : sS) (_ : HI T1) (_ : FR md_mo_run__2 S T1), (Xi T1 904 65 = 0) → (Xi S 904 65 = 0) → (Xi T1 904 69 = Xi S 904 69) → (Xi S 904 8 ≤ Xi T1 904 8 ∧ Xi T1 904 8 ≤ n) → (Xi T1 950 (Xi S 904 69).toNat = Xi S 904 8) → (2 * Xi S 904 69 ≤ Xi S 904 8) → (Xi S 907 (Xi S 904 8).toNat = 3) → (3 * (Xi S 904 93 + c) ≤ Xi S 908 (Xi T1 904 8).toNat) → (∀ r : Nat, (r : Int) < Xi S 904 69 → Xi T1 950 r = Xi S 950 r) → (∀ r, Xi T1 951 r = Xi S 951 r) → (BDA T1) → n27 = (5002 - Xi T1 904 8).toNat → Rl lay0 (d + 1) m_mo_run 27 [(0, .ref 904)] [] T1 (Q_mo_run__2 S n c) := by
    intro n27
    induction n27 using Nat.strongRecOn with
    | ind n27 ih27 =>
      intro T1 hHT1 hFT1 w5 w6 w7 w8 w9 w10 hc27 hp27 hk27 hl27 BDA_27 hm27
      have w11 : Xi T1 904 93 = Xi S 904 93 := hFT1.x _ _ rfl
      have w12 : 0 ≤ Xi T1 904 65 ∧ Xi T1 904 65 ≤ 1 := hHT1.c _ _
      have w13 : 0 ≤ Xi T1 904 69 ∧ Xi T1 904 69 ≤ 2600 := hHT1.c _ _
      have w14 : 0 ≤ Xi T1 904 8 ∧ Xi T1 904 8 ≤ 5010 := hHT1.c _ _
      refine l_aload_n rfl rfl ?_
      refine l_gfr rfl rfl rfl rfl rfl (hHT1.r 904 4 907 rfl) ?_
      refine l_aload_n rfl rfl ?_
      refine l_gfi rfl rfl rfl rfl rfl ?_
      refine l_iaload (n := 5002) rfl rfl (by omega) (by omega) (by unfold rg; omega) ?_
      have w15 : 0 ≤ (Xi T1 907 (((Xi T1 904 8)).toNat)) ∧ (Xi T1 907 (((Xi T1 904 8)).toNat)) ≤ 154 := hHT1.c _ _
      have e35 : (Xi T1 907 (((Xi T1 904 8)).toNat)) = Xi S 907 (Xi T1 904 8).toNat := by first | exact (hFT1.cx 907 rfl _).1 | rfl
      have g35 : Xi T1 904 8 = Xi S 904 8 → (Xi T1 907 (((Xi T1 904 8)).toNat)) = 3 := fun q => by rw [e35, q]; exact hc27
      refine l_iconst rfl ?_
      refine l_icmp_ne rfl rfl (by unfold rg; omega) (by unfold rg; omega) (fun w16 => ?_) (fun w17 => ?_)
      · refine l_aload_n rfl rfl ?_
        refine l_gfr rfl rfl rfl rfl rfl (hHT1.r 904 68 951 rfl) ?_
        refine l_aload_n rfl rfl ?_
        refine l_gfi rfl rfl rfl rfl rfl ?_
        refine l_aload_n rfl rfl ?_
        refine l_gfi rfl rfl rfl rfl rfl ?_
        refine l_aload_n rfl rfl ?_
        refine l_gfr rfl rfl rfl rfl rfl (hHT1.r 904 67 950 rfl) ?_
        refine l_aload_n rfl rfl ?_
        refine l_gfi rfl rfl rfl rfl rfl ?_
        refine l_iaload (n := 2600) rfl rfl (by omega) (by omega) (by unfold rg; omega) ?_
        have w18 : 0 ≤ (Xi T1 950 (((Xi T1 904 69)).toNat)) ∧ (Xi T1 950 (((Xi T1 904 69)).toNat)) ≤ 5010 := hHT1.c _ _
        have e73 : (Xi T1 950 (((Xi T1 904 69)).toNat)) = Xi T1 950 (Xi S 904 69).toNat := congrArg (fun t : Int => Xi T1 950 t.toNat) (by omega)
        refine l_isub rfl ?_
        refine l_iastore (n := 2600) rfl rfl (by omega) (by omega) (by unfold rg; omega) ?_
        obtain ⟨U2, eU2⟩ : ∃ T : sS, T = uI T1 951 (((Xi T1 904 69)).toNat) (Int32.ofInt ((Xi T1 904 8) - (Xi T1 950 (((Xi T1 904 69)).toNat)))) := ⟨_, rfl⟩
        rw [← eU2]
        have hHU2 : HI U2 := by rw [eU2]; exact HI_w hHT1 (show 0 ≤ ((Xi T1 904 8) - (Xi T1 950 (((Xi T1 904 69)).toNat))) by omega) (show ((Xi T1 904 8) - (Xi T1 950 (((Xi T1 904 69)).toNat))) ≤ 5010 by omega)
        have hFU2 : FR md_mo_run__2 S U2 := by rw [eU2]; exact FR.wI hFT1 (mdf_i (r := (951, 952, 0, 100000)) (List.mem_of_getElem? (i := 5) rfl) (inR_i (by omega) (by omega) (by omega) (by omega)))
        have w19 : Xi U2 951 (((Xi T1 904 69)).toNat) = ((Xi T1 904 8) - (Xi T1 950 (((Xi T1 904 69)).toNat))) := by rw [eU2]; exact Xi_same (by unfold rg; omega)
        refine l_aload_n rfl rfl ?_
        refine l_dup rfl rfl ?_
        refine l_gfi rfl rfl rfl rfl rfl ?_
        have w20 : (Xi U2 904 69) = (Xi T1 904 69) := (show Xi U2 904 69 = Xi T1 904 69 from by rw [eU2]; exact Xi_ne (by omega))
        rw [w20]
        refine l_iconst rfl ?_
        refine l_iadd rfl ?_
        refine l_pfi rfl rfl rfl rfl ?_
        obtain ⟨U3, eU3⟩ : ∃ T : sS, T = uI U2 904 69 (Int32.ofInt ((Xi T1 904 69) + 1)) := ⟨_, rfl⟩
        rw [← eU3]
        have hHU3 : HI U3 := by rw [eU3]; exact HI_w hHU2 (show 0 ≤ ((Xi T1 904 69) + 1) by omega) (show ((Xi T1 904 69) + 1) ≤ 2600 by omega)
        have hFU3 : FR md_mo_run__2 S U3 := by rw [eU3]; exact FR.wI hFU2 (mdf_i (r := (904, 905, 69, 70)) (List.mem_of_getElem? (i := 3) rfl) (inR_i (by omega) (by omega) (by omega) (by omega)))
        have w21 : Xi U3 904 69 = ((Xi T1 904 69) + 1) := by rw [eU3]; exact Xi_same (by unfold rg; omega)
        have v83 : RNV U3 n := rnv_add hv hk27 hl27 rfl eU2 (by omega) eU3 (by omega) (by omega) (by omega) (by omega) (by omega) hn5
        have x83 : Xi U3 904 8 = Xi T1 904 8 := by rw [eU3, Xi_ne (by omega), eU2, Xi_ne (by omega)]
        have t83 : AT U3 n c := at_run (B := T1) x83 (by omega) (by omega) (fun j => (hFU3.cx 907 rfl j).1) (fun j => (hFU3.cx 908 rfl j).1) (by omega) (hFU3.x 904 93 rfl) hp27
        refine l_aload_n rfl rfl ?_
        refine l_gfi rfl rfl rfl rfl rfl ?_
        refine l_iconst rfl ?_
        refine l_isub rfl ?_
        refine l_ireturn rfl rfl ?_
        have w22 : Xi U3 904 65 = Xi T1 904 65 := (show Xi U3 904 65 = Xi U2 904 65 from by rw [eU3]; exact Xi_ne (by omega)).trans ((show Xi U2 904 65 = Xi T1 904 65 from by rw [eU2]; exact Xi_ne (by omega)))
        have w24 : 0 ≤ Xi U3 904 69 ∧ Xi U3 904 69 ≤ 2600 := hHU3.c _ _
        have w25 : Xi U3 904 8 = Xi T1 904 8 := (show Xi U3 904 8 = Xi U2 904 8 from by rw [eU3]; exact Xi_ne (by omega)).trans ((show Xi U2 904 8 = Xi T1 904 8 from by rw [eU2]; exact Xi_ne (by omega)))
        have w27 : Xi U3 904 93 = Xi T1 904 93 := (show Xi U3 904 93 = Xi U2 904 93 from by rw [eU3]; exact Xi_ne (by omega)).trans ((show Xi U2 904 93 = Xi T1 904 93 from by rw [eU2]; exact Xi_ne (by omega)))
        have w28 : 0 ≤ Xi T1 904 93 ∧ Xi T1 904 93 ≤ 1700 := hHT1.c _ _
        exact ⟨hHU3, hFU3, _, rfl, ⟨by omega, by omega⟩, (by first | exact t83 | exact AT_bad (by omega)), (by omega), (by first | exact v83 | exact RNV_FR (by assumption : FR md_mo_odd U2 U3) rfl hv), (by omega), (by omega), (by first | assumption | exact (BDA_FR (FR_e eU3) rfl (BDA_FR (FR_e eU2) rfl (by assumption : BDA T1))))⟩
      · refine l_aload_n rfl rfl ?_
        refine l_dup rfl rfl ?_
        refine l_gfi rfl rfl rfl rfl rfl ?_
        refine l_iconst rfl ?_
        refine l_iadd rfl ?_
        refine l_pfi rfl rfl rfl rfl ?_
        obtain ⟨U4, eU4⟩ : ∃ T : sS, T = uI T1 904 8 (Int32.ofInt ((Xi T1 904 8) + 1)) := ⟨_, rfl⟩
        rw [← eU4]
        have hHU4 : HI U4 := by rw [eU4]; exact HI_w hHT1 (show 0 ≤ ((Xi T1 904 8) + 1) by omega) (show ((Xi T1 904 8) + 1) ≤ 5010 by omega)
        have hFU4 : FR md_mo_run__2 S U4 := by rw [eU4]; exact FR.wI hFT1 (mdf_i (r := (904, 905, 8, 9)) (List.mem_of_getElem? (i := 0) rfl) (inR_i (by omega) (by omega) (by omega) (by omega)))
        have w29 : Xi U4 904 8 = ((Xi T1 904 8) + 1) := by rw [eU4]; exact Xi_same (by unfold rg; omega)
        have k47 : ∀ r : Nat, (r : Int) < Xi S 904 69 → Xi U4 950 r = Xi S 950 r := fun r hr => by rw [eU4, Xi_ne (by omega)]; exact hk27 r hr
        have l47 : ∀ r, Xi U4 951 r = Xi S 951 r := fun r => by rw [eU4, Xi_ne (by omega)]; exact hl27 r
        have u47 : Xi T1 904 8 < n := tk_lt (TK_FR hFT1 rfl hT) (by omega) (by omega) (by omega)
        have p47 : 3 * (Xi S 904 93 + c) ≤ Xi S 908 (Xi U4 904 8).toNat := by rw [show Xi U4 904 8 = Xi T1 904 8 + 1 by omega]; exact pl_up hT (by omega) u47 hp27
        have f47 : Xi U4 950 (Xi S 904 69).toNat = Xi T1 950 (Xi S 904 69).toNat := by rw [eU4, Xi_ne (by omega)]
        refine l_goto rfl rfl ?_
        have w30 : Xi U4 904 65 = Xi T1 904 65 := (show Xi U4 904 65 = Xi T1 904 65 from by rw [eU4]; exact Xi_ne (by omega))
        have w32 : Xi U4 904 69 = Xi T1 904 69 := (show Xi U4 904 69 = Xi T1 904 69 from by rw [eU4]; exact Xi_ne (by omega))
        have w34 : 0 ≤ Xi U4 904 8 ∧ Xi U4 904 8 ≤ 5010 := hHU4.c _ _
        have w35 : Xi U4 904 93 = Xi T1 904 93 := (show Xi U4 904 93 = Xi T1 904 93 from by rw [eU4]; exact Xi_ne (by omega))
        have w36 : 0 ≤ Xi T1 904 93 ∧ Xi T1 904 93 ≤ 1700 := hHT1.c _ _
        exact Rl_weak (ih27 _ (by omega) U4 hHU4 hFU4  (by omega) (by omega) (by omega) (by omega) (by omega) (by omega) (by first | assumption | omega) (by first | exact p47 | (rw [show Xi U4 904 8 = Xi S 904 8 by omega]; exact ha5 (by omega))) (by first | exact k47 | exact k26) (by first | exact l47 | exact l26) (by first | assumption | exact (BDA_FR (FR_e eU4) rfl (by assumption : BDA T1))) rfl) (And.intro rfl (True.intro))
  refine l_aload_n rfl rfl ?_
  refine l_iconst rfl ?_
  refine l_callV rfl rfl rfl (t_mo_isNext hH n c 3 ⟨by omega, by omega⟩ (by first | assumption | exact (TK_FR hF rfl (by assumption : TK S _))) (by first | assumption | exact (by assumption : AT S _ _)) _) ?_
  rintro _ _ ⟨rfl, z43, rfl, w43, w41, w42⟩
  show Rl _ _ _ _ _ [iv z43] _ _
  refine l_if_ne rfl rfl (by unfold rg; omega) (fun w44 => ?_) (fun w45 => ?_)
  · refine l_aload_n rfl rfl ?_
    refine l_gfr rfl rfl rfl rfl rfl (hH.r 904 67 950 rfl) ?_
    refine l_aload_n rfl rfl ?_
    refine l_gfi rfl rfl rfl rfl rfl ?_
    refine l_aload_n rfl rfl ?_
    refine l_gfi rfl rfl rfl rfl rfl ?_
    refine l_iastore (n := 2600) rfl rfl (by omega) (by omega) (by unfold rg; omega) ?_
    obtain ⟨U5, eU5⟩ : ∃ T : sS, T = uI S 950 (((Xi S 904 69)).toNat) (Int32.ofInt (Xi S 904 8)) := ⟨_, rfl⟩
    rw [← eU5]
    have hHU5 : HI U5 := by rw [eU5]; exact HI_w hH (show 0 ≤ (Xi S 904 8) by omega) (show (Xi S 904 8) ≤ 5010 by omega)
    have hFU5 : FR md_mo_run__2 S U5 := by rw [eU5]; exact FR.wI hF (mdf_i (r := (950, 951, 0, 100000)) (List.mem_of_getElem? (i := 4) rfl) (inR_i (by omega) (by omega) (by omega) (by omega)))
    have w46 : Xi U5 950 (((Xi S 904 69)).toNat) = (Xi S 904 8) := by rw [eU5]; exact Xi_same (by unfold rg; omega)
    have k26 : ∀ r : Nat, (r : Int) < Xi S 904 69 → Xi U5 950 r = Xi S 950 r := fun r hr => by rw [eU5, Xi_ne (by omega)]
    have l26 : ∀ r, Xi U5 951 r = Xi S 951 r := fun r => by rw [eU5, Xi_ne (by omega)]
    have w47 : Xi U5 904 65 = Xi S 904 65 := (show Xi U5 904 65 = Xi S 904 65 from by rw [eU5]; exact Xi_ne (by omega))
    have w49 : Xi U5 904 69 = Xi S 904 69 := (show Xi U5 904 69 = Xi S 904 69 from by rw [eU5]; exact Xi_ne (by omega))
    have w51 : Xi U5 904 8 = Xi S 904 8 := (show Xi U5 904 8 = Xi S 904 8 from by rw [eU5]; exact Xi_ne (by omega))
    have w53 : Xi U5 904 93 = Xi S 904 93 := (show Xi U5 904 93 = Xi S 904 93 from by rw [eU5]; exact Xi_ne (by omega))
    exact Rl_weak (C27 _ U5 hHU5 hFU5  (by omega) (by omega) (by omega) (by omega) (by omega) (by omega) (by first | assumption | omega) (by first | exact p47 | (rw [show Xi U5 904 8 = Xi S 904 8 by omega]; exact ha5 (by omega))) (by first | exact k47 | exact k26) (by first | exact l47 | exact l26) (by first | assumption | exact (BDA_FR (FR_e eU5) rfl (by assumption : BDA S))) rfl) (And.intro rfl (True.intro))
  · refine l_aload_n rfl rfl ?_
    refine l_callV rfl rfl rfl (t_mo_odd__2 hH (by first | assumption | exact (by assumption : BDA S)) (by first | omega | exact fun q => (by have t := ((by assumption : AT S _ _) q).1; have u := hT.1; omega)) _) ?_
    rintro _ T6 ⟨hHT6, w63, rfl, w59, w60, w61⟩
    have hFT6 : FR md_mo_run__2 S T6 := FR.tr hF w63 rfl
    show Rl _ _ _ _ _ [] _ _
    refine l_iconst rfl ?_
    refine l_ireturn rfl rfl ?_
    have w64 : 0 ≤ Xi T6 904 65 ∧ Xi T6 904 65 ≤ 1 := hHT6.c _ _
    have w65 : Xi T6 904 69 = Xi S 904 69 := (show Xi T6 904 69 = Xi S 904 69 from w63.x _ _ rfl)
    have w67 : Xi T6 904 8 = Xi S 904 8 := (show Xi T6 904 8 = Xi S 904 8 from w63.x _ _ rfl)
    have w69 : Xi T6 904 93 = Xi S 904 93 := (show Xi T6 904 93 = Xi S 904 93 from w63.x _ _ rfl)
    exact ⟨hHT6, hFT6, _, rfl, ⟨by omega, by omega⟩, (by first | exact t83 | exact AT_bad (by omega)), (by omega), (by first | exact v83 | exact RNV_FR (by assumption : FR md_mo_odd S T6) rfl hv), (by omega), (by omega), (by first | assumption | exact (by assumption : BDA T6))⟩
def md_mo_name__2 : List rec := [(904, 905, 8, 9), (904, 905, 65, 66), (904, 905, 66, 67), (904, 905, 69, 70), (950, 951, 0, 100000), (951, 952, 0, 100000)]
abbrev Q_mo_name__2 (S : sS) (n : Nat) (c : Nat) : pst := fun r S1 => HI S1 ∧ FR md_mo_name__2 S S1 ∧ (∃ z : Int, r = some (iv z) ∧ (0 ≤ z ∧ z ≤ 2599) ∧ (AT S1 n c) ∧ (Xi S 904 8 ≤ Xi S1 904 8 ∧ (Xi S1 904 8 ≤ n ∨ Xi S1 904 8 = Xi S 904 8)) ∧ (RNV S1 n) ∧ (Xi S1 904 65 = 0 → z = Xi S 904 69 ∧ Xi S1 904 69 = Xi S 904 69 + 1 ∧ Xi S 904 65 = 0) ∧ (Xi S 904 69 ≤ Xi S1 904 69) ∧ (BDA S1))
set_option maxRecDepth 100000 in
theorem t_mo_name__2 {S : sS} (hH : HI S) (n : Nat) (c : Nat) (hT : TK S n) (hA : AT S n c) (hv : RNV S n) (hBDA : BDA S) (d : Nat) : Mt lay0 (d + 3) m_mo_name [.ref 904] S (Q_mo_name__2 S n c) := by
  refine Mt_R rfl rfl ?_
  have hF : FR md_mo_name__2 S S := FR.rf
  have w1 : 0 ≤ Xi S 904 65 ∧ Xi S 904 65 ≤ 1 := hH.c _ _
  have w2 : 0 ≤ Xi S 904 69 ∧ Xi S 904 69 ≤ 2600 := hH.c _ _
  have w3 : 0 ≤ Xi S 904 8 ∧ Xi S 904 8 ≤ 5010 := hH.c _ _
  have hn5 := hT.1
  have hat := hA
  have h8 : 0 ≤ Xi S 904 8 ∧ Xi S 904 8 ≤ 5010 := hH.c _ _
  have h69 : 0 ≤ Xi S 904 69 ∧ Xi S 904 69 ≤ 2600 := hH.c _ _
  have ha0 : Xi S 904 65 = 0 → Xi S 904 8 ≤ n := fun q => (hA q).1
  have ha3 : Xi S 904 65 = 0 → 2 * Xi S 904 69 ≤ Xi S 904 8 + 1 := fun q => (hA q).2.1
  clear hat
  refine l_aload_n rfl rfl ?_
  refine l_callV rfl rfl rfl (t_mo_look hH n c (by first | assumption | exact (TK_FR hF rfl (by assumption : TK S _))) (by first | assumption | exact (by assumption : AT S _ _)) _) ?_
  rintro _ _ ⟨rfl, z8, rfl, w8, w7⟩
  show Rl _ _ _ _ _ [iv z8] _ _
  refine l_callS rfl rfl (by decide) rfl (t_mo_isArt hH z8 ⟨by omega, by omega⟩ _) ?_
  rintro _ _ ⟨rfl, z13, rfl, w13, w12⟩
  show Rl _ _ _ _ _ [iv z13] _ _
  refine l_if_eq rfl rfl (by unfold rg; omega) (fun w14 => ?_) (fun w15 => ?_)
  · refine l_aload_n rfl rfl ?_
    refine l_callV rfl rfl rfl (t_mo_run__2 hH n c (by first | assumption | exact (TK_FR hF rfl (by assumption : TK S _))) (by first | assumption | exact (by assumption : AT S _ _)) (by first | assumption | exact (by assumption : RNV S _)) (by first | assumption | exact (by assumption : BDA S)) _) ?_
    rintro _ T1 ⟨hHT1, w26, z25, rfl, w25, w19, w20, w21, w22, w23, w24⟩
    have hFT1 : FR md_mo_name__2 S T1 := FR.tr hF w26 rfl
    show Rl _ _ _ _ _ [iv z25] _ _
    refine l_ireturn rfl rfl ?_
    have w27 : 0 ≤ Xi T1 904 65 ∧ Xi T1 904 65 ≤ 1 := hHT1.c _ _
    have w28 : 0 ≤ Xi T1 904 69 ∧ Xi T1 904 69 ≤ 2600 := hHT1.c _ _
    have w29 : 0 ≤ Xi T1 904 8 ∧ Xi T1 904 8 ≤ 5010 := hHT1.c _ _
    exact ⟨hHT1, hFT1, _, rfl, ⟨by omega, by omega⟩, (by assumption), (by omega), (by assumption), (by omega), (by omega), (by first | assumption | exact (by assumption : BDA T1))⟩
  · refine l_aload_n rfl rfl ?_
    refine l_dup rfl rfl ?_
    refine l_gfi rfl rfl rfl rfl rfl ?_
    refine l_iconst rfl ?_
    refine l_iadd rfl ?_
    refine l_pfi rfl rfl rfl rfl ?_
    obtain ⟨U2, eU2⟩ : ∃ T : sS, T = uI S 904 8 (Int32.ofInt ((Xi S 904 8) + 1)) := ⟨_, rfl⟩
    rw [← eU2]
    have hHU2 : HI U2 := by rw [eU2]; exact HI_w hH (show 0 ≤ ((Xi S 904 8) + 1) by omega) (show ((Xi S 904 8) + 1) ≤ 5010 by omega)
    have hFU2 : FR md_mo_name__2 S U2 := by rw [eU2]; exact FR.wI hF (mdf_i (r := (904, 905, 8, 9)) (List.mem_of_getElem? (i := 0) rfl) (inR_i (by omega) (by omega) (by omega) (by omega)))
    have w30 : Xi U2 904 8 = ((Xi S 904 8) + 1) := by rw [eU2]; exact Xi_same (by unfold rg; omega)
    have t17 : AT U2 n c := at_up hT hA eU2 (by omega) (by omega) (by omega) (by omega) (Or.inl rfl)
    have l17 : Xi U2 904 8 ≤ n := by have q := tk_lt hT (by omega) (ha0 (by omega)) (by omega); omega
    refine l_aload_n rfl rfl ?_
    have w31 : Xi U2 904 65 = Xi S 904 65 := (show Xi U2 904 65 = Xi S 904 65 from by rw [eU2]; exact Xi_ne (by omega))
    have w33 : Xi U2 904 69 = Xi S 904 69 := (show Xi U2 904 69 = Xi S 904 69 from by rw [eU2]; exact Xi_ne (by omega))
    have w35 : 0 ≤ Xi U2 904 8 ∧ Xi U2 904 8 ≤ 5010 := hHU2.c _ _
    refine l_callV rfl rfl rfl (t_mo_run__2 hHU2 n c (by first | assumption | exact (TK_FR hFU2 rfl (by assumption : TK S _))) (by first | assumption | exact (by assumption : AT U2 _ _)) (by first | assumption | exact (RNV_FR (FR_e eU2) rfl (by assumption : RNV S _))) (by first | assumption | exact (BDA_FR (FR_e eU2) rfl (by assumption : BDA S))) _) ?_
    rintro _ T3 ⟨hHT3, w43, z42, rfl, w42, w36, w37, w38, w39, w40, w41⟩
    have hFT3 : FR md_mo_name__2 S T3 := FR.tr hFU2 w43 rfl
    show Rl _ _ _ _ _ [iv z42] _ _
    refine l_ireturn rfl rfl ?_
    have w44 : 0 ≤ Xi T3 904 65 ∧ Xi T3 904 65 ≤ 1 := hHT3.c _ _
    have w45 : 0 ≤ Xi T3 904 69 ∧ Xi T3 904 69 ≤ 2600 := hHT3.c _ _
    have w46 : 0 ≤ Xi T3 904 8 ∧ Xi T3 904 8 ≤ 5010 := hHT3.c _ _
    exact ⟨hHT3, hFT3, _, rfl, ⟨by omega, by omega⟩, (by assumption), (by omega), (by assumption), (by omega), (by omega), (by first | assumption | exact (by assumption : BDA T3))⟩
def md_mo_list__3 : List rec := [(904, 905, 8, 9), (904, 905, 65, 66), (904, 905, 66, 67), (904, 905, 69, 70), (904, 905, 71, 72), (904, 905, 72, 73), (950, 951, 0, 100000), (951, 952, 0, 100000)]
abbrev Q_mo_list__3 (S : sS) (n : Nat) (c : Nat) (art : Int) : pst := fun r S1 => HI S1 ∧ FR md_mo_list__3 S S1 ∧ (r = none ∧ (AT S1 n c) ∧ (Xi S 904 8 ≤ Xi S1 904 8 ∧ (Xi S1 904 8 ≤ n ∨ Xi S1 904 8 = Xi S 904 8)) ∧ (RNV S1 n) ∧ (Xi S1 904 71 = Xi S 904 69 ∧ Xi S1 904 72 = Xi S1 904 69 - Xi S 904 69) ∧ (Xi S1 904 65 = 0 → Xi S 904 65 = 0) ∧ (Xi S 904 69 ≤ Xi S1 904 69) ∧ (Xi S1 904 65 = 0 → Xi S 904 69 < Xi S1 904 69) ∧ (BDA S1))
set_option maxRecDepth 100000 in
theorem t_mo_list__3 {S : sS} (hH : HI S) (n : Nat) (c : Nat) (art : Int) (hart : 0 ≤ art ∧ art ≤ 1) (hT : TK S n) (hA : AT S n c) (hv : RNV S n) (hBDA : BDA S) (d : Nat) : Mt lay0 (d + 4) m_mo_list [.ref 904, iv art] S (Q_mo_list__3 S n c art) := by
  refine Mt_R rfl rfl ?_
  have hF : FR md_mo_list__3 S S := FR.rf
  have w1 : 0 ≤ Xi S 904 65 ∧ Xi S 904 65 ≤ 1 := hH.c _ _
  have w2 : 0 ≤ Xi S 904 69 ∧ Xi S 904 69 ≤ 2600 := hH.c _ _
  have w3 : 0 ≤ Xi S 904 71 ∧ Xi S 904 71 ≤ 2600 := hH.c _ _
  have w4 : 0 ≤ Xi S 904 8 ∧ Xi S 904 8 ≤ 5010 := hH.c _ _
  have hn5 := hT.1
  have hat := hA
  have h8 : 0 ≤ Xi S 904 8 ∧ Xi S 904 8 ≤ 5010 := hH.c _ _
  have h69 : 0 ≤ Xi S 904 69 ∧ Xi S 904 69 ≤ 2600 := hH.c _ _
  have ha0 : Xi S 904 65 = 0 → Xi S 904 8 ≤ n := fun q => (hA q).1
  have ha3 : Xi S 904 65 = 0 → 2 * Xi S 904 69 ≤ Xi S 904 8 + 1 := fun q => (hA q).2.1
  clear hat
  have C10 : ∀ (n10 : Nat) (T1 : sS) (_ : HI T1) (_ : FR md_mo_list__3 S T1) (v2 : Int), (0 ≤ v2 ∧ v2 ≤ 1) → (TK T1 n) → (AT T1 n c) → (RNV T1 n) → (Xi T1 904 71 = Xi S 904 69) → (Xi S 904 69 ≤ Xi T1 904 69) → (Xi S 904 8 ≤ Xi T1 904 8) → (Xi T1 904 8 ≤ n ∨ Xi T1 904 8 = Xi S 904 8) → (Xi T1 904 65 = 0 → Xi S 904 65 = 0) → (v2 = 0 → Xi T1 904 65 = 0 → Xi S 904 69 < Xi T1 904 69) → (BDA T1) → n10 = (2 * (5012 - Xi T1 904 8) + v2).toNat → Rl lay0 (d + 3) m_mo_list 10 [(0, .ref 904), (1, iv art), (2, iv v2)] [] T1 (Q_mo_list__3 S n c art) := by
    intro n10
    induction n10 using Nat.strongRecOn with
    | ind n10 ih10 =>
      intro T1 hHT1 hFT1 v2 w5 T10 A10 V10 w6 w7 w8 m10 w9 w10 BDA_10 hm10
      have w11 : 0 ≤ Xi T1 904 65 ∧ Xi T1 904 65 ≤ 1 := hHT1.c _ _
      have w12 : 0 ≤ Xi T1 904 69 ∧ Xi T1 904 69 ≤ 2600 := hHT1.c _ _
      have w13 : 0 ≤ Xi T1 904 71 ∧ Xi T1 904 71 ≤ 2600 := hHT1.c _ _
      have w14 : 0 ≤ Xi T1 904 8 ∧ Xi T1 904 8 ≤ 5010 := hHT1.c _ _
      refine l_iload_n rfl rfl ?_
      refine l_if_eq rfl rfl (by unfold rg; omega) (fun w15 => ?_) (fun w16 => ?_)
      · refine l_aload_n rfl rfl ?_
        refine l_aload_n rfl rfl ?_
        refine l_gfi rfl rfl rfl rfl rfl ?_
        refine l_aload_n rfl rfl ?_
        refine l_gfi rfl rfl rfl rfl rfl ?_
        refine l_isub rfl ?_
        refine l_pfi rfl rfl rfl rfl ?_
        obtain ⟨U2, eU2⟩ : ∃ T : sS, T = uI T1 904 72 (Int32.ofInt ((Xi T1 904 69) - (Xi T1 904 71))) := ⟨_, rfl⟩
        rw [← eU2]
        have hHU2 : HI U2 := by rw [eU2]; exact HI_w hHT1 (show 0 ≤ ((Xi T1 904 69) - (Xi T1 904 71)) by omega) (show ((Xi T1 904 69) - (Xi T1 904 71)) ≤ 2600 by omega)
        have hFU2 : FR md_mo_list__3 S U2 := by rw [eU2]; exact FR.wI hFT1 (mdf_i (r := (904, 905, 72, 73)) (List.mem_of_getElem? (i := 5) rfl) (inR_i (by omega) (by omega) (by omega) (by omega)))
        have w17 : Xi U2 904 72 = ((Xi T1 904 69) - (Xi T1 904 71)) := by rw [eU2]; exact Xi_same (by unfold rg; omega)
        have s56 : Xi U2 904 8 = Xi T1 904 8 ∧ Xi U2 904 69 = Xi T1 904 69 ∧ Xi U2 904 71 = Xi T1 904 71 := ⟨by rw [eU2, Xi_ne (by omega)], by rw [eU2, Xi_ne (by omega)], by rw [eU2, Xi_ne (by omega)]⟩
        have A56 : AT U2 n c := AT_FR (FR_e eU2) rfl A10
        have V56 : RNV U2 n := RNV_FR (FR_e eU2) rfl V10
        refine l_return rfl rfl ?_
        have w18 : Xi U2 904 65 = Xi T1 904 65 := (show Xi U2 904 65 = Xi T1 904 65 from by rw [eU2]; exact Xi_ne (by omega))
        have w20 : Xi U2 904 69 = Xi T1 904 69 := (show Xi U2 904 69 = Xi T1 904 69 from by rw [eU2]; exact Xi_ne (by omega))
        have w22 : Xi U2 904 71 = Xi T1 904 71 := (show Xi U2 904 71 = Xi T1 904 71 from by rw [eU2]; exact Xi_ne (by omega))
        have w24 : 0 ≤ Xi U2 904 72 ∧ Xi U2 904 72 ≤ 2600 := hHU2.c _ _
        have w25 : Xi U2 904 8 = Xi T1 904 8 := (show Xi U2 904 8 = Xi T1 904 8 from by rw [eU2]; exact Xi_ne (by omega))
        exact ⟨hHU2, hFU2, rfl, (A56), (by omega), (V56), (by omega), (by omega), (by omega), (by omega), (by first | assumption | exact (BDA_FR (FR_e eU2) rfl (by assumption : BDA T1)))⟩
      · refine l_aload_n rfl rfl ?_
        refine l_gfi rfl rfl rfl rfl rfl ?_
        refine l_if_ne rfl rfl (by unfold rg; omega) (fun w27 => ?_) (fun w28 => ?_)
        · refine l_aload_n rfl rfl ?_
          refine l_aload_n rfl rfl ?_
          refine l_gfi rfl rfl rfl rfl rfl ?_
          refine l_aload_n rfl rfl ?_
          refine l_gfi rfl rfl rfl rfl rfl ?_
          refine l_isub rfl ?_
          refine l_pfi rfl rfl rfl rfl ?_
          obtain ⟨U3, eU3⟩ : ∃ T : sS, T = uI T1 904 72 (Int32.ofInt ((Xi T1 904 69) - (Xi T1 904 71))) := ⟨_, rfl⟩
          rw [← eU3]
          have hHU3 : HI U3 := by rw [eU3]; exact HI_w hHT1 (show 0 ≤ ((Xi T1 904 69) - (Xi T1 904 71)) by omega) (show ((Xi T1 904 69) - (Xi T1 904 71)) ≤ 2600 by omega)
          have hFU3 : FR md_mo_list__3 S U3 := by rw [eU3]; exact FR.wI hFT1 (mdf_i (r := (904, 905, 72, 73)) (List.mem_of_getElem? (i := 5) rfl) (inR_i (by omega) (by omega) (by omega) (by omega)))
          have w29 : Xi U3 904 72 = ((Xi T1 904 69) - (Xi T1 904 71)) := by rw [eU3]; exact Xi_same (by unfold rg; omega)
          have s56 : Xi U3 904 8 = Xi T1 904 8 ∧ Xi U3 904 69 = Xi T1 904 69 ∧ Xi U3 904 71 = Xi T1 904 71 := ⟨by rw [eU3, Xi_ne (by omega)], by rw [eU3, Xi_ne (by omega)], by rw [eU3, Xi_ne (by omega)]⟩
          have A56 : AT U3 n c := AT_FR (FR_e eU3) rfl A10
          have V56 : RNV U3 n := RNV_FR (FR_e eU3) rfl V10
          refine l_return rfl rfl ?_
          have w30 : Xi U3 904 65 = Xi T1 904 65 := (show Xi U3 904 65 = Xi T1 904 65 from by rw [eU3]; exact Xi_ne (by omega))
          have w32 : Xi U3 904 69 = Xi T1 904 69 := (show Xi U3 904 69 = Xi T1 904 69 from by rw [eU3]; exact Xi_ne (by omega))
          have w34 : Xi U3 904 71 = Xi T1 904 71 := (show Xi U3 904 71 = Xi T1 904 71 from by rw [eU3]; exact Xi_ne (by omega))
          have w36 : 0 ≤ Xi U3 904 72 ∧ Xi U3 904 72 ≤ 2600 := hHU3.c _ _
          have w37 : Xi U3 904 8 = Xi T1 904 8 := (show Xi U3 904 8 = Xi T1 904 8 from by rw [eU3]; exact Xi_ne (by omega))
          exact ⟨hHU3, hFU3, rfl, (A56), (by omega), (V56), (by omega), (by omega), (by omega), (by omega), (by first | assumption | exact (BDA_FR (FR_e eU3) rfl (by assumption : BDA T1)))⟩
        · refine l_iload_n rfl rfl ?_
          refine l_if_eq rfl rfl (by unfold rg; omega) (fun w39 => ?_) (fun w40 => ?_)
          · refine l_aload_n rfl rfl ?_
            refine l_callV rfl rfl rfl (t_mo_run__2 hHT1 n c (by first | assumption | exact (TK_FR hFT1 rfl (by assumption : TK S _))) (by first | assumption | exact (by assumption : AT T1 _ _)) (by first | assumption | exact (by assumption : RNV T1 _)) (by first | assumption | exact (by assumption : BDA T1)) _) ?_
            rintro _ T4 ⟨hHT4, w52, z51, rfl, w51, w45, w46, w47, w48, w49, w50⟩
            have hFT4 : FR md_mo_list__3 S T4 := FR.tr hFT1 w52 rfl
            show Rl _ _ _ _ _ [iv z51] _ _
            have T34 : TK T4 n := TK_FR (by assumption : FR md_mo_run T1 T4) rfl T10
            refine l_pop rfl rfl ?_
            refine l_aload_n rfl rfl ?_
            have w53 : 0 ≤ Xi T4 904 65 ∧ Xi T4 904 65 ≤ 1 := hHT4.c _ _
            have w54 : 0 ≤ Xi T4 904 69 ∧ Xi T4 904 69 ≤ 2600 := hHT4.c _ _
            have w57 : 0 ≤ Xi T4 904 8 ∧ Xi T4 904 8 ≤ 5010 := hHT4.c _ _
            refine l_callV rfl rfl rfl (t_mo_isMore hHT4 n c (by first | assumption | exact (TK_FR hFT4 rfl (by assumption : TK S _))) (by first | assumption | exact (by assumption : AT T4 _ _)) _) ?_
            rintro _ T5 ⟨hHT5, w63, z62, rfl, w62, w58, w59, w60, w61⟩
            have hFT5 : FR md_mo_list__3 S T5 := FR.tr hFT4 w63 rfl
            show Rl _ _ _ _ _ [iv z62] _ _
            have V39 : RNV T5 n := RNV_FR (by assumption : FR md_mo_isMore T4 T5) rfl (by assumption)
            have r39 : Xi T5 904 69 = Xi T4 904 69 := (by assumption : FR md_mo_isMore T4 T5).x 904 69 rfl
            have T39 : TK T5 n := TK_FR (by assumption : FR md_mo_isMore T4 T5) rfl (by first | exact T26 | exact T34)
            refine l_istore_n rfl rfl rfl ?_
            refine l_goto rfl rfl ?_
            have w64 : Xi T5 904 65 = Xi T4 904 65 := (show Xi T5 904 65 = Xi T4 904 65 from w63.x _ _ rfl)
            have w66 : Xi T5 904 69 = Xi T4 904 69 := (show Xi T5 904 69 = Xi T4 904 69 from w63.x _ _ rfl)
            have w68 : Xi T5 904 71 = Xi T1 904 71 := (show Xi T5 904 71 = Xi T4 904 71 from w63.x _ _ rfl).trans ((show Xi T4 904 71 = Xi T1 904 71 from w52.x _ _ rfl))
            have w70 : 0 ≤ Xi T5 904 8 ∧ Xi T5 904 8 ≤ 5010 := hHT5.c _ _
            exact Rl_weak (ih10 _ (by omega) T5 hHT5 hFT5 (z62) (by omega) (by first | exact T39 | exact T5) (by first | assumption | exact A5) (by first | exact V39 | exact V5) (by omega) (by omega) (by omega) (by omega) (by omega) (by omega) (by first | assumption | exact (BDA_FR w63 rfl (by assumption : BDA T4))) rfl) (And.intro rfl (And.intro rfl (And.intro rfl (True.intro))))
          · refine l_aload_n rfl rfl ?_
            refine l_callV rfl rfl rfl (t_mo_name__2 hHT1 n c (by first | assumption | exact (TK_FR hFT1 rfl (by assumption : TK S _))) (by first | assumption | exact (by assumption : AT T1 _ _)) (by first | assumption | exact (by assumption : RNV T1 _)) (by first | assumption | exact (by assumption : BDA T1)) _) ?_
            rintro _ T6 ⟨hHT6, w82, z81, rfl, w81, w75, w76, w77, w78, w79, w80⟩
            have hFT6 : FR md_mo_list__3 S T6 := FR.tr hFT1 w82 rfl
            show Rl _ _ _ _ _ [iv z81] _ _
            have T26 : TK T6 n := TK_FR (by assumption : FR md_mo_name T1 T6) rfl T10
            refine l_pop rfl rfl ?_
            refine l_goto rfl rfl ?_
            refine l_aload_n rfl rfl ?_
            have w83 : 0 ≤ Xi T6 904 65 ∧ Xi T6 904 65 ≤ 1 := hHT6.c _ _
            have w84 : 0 ≤ Xi T6 904 69 ∧ Xi T6 904 69 ≤ 2600 := hHT6.c _ _
            have w87 : 0 ≤ Xi T6 904 8 ∧ Xi T6 904 8 ≤ 5010 := hHT6.c _ _
            refine l_callV rfl rfl rfl (t_mo_isMore hHT6 n c (by first | assumption | exact (TK_FR hFT6 rfl (by assumption : TK S _))) (by first | assumption | exact (by assumption : AT T6 _ _)) _) ?_
            rintro _ T7 ⟨hHT7, w93, z92, rfl, w92, w88, w89, w90, w91⟩
            have hFT7 : FR md_mo_list__3 S T7 := FR.tr hFT6 w93 rfl
            show Rl _ _ _ _ _ [iv z92] _ _
            have V39 : RNV T7 n := RNV_FR (by assumption : FR md_mo_isMore T6 T7) rfl (by assumption)
            have r39 : Xi T7 904 69 = Xi T6 904 69 := (by assumption : FR md_mo_isMore T6 T7).x 904 69 rfl
            have T39 : TK T7 n := TK_FR (by assumption : FR md_mo_isMore T6 T7) rfl (by first | exact T26 | exact T34)
            refine l_istore_n rfl rfl rfl ?_
            refine l_goto rfl rfl ?_
            have w94 : Xi T7 904 65 = Xi T6 904 65 := (show Xi T7 904 65 = Xi T6 904 65 from w93.x _ _ rfl)
            have w96 : Xi T7 904 69 = Xi T6 904 69 := (show Xi T7 904 69 = Xi T6 904 69 from w93.x _ _ rfl)
            have w98 : Xi T7 904 71 = Xi T1 904 71 := (show Xi T7 904 71 = Xi T6 904 71 from w93.x _ _ rfl).trans ((show Xi T6 904 71 = Xi T1 904 71 from w82.x _ _ rfl))
            have w100 : 0 ≤ Xi T7 904 8 ∧ Xi T7 904 8 ≤ 5010 := hHT7.c _ _
            exact Rl_weak (ih10 _ (by omega) T7 hHT7 hFT7 (z92) (by omega) (by first | exact T39 | exact T5) (by first | assumption | exact A5) (by first | exact V39 | exact V5) (by omega) (by omega) (by omega) (by omega) (by omega) (by omega) (by first | assumption | exact (BDA_FR w93 rfl (by assumption : BDA T6))) rfl) (And.intro rfl (And.intro rfl (And.intro rfl (True.intro))))
  refine l_aload_n rfl rfl ?_
  refine l_aload_n rfl rfl ?_
  refine l_gfi rfl rfl rfl rfl rfl ?_
  refine l_pfi rfl rfl rfl rfl ?_
  obtain ⟨U8, eU8⟩ : ∃ T : sS, T = uI S 904 71 (Int32.ofInt (Xi S 904 69)) := ⟨_, rfl⟩
  rw [← eU8]
  have hHU8 : HI U8 := by rw [eU8]; exact HI_w hH (show 0 ≤ (Xi S 904 69) by omega) (show (Xi S 904 69) ≤ 2600 by omega)
  have hFU8 : FR md_mo_list__3 S U8 := by rw [eU8]; exact FR.wI hF (mdf_i (r := (904, 905, 71, 72)) (List.mem_of_getElem? (i := 4) rfl) (inR_i (by omega) (by omega) (by omega) (by omega)))
  have w101 : Xi U8 904 71 = (Xi S 904 69) := by rw [eU8]; exact Xi_same (by unfold rg; omega)
  have s5 : Xi U8 904 8 = Xi S 904 8 ∧ Xi U8 904 65 = Xi S 904 65 ∧ Xi U8 904 69 = Xi S 904 69 := ⟨by rw [eU8, Xi_ne (by omega)], by rw [eU8, Xi_ne (by omega)], by rw [eU8, Xi_ne (by omega)]⟩
  have T5 : TK U8 n := TK_FR (FR_e eU8) rfl hT
  have A5 : AT U8 n c := AT_FR (FR_e eU8) rfl hA
  have V5 : RNV U8 n := RNV_FR (FR_e eU8) rfl hv
  refine l_iconst rfl ?_
  refine l_istore_n rfl rfl rfl ?_
  have w102 : Xi U8 904 65 = Xi S 904 65 := (show Xi U8 904 65 = Xi S 904 65 from by rw [eU8]; exact Xi_ne (by omega))
  have w104 : Xi U8 904 69 = Xi S 904 69 := (show Xi U8 904 69 = Xi S 904 69 from by rw [eU8]; exact Xi_ne (by omega))
  have w106 : 0 ≤ Xi U8 904 71 ∧ Xi U8 904 71 ≤ 2600 := hHU8.c _ _
  have w107 : Xi U8 904 8 = Xi S 904 8 := (show Xi U8 904 8 = Xi S 904 8 from by rw [eU8]; exact Xi_ne (by omega))
  exact Rl_weak (C10 _ U8 hHU8 hFU8 (1) (by omega) (by first | exact T39 | exact T5) (by first | assumption | exact A5) (by first | exact V39 | exact V5) (by omega) (by omega) (by omega) (by omega) (by omega) (by omega) (by first | assumption | exact (BDA_FR (FR_e eU8) rfl (by assumption : BDA S))) rfl) (And.intro rfl (And.intro rfl (And.intro rfl (True.intro))))
def md_mo_placing__3 : List rec := [(904, 905, 8, 9), (904, 905, 65, 66), (904, 905, 66, 67)]
abbrev Q_mo_placing__3 (S : sS) (n : Nat) (c : Nat) : pst := fun r S1 => HI S1 ∧ FR md_mo_placing__3 S S1 ∧ (∃ z : Int, r = some (iv z) ∧ (0 ≤ z ∧ z ≤ 5) ∧ (AT S1 n c) ∧ (Xi S 904 8 ≤ Xi S1 904 8 ∧ (Xi S1 904 8 ≤ n ∨ Xi S1 904 8 = Xi S 904 8)) ∧ (Xi S1 904 65 = 0 → Xi S 904 65 = 0) ∧ (BDA S1))
set_option maxRecDepth 100000 in
theorem t_mo_placing__3 {S : sS} (hH : HI S) (n : Nat) (c : Nat) (hT : TK S n) (hA : AT S n c) (hBDA : BDA S) (d : Nat) : Mt lay0 (d + 3) m_mo_placing [.ref 904] S (Q_mo_placing__3 S n c) := by
  refine Mt_R rfl rfl ?_
  have hF : FR md_mo_placing__3 S S := FR.rf
  have w1 : 0 ≤ Xi S 904 65 ∧ Xi S 904 65 ≤ 1 := hH.c _ _
  have w2 : 0 ≤ Xi S 904 8 ∧ Xi S 904 8 ≤ 5010 := hH.c _ _
  have hn5 := hT.1
  have hat := hA
  have h8 : 0 ≤ Xi S 904 8 ∧ Xi S 904 8 ≤ 5010 := hH.c _ _
  have h69 : 0 ≤ Xi S 904 69 ∧ Xi S 904 69 ≤ 2600 := hH.c _ _
  have ha0 : Xi S 904 65 = 0 → Xi S 904 8 ≤ n := fun q => (hA q).1
  have ha3 : Xi S 904 65 = 0 → 2 * Xi S 904 69 ≤ Xi S 904 8 + 1 := fun q => (hA q).2.1
  clear hat
  have C60 : ∀  (v2 : Int), (0 ≤ v2 ∧ v2 ≤ 5) → (v2 ≠ 0 → Xi S 904 65 = 0 ∧ Xi S 907 (Xi S 904 8).toNat ≠ 1) → (BDA S) → Rl lay0 (d + 2) m_mo_placing 60 [(0, .ref 904), (2, iv v2)] [] S (Q_mo_placing__3 S n c) := by
    intro v2 w3 w4 BDA_60
    refine l_iload_n rfl rfl ?_
    refine l_if_ne rfl rfl (by unfold rg; omega) (fun w5 => ?_) (fun w6 => ?_)
    · refine l_aload_n rfl rfl ?_
      refine l_dup rfl rfl ?_
      refine l_gfi rfl rfl rfl rfl rfl ?_
      refine l_iconst rfl ?_
      refine l_iadd rfl ?_
      refine l_pfi rfl rfl rfl rfl ?_
      obtain ⟨U1, eU1⟩ : ∃ T : sS, T = uI S 904 8 (Int32.ofInt ((Xi S 904 8) + 1)) := ⟨_, rfl⟩
      rw [← eU1]
      have hHU1 : HI U1 := by rw [eU1]; exact HI_w hH (show 0 ≤ ((Xi S 904 8) + 1) by omega) (show ((Xi S 904 8) + 1) ≤ 5010 by omega)
      have hFU1 : FR md_mo_placing__3 S U1 := by rw [eU1]; exact FR.wI hF (mdf_i (r := (904, 905, 8, 9)) (List.mem_of_getElem? (i := 0) rfl) (inR_i (by omega) (by omega) (by omega) (by omega)))
      have w7 : Xi U1 904 8 = ((Xi S 904 8) + 1) := by rw [eU1]; exact Xi_same (by unfold rg; omega)
      have t77 : AT U1 n c := at_up hT hA eU1 (by omega) (by omega) (by omega) (by omega) (Or.inl rfl)
      have l77 : Xi U1 904 8 ≤ n := by have q := tk_lt hT (by omega) (ha0 (by omega)) (by omega); omega
      have T77 : TK U1 n := TK_FR (FR_e eU1) rfl hT
      refine l_iload_n rfl rfl ?_
      refine l_iconst rfl ?_
      refine l_icmp_le rfl rfl (by unfold rg; omega) (by unfold rg; omega) (fun w8 => ?_) (fun w9 => ?_)
      · refine l_iload_n rfl rfl ?_
        refine l_ireturn rfl rfl ?_
        have w10 : Xi U1 904 65 = Xi S 904 65 := (show Xi U1 904 65 = Xi S 904 65 from by rw [eU1]; exact Xi_ne (by omega))
        have w12 : 0 ≤ Xi U1 904 8 ∧ Xi U1 904 8 ≤ 5010 := hHU1.c _ _
        exact ⟨hHU1, hFU1, _, rfl, ⟨by omega, by omega⟩, (by first | assumption | exact t77 | exact AT_bad (by omega)), (by omega), (by omega), (by first | assumption | exact (BDA_FR (FR_e eU1) rfl (by assumption : BDA S)))⟩
      · refine l_aload_n rfl rfl ?_
        refine l_iload_n rfl rfl ?_
        refine l_iconst rfl ?_
        refine l_icmp_ne rfl rfl (by unfold rg; omega) (by unfold rg; omega) (fun w13 => ?_) (fun w14 => ?_)
        · refine l_bipush rfl rfl ?_
          have w15 : Xi U1 904 65 = Xi S 904 65 := (show Xi U1 904 65 = Xi S 904 65 from by rw [eU1]; exact Xi_ne (by omega))
          have w17 : 0 ≤ Xi U1 904 8 ∧ Xi U1 904 8 ≤ 5010 := hHU1.c _ _
          refine l_callV rfl rfl rfl (t_mo_take__3 hHU1 n c 110 ⟨by omega, by omega⟩ (by first | exact T77 | exact hT) (by first | assumption | exact (by assumption : AT U1 _ _)) (by first | assumption | omega) (by first | assumption | exact (BDA_FR (FR_e eU1) rfl (by assumption : BDA S))) _) ?_
          rintro _ T2 ⟨hHT2, w24, rfl, w18, w19, w20, w21, w22⟩
          have hFT2 : FR md_mo_placing__3 S T2 := FR.tr hFU1 w24 rfl
          show Rl _ _ _ _ _ [] _ _
          refine l_iload_n rfl rfl ?_
          refine l_ireturn rfl rfl ?_
          have w25 : 0 ≤ Xi T2 904 65 ∧ Xi T2 904 65 ≤ 1 := hHT2.c _ _
          have w26 : 0 ≤ Xi T2 904 8 ∧ Xi T2 904 8 ≤ 5010 := hHT2.c _ _
          exact ⟨hHT2, hFT2, _, rfl, ⟨by omega, by omega⟩, (by first | assumption | exact t77 | exact AT_bad (by omega)), (by omega), (by omega), (by first | assumption | exact (by assumption : BDA T2))⟩
        · refine l_bipush rfl rfl ?_
          refine l_goto rfl rfl ?_
          have w27 : Xi U1 904 65 = Xi S 904 65 := (show Xi U1 904 65 = Xi S 904 65 from by rw [eU1]; exact Xi_ne (by omega))
          have w29 : 0 ≤ Xi U1 904 8 ∧ Xi U1 904 8 ≤ 5010 := hHU1.c _ _
          refine l_callV rfl rfl rfl (t_mo_take__3 hHU1 n c 107 ⟨by omega, by omega⟩ (by first | exact T77 | exact hT) (by first | assumption | exact (by assumption : AT U1 _ _)) (by first | assumption | omega) (by first | assumption | exact (BDA_FR (FR_e eU1) rfl (by assumption : BDA S))) _) ?_
          rintro _ T3 ⟨hHT3, w36, rfl, w30, w31, w32, w33, w34⟩
          have hFT3 : FR md_mo_placing__3 S T3 := FR.tr hFU1 w36 rfl
          show Rl _ _ _ _ _ [] _ _
          refine l_iload_n rfl rfl ?_
          refine l_ireturn rfl rfl ?_
          have w37 : 0 ≤ Xi T3 904 65 ∧ Xi T3 904 65 ≤ 1 := hHT3.c _ _
          have w38 : 0 ≤ Xi T3 904 8 ∧ Xi T3 904 8 ≤ 5010 := hHT3.c _ _
          exact ⟨hHT3, hFT3, _, rfl, ⟨by omega, by omega⟩, (by first | assumption | exact t77 | exact AT_bad (by omega)), (by omega), (by omega), (by first | assumption | exact (by assumption : BDA T3))⟩
    · refine l_aload_n rfl rfl ?_
      refine l_callV rfl rfl rfl (t_mo_odd__2 hH (by first | assumption | exact (by assumption : BDA S)) (by first | omega | exact fun q => (by have t := ((by assumption : AT S _ _) q).1; have u := hT.1; omega)) _) ?_
      rintro _ T4 ⟨hHT4, w45, rfl, w41, w42, w43⟩
      have hFT4 : FR md_mo_placing__3 S T4 := FR.tr hF w45 rfl
      show Rl _ _ _ _ _ [] _ _
      refine l_iconst rfl ?_
      refine l_ireturn rfl rfl ?_
      have w46 : 0 ≤ Xi T4 904 65 ∧ Xi T4 904 65 ≤ 1 := hHT4.c _ _
      have w47 : Xi T4 904 8 = Xi S 904 8 := (show Xi T4 904 8 = Xi S 904 8 from w45.x _ _ rfl)
      exact ⟨hHT4, hFT4, _, rfl, ⟨by omega, by omega⟩, (by first | assumption | exact t77 | exact AT_bad (by omega)), (by omega), (by omega), (by first | assumption | exact (by assumption : BDA T4))⟩
  refine l_aload_n rfl rfl ?_
  refine l_callV rfl rfl rfl (t_mo_look hH n c (by first | exact T77 | exact hT) (by first | assumption | exact (by assumption : AT S _ _)) _) ?_
  rintro _ _ ⟨rfl, z52, rfl, w52, w51⟩
  show Rl _ _ _ _ _ [iv z52] _ _
  refine l_istore_n rfl rfl rfl ?_
  refine l_iload_n rfl rfl ?_
  refine l_bipush rfl rfl ?_
  refine l_icmp_ne rfl rfl (by unfold rg; omega) (by unfold rg; omega) (fun w53 => ?_) (fun w54 => ?_)
  · refine l_iload_n rfl rfl ?_
    refine l_bipush rfl rfl ?_
    refine l_icmp_ne rfl rfl (by unfold rg; omega) (by unfold rg; omega) (fun w55 => ?_) (fun w56 => ?_)
    · refine l_iload_n rfl rfl ?_
      refine l_sipush rfl rfl ?_
      refine l_icmp_ne rfl rfl (by unfold rg; omega) (by unfold rg; omega) (fun w57 => ?_) (fun w58 => ?_)
      · refine l_iload_n rfl rfl ?_
        refine l_sipush rfl rfl ?_
        refine l_icmp_ne rfl rfl (by unfold rg; omega) (by unfold rg; omega) (fun w59 => ?_) (fun w60 => ?_)
        · refine l_iload_n rfl rfl ?_
          refine l_sipush rfl rfl ?_
          refine l_icmp_ne rfl rfl (by unfold rg; omega) (by unfold rg; omega) (fun w61 => ?_) (fun w62 => ?_)
          · refine l_iconst rfl ?_
            refine l_istore_n rfl rfl rfl ?_
            exact Rl_weak (C60 (0) (by omega) (by omega) (by first | assumption | exact (by assumption : BDA S))) (And.intro rfl (And.intro rfl (True.intro)))
          · refine l_iconst rfl ?_
            refine l_goto rfl rfl ?_
            refine l_istore_n rfl rfl rfl ?_
            exact Rl_weak (C60 (5) (by omega) (by omega) (by first | assumption | exact (by assumption : BDA S))) (And.intro rfl (And.intro rfl (True.intro)))
        · refine l_iconst rfl ?_
          refine l_goto rfl rfl ?_
          refine l_istore_n rfl rfl rfl ?_
          exact Rl_weak (C60 (4) (by omega) (by omega) (by first | assumption | exact (by assumption : BDA S))) (And.intro rfl (And.intro rfl (True.intro)))
      · refine l_iconst rfl ?_
        refine l_goto rfl rfl ?_
        refine l_istore_n rfl rfl rfl ?_
        exact Rl_weak (C60 (3) (by omega) (by omega) (by first | assumption | exact (by assumption : BDA S))) (And.intro rfl (And.intro rfl (True.intro)))
    · refine l_iconst rfl ?_
      refine l_goto rfl rfl ?_
      refine l_istore_n rfl rfl rfl ?_
      exact Rl_weak (C60 (2) (by omega) (by omega) (by first | assumption | exact (by assumption : BDA S))) (And.intro rfl (And.intro rfl (True.intro)))
  · refine l_iconst rfl ?_
    refine l_goto rfl rfl ?_
    refine l_istore_n rfl rfl rfl ?_
    exact Rl_weak (C60 (1) (by omega) (by omega) (by first | assumption | exact (by assumption : BDA S))) (And.intro rfl (And.intro rfl (True.intro)))
def md_mo_oneOrVarious__3 : List rec := [(904, 905, 8, 9), (904, 905, 65, 66), (904, 905, 66, 67)]
abbrev Q_mo_oneOrVarious__3 (S : sS) (n : Nat) (c : Nat) : pst := fun r S1 => HI S1 ∧ FR md_mo_oneOrVarious__3 S S1 ∧ (∃ z : Int, r = some (iv z) ∧ (0 ≤ z ∧ z ≤ 1) ∧ (AT S1 n c) ∧ (Xi S1 904 8 = Xi S 904 8 + 1) ∧ (Xi S1 904 65 = 0 → Xi S 904 65 = 0) ∧ (BDA S1))
set_option maxRecDepth 100000 in
theorem t_mo_oneOrVarious__3 {S : sS} (hH : HI S) (n : Nat) (c : Nat) (hT : TK S n) (hA : AT S n c) (h5 : Xi S 904 8 ≤ 5005) (hBDA : BDA S) (d : Nat) : Mt lay0 (d + 2) m_mo_oneOrVarious [.ref 904] S (Q_mo_oneOrVarious__3 S n c) := by
  refine Mt_R rfl rfl ?_
  have hF : FR md_mo_oneOrVarious__3 S S := FR.rf
  have w1 : 0 ≤ Xi S 904 65 ∧ Xi S 904 65 ≤ 1 := hH.c _ _
  have w2 : 0 ≤ Xi S 904 8 ∧ Xi S 904 8 ≤ 5010 := hH.c _ _
  have hn5 := hT.1
  have hat := hA
  have h8 : 0 ≤ Xi S 904 8 ∧ Xi S 904 8 ≤ 5010 := hH.c _ _
  have h69 : 0 ≤ Xi S 904 69 ∧ Xi S 904 69 ≤ 2600 := hH.c _ _
  have ha0 : Xi S 904 65 = 0 → Xi S 904 8 ≤ n := fun q => (hA q).1
  have ha3 : Xi S 904 65 = 0 → 2 * Xi S 904 69 ≤ Xi S 904 8 + 1 := fun q => (hA q).2.1
  clear hat
  refine l_aload_n rfl rfl ?_
  refine l_bipush rfl rfl ?_
  refine l_callV rfl rfl rfl (t_mo_isNext hH n c 122 ⟨by omega, by omega⟩ (by first | assumption | exact (TK_FR hF rfl (by assumption : TK S _))) (by first | assumption | exact (by assumption : AT S _ _)) _) ?_
  rintro _ _ ⟨rfl, z7, rfl, w7, w5, w6⟩
  show Rl _ _ _ _ _ [iv z7] _ _
  refine l_istore_n rfl rfl rfl ?_
  refine l_iload_n rfl rfl ?_
  refine l_if_ne rfl rfl (by unfold rg; omega) (fun w8 => ?_) (fun w9 => ?_)
  · refine l_aload_n rfl rfl ?_
    refine l_dup rfl rfl ?_
    refine l_gfi rfl rfl rfl rfl rfl ?_
    refine l_iconst rfl ?_
    refine l_iadd rfl ?_
    refine l_pfi rfl rfl rfl rfl ?_
    obtain ⟨U1, eU1⟩ : ∃ T : sS, T = uI S 904 8 (Int32.ofInt ((Xi S 904 8) + 1)) := ⟨_, rfl⟩
    rw [← eU1]
    have hHU1 : HI U1 := by rw [eU1]; exact HI_w hH (show 0 ≤ ((Xi S 904 8) + 1) by omega) (show ((Xi S 904 8) + 1) ≤ 5010 by omega)
    have hFU1 : FR md_mo_oneOrVarious__3 S U1 := by rw [eU1]; exact FR.wI hF (mdf_i (r := (904, 905, 8, 9)) (List.mem_of_getElem? (i := 0) rfl) (inR_i (by omega) (by omega) (by omega) (by omega)))
    have w10 : Xi U1 904 8 = ((Xi S 904 8) + 1) := by rw [eU1]; exact Xi_same (by unfold rg; omega)
    have t31 : AT U1 n c := by first | exact at_up hT hA eU1 (by omega) (by omega) (by omega) (by omega) (Or.inl rfl) | exact AT_bad (by rw [eU1, Xi_ne (by omega)]; omega)
    refine l_iload_n rfl rfl ?_
    refine l_ireturn rfl (retI_z (by omega)) ?_
    have w11 : Xi U1 904 65 = Xi S 904 65 := (show Xi U1 904 65 = Xi S 904 65 from by rw [eU1]; exact Xi_ne (by omega))
    have w13 : 0 ≤ Xi U1 904 8 ∧ Xi U1 904 8 ≤ 5010 := hHU1.c _ _
    exact ⟨hHU1, hFU1, _, rfl, ⟨by omega, by omega⟩, (t31), (by omega), (by omega), (by first | assumption | exact (BDA_FR (FR_e eU1) rfl (by assumption : BDA S)))⟩
  · refine l_aload_n rfl rfl ?_
    refine l_bipush rfl rfl ?_
    refine l_callV rfl rfl rfl (t_mo_isNext hH n c 123 ⟨by omega, by omega⟩ (by first | assumption | exact (TK_FR hF rfl (by assumption : TK S _))) (by first | assumption | exact (by assumption : AT S _ _)) _) ?_
    rintro _ _ ⟨rfl, z18, rfl, w18, w16, w17⟩
    show Rl _ _ _ _ _ [iv z18] _ _
    refine l_if_ne rfl rfl (by unfold rg; omega) (fun w19 => ?_) (fun w20 => ?_)
    · refine l_aload_n rfl rfl ?_
      refine l_dup rfl rfl ?_
      refine l_gfi rfl rfl rfl rfl rfl ?_
      refine l_iconst rfl ?_
      refine l_iadd rfl ?_
      refine l_pfi rfl rfl rfl rfl ?_
      obtain ⟨U2, eU2⟩ : ∃ T : sS, T = uI S 904 8 (Int32.ofInt ((Xi S 904 8) + 1)) := ⟨_, rfl⟩
      rw [← eU2]
      have hHU2 : HI U2 := by rw [eU2]; exact HI_w hH (show 0 ≤ ((Xi S 904 8) + 1) by omega) (show ((Xi S 904 8) + 1) ≤ 5010 by omega)
      have hFU2 : FR md_mo_oneOrVarious__3 S U2 := by rw [eU2]; exact FR.wI hF (mdf_i (r := (904, 905, 8, 9)) (List.mem_of_getElem? (i := 0) rfl) (inR_i (by omega) (by omega) (by omega) (by omega)))
      have w21 : Xi U2 904 8 = ((Xi S 904 8) + 1) := by rw [eU2]; exact Xi_same (by unfold rg; omega)
      have t31 : AT U2 n c := by first | exact at_up hT hA eU2 (by omega) (by omega) (by omega) (by omega) (Or.inl rfl) | exact AT_bad (by rw [eU2, Xi_ne (by omega)]; omega)
      refine l_iload_n rfl rfl ?_
      refine l_ireturn rfl (retI_z (by omega)) ?_
      have w22 : Xi U2 904 65 = Xi S 904 65 := (show Xi U2 904 65 = Xi S 904 65 from by rw [eU2]; exact Xi_ne (by omega))
      have w24 : 0 ≤ Xi U2 904 8 ∧ Xi U2 904 8 ≤ 5010 := hHU2.c _ _
      exact ⟨hHU2, hFU2, _, rfl, ⟨by omega, by omega⟩, (t31), (by omega), (by omega), (by first | assumption | exact (BDA_FR (FR_e eU2) rfl (by assumption : BDA S)))⟩
    · refine l_aload_n rfl rfl ?_
      refine l_callV rfl rfl rfl (t_mo_odd__2 hH (by first | assumption | exact (by assumption : BDA S)) (by first | omega | exact fun q => (by have t := ((by assumption : AT S _ _) q).1; have u := hT.1; omega)) _) ?_
      rintro _ T3 ⟨hHT3, w31, rfl, w27, w28, w29⟩
      have hFT3 : FR md_mo_oneOrVarious__3 S T3 := FR.tr hF w31 rfl
      show Rl _ _ _ _ _ [] _ _
      refine l_aload_n rfl rfl ?_
      refine l_dup rfl rfl ?_
      refine l_gfi rfl rfl rfl rfl rfl ?_
      have w32 : (Xi T3 904 8) = (Xi S 904 8) := (show Xi T3 904 8 = Xi S 904 8 from w31.x _ _ rfl)
      rw [w32]
      refine l_iconst rfl ?_
      refine l_iadd rfl ?_
      refine l_pfi rfl rfl rfl rfl ?_
      obtain ⟨U4, eU4⟩ : ∃ T : sS, T = uI T3 904 8 (Int32.ofInt ((Xi S 904 8) + 1)) := ⟨_, rfl⟩
      rw [← eU4]
      have hHU4 : HI U4 := by rw [eU4]; exact HI_w hHT3 (show 0 ≤ ((Xi S 904 8) + 1) by omega) (show ((Xi S 904 8) + 1) ≤ 5010 by omega)
      have hFU4 : FR md_mo_oneOrVarious__3 S U4 := by rw [eU4]; exact FR.wI hFT3 (mdf_i (r := (904, 905, 8, 9)) (List.mem_of_getElem? (i := 0) rfl) (inR_i (by omega) (by omega) (by omega) (by omega)))
      have w33 : Xi U4 904 8 = ((Xi S 904 8) + 1) := by rw [eU4]; exact Xi_same (by unfold rg; omega)
      have t31 : AT U4 n c := by first | exact at_up hT hA eU4 (by omega) (by omega) (by omega) (by omega) (Or.inl rfl) | exact AT_bad (by rw [eU4, Xi_ne (by omega)]; omega)
      refine l_iload_n rfl rfl ?_
      refine l_ireturn rfl (retI_z (by omega)) ?_
      have w34 : Xi U4 904 65 = Xi T3 904 65 := (show Xi U4 904 65 = Xi T3 904 65 from by rw [eU4]; exact Xi_ne (by omega))
      have w35 : 0 ≤ Xi T3 904 65 ∧ Xi T3 904 65 ≤ 1 := hHT3.c _ _
      have w36 : 0 ≤ Xi U4 904 8 ∧ Xi U4 904 8 ≤ 5010 := hHU4.c _ _
      exact ⟨hHU4, hFU4, _, rfl, ⟨by omega, by omega⟩, (t31), (by omega), (by omega), (by first | assumption | exact (BDA_FR (FR_e eU4) rfl (by assumption : BDA T3)))⟩
def md_mo_be__3 : List rec := [(904, 905, 8, 9), (904, 905, 65, 66), (904, 905, 66, 67), (904, 905, 77, 78)]
abbrev Q_mo_be__3 (S : sS) (n : Nat) (c : Nat) : pst := fun r S1 => HI S1 ∧ FR md_mo_be__3 S S1 ∧ (r = none ∧ (AT S1 n c) ∧ (Xi S 904 8 ≤ Xi S1 904 8 ∧ (Xi S1 904 8 ≤ n ∨ Xi S1 904 8 = Xi S 904 8)) ∧ (Xi S1 904 65 = 0 → Xi S 904 65 = 0) ∧ (BDA S1))
set_option maxRecDepth 100000 in
theorem t_mo_be__3 {S : sS} (hH : HI S) (n : Nat) (c : Nat) (hT : TK S n) (hA : AT S n c) (hBDA : BDA S) (d : Nat) : Mt lay0 (d + 2) m_mo_be [.ref 904] S (Q_mo_be__3 S n c) := by
  refine Mt_R rfl rfl ?_
  have hF : FR md_mo_be__3 S S := FR.rf
  have w1 : 0 ≤ Xi S 904 65 ∧ Xi S 904 65 ≤ 1 := hH.c _ _
  have w2 : 0 ≤ Xi S 904 8 ∧ Xi S 904 8 ≤ 5010 := hH.c _ _
  have hn5 := hT.1
  have hat := hA
  have h8 : 0 ≤ Xi S 904 8 ∧ Xi S 904 8 ≤ 5010 := hH.c _ _
  have h69 : 0 ≤ Xi S 904 69 ∧ Xi S 904 69 ≤ 2600 := hH.c _ _
  have ha0 : Xi S 904 65 = 0 → Xi S 904 8 ≤ n := fun q => (hA q).1
  have ha3 : Xi S 904 65 = 0 → 2 * Xi S 904 69 ≤ Xi S 904 8 + 1 := fun q => (hA q).2.1
  clear hat
  refine l_aload_n rfl rfl ?_
  refine l_bipush rfl rfl ?_
  refine l_callV rfl rfl rfl (t_mo_isNext hH n c 104 ⟨by omega, by omega⟩ (by first | assumption | exact (TK_FR hF rfl (by assumption : TK S _))) (by first | assumption | exact (by assumption : AT S _ _)) _) ?_
  rintro _ _ ⟨rfl, z7, rfl, w7, w5, w6⟩
  show Rl _ _ _ _ _ [iv z7] _ _
  refine l_if_ne rfl rfl (by unfold rg; omega) (fun w8 => ?_) (fun w9 => ?_)
  · refine l_aload_n rfl rfl ?_
    refine l_aload_n rfl rfl ?_
    refine l_bipush rfl rfl ?_
    refine l_callV rfl rfl rfl (t_mo_isNext hH n c 105 ⟨by omega, by omega⟩ (by first | assumption | exact (TK_FR hF rfl (by assumption : TK S _))) (by first | assumption | exact (by assumption : AT S _ _)) _) ?_
    rintro _ _ ⟨rfl, z14, rfl, w14, w12, w13⟩
    show Rl _ _ _ _ _ [iv z14, .ref 904] _ _
    refine l_pfz rfl rfl rfl rfl (by omega) ?_
    obtain ⟨U1, eU1⟩ : ∃ T : sS, T = uI S 904 77 (Int32.ofInt z14) := ⟨_, rfl⟩
    rw [← eU1]
    have hHU1 : HI U1 := by rw [eU1]; exact HI_w hH (show 0 ≤ z14 by omega) (show z14 ≤ 1 by omega)
    have hFU1 : FR md_mo_be__3 S U1 := by rw [eU1]; exact FR.wI hF (mdf_i (r := (904, 905, 77, 78)) (List.mem_of_getElem? (i := 3) rfl) (inR_i (by omega) (by omega) (by omega) (by omega)))
    have w15 : Xi U1 904 77 = z14 := by rw [eU1]; exact Xi_same (by unfold rg; omega)
    have s25 : Xi U1 904 8 = Xi S 904 8 ∧ Xi U1 904 65 = Xi S 904 65 := ⟨by rw [eU1, Xi_ne (by omega)], by rw [eU1, Xi_ne (by omega)]⟩
    refine l_aload_n rfl rfl ?_
    refine l_dup rfl rfl ?_
    refine l_gfi rfl rfl rfl rfl rfl ?_
    have w16 : (Xi U1 904 8) = (Xi S 904 8) := (show Xi U1 904 8 = Xi S 904 8 from by rw [eU1]; exact Xi_ne (by omega))
    rw [w16]
    refine l_iconst rfl ?_
    refine l_iadd rfl ?_
    refine l_pfi rfl rfl rfl rfl ?_
    obtain ⟨U2, eU2⟩ : ∃ T : sS, T = uI U1 904 8 (Int32.ofInt ((Xi S 904 8) + 1)) := ⟨_, rfl⟩
    rw [← eU2]
    have hHU2 : HI U2 := by rw [eU2]; exact HI_w hHU1 (show 0 ≤ ((Xi S 904 8) + 1) by omega) (show ((Xi S 904 8) + 1) ≤ 5010 by omega)
    have hFU2 : FR md_mo_be__3 S U2 := by rw [eU2]; exact FR.wI hFU1 (mdf_i (r := (904, 905, 8, 9)) (List.mem_of_getElem? (i := 0) rfl) (inR_i (by omega) (by omega) (by omega) (by omega)))
    have w17 : Xi U2 904 8 = ((Xi S 904 8) + 1) := by rw [eU2]; exact Xi_same (by unfold rg; omega)
    have T35 : TK U1 n := TK_FR hFU1 rfl hT
    have A35 : AT U1 n c := AT_FR (FR_e eU1) rfl hA
    have t35 : AT U2 n c := at_up T35 A35 eU2 (by omega) (by omega) (by omega) (by rw [show Xi U1 904 8 = Xi S 904 8 by omega, (hFU1.cx 907 rfl _).1]; omega) (Or.inl rfl)
    have l35 : Xi U2 904 8 ≤ n := by have q := tk_lt T35 (by omega) (A35 (by omega)).1 (by rw [show Xi U1 904 8 = Xi S 904 8 by omega, (hFU1.cx 907 rfl _).1]; omega); omega
    refine l_goto rfl rfl ?_
    refine l_return rfl rfl ?_
    have w18 : Xi U2 904 65 = Xi S 904 65 := (show Xi U2 904 65 = Xi U1 904 65 from by rw [eU2]; exact Xi_ne (by omega)).trans ((show Xi U1 904 65 = Xi S 904 65 from by rw [eU1]; exact Xi_ne (by omega)))
    have w20 : 0 ≤ Xi U2 904 8 ∧ Xi U2 904 8 ≤ 5010 := hHU2.c _ _
    exact ⟨hHU2, hFU2, rfl, (by first | exact t35 | exact AT_bad (by omega)), (by omega), (by omega), (by first | assumption | exact (BDA_FR (FR_e eU2) rfl (BDA_FR (FR_e eU1) rfl (by assumption : BDA S))))⟩
  · refine l_aload_n rfl rfl ?_
    refine l_bipush rfl rfl ?_
    refine l_callV rfl rfl rfl (t_mo_isNext hH n c 105 ⟨by omega, by omega⟩ (by first | assumption | exact (TK_FR hF rfl (by assumption : TK S _))) (by first | assumption | exact (by assumption : AT S _ _)) _) ?_
    rintro _ _ ⟨rfl, z25, rfl, w25, w23, w24⟩
    show Rl _ _ _ _ _ [iv z25] _ _
    refine l_if_eq rfl rfl (by unfold rg; omega) (fun w26 => ?_) (fun w27 => ?_)
    · refine l_aload_n rfl rfl ?_
      refine l_callV rfl rfl rfl (t_mo_odd__2 hH (by first | assumption | exact (by assumption : BDA S)) (by first | omega | exact fun q => (by have t := ((by assumption : AT S _ _) q).1; have u := hT.1; omega)) _) ?_
      rintro _ T3 ⟨hHT3, w34, rfl, w30, w31, w32⟩
      have hFT3 : FR md_mo_be__3 S T3 := FR.tr hF w34 rfl
      show Rl _ _ _ _ _ [] _ _
      refine l_return rfl rfl ?_
      have w35 : 0 ≤ Xi T3 904 65 ∧ Xi T3 904 65 ≤ 1 := hHT3.c _ _
      have w36 : Xi T3 904 8 = Xi S 904 8 := (show Xi T3 904 8 = Xi S 904 8 from w34.x _ _ rfl)
      exact ⟨hHT3, hFT3, rfl, (by first | exact t35 | exact AT_bad (by omega)), (by omega), (by omega), (by first | assumption | exact (by assumption : BDA T3))⟩
    · refine l_aload_n rfl rfl ?_
      refine l_aload_n rfl rfl ?_
      refine l_bipush rfl rfl ?_
      refine l_callV rfl rfl rfl (t_mo_isNext hH n c 105 ⟨by omega, by omega⟩ (by first | assumption | exact (TK_FR hF rfl (by assumption : TK S _))) (by first | assumption | exact (by assumption : AT S _ _)) _) ?_
      rintro _ _ ⟨rfl, z42, rfl, w42, w40, w41⟩
      show Rl _ _ _ _ _ [iv z42, .ref 904] _ _
      refine l_pfz rfl rfl rfl rfl (by omega) ?_
      obtain ⟨U4, eU4⟩ : ∃ T : sS, T = uI S 904 77 (Int32.ofInt z42) := ⟨_, rfl⟩
      rw [← eU4]
      have hHU4 : HI U4 := by rw [eU4]; exact HI_w hH (show 0 ≤ z42 by omega) (show z42 ≤ 1 by omega)
      have hFU4 : FR md_mo_be__3 S U4 := by rw [eU4]; exact FR.wI hF (mdf_i (r := (904, 905, 77, 78)) (List.mem_of_getElem? (i := 3) rfl) (inR_i (by omega) (by omega) (by omega) (by omega)))
      have w43 : Xi U4 904 77 = z42 := by rw [eU4]; exact Xi_same (by unfold rg; omega)
      have s25 : Xi U4 904 8 = Xi S 904 8 ∧ Xi U4 904 65 = Xi S 904 65 := ⟨by rw [eU4, Xi_ne (by omega)], by rw [eU4, Xi_ne (by omega)]⟩
      refine l_aload_n rfl rfl ?_
      refine l_dup rfl rfl ?_
      refine l_gfi rfl rfl rfl rfl rfl ?_
      have w44 : (Xi U4 904 8) = (Xi S 904 8) := (show Xi U4 904 8 = Xi S 904 8 from by rw [eU4]; exact Xi_ne (by omega))
      rw [w44]
      refine l_iconst rfl ?_
      refine l_iadd rfl ?_
      refine l_pfi rfl rfl rfl rfl ?_
      obtain ⟨U5, eU5⟩ : ∃ T : sS, T = uI U4 904 8 (Int32.ofInt ((Xi S 904 8) + 1)) := ⟨_, rfl⟩
      rw [← eU5]
      have hHU5 : HI U5 := by rw [eU5]; exact HI_w hHU4 (show 0 ≤ ((Xi S 904 8) + 1) by omega) (show ((Xi S 904 8) + 1) ≤ 5010 by omega)
      have hFU5 : FR md_mo_be__3 S U5 := by rw [eU5]; exact FR.wI hFU4 (mdf_i (r := (904, 905, 8, 9)) (List.mem_of_getElem? (i := 0) rfl) (inR_i (by omega) (by omega) (by omega) (by omega)))
      have w45 : Xi U5 904 8 = ((Xi S 904 8) + 1) := by rw [eU5]; exact Xi_same (by unfold rg; omega)
      have T35 : TK U4 n := TK_FR hFU4 rfl hT
      have A35 : AT U4 n c := AT_FR (FR_e eU4) rfl hA
      have t35 : AT U5 n c := at_up T35 A35 eU5 (by omega) (by omega) (by omega) (by rw [show Xi U4 904 8 = Xi S 904 8 by omega, (hFU4.cx 907 rfl _).1]; omega) (Or.inl rfl)
      have l35 : Xi U5 904 8 ≤ n := by have q := tk_lt T35 (by omega) (A35 (by omega)).1 (by rw [show Xi U4 904 8 = Xi S 904 8 by omega, (hFU4.cx 907 rfl _).1]; omega); omega
      refine l_goto rfl rfl ?_
      refine l_return rfl rfl ?_
      have w46 : Xi U5 904 65 = Xi S 904 65 := (show Xi U5 904 65 = Xi U4 904 65 from by rw [eU5]; exact Xi_ne (by omega)).trans ((show Xi U4 904 65 = Xi S 904 65 from by rw [eU4]; exact Xi_ne (by omega)))
      have w48 : 0 ≤ Xi U5 904 8 ∧ Xi U5 904 8 ≤ 5010 := hHU5.c _ _
      exact ⟨hHU5, hFU5, rfl, (by first | exact t35 | exact AT_bad (by omega)), (by omega), (by omega), (by first | assumption | exact (BDA_FR (FR_e eU5) rfl (BDA_FR (FR_e eU4) rfl (by assumption : BDA S))))⟩
def md_mo_what__3 : List rec := [(904, 905, 8, 9), (904, 905, 65, 66), (904, 905, 66, 67), (904, 905, 69, 70), (904, 905, 78, 79), (950, 951, 0, 100000), (951, 952, 0, 100000)]
abbrev Q_mo_what__3 (S : sS) (n : Nat) (c : Nat) : pst := fun r S1 => HI S1 ∧ FR md_mo_what__3 S S1 ∧ (r = none ∧ (AT S1 n c) ∧ (Xi S 904 8 ≤ Xi S1 904 8 ∧ (Xi S1 904 8 ≤ n ∨ Xi S1 904 8 = Xi S 904 8)) ∧ (RNV S1 n) ∧ (Xi S1 904 78 = Xi S 904 8) ∧ (Xi S1 904 65 = 0 → Xi S 904 65 = 0) ∧ (Xi S 904 69 ≤ Xi S1 904 69) ∧ (Xi S1 904 65 = 0 → Xi S 907 (Xi S 904 8).toNat ≠ 4 → Xi S 907 (Xi S 904 8).toNat ≠ 5 → Xi S 904 69 < Xi S1 904 69) ∧ (BDA S1))
set_option maxRecDepth 100000 in
theorem t_mo_what__3 {S : sS} (hH : HI S) (n : Nat) (c : Nat) (hT : TK S n) (hA : AT S n c) (hv : RNV S n) (hBDA : BDA S) (d : Nat) : Mt lay0 (d + 3) m_mo_what [.ref 904] S (Q_mo_what__3 S n c) := by
  refine Mt_R rfl rfl ?_
  have hF : FR md_mo_what__3 S S := FR.rf
  have w1 : 0 ≤ Xi S 904 65 ∧ Xi S 904 65 ≤ 1 := hH.c _ _
  have w2 : 0 ≤ Xi S 904 69 ∧ Xi S 904 69 ≤ 2600 := hH.c _ _
  have w3 : 0 ≤ Xi S 904 8 ∧ Xi S 904 8 ≤ 5010 := hH.c _ _
  have hn5 := hT.1
  have hat := hA
  have h8 : 0 ≤ Xi S 904 8 ∧ Xi S 904 8 ≤ 5010 := hH.c _ _
  have h69 : 0 ≤ Xi S 904 69 ∧ Xi S 904 69 ≤ 2600 := hH.c _ _
  have ha0 : Xi S 904 65 = 0 → Xi S 904 8 ≤ n := fun q => (hA q).1
  have ha3 : Xi S 904 65 = 0 → 2 * Xi S 904 69 ≤ Xi S 904 8 + 1 := fun q => (hA q).2.1
  clear hat
  refine l_aload_n rfl rfl ?_
  refine l_aload_n rfl rfl ?_
  refine l_gfi rfl rfl rfl rfl rfl ?_
  refine l_pfi rfl rfl rfl rfl ?_
  obtain ⟨U1, eU1⟩ : ∃ T : sS, T = uI S 904 78 (Int32.ofInt (Xi S 904 8)) := ⟨_, rfl⟩
  rw [← eU1]
  have hHU1 : HI U1 := by rw [eU1]; exact HI_w hH (show -2 ≤ (Xi S 904 8) by omega) (show (Xi S 904 8) ≤ 5010 by omega)
  have hFU1 : FR md_mo_what__3 S U1 := by rw [eU1]; exact FR.wI hF (mdf_i (r := (904, 905, 78, 79)) (List.mem_of_getElem? (i := 4) rfl) (inR_i (by omega) (by omega) (by omega) (by omega)))
  have w4 : Xi U1 904 78 = (Xi S 904 8) := by rw [eU1]; exact Xi_same (by unfold rg; omega)
  have s5 : Xi U1 904 8 = Xi S 904 8 ∧ Xi U1 904 65 = Xi S 904 65 := ⟨by rw [eU1, Xi_ne (by omega)], by rw [eU1, Xi_ne (by omega)]⟩
  refine l_aload_n rfl rfl ?_
  have w5 : Xi U1 904 65 = Xi S 904 65 := (show Xi U1 904 65 = Xi S 904 65 from by rw [eU1]; exact Xi_ne (by omega))
  have w10 : Xi U1 904 8 = Xi S 904 8 := (show Xi U1 904 8 = Xi S 904 8 from by rw [eU1]; exact Xi_ne (by omega))
  refine l_callV rfl rfl rfl (t_mo_look hHU1 n c (by first | assumption | exact (TK_FR hFU1 rfl (by assumption : TK S _))) (by first | assumption | exact (AT_FR (FR_e eU1) rfl (by assumption : AT S _ _))) _) ?_
  rintro _ _ ⟨rfl, z13, rfl, w13, w12⟩
  show Rl _ _ _ _ _ [iv z13] _ _
  have l9 : z13 ≠ 1 → Xi S 904 65 = 0 ∧ Xi S 907 (Xi S 904 8).toNat = z13 := fun q => by have t := (by assumption : z13 ≠ 1 → Xi U1 904 65 = 0 ∧ Xi U1 907 (Xi U1 904 8).toNat = z13) q; rw [show Xi U1 904 8 = Xi S 904 8 by omega, (hFU1.cx 907 rfl _).1] at t; exact ⟨by omega, t.2⟩
  refine l_istore_n rfl rfl rfl ?_
  refine l_iload_n rfl rfl ?_
  refine l_iconst rfl ?_
  refine l_icmp_eq rfl rfl (by unfold rg; omega) (by unfold rg; omega) (fun w14 => ?_) (fun w15 => ?_)
  · refine l_aload_n rfl rfl ?_
    refine l_dup rfl rfl ?_
    refine l_gfi rfl rfl rfl rfl rfl ?_
    have w16 : (Xi U1 904 8) = (Xi S 904 8) := (show Xi U1 904 8 = Xi S 904 8 from by rw [eU1]; exact Xi_ne (by omega))
    rw [w16]
    refine l_iconst rfl ?_
    refine l_iadd rfl ?_
    refine l_pfi rfl rfl rfl rfl ?_
    obtain ⟨U2, eU2⟩ : ∃ T : sS, T = uI U1 904 8 (Int32.ofInt ((Xi S 904 8) + 1)) := ⟨_, rfl⟩
    rw [← eU2]
    have hHU2 : HI U2 := by rw [eU2]; exact HI_w hHU1 (show 0 ≤ ((Xi S 904 8) + 1) by omega) (show ((Xi S 904 8) + 1) ≤ 5010 by omega)
    have hFU2 : FR md_mo_what__3 S U2 := by rw [eU2]; exact FR.wI hFU1 (mdf_i (r := (904, 905, 8, 9)) (List.mem_of_getElem? (i := 0) rfl) (inR_i (by omega) (by omega) (by omega) (by omega)))
    have w17 : Xi U2 904 8 = ((Xi S 904 8) + 1) := by rw [eU2]; exact Xi_same (by unfold rg; omega)
    have T30 : TK U1 n := TK_FR hFU1 rfl hT
    have A30 : AT U1 n c := AT_FR (FR_e eU1) rfl hA
    have t30 : AT U2 n c := at_up T30 A30 eU2 (by omega) (by omega) (by omega) (by omega) (Or.inl rfl)
    have l30 : Xi U2 904 8 ≤ n := by have q := tk_lt T30 (by omega) (A30 (by omega)).1 (by omega); omega
    have V30 : RNV U2 n := RNV_FR (FR_e eU2) rfl (RNV_FR (FR_e eU1) rfl hv)
    refine l_goto rfl rfl ?_
    refine l_return rfl rfl ?_
    have w18 : Xi U2 904 65 = Xi S 904 65 := (show Xi U2 904 65 = Xi U1 904 65 from by rw [eU2]; exact Xi_ne (by omega)).trans ((show Xi U1 904 65 = Xi S 904 65 from by rw [eU1]; exact Xi_ne (by omega)))
    have w20 : Xi U2 904 69 = Xi S 904 69 := (show Xi U2 904 69 = Xi U1 904 69 from by rw [eU2]; exact Xi_ne (by omega)).trans ((show Xi U1 904 69 = Xi S 904 69 from by rw [eU1]; exact Xi_ne (by omega)))
    have w22 : Xi U2 904 78 = Xi U1 904 78 := (show Xi U2 904 78 = Xi U1 904 78 from by rw [eU2]; exact Xi_ne (by omega))
    have w23 : -2 ≤ Xi U1 904 78 ∧ Xi U1 904 78 ≤ 5010 := hHU1.c _ _
    have w24 : 0 ≤ Xi U2 904 8 ∧ Xi U2 904 8 ≤ 5010 := hHU2.c _ _
    exact ⟨hHU2, hFU2, rfl, (by first | exact t30 | assumption), (by omega), (by first | exact V30 | assumption), (by omega), (by omega), (by omega), (by omega), (by first | assumption | exact (BDA_FR (FR_e eU2) rfl (BDA_FR (FR_e eU1) rfl (by assumption : BDA S))))⟩
  · refine l_iload_n rfl rfl ?_
    refine l_iconst rfl ?_
    refine l_icmp_ne rfl rfl (by unfold rg; omega) (by unfold rg; omega) (fun w25 => ?_) (fun w26 => ?_)
    · refine l_aload_n rfl rfl ?_
      have w29 : Xi U1 904 69 = Xi S 904 69 := (show Xi U1 904 69 = Xi S 904 69 from by rw [eU1]; exact Xi_ne (by omega))
      refine l_callV rfl rfl rfl (t_mo_run__2 hHU1 n c (by first | assumption | exact (TK_FR hFU1 rfl (by assumption : TK S _))) (by first | assumption | exact (AT_FR (FR_e eU1) rfl (by assumption : AT S _ _))) (by first | assumption | exact (RNV_FR (FR_e eU1) rfl (by assumption : RNV S _))) (by first | assumption | exact (BDA_FR (FR_e eU1) rfl (by assumption : BDA S))) _) ?_
      rintro _ T3 ⟨hHT3, w41, z40, rfl, w40, w34, w35, w36, w37, w38, w39⟩
      have hFT3 : FR md_mo_what__3 S T3 := FR.tr hFU1 w41 rfl
      show Rl _ _ _ _ _ [iv z40] _ _
      refine l_pop rfl rfl ?_
      refine l_return rfl rfl ?_
      have w42 : 0 ≤ Xi T3 904 65 ∧ Xi T3 904 65 ≤ 1 := hHT3.c _ _
      have w43 : 0 ≤ Xi T3 904 69 ∧ Xi T3 904 69 ≤ 2600 := hHT3.c _ _
      have w44 : Xi T3 904 78 = Xi U1 904 78 := (show Xi T3 904 78 = Xi U1 904 78 from w41.x _ _ rfl)
      have w45 : -2 ≤ Xi U1 904 78 ∧ Xi U1 904 78 ≤ 5010 := hHU1.c _ _
      have w46 : 0 ≤ Xi T3 904 8 ∧ Xi T3 904 8 ≤ 5010 := hHT3.c _ _
      exact ⟨hHT3, hFT3, rfl, (by first | exact t30 | assumption), (by omega), (by first | exact V30 | assumption), (by omega), (by omega), (by omega), (by omega), (by first | assumption | exact (by assumption : BDA T3))⟩
    · refine l_aload_n rfl rfl ?_
      refine l_dup rfl rfl ?_
      refine l_gfi rfl rfl rfl rfl rfl ?_
      have w47 : (Xi U1 904 8) = (Xi S 904 8) := (show Xi U1 904 8 = Xi S 904 8 from by rw [eU1]; exact Xi_ne (by omega))
      rw [w47]
      refine l_iconst rfl ?_
      refine l_iadd rfl ?_
      refine l_pfi rfl rfl rfl rfl ?_
      obtain ⟨U4, eU4⟩ : ∃ T : sS, T = uI U1 904 8 (Int32.ofInt ((Xi S 904 8) + 1)) := ⟨_, rfl⟩
      rw [← eU4]
      have hHU4 : HI U4 := by rw [eU4]; exact HI_w hHU1 (show 0 ≤ ((Xi S 904 8) + 1) by omega) (show ((Xi S 904 8) + 1) ≤ 5010 by omega)
      have hFU4 : FR md_mo_what__3 S U4 := by rw [eU4]; exact FR.wI hFU1 (mdf_i (r := (904, 905, 8, 9)) (List.mem_of_getElem? (i := 0) rfl) (inR_i (by omega) (by omega) (by omega) (by omega)))
      have w48 : Xi U4 904 8 = ((Xi S 904 8) + 1) := by rw [eU4]; exact Xi_same (by unfold rg; omega)
      have T30 : TK U1 n := TK_FR hFU1 rfl hT
      have A30 : AT U1 n c := AT_FR (FR_e eU1) rfl hA
      have t30 : AT U4 n c := at_up T30 A30 eU4 (by omega) (by omega) (by omega) (by omega) (Or.inl rfl)
      have l30 : Xi U4 904 8 ≤ n := by have q := tk_lt T30 (by omega) (A30 (by omega)).1 (by omega); omega
      have V30 : RNV U4 n := RNV_FR (FR_e eU4) rfl (RNV_FR (FR_e eU1) rfl hv)
      refine l_goto rfl rfl ?_
      refine l_return rfl rfl ?_
      have w49 : Xi U4 904 65 = Xi S 904 65 := (show Xi U4 904 65 = Xi U1 904 65 from by rw [eU4]; exact Xi_ne (by omega)).trans ((show Xi U1 904 65 = Xi S 904 65 from by rw [eU1]; exact Xi_ne (by omega)))
      have w51 : Xi U4 904 69 = Xi S 904 69 := (show Xi U4 904 69 = Xi U1 904 69 from by rw [eU4]; exact Xi_ne (by omega)).trans ((show Xi U1 904 69 = Xi S 904 69 from by rw [eU1]; exact Xi_ne (by omega)))
      have w53 : Xi U4 904 78 = Xi U1 904 78 := (show Xi U4 904 78 = Xi U1 904 78 from by rw [eU4]; exact Xi_ne (by omega))
      have w54 : -2 ≤ Xi U1 904 78 ∧ Xi U1 904 78 ≤ 5010 := hHU1.c _ _
      have w55 : 0 ≤ Xi U4 904 8 ∧ Xi U4 904 8 ≤ 5010 := hHU4.c _ _
      exact ⟨hHU4, hFU4, rfl, (by first | exact t30 | assumption), (by omega), (by first | exact V30 | assumption), (by omega), (by omega), (by omega), (by omega), (by first | assumption | exact (BDA_FR (FR_e eU4) rfl (BDA_FR (FR_e eU1) rfl (by assumption : BDA S))))⟩
def md_mo_thing__2 : List rec := [(904, 905, 8, 9), (904, 905, 65, 66), (904, 905, 66, 67), (904, 905, 69, 70), (904, 905, 99, 100), (904, 905, 100, 101), (904, 905, 101, 102), (950, 951, 0, 100000), (951, 952, 0, 100000)]
abbrev Q_mo_thing__2 (S : sS) (n : Nat) (c : Nat) : pst := fun r S1 => HI S1 ∧ FR md_mo_thing__2 S S1 ∧ (r = none ∧ (AT S1 n c) ∧ (Xi S 904 8 ≤ Xi S1 904 8 ∧ (Xi S1 904 8 ≤ n ∨ Xi S1 904 8 = Xi S 904 8)) ∧ (RNV S1 n) ∧ (Xi S1 904 65 = 0 → Xi S 904 65 = 0) ∧ (Xi S 904 69 ≤ Xi S1 904 69) ∧ (Xi S1 904 65 = 0 → Xi S1 904 101 ≤ n ∧ (Xi S1 904 100 = 2 → Xi S1 904 99 < Xi S1 904 69)) ∧ (BDA S1))
set_option maxRecDepth 100000 in
theorem t_mo_thing__2 {S : sS} (hH : HI S) (n : Nat) (c : Nat) (hT : TK S n) (hA : AT S n c) (hv : RNV S n) (hBDA : BDA S) (d : Nat) : Mt lay0 (d + 4) m_mo_thing [.ref 904] S (Q_mo_thing__2 S n c) := by
  refine Mt_R rfl rfl ?_
  have hF : FR md_mo_thing__2 S S := FR.rf
  have w1 : 0 ≤ Xi S 904 65 ∧ Xi S 904 65 ≤ 1 := hH.c _ _
  have w2 : 0 ≤ Xi S 904 69 ∧ Xi S 904 69 ≤ 2600 := hH.c _ _
  have w3 : 0 ≤ Xi S 904 8 ∧ Xi S 904 8 ≤ 5010 := hH.c _ _
  have hn5 := hT.1
  have hat := hA
  have h8 : 0 ≤ Xi S 904 8 ∧ Xi S 904 8 ≤ 5010 := hH.c _ _
  have h69 : 0 ≤ Xi S 904 69 ∧ Xi S 904 69 ≤ 2600 := hH.c _ _
  have ha0 : Xi S 904 65 = 0 → Xi S 904 8 ≤ n := fun q => (hA q).1
  have ha3 : Xi S 904 65 = 0 → 2 * Xi S 904 69 ≤ Xi S 904 8 + 1 := fun q => (hA q).2.1
  clear hat
  refine l_aload_n rfl rfl ?_
  refine l_aload_n rfl rfl ?_
  refine l_gfi rfl rfl rfl rfl rfl ?_
  refine l_pfi rfl rfl rfl rfl ?_
  obtain ⟨U1, eU1⟩ : ∃ T : sS, T = uI S 904 101 (Int32.ofInt (Xi S 904 8)) := ⟨_, rfl⟩
  rw [← eU1]
  have hHU1 : HI U1 := by rw [eU1]; exact HI_w hH (show 0 ≤ (Xi S 904 8) by omega) (show (Xi S 904 8) ≤ 5010 by omega)
  have hFU1 : FR md_mo_thing__2 S U1 := by rw [eU1]; exact FR.wI hF (mdf_i (r := (904, 905, 101, 102)) (List.mem_of_getElem? (i := 6) rfl) (inR_i (by omega) (by omega) (by omega) (by omega)))
  have w4 : Xi U1 904 101 = (Xi S 904 8) := by rw [eU1]; exact Xi_same (by unfold rg; omega)
  refine l_aload_n rfl rfl ?_
  refine l_sipush rfl rfl ?_
  have w8 : Xi U1 904 65 = Xi S 904 65 := (show Xi U1 904 65 = Xi S 904 65 from by rw [eU1]; exact Xi_ne (by omega))
  have w12 : Xi U1 904 8 = Xi S 904 8 := (show Xi U1 904 8 = Xi S 904 8 from by rw [eU1]; exact Xi_ne (by omega))
  refine l_callV rfl rfl rfl (t_mo_isNext hHU1 n c 154 ⟨by omega, by omega⟩ (by first | assumption | exact (TK_FR hFU1 rfl (by assumption : TK S _))) (by first | assumption | exact (AT_FR (FR_e eU1) rfl (by assumption : AT S _ _))) _) ?_
  rintro _ _ ⟨rfl, z20, rfl, w20, w18, w19⟩
  show Rl _ _ _ _ _ [iv z20] _ _
  have i12 : z20 = 1 → Xi S 904 65 = 0 ∧ Xi S 907 (Xi S 904 8).toNat = 154 := fun q => by have t := (by assumption : z20 = 1 → Xi U1 904 65 = 0 ∧ Xi U1 907 (Xi U1 904 8).toNat = 154) q; rw [show Xi U1 904 8 = Xi S 904 8 by omega, (hFU1.cx 907 rfl _).1] at t; exact ⟨by omega, t.2⟩
  refine l_if_eq rfl rfl (by unfold rg; omega) (fun w21 => ?_) (fun w22 => ?_)
  · refine l_aload_n rfl rfl ?_
    refine l_sipush rfl rfl ?_
    have w28 : Xi U1 904 69 = Xi S 904 69 := (show Xi U1 904 69 = Xi S 904 69 from by rw [eU1]; exact Xi_ne (by omega))
    have w32 : Xi U1 904 93 = Xi S 904 93 := (show Xi U1 904 93 = Xi S 904 93 from by rw [eU1]; exact Xi_ne (by omega))
    have w33 : 0 ≤ Xi S 904 93 ∧ Xi S 904 93 ≤ 1700 := hH.c _ _
    refine l_callV rfl rfl rfl (t_mo_isNext hHU1 n c 153 ⟨by omega, by omega⟩ (by first | assumption | exact (TK_FR hFU1 rfl (by assumption : TK S _))) (by first | assumption | exact (AT_FR (FR_e eU1) rfl (by assumption : AT S _ _))) _) ?_
    rintro _ _ ⟨rfl, z38, rfl, w38, w36, w37⟩
    show Rl _ _ _ _ _ [iv z38] _ _
    have i40 : z38 = 1 → Xi S 904 65 = 0 ∧ Xi S 907 (Xi S 904 8).toNat = 153 := fun q => by have t := (by assumption : z38 = 1 → Xi U1 904 65 = 0 ∧ Xi U1 907 (Xi U1 904 8).toNat = 153) q; rw [show Xi U1 904 8 = Xi S 904 8 by omega, (hFU1.cx 907 rfl _).1] at t; exact ⟨by omega, t.2⟩
    refine l_if_ne rfl rfl (by unfold rg; omega) (fun w39 => ?_) (fun w40 => ?_)
    · refine l_aload_n rfl rfl ?_
      refine l_iconst rfl ?_
      refine l_pfi rfl rfl rfl rfl ?_
      obtain ⟨U2, eU2⟩ : ∃ T : sS, T = uI U1 904 100 (Int32.ofInt 1) := ⟨_, rfl⟩
      rw [← eU2]
      have hHU2 : HI U2 := by rw [eU2]; exact HI_w hHU1 (show 0 ≤ 1 by omega) (show 1 ≤ 2 by omega)
      have hFU2 : FR md_mo_thing__2 S U2 := by rw [eU2]; exact FR.wI hFU1 (mdf_i (r := (904, 905, 100, 101)) (List.mem_of_getElem? (i := 5) rfl) (inR_i (by omega) (by omega) (by omega) (by omega)))
      have w41 : Xi U2 904 100 = 1 := by rw [eU2]; exact Xi_same (by unfold rg; omega)
      refine l_aload_n rfl rfl ?_
      refine l_dup rfl rfl ?_
      refine l_gfi rfl rfl rfl rfl rfl ?_
      have w42 : (Xi U2 904 8) = (Xi S 904 8) := (show Xi U2 904 8 = Xi U1 904 8 from by rw [eU2]; exact Xi_ne (by omega)).trans ((show Xi U1 904 8 = Xi S 904 8 from by rw [eU1]; exact Xi_ne (by omega)))
      rw [w42]
      refine l_aload_n rfl rfl ?_
      refine l_gfr rfl rfl rfl rfl rfl (hHU2.r 904 4 907 rfl) ?_
      refine l_aload_n rfl rfl ?_
      refine l_gfi rfl rfl rfl rfl rfl ?_
      have w43 : (Xi U2 904 8) = (Xi S 904 8) := (show Xi U2 904 8 = Xi U1 904 8 from by rw [eU2]; exact Xi_ne (by omega)).trans ((show Xi U1 904 8 = Xi S 904 8 from by rw [eU1]; exact Xi_ne (by omega)))
      rw [w43]
      refine l_iaload (n := 5002) rfl rfl (by omega) (by omega) (by unfold rg; omega) ?_
      have w44 : 0 ≤ (Xi U2 907 (((Xi S 904 8)).toNat)) ∧ (Xi U2 907 (((Xi S 904 8)).toNat)) ≤ 154 := hHU2.c _ _
      have e90 : (Xi U2 907 (((Xi S 904 8)).toNat)) = Xi S 907 (Xi S 904 8).toNat := by first | rfl | exact (hFU2.cx 907 rfl _).1 | (rw [(hFU2.cx 907 rfl _).1, show Xi U2 904 8 = Xi S 904 8 by omega])
      refine l_bipush rfl rfl ?_
      refine l_icmp_ne rfl rfl (by unfold rg; omega) (by unfold rg; omega) (fun w45 => ?_) (fun w46 => ?_)
      · refine l_iconst rfl ?_
        refine l_iadd rfl ?_
        refine l_pfi rfl rfl rfl rfl ?_
        obtain ⟨U3, eU3⟩ : ∃ T : sS, T = uI U2 904 8 (Int32.ofInt ((Xi S 904 8) + 1)) := ⟨_, rfl⟩
        rw [← eU3]
        have hHU3 : HI U3 := by rw [eU3]; exact HI_w hHU2 (show 0 ≤ ((Xi S 904 8) + 1) by omega) (show ((Xi S 904 8) + 1) ≤ 5010 by omega)
        have hFU3 : FR md_mo_thing__2 S U3 := by rw [eU3]; exact FR.wI hFU2 (mdf_i (r := (904, 905, 8, 9)) (List.mem_of_getElem? (i := 0) rfl) (inR_i (by omega) (by omega) (by omega) (by omega)))
        have w47 : Xi U3 904 8 = ((Xi S 904 8) + 1) := by rw [eU3]; exact Xi_same (by unfold rg; omega)
        have t102 : AT U3 n c ∧ Xi S 904 8 < Xi U3 904 8 ∧ Xi U3 904 8 ≤ n := by first | (have t := (at_mv (S := S) (P := U2) (TK_FR hF rfl (by assumption : TK S _)) (by first | assumption | exact (by assumption : AT S _ _)) (fun j => ((FR_e eU2).cx 907 rfl j).1.trans (((FR_e eU1).cx 907 rfl j).1)) (fun j => ((FR_e eU2).cx 908 rfl j).1.trans (((FR_e eU1).cx 908 rfl j).1)) ((show Xi U2 904 8 = Xi U1 904 8 from by rw [eU2]; exact Xi_ne (by omega)).trans ((show Xi U1 904 8 = Xi S 904 8 from by rw [eU1]; exact Xi_ne (by omega)))) ((show Xi U2 904 65 = Xi U1 904 65 from by rw [eU2]; exact Xi_ne (by omega)).trans ((show Xi U1 904 65 = Xi S 904 65 from by rw [eU1]; exact Xi_ne (by omega)))) ((show Xi U2 904 69 = Xi U1 904 69 from by rw [eU2]; exact Xi_ne (by omega)).trans ((show Xi U1 904 69 = Xi S 904 69 from by rw [eU1]; exact Xi_ne (by omega)))) ((show Xi U2 904 93 = Xi U1 904 93 from by rw [eU2]; exact Xi_ne (by omega)).trans ((show Xi U1 904 93 = Xi S 904 93 from by rw [eU1]; exact Xi_ne (by omega)))) eU3 (by omega) (by omega) (by omega) (by omega) (Or.inl rfl)); exact ⟨t.1, by omega, by omega⟩) | (have t := (at_mv2 (S := S) (P := U2) (TK_FR hF rfl (by assumption : TK S _)) (by first | assumption | exact (by assumption : AT S _ _)) (fun j => ((FR_e eU2).cx 907 rfl j).1.trans (((FR_e eU1).cx 907 rfl j).1)) (fun j => ((FR_e eU2).cx 908 rfl j).1.trans (((FR_e eU1).cx 908 rfl j).1)) ((show Xi U2 904 8 = Xi U1 904 8 from by rw [eU2]; exact Xi_ne (by omega)).trans ((show Xi U1 904 8 = Xi S 904 8 from by rw [eU1]; exact Xi_ne (by omega)))) ((show Xi U2 904 65 = Xi U1 904 65 from by rw [eU2]; exact Xi_ne (by omega)).trans ((show Xi U1 904 65 = Xi S 904 65 from by rw [eU1]; exact Xi_ne (by omega)))) ((show Xi U2 904 69 = Xi U1 904 69 from by rw [eU2]; exact Xi_ne (by omega)).trans ((show Xi U1 904 69 = Xi S 904 69 from by rw [eU1]; exact Xi_ne (by omega)))) ((show Xi U2 904 93 = Xi U1 904 93 from by rw [eU2]; exact Xi_ne (by omega)).trans ((show Xi U1 904 93 = Xi S 904 93 from by rw [eU1]; exact Xi_ne (by omega)))) eU3 (by omega) (by omega) (by omega) (by omega) (by omega)); exact ⟨t.1, by omega, by omega⟩)
        refine l_goto rfl rfl ?_
        refine l_return rfl rfl ?_
        have w48 : Xi U3 904 100 = Xi U2 904 100 := (show Xi U3 904 100 = Xi U2 904 100 from by rw [eU3]; exact Xi_ne (by omega))
        have w49 : 0 ≤ Xi U2 904 100 ∧ Xi U2 904 100 ≤ 2 := hHU2.c _ _
        have w50 : Xi U3 904 101 = Xi U1 904 101 := (show Xi U3 904 101 = Xi U2 904 101 from by rw [eU3]; exact Xi_ne (by omega)).trans ((show Xi U2 904 101 = Xi U1 904 101 from by rw [eU2]; exact Xi_ne (by omega)))
        have w51 : 0 ≤ Xi U1 904 101 ∧ Xi U1 904 101 ≤ 5010 := hHU1.c _ _
        have w52 : Xi U3 904 65 = Xi S 904 65 := (show Xi U3 904 65 = Xi U2 904 65 from by rw [eU3]; exact Xi_ne (by omega)).trans ( (show Xi U2 904 65 = Xi U1 904 65 from by rw [eU2]; exact Xi_ne (by omega)).trans ((show Xi U1 904 65 = Xi S 904 65 from by rw [eU1]; exact Xi_ne (by omega))))
        have w54 : Xi U3 904 69 = Xi S 904 69 := (show Xi U3 904 69 = Xi U2 904 69 from by rw [eU3]; exact Xi_ne (by omega)).trans ( (show Xi U2 904 69 = Xi U1 904 69 from by rw [eU2]; exact Xi_ne (by omega)).trans ((show Xi U1 904 69 = Xi S 904 69 from by rw [eU1]; exact Xi_ne (by omega))))
        have w56 : 0 ≤ Xi U3 904 8 ∧ Xi U3 904 8 ≤ 5010 := hHU3.c _ _
        have w59 : Xi U3 904 99 = Xi S 904 99 := (show Xi U3 904 99 = Xi U2 904 99 from by rw [eU3]; exact Xi_ne (by omega)).trans ( (show Xi U2 904 99 = Xi U1 904 99 from by rw [eU2]; exact Xi_ne (by omega)).trans ((show Xi U1 904 99 = Xi S 904 99 from by rw [eU1]; exact Xi_ne (by omega))))
        have w60 : 0 ≤ Xi S 904 99 ∧ Xi S 904 99 ≤ 2600 := hH.c _ _
        exact ⟨hHU3, hFU3, rfl, (by first | exact t30.1 | exact t102.1 | exact (by assumption : AT U3 _ _)), (by omega), (by first | assumption | exact (RNV_FR (FR_e eU3) rfl (RNV_FR (FR_e eU2) rfl (RNV_FR (FR_e eU1) rfl (by assumption : RNV S _))))), (by omega), (by omega), (by omega), (by first | assumption | exact (BDA_FR (FR_e eU3) rfl (BDA_FR (FR_e eU2) rfl (BDA_FR (FR_e eU1) rfl (by assumption : BDA S)))))⟩
      · refine l_iconst rfl ?_
        refine l_goto rfl rfl ?_
        refine l_iadd rfl ?_
        refine l_pfi rfl rfl rfl rfl ?_
        obtain ⟨U4, eU4⟩ : ∃ T : sS, T = uI U2 904 8 (Int32.ofInt ((Xi S 904 8) + 2)) := ⟨_, rfl⟩
        rw [← eU4]
        have hHU4 : HI U4 := by rw [eU4]; exact HI_w hHU2 (show 0 ≤ ((Xi S 904 8) + 2) by omega) (show ((Xi S 904 8) + 2) ≤ 5010 by omega)
        have hFU4 : FR md_mo_thing__2 S U4 := by rw [eU4]; exact FR.wI hFU2 (mdf_i (r := (904, 905, 8, 9)) (List.mem_of_getElem? (i := 0) rfl) (inR_i (by omega) (by omega) (by omega) (by omega)))
        have w61 : Xi U4 904 8 = ((Xi S 904 8) + 2) := by rw [eU4]; exact Xi_same (by unfold rg; omega)
        have t102 : AT U4 n c ∧ Xi S 904 8 < Xi U4 904 8 ∧ Xi U4 904 8 ≤ n := by first | (have t := (at_mv (S := S) (P := U2) (TK_FR hF rfl (by assumption : TK S _)) (by first | assumption | exact (by assumption : AT S _ _)) (fun j => ((FR_e eU2).cx 907 rfl j).1.trans (((FR_e eU1).cx 907 rfl j).1)) (fun j => ((FR_e eU2).cx 908 rfl j).1.trans (((FR_e eU1).cx 908 rfl j).1)) ((show Xi U2 904 8 = Xi U1 904 8 from by rw [eU2]; exact Xi_ne (by omega)).trans ((show Xi U1 904 8 = Xi S 904 8 from by rw [eU1]; exact Xi_ne (by omega)))) ((show Xi U2 904 65 = Xi U1 904 65 from by rw [eU2]; exact Xi_ne (by omega)).trans ((show Xi U1 904 65 = Xi S 904 65 from by rw [eU1]; exact Xi_ne (by omega)))) ((show Xi U2 904 69 = Xi U1 904 69 from by rw [eU2]; exact Xi_ne (by omega)).trans ((show Xi U1 904 69 = Xi S 904 69 from by rw [eU1]; exact Xi_ne (by omega)))) ((show Xi U2 904 93 = Xi U1 904 93 from by rw [eU2]; exact Xi_ne (by omega)).trans ((show Xi U1 904 93 = Xi S 904 93 from by rw [eU1]; exact Xi_ne (by omega)))) eU4 (by omega) (by omega) (by omega) (by omega) (Or.inl rfl)); exact ⟨t.1, by omega, by omega⟩) | (have t := (at_mv2 (S := S) (P := U2) (TK_FR hF rfl (by assumption : TK S _)) (by first | assumption | exact (by assumption : AT S _ _)) (fun j => ((FR_e eU2).cx 907 rfl j).1.trans (((FR_e eU1).cx 907 rfl j).1)) (fun j => ((FR_e eU2).cx 908 rfl j).1.trans (((FR_e eU1).cx 908 rfl j).1)) ((show Xi U2 904 8 = Xi U1 904 8 from by rw [eU2]; exact Xi_ne (by omega)).trans ((show Xi U1 904 8 = Xi S 904 8 from by rw [eU1]; exact Xi_ne (by omega)))) ((show Xi U2 904 65 = Xi U1 904 65 from by rw [eU2]; exact Xi_ne (by omega)).trans ((show Xi U1 904 65 = Xi S 904 65 from by rw [eU1]; exact Xi_ne (by omega)))) ((show Xi U2 904 69 = Xi U1 904 69 from by rw [eU2]; exact Xi_ne (by omega)).trans ((show Xi U1 904 69 = Xi S 904 69 from by rw [eU1]; exact Xi_ne (by omega)))) ((show Xi U2 904 93 = Xi U1 904 93 from by rw [eU2]; exact Xi_ne (by omega)).trans ((show Xi U1 904 93 = Xi S 904 93 from by rw [eU1]; exact Xi_ne (by omega)))) eU4 (by omega) (by omega) (by omega) (by omega) (by omega)); exact ⟨t.1, by omega, by omega⟩)
        refine l_goto rfl rfl ?_
        refine l_return rfl rfl ?_
        have w62 : Xi U4 904 100 = Xi U2 904 100 := (show Xi U4 904 100 = Xi U2 904 100 from by rw [eU4]; exact Xi_ne (by omega))
        have w63 : 0 ≤ Xi U2 904 100 ∧ Xi U2 904 100 ≤ 2 := hHU2.c _ _
        have w64 : Xi U4 904 101 = Xi U1 904 101 := (show Xi U4 904 101 = Xi U2 904 101 from by rw [eU4]; exact Xi_ne (by omega)).trans ((show Xi U2 904 101 = Xi U1 904 101 from by rw [eU2]; exact Xi_ne (by omega)))
        have w65 : 0 ≤ Xi U1 904 101 ∧ Xi U1 904 101 ≤ 5010 := hHU1.c _ _
        have w66 : Xi U4 904 65 = Xi S 904 65 := (show Xi U4 904 65 = Xi U2 904 65 from by rw [eU4]; exact Xi_ne (by omega)).trans ( (show Xi U2 904 65 = Xi U1 904 65 from by rw [eU2]; exact Xi_ne (by omega)).trans ((show Xi U1 904 65 = Xi S 904 65 from by rw [eU1]; exact Xi_ne (by omega))))
        have w68 : Xi U4 904 69 = Xi S 904 69 := (show Xi U4 904 69 = Xi U2 904 69 from by rw [eU4]; exact Xi_ne (by omega)).trans ( (show Xi U2 904 69 = Xi U1 904 69 from by rw [eU2]; exact Xi_ne (by omega)).trans ((show Xi U1 904 69 = Xi S 904 69 from by rw [eU1]; exact Xi_ne (by omega))))
        have w70 : 0 ≤ Xi U4 904 8 ∧ Xi U4 904 8 ≤ 5010 := hHU4.c _ _
        have w73 : Xi U4 904 99 = Xi S 904 99 := (show Xi U4 904 99 = Xi U2 904 99 from by rw [eU4]; exact Xi_ne (by omega)).trans ( (show Xi U2 904 99 = Xi U1 904 99 from by rw [eU2]; exact Xi_ne (by omega)).trans ((show Xi U1 904 99 = Xi S 904 99 from by rw [eU1]; exact Xi_ne (by omega))))
        have w74 : 0 ≤ Xi S 904 99 ∧ Xi S 904 99 ≤ 2600 := hH.c _ _
        exact ⟨hHU4, hFU4, rfl, (by first | exact t30.1 | exact t102.1 | exact (by assumption : AT U4 _ _)), (by omega), (by first | assumption | exact (RNV_FR (FR_e eU4) rfl (RNV_FR (FR_e eU2) rfl (RNV_FR (FR_e eU1) rfl (by assumption : RNV S _))))), (by omega), (by omega), (by omega), (by first | assumption | exact (BDA_FR (FR_e eU4) rfl (BDA_FR (FR_e eU2) rfl (BDA_FR (FR_e eU1) rfl (by assumption : BDA S)))))⟩
    · refine l_aload_n rfl rfl ?_
      refine l_bipush rfl rfl ?_
      refine l_callV rfl rfl rfl (t_mo_isNext hHU1 n c 102 ⟨by omega, by omega⟩ (by first | assumption | exact (TK_FR hFU1 rfl (by assumption : TK S _))) (by first | assumption | exact (AT_FR (FR_e eU1) rfl (by assumption : AT S _ _))) _) ?_
      rintro _ _ ⟨rfl, z90, rfl, w90, w88, w89⟩
      show Rl _ _ _ _ _ [iv z90] _ _
      have i49 : z90 = 1 → Xi S 904 65 = 0 ∧ Xi S 907 (Xi S 904 8).toNat = 102 := fun q => by have t := (by assumption : z90 = 1 → Xi U1 904 65 = 0 ∧ Xi U1 907 (Xi U1 904 8).toNat = 102) q; rw [show Xi U1 904 8 = Xi S 904 8 by omega, (hFU1.cx 907 rfl _).1] at t; exact ⟨by omega, t.2⟩
      refine l_if_eq rfl rfl (by unfold rg; omega) (fun w91 => ?_) (fun w92 => ?_)
      · refine l_aload_n rfl rfl ?_
        refine l_iconst rfl ?_
        refine l_pfi rfl rfl rfl rfl ?_
        obtain ⟨U5, eU5⟩ : ∃ T : sS, T = uI U1 904 100 (Int32.ofInt 2) := ⟨_, rfl⟩
        rw [← eU5]
        have hHU5 : HI U5 := by rw [eU5]; exact HI_w hHU1 (show 0 ≤ 2 by omega) (show 2 ≤ 2 by omega)
        have hFU5 : FR md_mo_thing__2 S U5 := by rw [eU5]; exact FR.wI hFU1 (mdf_i (r := (904, 905, 100, 101)) (List.mem_of_getElem? (i := 5) rfl) (inR_i (by omega) (by omega) (by omega) (by omega)))
        have w93 : Xi U5 904 100 = 2 := by rw [eU5]; exact Xi_same (by unfold rg; omega)
        refine l_aload_n rfl rfl ?_
        refine l_aload_n rfl rfl ?_
        have w97 : Xi U5 904 65 = Xi S 904 65 := (show Xi U5 904 65 = Xi U1 904 65 from by rw [eU5]; exact Xi_ne (by omega)).trans ((show Xi U1 904 65 = Xi S 904 65 from by rw [eU1]; exact Xi_ne (by omega)))
        have w99 : Xi U5 904 69 = Xi S 904 69 := (show Xi U5 904 69 = Xi U1 904 69 from by rw [eU5]; exact Xi_ne (by omega)).trans ((show Xi U1 904 69 = Xi S 904 69 from by rw [eU1]; exact Xi_ne (by omega)))
        have w101 : Xi U5 904 8 = Xi S 904 8 := (show Xi U5 904 8 = Xi U1 904 8 from by rw [eU5]; exact Xi_ne (by omega)).trans ((show Xi U1 904 8 = Xi S 904 8 from by rw [eU1]; exact Xi_ne (by omega)))
        have w105 : Xi U5 904 99 = Xi S 904 99 := (show Xi U5 904 99 = Xi U1 904 99 from by rw [eU5]; exact Xi_ne (by omega)).trans ((show Xi U1 904 99 = Xi S 904 99 from by rw [eU1]; exact Xi_ne (by omega)))
        have w106 : 0 ≤ Xi S 904 99 ∧ Xi S 904 99 ≤ 2600 := hH.c _ _
        refine l_callV rfl rfl rfl (t_mo_name__2 hHU5 n c (by first | assumption | exact (TK_FR hFU5 rfl (by assumption : TK S _))) (by first | assumption | exact (AT_FR (FR_e eU5) rfl (AT_FR (FR_e eU1) rfl (by assumption : AT S _ _)))) (by first | assumption | exact (RNV_FR (FR_e eU5) rfl (RNV_FR (FR_e eU1) rfl (by assumption : RNV S _)))) (by first | assumption | exact (BDA_FR (FR_e eU5) rfl (BDA_FR (FR_e eU1) rfl (by assumption : BDA S)))) _) ?_
        rintro _ T6 ⟨hHT6, w114, z113, rfl, w113, w107, w108, w109, w110, w111, w112⟩
        have hFT6 : FR md_mo_thing__2 S T6 := FR.tr hFU5 w114 rfl
        show Rl _ _ _ _ _ [iv z113, .ref 904] _ _
        have q115 : Xi T6 904 65 = 0 → Xi T6 950 (z113).toNat ≤ n := fun q => by have t := (by assumption : RNV T6 n) (z113).toNat (by omega); omega
        refine l_pfi rfl rfl rfl rfl ?_
        obtain ⟨U7, eU7⟩ : ∃ T : sS, T = uI T6 904 99 (Int32.ofInt z113) := ⟨_, rfl⟩
        rw [← eU7]
        have hHU7 : HI U7 := by rw [eU7]; exact HI_w hHT6 (show 0 ≤ z113 by omega) (show z113 ≤ 2600 by omega)
        have hFU7 : FR md_mo_thing__2 S U7 := by rw [eU7]; exact FR.wI hFT6 (mdf_i (r := (904, 905, 99, 100)) (List.mem_of_getElem? (i := 4) rfl) (inR_i (by omega) (by omega) (by omega) (by omega)))
        have w115 : Xi U7 904 99 = z113 := by rw [eU7]; exact Xi_same (by unfold rg; omega)
        have x118 : Xi U7 904 65 = Xi T6 904 65 := by rw [eU7, Xi_ne (by omega)]
        have q118 : Xi U7 904 65 = 0 → Xi U7 950 (Xi U7 904 99).toNat ≤ n := fun q => by rw [x118] at q; rw [eU7, Xi_ne (by omega), Xi_same (by unfold rg; omega)]; exact q115 q
        refine l_aload_n rfl rfl ?_
        refine l_aload_n rfl rfl ?_
        refine l_gfi rfl rfl rfl rfl rfl ?_
        have w116 : 0 ≤ (Xi U7 904 65) ∧ (Xi U7 904 65) ≤ 1 := hHU7.c _ _
        refine l_if_eq rfl rfl (by unfold rg; omega) (fun w117 => ?_) (fun w118 => ?_)
        · refine l_aload_n rfl rfl ?_
          refine l_gfr rfl rfl rfl rfl rfl (hHU7.r 904 67 950 rfl) ?_
          refine l_aload_n rfl rfl ?_
          refine l_gfi rfl rfl rfl rfl rfl ?_
          refine l_iaload (n := 2600) rfl rfl (by omega) (by omega) (by unfold rg; omega) ?_
          have w119 : 0 ≤ (Xi U7 950 (((Xi U7 904 99)).toNat)) ∧ (Xi U7 950 (((Xi U7 904 99)).toNat)) ≤ 5010 := hHU7.c _ _
          refine l_pfi rfl rfl rfl rfl ?_
          obtain ⟨U8, eU8⟩ : ∃ T : sS, T = uI U7 904 101 (Int32.ofInt (Xi U7 950 (((Xi U7 904 99)).toNat))) := ⟨_, rfl⟩
          rw [← eU8]
          have hHU8 : HI U8 := by rw [eU8]; exact HI_w hHU7 (show 0 ≤ (Xi U7 950 (((Xi U7 904 99)).toNat)) by omega) (show (Xi U7 950 (((Xi U7 904 99)).toNat)) ≤ 5010 by omega)
          have hFU8 : FR md_mo_thing__2 S U8 := by rw [eU8]; exact FR.wI hFU7 (mdf_i (r := (904, 905, 101, 102)) (List.mem_of_getElem? (i := 6) rfl) (inR_i (by omega) (by omega) (by omega) (by omega)))
          have w120 : Xi U8 904 101 = (Xi U7 950 (((Xi U7 904 99)).toNat)) := by rw [eU8]; exact Xi_same (by unfold rg; omega)
          refine l_return rfl rfl ?_
          have w121 : Xi U8 904 100 = Xi U5 904 100 := (show Xi U8 904 100 = Xi U7 904 100 from by rw [eU8]; exact Xi_ne (by omega)).trans ( (show Xi U7 904 100 = Xi T6 904 100 from by rw [eU7]; exact Xi_ne (by omega)).trans ((show Xi T6 904 100 = Xi U5 904 100 from w114.x _ _ rfl)))
          have w122 : 0 ≤ Xi U5 904 100 ∧ Xi U5 904 100 ≤ 2 := hHU5.c _ _
          have w123 : 0 ≤ Xi U8 904 101 ∧ Xi U8 904 101 ≤ 5010 := hHU8.c _ _
          have w124 : Xi U8 904 65 = Xi T6 904 65 := (show Xi U8 904 65 = Xi U7 904 65 from by rw [eU8]; exact Xi_ne (by omega)).trans ((show Xi U7 904 65 = Xi T6 904 65 from by rw [eU7]; exact Xi_ne (by omega)))
          have w125 : 0 ≤ Xi T6 904 65 ∧ Xi T6 904 65 ≤ 1 := hHT6.c _ _
          have w126 : Xi U8 904 69 = Xi T6 904 69 := (show Xi U8 904 69 = Xi U7 904 69 from by rw [eU8]; exact Xi_ne (by omega)).trans ((show Xi U7 904 69 = Xi T6 904 69 from by rw [eU7]; exact Xi_ne (by omega)))
          have w127 : 0 ≤ Xi T6 904 69 ∧ Xi T6 904 69 ≤ 2600 := hHT6.c _ _
          have w128 : Xi U8 904 8 = Xi T6 904 8 := (show Xi U8 904 8 = Xi U7 904 8 from by rw [eU8]; exact Xi_ne (by omega)).trans ((show Xi U7 904 8 = Xi T6 904 8 from by rw [eU7]; exact Xi_ne (by omega)))
          have w129 : 0 ≤ Xi T6 904 8 ∧ Xi T6 904 8 ≤ 5010 := hHT6.c _ _
          have w132 : Xi U8 904 99 = Xi U7 904 99 := (show Xi U8 904 99 = Xi U7 904 99 from by rw [eU8]; exact Xi_ne (by omega))
          have w133 : 0 ≤ Xi U7 904 99 ∧ Xi U7 904 99 ≤ 2600 := hHU7.c _ _
          exact ⟨hHU8, hFU8, rfl, (by first | exact t30.1 | exact t102.1 | exact (AT_FR (FR_e eU8) rfl (AT_FR (FR_e eU7) rfl (by assumption : AT T6 _ _)))), (by omega), (by first | assumption | exact (RNV_FR (FR_e eU8) rfl (RNV_FR (FR_e eU7) rfl (by assumption : RNV T6 _)))), (by omega), (by omega), (by omega), (by first | assumption | exact (BDA_FR (FR_e eU8) rfl (BDA_FR (FR_e eU7) rfl (by assumption : BDA T6))))⟩
        · refine l_aload_n rfl rfl ?_
          refine l_gfi rfl rfl rfl rfl rfl ?_
          have w134 : 0 ≤ (Xi U7 904 8) ∧ (Xi U7 904 8) ≤ 5010 := hHU7.c _ _
          refine l_goto rfl rfl ?_
          refine l_pfi rfl rfl rfl rfl ?_
          obtain ⟨U9, eU9⟩ : ∃ T : sS, T = uI U7 904 101 (Int32.ofInt (Xi U7 904 8)) := ⟨_, rfl⟩
          rw [← eU9]
          have hHU9 : HI U9 := by rw [eU9]; exact HI_w hHU7 (show 0 ≤ (Xi U7 904 8) by omega) (show (Xi U7 904 8) ≤ 5010 by omega)
          have hFU9 : FR md_mo_thing__2 S U9 := by rw [eU9]; exact FR.wI hFU7 (mdf_i (r := (904, 905, 101, 102)) (List.mem_of_getElem? (i := 6) rfl) (inR_i (by omega) (by omega) (by omega) (by omega)))
          have w135 : Xi U9 904 101 = (Xi U7 904 8) := by rw [eU9]; exact Xi_same (by unfold rg; omega)
          refine l_return rfl rfl ?_
          have w136 : Xi U9 904 100 = Xi U5 904 100 := (show Xi U9 904 100 = Xi U7 904 100 from by rw [eU9]; exact Xi_ne (by omega)).trans ( (show Xi U7 904 100 = Xi T6 904 100 from by rw [eU7]; exact Xi_ne (by omega)).trans ((show Xi T6 904 100 = Xi U5 904 100 from w114.x _ _ rfl)))
          have w137 : 0 ≤ Xi U5 904 100 ∧ Xi U5 904 100 ≤ 2 := hHU5.c _ _
          have w138 : 0 ≤ Xi U9 904 101 ∧ Xi U9 904 101 ≤ 5010 := hHU9.c _ _
          have w139 : Xi U9 904 65 = Xi T6 904 65 := (show Xi U9 904 65 = Xi U7 904 65 from by rw [eU9]; exact Xi_ne (by omega)).trans ((show Xi U7 904 65 = Xi T6 904 65 from by rw [eU7]; exact Xi_ne (by omega)))
          have w140 : 0 ≤ Xi T6 904 65 ∧ Xi T6 904 65 ≤ 1 := hHT6.c _ _
          have w141 : Xi U9 904 69 = Xi T6 904 69 := (show Xi U9 904 69 = Xi U7 904 69 from by rw [eU9]; exact Xi_ne (by omega)).trans ((show Xi U7 904 69 = Xi T6 904 69 from by rw [eU7]; exact Xi_ne (by omega)))
          have w142 : 0 ≤ Xi T6 904 69 ∧ Xi T6 904 69 ≤ 2600 := hHT6.c _ _
          have w143 : Xi U9 904 8 = Xi T6 904 8 := (show Xi U9 904 8 = Xi U7 904 8 from by rw [eU9]; exact Xi_ne (by omega)).trans ((show Xi U7 904 8 = Xi T6 904 8 from by rw [eU7]; exact Xi_ne (by omega)))
          have w144 : 0 ≤ Xi T6 904 8 ∧ Xi T6 904 8 ≤ 5010 := hHT6.c _ _
          have w147 : Xi U9 904 99 = Xi U7 904 99 := (show Xi U9 904 99 = Xi U7 904 99 from by rw [eU9]; exact Xi_ne (by omega))
          have w148 : 0 ≤ Xi U7 904 99 ∧ Xi U7 904 99 ≤ 2600 := hHU7.c _ _
          exact ⟨hHU9, hFU9, rfl, (by first | exact t30.1 | exact t102.1 | exact (AT_FR (FR_e eU9) rfl (AT_FR (FR_e eU7) rfl (by assumption : AT T6 _ _)))), (by omega), (by first | assumption | exact (RNV_FR (FR_e eU9) rfl (RNV_FR (FR_e eU7) rfl (by assumption : RNV T6 _)))), (by omega), (by omega), (by omega), (by first | assumption | exact (BDA_FR (FR_e eU9) rfl (BDA_FR (FR_e eU7) rfl (by assumption : BDA T6))))⟩
      · refine l_aload_n rfl rfl ?_
        refine l_gfr rfl rfl rfl rfl rfl (hHU1.r 904 4 907 rfl) ?_
        refine l_aload_n rfl rfl ?_
        refine l_gfi rfl rfl rfl rfl rfl ?_
        have w149 : (Xi U1 904 8) = (Xi S 904 8) := (show Xi U1 904 8 = Xi S 904 8 from by rw [eU1]; exact Xi_ne (by omega))
        rw [w149]
        refine l_iconst rfl ?_
        refine l_iadd rfl ?_
        refine l_iaload (n := 5002) rfl rfl (by omega) (by omega) (by unfold rg; omega) ?_
        have w150 : 0 ≤ (Xi U1 907 ((((Xi S 904 8) + 1)).toNat)) ∧ (Xi U1 907 ((((Xi S 904 8) + 1)).toNat)) ≤ 154 := hHU1.c _ _
        have e65 : (Xi U1 907 ((((Xi S 904 8) + 1)).toNat)) = Xi S 907 (Xi S 904 8 + 1).toNat := by first | rfl | exact (hFU1.cx 907 rfl _).1 | (rw [(hFU1.cx 907 rfl _).1, show Xi U1 904 8 = Xi S 904 8 by omega])
        refine l_sipush rfl rfl ?_
        refine l_icmp_ne rfl rfl (by unfold rg; omega) (by unfold rg; omega) (fun w151 => ?_) (fun w152 => ?_)
        · refine l_aload_n rfl rfl ?_
          refine l_iconst rfl ?_
          refine l_pfi rfl rfl rfl rfl ?_
          obtain ⟨U10, eU10⟩ : ∃ T : sS, T = uI U1 904 100 (Int32.ofInt 2) := ⟨_, rfl⟩
          rw [← eU10]
          have hHU10 : HI U10 := by rw [eU10]; exact HI_w hHU1 (show 0 ≤ 2 by omega) (show 2 ≤ 2 by omega)
          have hFU10 : FR md_mo_thing__2 S U10 := by rw [eU10]; exact FR.wI hFU1 (mdf_i (r := (904, 905, 100, 101)) (List.mem_of_getElem? (i := 5) rfl) (inR_i (by omega) (by omega) (by omega) (by omega)))
          have w153 : Xi U10 904 100 = 2 := by rw [eU10]; exact Xi_same (by unfold rg; omega)
          refine l_aload_n rfl rfl ?_
          refine l_aload_n rfl rfl ?_
          have w157 : Xi U10 904 65 = Xi S 904 65 := (show Xi U10 904 65 = Xi U1 904 65 from by rw [eU10]; exact Xi_ne (by omega)).trans ((show Xi U1 904 65 = Xi S 904 65 from by rw [eU1]; exact Xi_ne (by omega)))
          have w159 : Xi U10 904 69 = Xi S 904 69 := (show Xi U10 904 69 = Xi U1 904 69 from by rw [eU10]; exact Xi_ne (by omega)).trans ((show Xi U1 904 69 = Xi S 904 69 from by rw [eU1]; exact Xi_ne (by omega)))
          have w161 : Xi U10 904 8 = Xi S 904 8 := (show Xi U10 904 8 = Xi U1 904 8 from by rw [eU10]; exact Xi_ne (by omega)).trans ((show Xi U1 904 8 = Xi S 904 8 from by rw [eU1]; exact Xi_ne (by omega)))
          have w165 : Xi U10 904 99 = Xi S 904 99 := (show Xi U10 904 99 = Xi U1 904 99 from by rw [eU10]; exact Xi_ne (by omega)).trans ((show Xi U1 904 99 = Xi S 904 99 from by rw [eU1]; exact Xi_ne (by omega)))
          have w166 : 0 ≤ Xi S 904 99 ∧ Xi S 904 99 ≤ 2600 := hH.c _ _
          refine l_callV rfl rfl rfl (t_mo_name__2 hHU10 n c (by first | assumption | exact (TK_FR hFU10 rfl (by assumption : TK S _))) (by first | assumption | exact (AT_FR (FR_e eU10) rfl (AT_FR (FR_e eU1) rfl (by assumption : AT S _ _)))) (by first | assumption | exact (RNV_FR (FR_e eU10) rfl (RNV_FR (FR_e eU1) rfl (by assumption : RNV S _)))) (by first | assumption | exact (BDA_FR (FR_e eU10) rfl (BDA_FR (FR_e eU1) rfl (by assumption : BDA S)))) _) ?_
          rintro _ T11 ⟨hHT11, w174, z173, rfl, w173, w167, w168, w169, w170, w171, w172⟩
          have hFT11 : FR md_mo_thing__2 S T11 := FR.tr hFU10 w174 rfl
          show Rl _ _ _ _ _ [iv z173, .ref 904] _ _
          have q115 : Xi T11 904 65 = 0 → Xi T11 950 (z173).toNat ≤ n := fun q => by have t := (by assumption : RNV T11 n) (z173).toNat (by omega); omega
          refine l_pfi rfl rfl rfl rfl ?_
          obtain ⟨U12, eU12⟩ : ∃ T : sS, T = uI T11 904 99 (Int32.ofInt z173) := ⟨_, rfl⟩
          rw [← eU12]
          have hHU12 : HI U12 := by rw [eU12]; exact HI_w hHT11 (show 0 ≤ z173 by omega) (show z173 ≤ 2600 by omega)
          have hFU12 : FR md_mo_thing__2 S U12 := by rw [eU12]; exact FR.wI hFT11 (mdf_i (r := (904, 905, 99, 100)) (List.mem_of_getElem? (i := 4) rfl) (inR_i (by omega) (by omega) (by omega) (by omega)))
          have w175 : Xi U12 904 99 = z173 := by rw [eU12]; exact Xi_same (by unfold rg; omega)
          have x118 : Xi U12 904 65 = Xi T11 904 65 := by rw [eU12, Xi_ne (by omega)]
          have q118 : Xi U12 904 65 = 0 → Xi U12 950 (Xi U12 904 99).toNat ≤ n := fun q => by rw [x118] at q; rw [eU12, Xi_ne (by omega), Xi_same (by unfold rg; omega)]; exact q115 q
          refine l_aload_n rfl rfl ?_
          refine l_aload_n rfl rfl ?_
          refine l_gfi rfl rfl rfl rfl rfl ?_
          have w176 : 0 ≤ (Xi U12 904 65) ∧ (Xi U12 904 65) ≤ 1 := hHU12.c _ _
          refine l_if_eq rfl rfl (by unfold rg; omega) (fun w177 => ?_) (fun w178 => ?_)
          · refine l_aload_n rfl rfl ?_
            refine l_gfr rfl rfl rfl rfl rfl (hHU12.r 904 67 950 rfl) ?_
            refine l_aload_n rfl rfl ?_
            refine l_gfi rfl rfl rfl rfl rfl ?_
            refine l_iaload (n := 2600) rfl rfl (by omega) (by omega) (by unfold rg; omega) ?_
            have w179 : 0 ≤ (Xi U12 950 (((Xi U12 904 99)).toNat)) ∧ (Xi U12 950 (((Xi U12 904 99)).toNat)) ≤ 5010 := hHU12.c _ _
            refine l_pfi rfl rfl rfl rfl ?_
            obtain ⟨U13, eU13⟩ : ∃ T : sS, T = uI U12 904 101 (Int32.ofInt (Xi U12 950 (((Xi U12 904 99)).toNat))) := ⟨_, rfl⟩
            rw [← eU13]
            have hHU13 : HI U13 := by rw [eU13]; exact HI_w hHU12 (show 0 ≤ (Xi U12 950 (((Xi U12 904 99)).toNat)) by omega) (show (Xi U12 950 (((Xi U12 904 99)).toNat)) ≤ 5010 by omega)
            have hFU13 : FR md_mo_thing__2 S U13 := by rw [eU13]; exact FR.wI hFU12 (mdf_i (r := (904, 905, 101, 102)) (List.mem_of_getElem? (i := 6) rfl) (inR_i (by omega) (by omega) (by omega) (by omega)))
            have w180 : Xi U13 904 101 = (Xi U12 950 (((Xi U12 904 99)).toNat)) := by rw [eU13]; exact Xi_same (by unfold rg; omega)
            refine l_return rfl rfl ?_
            have w181 : Xi U13 904 100 = Xi U10 904 100 := (show Xi U13 904 100 = Xi U12 904 100 from by rw [eU13]; exact Xi_ne (by omega)).trans ( (show Xi U12 904 100 = Xi T11 904 100 from by rw [eU12]; exact Xi_ne (by omega)).trans ((show Xi T11 904 100 = Xi U10 904 100 from w174.x _ _ rfl)))
            have w182 : 0 ≤ Xi U10 904 100 ∧ Xi U10 904 100 ≤ 2 := hHU10.c _ _
            have w183 : 0 ≤ Xi U13 904 101 ∧ Xi U13 904 101 ≤ 5010 := hHU13.c _ _
            have w184 : Xi U13 904 65 = Xi T11 904 65 := (show Xi U13 904 65 = Xi U12 904 65 from by rw [eU13]; exact Xi_ne (by omega)).trans ((show Xi U12 904 65 = Xi T11 904 65 from by rw [eU12]; exact Xi_ne (by omega)))
            have w185 : 0 ≤ Xi T11 904 65 ∧ Xi T11 904 65 ≤ 1 := hHT11.c _ _
            have w186 : Xi U13 904 69 = Xi T11 904 69 := (show Xi U13 904 69 = Xi U12 904 69 from by rw [eU13]; exact Xi_ne (by omega)).trans ((show Xi U12 904 69 = Xi T11 904 69 from by rw [eU12]; exact Xi_ne (by omega)))
            have w187 : 0 ≤ Xi T11 904 69 ∧ Xi T11 904 69 ≤ 2600 := hHT11.c _ _
            have w188 : Xi U13 904 8 = Xi T11 904 8 := (show Xi U13 904 8 = Xi U12 904 8 from by rw [eU13]; exact Xi_ne (by omega)).trans ((show Xi U12 904 8 = Xi T11 904 8 from by rw [eU12]; exact Xi_ne (by omega)))
            have w189 : 0 ≤ Xi T11 904 8 ∧ Xi T11 904 8 ≤ 5010 := hHT11.c _ _
            have w192 : Xi U13 904 99 = Xi U12 904 99 := (show Xi U13 904 99 = Xi U12 904 99 from by rw [eU13]; exact Xi_ne (by omega))
            have w193 : 0 ≤ Xi U12 904 99 ∧ Xi U12 904 99 ≤ 2600 := hHU12.c _ _
            exact ⟨hHU13, hFU13, rfl, (by first | exact t30.1 | exact t102.1 | exact (AT_FR (FR_e eU13) rfl (AT_FR (FR_e eU12) rfl (by assumption : AT T11 _ _)))), (by omega), (by first | assumption | exact (RNV_FR (FR_e eU13) rfl (RNV_FR (FR_e eU12) rfl (by assumption : RNV T11 _)))), (by omega), (by omega), (by omega), (by first | assumption | exact (BDA_FR (FR_e eU13) rfl (BDA_FR (FR_e eU12) rfl (by assumption : BDA T11))))⟩
          · refine l_aload_n rfl rfl ?_
            refine l_gfi rfl rfl rfl rfl rfl ?_
            have w194 : 0 ≤ (Xi U12 904 8) ∧ (Xi U12 904 8) ≤ 5010 := hHU12.c _ _
            refine l_goto rfl rfl ?_
            refine l_pfi rfl rfl rfl rfl ?_
            obtain ⟨U14, eU14⟩ : ∃ T : sS, T = uI U12 904 101 (Int32.ofInt (Xi U12 904 8)) := ⟨_, rfl⟩
            rw [← eU14]
            have hHU14 : HI U14 := by rw [eU14]; exact HI_w hHU12 (show 0 ≤ (Xi U12 904 8) by omega) (show (Xi U12 904 8) ≤ 5010 by omega)
            have hFU14 : FR md_mo_thing__2 S U14 := by rw [eU14]; exact FR.wI hFU12 (mdf_i (r := (904, 905, 101, 102)) (List.mem_of_getElem? (i := 6) rfl) (inR_i (by omega) (by omega) (by omega) (by omega)))
            have w195 : Xi U14 904 101 = (Xi U12 904 8) := by rw [eU14]; exact Xi_same (by unfold rg; omega)
            refine l_return rfl rfl ?_
            have w196 : Xi U14 904 100 = Xi U10 904 100 := (show Xi U14 904 100 = Xi U12 904 100 from by rw [eU14]; exact Xi_ne (by omega)).trans ( (show Xi U12 904 100 = Xi T11 904 100 from by rw [eU12]; exact Xi_ne (by omega)).trans ((show Xi T11 904 100 = Xi U10 904 100 from w174.x _ _ rfl)))
            have w197 : 0 ≤ Xi U10 904 100 ∧ Xi U10 904 100 ≤ 2 := hHU10.c _ _
            have w198 : 0 ≤ Xi U14 904 101 ∧ Xi U14 904 101 ≤ 5010 := hHU14.c _ _
            have w199 : Xi U14 904 65 = Xi T11 904 65 := (show Xi U14 904 65 = Xi U12 904 65 from by rw [eU14]; exact Xi_ne (by omega)).trans ((show Xi U12 904 65 = Xi T11 904 65 from by rw [eU12]; exact Xi_ne (by omega)))
            have w200 : 0 ≤ Xi T11 904 65 ∧ Xi T11 904 65 ≤ 1 := hHT11.c _ _
            have w201 : Xi U14 904 69 = Xi T11 904 69 := (show Xi U14 904 69 = Xi U12 904 69 from by rw [eU14]; exact Xi_ne (by omega)).trans ((show Xi U12 904 69 = Xi T11 904 69 from by rw [eU12]; exact Xi_ne (by omega)))
            have w202 : 0 ≤ Xi T11 904 69 ∧ Xi T11 904 69 ≤ 2600 := hHT11.c _ _
            have w203 : Xi U14 904 8 = Xi T11 904 8 := (show Xi U14 904 8 = Xi U12 904 8 from by rw [eU14]; exact Xi_ne (by omega)).trans ((show Xi U12 904 8 = Xi T11 904 8 from by rw [eU12]; exact Xi_ne (by omega)))
            have w204 : 0 ≤ Xi T11 904 8 ∧ Xi T11 904 8 ≤ 5010 := hHT11.c _ _
            have w207 : Xi U14 904 99 = Xi U12 904 99 := (show Xi U14 904 99 = Xi U12 904 99 from by rw [eU14]; exact Xi_ne (by omega))
            have w208 : 0 ≤ Xi U12 904 99 ∧ Xi U12 904 99 ≤ 2600 := hHU12.c _ _
            exact ⟨hHU14, hFU14, rfl, (by first | exact t30.1 | exact t102.1 | exact (AT_FR (FR_e eU14) rfl (AT_FR (FR_e eU12) rfl (by assumption : AT T11 _ _)))), (by omega), (by first | assumption | exact (RNV_FR (FR_e eU14) rfl (RNV_FR (FR_e eU12) rfl (by assumption : RNV T11 _)))), (by omega), (by omega), (by omega), (by first | assumption | exact (BDA_FR (FR_e eU14) rfl (BDA_FR (FR_e eU12) rfl (by assumption : BDA T11))))⟩
        · refine l_aload_n rfl rfl ?_
          refine l_iconst rfl ?_
          refine l_pfi rfl rfl rfl rfl ?_
          obtain ⟨U15, eU15⟩ : ∃ T : sS, T = uI U1 904 100 (Int32.ofInt 1) := ⟨_, rfl⟩
          rw [← eU15]
          have hHU15 : HI U15 := by rw [eU15]; exact HI_w hHU1 (show 0 ≤ 1 by omega) (show 1 ≤ 2 by omega)
          have hFU15 : FR md_mo_thing__2 S U15 := by rw [eU15]; exact FR.wI hFU1 (mdf_i (r := (904, 905, 100, 101)) (List.mem_of_getElem? (i := 5) rfl) (inR_i (by omega) (by omega) (by omega) (by omega)))
          have w209 : Xi U15 904 100 = 1 := by rw [eU15]; exact Xi_same (by unfold rg; omega)
          refine l_aload_n rfl rfl ?_
          refine l_dup rfl rfl ?_
          refine l_gfi rfl rfl rfl rfl rfl ?_
          have w210 : (Xi U15 904 8) = (Xi S 904 8) := (show Xi U15 904 8 = Xi U1 904 8 from by rw [eU15]; exact Xi_ne (by omega)).trans ((show Xi U1 904 8 = Xi S 904 8 from by rw [eU1]; exact Xi_ne (by omega)))
          rw [w210]
          refine l_aload_n rfl rfl ?_
          refine l_gfr rfl rfl rfl rfl rfl (hHU15.r 904 4 907 rfl) ?_
          refine l_aload_n rfl rfl ?_
          refine l_gfi rfl rfl rfl rfl rfl ?_
          have w211 : (Xi U15 904 8) = (Xi S 904 8) := (show Xi U15 904 8 = Xi U1 904 8 from by rw [eU15]; exact Xi_ne (by omega)).trans ((show Xi U1 904 8 = Xi S 904 8 from by rw [eU1]; exact Xi_ne (by omega)))
          rw [w211]
          refine l_iaload (n := 5002) rfl rfl (by omega) (by omega) (by unfold rg; omega) ?_
          have w212 : 0 ≤ (Xi U15 907 (((Xi S 904 8)).toNat)) ∧ (Xi U15 907 (((Xi S 904 8)).toNat)) ≤ 154 := hHU15.c _ _
          have e90 : (Xi U15 907 (((Xi S 904 8)).toNat)) = Xi S 907 (Xi S 904 8).toNat := by first | rfl | exact (hFU15.cx 907 rfl _).1 | (rw [(hFU15.cx 907 rfl _).1, show Xi U15 904 8 = Xi S 904 8 by omega])
          refine l_bipush rfl rfl ?_
          refine l_icmp_ne rfl rfl (by unfold rg; omega) (by unfold rg; omega) (fun w213 => ?_) (fun w214 => ?_)
          · refine l_iconst rfl ?_
            refine l_iadd rfl ?_
            refine l_pfi rfl rfl rfl rfl ?_
            obtain ⟨U16, eU16⟩ : ∃ T : sS, T = uI U15 904 8 (Int32.ofInt ((Xi S 904 8) + 1)) := ⟨_, rfl⟩
            rw [← eU16]
            have hHU16 : HI U16 := by rw [eU16]; exact HI_w hHU15 (show 0 ≤ ((Xi S 904 8) + 1) by omega) (show ((Xi S 904 8) + 1) ≤ 5010 by omega)
            have hFU16 : FR md_mo_thing__2 S U16 := by rw [eU16]; exact FR.wI hFU15 (mdf_i (r := (904, 905, 8, 9)) (List.mem_of_getElem? (i := 0) rfl) (inR_i (by omega) (by omega) (by omega) (by omega)))
            have w215 : Xi U16 904 8 = ((Xi S 904 8) + 1) := by rw [eU16]; exact Xi_same (by unfold rg; omega)
            have t102 : AT U16 n c ∧ Xi S 904 8 < Xi U16 904 8 ∧ Xi U16 904 8 ≤ n := by first | (have t := (at_mv (S := S) (P := U15) (TK_FR hF rfl (by assumption : TK S _)) (by first | assumption | exact (by assumption : AT S _ _)) (fun j => ((FR_e eU15).cx 907 rfl j).1.trans (((FR_e eU1).cx 907 rfl j).1)) (fun j => ((FR_e eU15).cx 908 rfl j).1.trans (((FR_e eU1).cx 908 rfl j).1)) ((show Xi U15 904 8 = Xi U1 904 8 from by rw [eU15]; exact Xi_ne (by omega)).trans ((show Xi U1 904 8 = Xi S 904 8 from by rw [eU1]; exact Xi_ne (by omega)))) ((show Xi U15 904 65 = Xi U1 904 65 from by rw [eU15]; exact Xi_ne (by omega)).trans ((show Xi U1 904 65 = Xi S 904 65 from by rw [eU1]; exact Xi_ne (by omega)))) ((show Xi U15 904 69 = Xi U1 904 69 from by rw [eU15]; exact Xi_ne (by omega)).trans ((show Xi U1 904 69 = Xi S 904 69 from by rw [eU1]; exact Xi_ne (by omega)))) ((show Xi U15 904 93 = Xi U1 904 93 from by rw [eU15]; exact Xi_ne (by omega)).trans ((show Xi U1 904 93 = Xi S 904 93 from by rw [eU1]; exact Xi_ne (by omega)))) eU16 (by omega) (by omega) (by omega) (by omega) (Or.inl rfl)); exact ⟨t.1, by omega, by omega⟩) | (have t := (at_mv2 (S := S) (P := U15) (TK_FR hF rfl (by assumption : TK S _)) (by first | assumption | exact (by assumption : AT S _ _)) (fun j => ((FR_e eU15).cx 907 rfl j).1.trans (((FR_e eU1).cx 907 rfl j).1)) (fun j => ((FR_e eU15).cx 908 rfl j).1.trans (((FR_e eU1).cx 908 rfl j).1)) ((show Xi U15 904 8 = Xi U1 904 8 from by rw [eU15]; exact Xi_ne (by omega)).trans ((show Xi U1 904 8 = Xi S 904 8 from by rw [eU1]; exact Xi_ne (by omega)))) ((show Xi U15 904 65 = Xi U1 904 65 from by rw [eU15]; exact Xi_ne (by omega)).trans ((show Xi U1 904 65 = Xi S 904 65 from by rw [eU1]; exact Xi_ne (by omega)))) ((show Xi U15 904 69 = Xi U1 904 69 from by rw [eU15]; exact Xi_ne (by omega)).trans ((show Xi U1 904 69 = Xi S 904 69 from by rw [eU1]; exact Xi_ne (by omega)))) ((show Xi U15 904 93 = Xi U1 904 93 from by rw [eU15]; exact Xi_ne (by omega)).trans ((show Xi U1 904 93 = Xi S 904 93 from by rw [eU1]; exact Xi_ne (by omega)))) eU16 (by omega) (by omega) (by omega) (by omega) (by omega)); exact ⟨t.1, by omega, by omega⟩)
            refine l_goto rfl rfl ?_
            refine l_return rfl rfl ?_
            have w216 : Xi U16 904 100 = Xi U15 904 100 := (show Xi U16 904 100 = Xi U15 904 100 from by rw [eU16]; exact Xi_ne (by omega))
            have w217 : 0 ≤ Xi U15 904 100 ∧ Xi U15 904 100 ≤ 2 := hHU15.c _ _
            have w218 : Xi U16 904 101 = Xi U1 904 101 := (show Xi U16 904 101 = Xi U15 904 101 from by rw [eU16]; exact Xi_ne (by omega)).trans ((show Xi U15 904 101 = Xi U1 904 101 from by rw [eU15]; exact Xi_ne (by omega)))
            have w219 : 0 ≤ Xi U1 904 101 ∧ Xi U1 904 101 ≤ 5010 := hHU1.c _ _
            have w220 : Xi U16 904 65 = Xi S 904 65 := (show Xi U16 904 65 = Xi U15 904 65 from by rw [eU16]; exact Xi_ne (by omega)).trans ( (show Xi U15 904 65 = Xi U1 904 65 from by rw [eU15]; exact Xi_ne (by omega)).trans ((show Xi U1 904 65 = Xi S 904 65 from by rw [eU1]; exact Xi_ne (by omega))))
            have w222 : Xi U16 904 69 = Xi S 904 69 := (show Xi U16 904 69 = Xi U15 904 69 from by rw [eU16]; exact Xi_ne (by omega)).trans ( (show Xi U15 904 69 = Xi U1 904 69 from by rw [eU15]; exact Xi_ne (by omega)).trans ((show Xi U1 904 69 = Xi S 904 69 from by rw [eU1]; exact Xi_ne (by omega))))
            have w224 : 0 ≤ Xi U16 904 8 ∧ Xi U16 904 8 ≤ 5010 := hHU16.c _ _
            have w227 : Xi U16 904 99 = Xi S 904 99 := (show Xi U16 904 99 = Xi U15 904 99 from by rw [eU16]; exact Xi_ne (by omega)).trans ( (show Xi U15 904 99 = Xi U1 904 99 from by rw [eU15]; exact Xi_ne (by omega)).trans ((show Xi U1 904 99 = Xi S 904 99 from by rw [eU1]; exact Xi_ne (by omega))))
            have w228 : 0 ≤ Xi S 904 99 ∧ Xi S 904 99 ≤ 2600 := hH.c _ _
            exact ⟨hHU16, hFU16, rfl, (by first | exact t30.1 | exact t102.1 | exact (by assumption : AT U16 _ _)), (by omega), (by first | assumption | exact (RNV_FR (FR_e eU16) rfl (RNV_FR (FR_e eU15) rfl (RNV_FR (FR_e eU1) rfl (by assumption : RNV S _))))), (by omega), (by omega), (by omega), (by first | assumption | exact (BDA_FR (FR_e eU16) rfl (BDA_FR (FR_e eU15) rfl (BDA_FR (FR_e eU1) rfl (by assumption : BDA S)))))⟩
          · refine l_iconst rfl ?_
            refine l_goto rfl rfl ?_
            refine l_iadd rfl ?_
            refine l_pfi rfl rfl rfl rfl ?_
            obtain ⟨U17, eU17⟩ : ∃ T : sS, T = uI U15 904 8 (Int32.ofInt ((Xi S 904 8) + 2)) := ⟨_, rfl⟩
            rw [← eU17]
            have hHU17 : HI U17 := by rw [eU17]; exact HI_w hHU15 (show 0 ≤ ((Xi S 904 8) + 2) by omega) (show ((Xi S 904 8) + 2) ≤ 5010 by omega)
            have hFU17 : FR md_mo_thing__2 S U17 := by rw [eU17]; exact FR.wI hFU15 (mdf_i (r := (904, 905, 8, 9)) (List.mem_of_getElem? (i := 0) rfl) (inR_i (by omega) (by omega) (by omega) (by omega)))
            have w229 : Xi U17 904 8 = ((Xi S 904 8) + 2) := by rw [eU17]; exact Xi_same (by unfold rg; omega)
            have t102 : AT U17 n c ∧ Xi S 904 8 < Xi U17 904 8 ∧ Xi U17 904 8 ≤ n := by first | (have t := (at_mv (S := S) (P := U15) (TK_FR hF rfl (by assumption : TK S _)) (by first | assumption | exact (by assumption : AT S _ _)) (fun j => ((FR_e eU15).cx 907 rfl j).1.trans (((FR_e eU1).cx 907 rfl j).1)) (fun j => ((FR_e eU15).cx 908 rfl j).1.trans (((FR_e eU1).cx 908 rfl j).1)) ((show Xi U15 904 8 = Xi U1 904 8 from by rw [eU15]; exact Xi_ne (by omega)).trans ((show Xi U1 904 8 = Xi S 904 8 from by rw [eU1]; exact Xi_ne (by omega)))) ((show Xi U15 904 65 = Xi U1 904 65 from by rw [eU15]; exact Xi_ne (by omega)).trans ((show Xi U1 904 65 = Xi S 904 65 from by rw [eU1]; exact Xi_ne (by omega)))) ((show Xi U15 904 69 = Xi U1 904 69 from by rw [eU15]; exact Xi_ne (by omega)).trans ((show Xi U1 904 69 = Xi S 904 69 from by rw [eU1]; exact Xi_ne (by omega)))) ((show Xi U15 904 93 = Xi U1 904 93 from by rw [eU15]; exact Xi_ne (by omega)).trans ((show Xi U1 904 93 = Xi S 904 93 from by rw [eU1]; exact Xi_ne (by omega)))) eU17 (by omega) (by omega) (by omega) (by omega) (Or.inl rfl)); exact ⟨t.1, by omega, by omega⟩) | (have t := (at_mv2 (S := S) (P := U15) (TK_FR hF rfl (by assumption : TK S _)) (by first | assumption | exact (by assumption : AT S _ _)) (fun j => ((FR_e eU15).cx 907 rfl j).1.trans (((FR_e eU1).cx 907 rfl j).1)) (fun j => ((FR_e eU15).cx 908 rfl j).1.trans (((FR_e eU1).cx 908 rfl j).1)) ((show Xi U15 904 8 = Xi U1 904 8 from by rw [eU15]; exact Xi_ne (by omega)).trans ((show Xi U1 904 8 = Xi S 904 8 from by rw [eU1]; exact Xi_ne (by omega)))) ((show Xi U15 904 65 = Xi U1 904 65 from by rw [eU15]; exact Xi_ne (by omega)).trans ((show Xi U1 904 65 = Xi S 904 65 from by rw [eU1]; exact Xi_ne (by omega)))) ((show Xi U15 904 69 = Xi U1 904 69 from by rw [eU15]; exact Xi_ne (by omega)).trans ((show Xi U1 904 69 = Xi S 904 69 from by rw [eU1]; exact Xi_ne (by omega)))) ((show Xi U15 904 93 = Xi U1 904 93 from by rw [eU15]; exact Xi_ne (by omega)).trans ((show Xi U1 904 93 = Xi S 904 93 from by rw [eU1]; exact Xi_ne (by omega)))) eU17 (by omega) (by omega) (by omega) (by omega) (by omega)); exact ⟨t.1, by omega, by omega⟩)
            refine l_goto rfl rfl ?_
            refine l_return rfl rfl ?_
            have w230 : Xi U17 904 100 = Xi U15 904 100 := (show Xi U17 904 100 = Xi U15 904 100 from by rw [eU17]; exact Xi_ne (by omega))
            have w231 : 0 ≤ Xi U15 904 100 ∧ Xi U15 904 100 ≤ 2 := hHU15.c _ _
            have w232 : Xi U17 904 101 = Xi U1 904 101 := (show Xi U17 904 101 = Xi U15 904 101 from by rw [eU17]; exact Xi_ne (by omega)).trans ((show Xi U15 904 101 = Xi U1 904 101 from by rw [eU15]; exact Xi_ne (by omega)))
            have w233 : 0 ≤ Xi U1 904 101 ∧ Xi U1 904 101 ≤ 5010 := hHU1.c _ _
            have w234 : Xi U17 904 65 = Xi S 904 65 := (show Xi U17 904 65 = Xi U15 904 65 from by rw [eU17]; exact Xi_ne (by omega)).trans ( (show Xi U15 904 65 = Xi U1 904 65 from by rw [eU15]; exact Xi_ne (by omega)).trans ((show Xi U1 904 65 = Xi S 904 65 from by rw [eU1]; exact Xi_ne (by omega))))
            have w236 : Xi U17 904 69 = Xi S 904 69 := (show Xi U17 904 69 = Xi U15 904 69 from by rw [eU17]; exact Xi_ne (by omega)).trans ( (show Xi U15 904 69 = Xi U1 904 69 from by rw [eU15]; exact Xi_ne (by omega)).trans ((show Xi U1 904 69 = Xi S 904 69 from by rw [eU1]; exact Xi_ne (by omega))))
            have w238 : 0 ≤ Xi U17 904 8 ∧ Xi U17 904 8 ≤ 5010 := hHU17.c _ _
            have w241 : Xi U17 904 99 = Xi S 904 99 := (show Xi U17 904 99 = Xi U15 904 99 from by rw [eU17]; exact Xi_ne (by omega)).trans ( (show Xi U15 904 99 = Xi U1 904 99 from by rw [eU15]; exact Xi_ne (by omega)).trans ((show Xi U1 904 99 = Xi S 904 99 from by rw [eU1]; exact Xi_ne (by omega))))
            have w242 : 0 ≤ Xi S 904 99 ∧ Xi S 904 99 ≤ 2600 := hH.c _ _
            exact ⟨hHU17, hFU17, rfl, (by first | exact t30.1 | exact t102.1 | exact (by assumption : AT U17 _ _)), (by omega), (by first | assumption | exact (RNV_FR (FR_e eU17) rfl (RNV_FR (FR_e eU15) rfl (RNV_FR (FR_e eU1) rfl (by assumption : RNV S _))))), (by omega), (by omega), (by omega), (by first | assumption | exact (BDA_FR (FR_e eU17) rfl (BDA_FR (FR_e eU15) rfl (BDA_FR (FR_e eU1) rfl (by assumption : BDA S)))))⟩
  · refine l_aload_n rfl rfl ?_
    refine l_iconst rfl ?_
    refine l_pfi rfl rfl rfl rfl ?_
    obtain ⟨U18, eU18⟩ : ∃ T : sS, T = uI U1 904 100 (Int32.ofInt 0) := ⟨_, rfl⟩
    rw [← eU18]
    have hHU18 : HI U18 := by rw [eU18]; exact HI_w hHU1 (show 0 ≤ 0 by omega) (show 0 ≤ 2 by omega)
    have hFU18 : FR md_mo_thing__2 S U18 := by rw [eU18]; exact FR.wI hFU1 (mdf_i (r := (904, 905, 100, 101)) (List.mem_of_getElem? (i := 5) rfl) (inR_i (by omega) (by omega) (by omega) (by omega)))
    have w243 : Xi U18 904 100 = 0 := by rw [eU18]; exact Xi_same (by unfold rg; omega)
    refine l_aload_n rfl rfl ?_
    refine l_dup rfl rfl ?_
    refine l_gfi rfl rfl rfl rfl rfl ?_
    have w244 : (Xi U18 904 8) = (Xi S 904 8) := (show Xi U18 904 8 = Xi U1 904 8 from by rw [eU18]; exact Xi_ne (by omega)).trans ((show Xi U1 904 8 = Xi S 904 8 from by rw [eU1]; exact Xi_ne (by omega)))
    rw [w244]
    refine l_iconst rfl ?_
    refine l_iadd rfl ?_
    refine l_pfi rfl rfl rfl rfl ?_
    obtain ⟨U19, eU19⟩ : ∃ T : sS, T = uI U18 904 8 (Int32.ofInt ((Xi S 904 8) + 1)) := ⟨_, rfl⟩
    rw [← eU19]
    have hHU19 : HI U19 := by rw [eU19]; exact HI_w hHU18 (show 0 ≤ ((Xi S 904 8) + 1) by omega) (show ((Xi S 904 8) + 1) ≤ 5010 by omega)
    have hFU19 : FR md_mo_thing__2 S U19 := by rw [eU19]; exact FR.wI hFU18 (mdf_i (r := (904, 905, 8, 9)) (List.mem_of_getElem? (i := 0) rfl) (inR_i (by omega) (by omega) (by omega) (by omega)))
    have w245 : Xi U19 904 8 = ((Xi S 904 8) + 1) := by rw [eU19]; exact Xi_same (by unfold rg; omega)
    have t30 : AT U19 n c ∧ _ := (at_mv (S := S) (P := U18) (TK_FR hF rfl (by assumption : TK S _)) (by first | assumption | exact (by assumption : AT S _ _)) (fun j => ((FR_e eU18).cx 907 rfl j).1.trans (((FR_e eU1).cx 907 rfl j).1)) (fun j => ((FR_e eU18).cx 908 rfl j).1.trans (((FR_e eU1).cx 908 rfl j).1)) ((show Xi U18 904 8 = Xi U1 904 8 from by rw [eU18]; exact Xi_ne (by omega)).trans ((show Xi U1 904 8 = Xi S 904 8 from by rw [eU1]; exact Xi_ne (by omega)))) ((show Xi U18 904 65 = Xi U1 904 65 from by rw [eU18]; exact Xi_ne (by omega)).trans ((show Xi U1 904 65 = Xi S 904 65 from by rw [eU1]; exact Xi_ne (by omega)))) ((show Xi U18 904 69 = Xi U1 904 69 from by rw [eU18]; exact Xi_ne (by omega)).trans ((show Xi U1 904 69 = Xi S 904 69 from by rw [eU1]; exact Xi_ne (by omega)))) ((show Xi U18 904 93 = Xi U1 904 93 from by rw [eU18]; exact Xi_ne (by omega)).trans ((show Xi U1 904 93 = Xi S 904 93 from by rw [eU1]; exact Xi_ne (by omega)))) eU19 (by omega) (by omega) (by omega) (by omega) (Or.inl rfl))
    refine l_goto rfl rfl ?_
    refine l_return rfl rfl ?_
    have w246 : Xi U19 904 100 = Xi U18 904 100 := (show Xi U19 904 100 = Xi U18 904 100 from by rw [eU19]; exact Xi_ne (by omega))
    have w247 : 0 ≤ Xi U18 904 100 ∧ Xi U18 904 100 ≤ 2 := hHU18.c _ _
    have w248 : Xi U19 904 101 = Xi U1 904 101 := (show Xi U19 904 101 = Xi U18 904 101 from by rw [eU19]; exact Xi_ne (by omega)).trans ((show Xi U18 904 101 = Xi U1 904 101 from by rw [eU18]; exact Xi_ne (by omega)))
    have w249 : 0 ≤ Xi U1 904 101 ∧ Xi U1 904 101 ≤ 5010 := hHU1.c _ _
    have w250 : Xi U19 904 65 = Xi S 904 65 := (show Xi U19 904 65 = Xi U18 904 65 from by rw [eU19]; exact Xi_ne (by omega)).trans ( (show Xi U18 904 65 = Xi U1 904 65 from by rw [eU18]; exact Xi_ne (by omega)).trans ((show Xi U1 904 65 = Xi S 904 65 from by rw [eU1]; exact Xi_ne (by omega))))
    have w252 : Xi U19 904 69 = Xi S 904 69 := (show Xi U19 904 69 = Xi U18 904 69 from by rw [eU19]; exact Xi_ne (by omega)).trans ( (show Xi U18 904 69 = Xi U1 904 69 from by rw [eU18]; exact Xi_ne (by omega)).trans ((show Xi U1 904 69 = Xi S 904 69 from by rw [eU1]; exact Xi_ne (by omega))))
    have w254 : 0 ≤ Xi U19 904 8 ∧ Xi U19 904 8 ≤ 5010 := hHU19.c _ _
    have w257 : Xi U19 904 99 = Xi S 904 99 := (show Xi U19 904 99 = Xi U18 904 99 from by rw [eU19]; exact Xi_ne (by omega)).trans ( (show Xi U18 904 99 = Xi U1 904 99 from by rw [eU18]; exact Xi_ne (by omega)).trans ((show Xi U1 904 99 = Xi S 904 99 from by rw [eU1]; exact Xi_ne (by omega))))
    have w258 : 0 ≤ Xi S 904 99 ∧ Xi S 904 99 ≤ 2600 := hH.c _ _
    exact ⟨hHU19, hFU19, rfl, (by first | exact t30.1 | exact t102.1 | exact (by assumption : AT U19 _ _)), (by omega), (by first | assumption | exact (RNV_FR (FR_e eU19) rfl (RNV_FR (FR_e eU18) rfl (RNV_FR (FR_e eU1) rfl (by assumption : RNV S _))))), (by omega), (by omega), (by omega), (by first | assumption | exact (BDA_FR (FR_e eU19) rfl (BDA_FR (FR_e eU18) rfl (BDA_FR (FR_e eU1) rfl (by assumption : BDA S)))))⟩
def md_mo_property__2 : List rec := [(904, 905, 8, 9), (904, 905, 65, 66), (904, 905, 66, 67), (904, 905, 69, 70), (950, 951, 0, 100000), (951, 952, 0, 100000), (956, 957, 0, 100000)]
abbrev Q_mo_property__2 (S : sS) (n : Nat) (c : Nat) : pst := fun r S1 => HI S1 ∧ FR md_mo_property__2 S S1 ∧ (r = none ∧ (AT S1 n c) ∧ (Xi S 904 8 ≤ Xi S1 904 8 ∧ (Xi S1 904 8 ≤ n ∨ Xi S1 904 8 = Xi S 904 8)) ∧ (RNV S1 n) ∧ (Xi S1 904 65 = 0 → Xi S 904 65 = 0) ∧ (Xi S 904 69 ≤ Xi S1 904 69) ∧ (KT S1 S (Xi S 904 93)) ∧ (Xi S1 904 65 = 0 → Xi S1 956 (Xi S 904 93).toNat < Xi S1 904 69) ∧ (BDA S1))
set_option maxRecDepth 100000 in
theorem t_mo_property__2 {S : sS} (hH : HI S) (n : Nat) (c : Nat) (hT : TK S n) (hA : AT S n c) (hv : RNV S n) (tc : Xi S 904 93 ≤ 1699) (hBDA : BDA S) (d : Nat) : Mt lay0 (d + 3) m_mo_property [.ref 904] S (Q_mo_property__2 S n c) := by
  refine Mt_R rfl rfl ?_
  have hF : FR md_mo_property__2 S S := FR.rf
  have w1 : 0 ≤ Xi S 904 65 ∧ Xi S 904 65 ≤ 1 := hH.c _ _
  have w2 : 0 ≤ Xi S 904 69 ∧ Xi S 904 69 ≤ 2600 := hH.c _ _
  have w3 : 0 ≤ Xi S 904 8 ∧ Xi S 904 8 ≤ 5010 := hH.c _ _
  have w4 : 0 ≤ Xi S 904 93 ∧ Xi S 904 93 ≤ 1700 := hH.c _ _
  have hn5 := hT.1
  have hat := hA
  have h8 : 0 ≤ Xi S 904 8 ∧ Xi S 904 8 ≤ 5010 := hH.c _ _
  have h69 : 0 ≤ Xi S 904 69 ∧ Xi S 904 69 ≤ 2600 := hH.c _ _
  have ha0 : Xi S 904 65 = 0 → Xi S 904 8 ≤ n := fun q => (hA q).1
  have ha3 : Xi S 904 65 = 0 → 2 * Xi S 904 69 ≤ Xi S 904 8 + 1 := fun q => (hA q).2.1
  clear hat
  refine l_aload_n rfl rfl ?_
  refine l_bipush rfl rfl ?_
  refine l_callV rfl rfl rfl (t_mo_take__3 hH n c 102 ⟨by omega, by omega⟩ (by first | assumption | exact (TK_FR hF rfl (by assumption : TK S _))) (by first | assumption | exact (by assumption : AT S _ _)) (by first | assumption | omega) (by first | assumption | exact (by assumption : BDA S)) _) ?_
  rintro _ T1 ⟨hHT1, w15, rfl, w9, w10, w11, w12, w13⟩
  have hFT1 : FR md_mo_property__2 S T1 := FR.tr hF w15 rfl
  show Rl _ _ _ _ _ [] _ _
  refine l_aload_n rfl rfl ?_
  refine l_gfr rfl rfl rfl rfl rfl (hHT1.r 904 86 956 rfl) ?_
  refine l_aload_n rfl rfl ?_
  refine l_gfi rfl rfl rfl rfl rfl ?_
  have w16 : (Xi T1 904 93) = (Xi S 904 93) := (show Xi T1 904 93 = Xi S 904 93 from w15.x _ _ rfl)
  rw [w16]
  refine l_aload_n rfl rfl ?_
  have w17 : 0 ≤ Xi T1 904 65 ∧ Xi T1 904 65 ≤ 1 := hHT1.c _ _
  have w18 : Xi T1 904 69 = Xi S 904 69 := (show Xi T1 904 69 = Xi S 904 69 from w15.x _ _ rfl)
  have w20 : 0 ≤ Xi T1 904 8 ∧ Xi T1 904 8 ≤ 5010 := hHT1.c _ _
  refine l_callV rfl rfl rfl (t_mo_run__2 hHT1 n c (by first | assumption | exact (TK_FR hFT1 rfl (by assumption : TK S _))) (by first | assumption | exact (by assumption : AT T1 _ _)) (by first | assumption | exact (RNV_FR w15 rfl (by assumption : RNV S _))) (by first | assumption | exact (by assumption : BDA T1)) _) ?_
  rintro _ T2 ⟨hHT2, w30, z29, rfl, w29, w23, w24, w25, w26, w27, w28⟩
  have hFT2 : FR md_mo_property__2 S T2 := FR.tr hFT1 w30 rfl
  show Rl _ _ _ _ _ [iv z29, iv (Xi S 904 93), .ref 956] _ _
  refine l_iastore (n := 1700) rfl rfl (by omega) (by omega) (by unfold rg; omega) ?_
  obtain ⟨U3, eU3⟩ : ∃ T : sS, T = uI T2 956 (((Xi S 904 93)).toNat) (Int32.ofInt z29) := ⟨_, rfl⟩
  rw [← eU3]
  have hHU3 : HI U3 := by rw [eU3]; exact HI_w hHT2 (show 0 ≤ z29 by omega) (show z29 ≤ 2600 by omega)
  have hFU3 : FR md_mo_property__2 S U3 := by rw [eU3]; exact FR.wI hFT2 (mdf_i (r := (956, 957, 0, 100000)) (List.mem_of_getElem? (i := 6) rfl) (inR_i (by omega) (by omega) (by omega) (by omega)))
  have w31 : Xi U3 956 (((Xi S 904 93)).toNat) = z29 := by rw [eU3]; exact Xi_same (by unfold rg; omega)
  refine l_aload_n rfl rfl ?_
  refine l_bipush rfl rfl ?_
  have w32 : Xi U3 904 65 = Xi T2 904 65 := (show Xi U3 904 65 = Xi T2 904 65 from by rw [eU3]; exact Xi_ne (by omega))
  have w33 : 0 ≤ Xi T2 904 65 ∧ Xi T2 904 65 ≤ 1 := hHT2.c _ _
  have w36 : Xi U3 904 8 = Xi T2 904 8 := (show Xi U3 904 8 = Xi T2 904 8 from by rw [eU3]; exact Xi_ne (by omega))
  have w37 : 0 ≤ Xi T2 904 8 ∧ Xi T2 904 8 ≤ 5010 := hHT2.c _ _
  refine l_callV rfl rfl rfl (t_mo_take__3 hHU3 n c 107 ⟨by omega, by omega⟩ (by first | assumption | exact (TK_FR hFU3 rfl (by assumption : TK S _))) (by first | assumption | exact (AT_FR (FR_e eU3) rfl (by assumption : AT T2 _ _))) (by first | assumption | omega) (by first | assumption | exact (BDA_FR (FR_e eU3) rfl (by assumption : BDA T2))) _) ?_
  rintro _ T4 ⟨hHT4, w46, rfl, w40, w41, w42, w43, w44⟩
  have hFT4 : FR md_mo_property__2 S T4 := FR.tr hFU3 w46 rfl
  show Rl _ _ _ _ _ [] _ _
  refine l_return rfl rfl ?_
  have w47 : Xi T4 956 (Xi S 904 93).toNat = Xi U3 956 (Xi S 904 93).toNat := (show Xi T4 956 (Xi S 904 93).toNat = Xi U3 956 (Xi S 904 93).toNat from (w46.cx 956 rfl _).1)
  have w48 : 0 ≤ Xi T4 904 65 ∧ Xi T4 904 65 ≤ 1 := hHT4.c _ _
  have w49 : Xi T4 904 69 = Xi T2 904 69 := (show Xi T4 904 69 = Xi U3 904 69 from w46.x _ _ rfl).trans ((show Xi U3 904 69 = Xi T2 904 69 from by rw [eU3]; exact Xi_ne (by omega)))
  have w50 : 0 ≤ Xi T2 904 69 ∧ Xi T2 904 69 ≤ 2600 := hHT2.c _ _
  have w51 : 0 ≤ Xi T4 904 8 ∧ Xi T4 904 8 ≤ 5010 := hHT4.c _ _
  have w52 : Xi T4 904 93 = Xi S 904 93 := (show Xi T4 904 93 = Xi U3 904 93 from w46.x _ _ rfl).trans ( (show Xi U3 904 93 = Xi T2 904 93 from by rw [eU3]; exact Xi_ne (by omega)).trans ( (show Xi T2 904 93 = Xi T1 904 93 from w30.x _ _ rfl).trans ((show Xi T1 904 93 = Xi S 904 93 from w15.x _ _ rfl))))
  exact ⟨hHT4, hFT4, rfl, (by first | assumption | exact (by assumption : AT T4 _ _)), (by omega), (by first | assumption | exact (RNV_FR w46 rfl (RNV_FR (FR_e eU3) rfl (by assumption : RNV T2 _)))), (by omega), (by omega), ((KT_FR w46 rfl (KT.w (KT_FR w30 rfl (KT_FR w15 rfl KT.rf)) eU3 (by omega)))), (by omega), (by first | assumption | exact (by assumption : BDA T4))⟩
def md_mo_thingOfTest__2 : List rec := [(904, 905, 8, 9), (904, 905, 65, 66), (904, 905, 66, 67), (904, 905, 69, 70), (904, 905, 99, 100), (904, 905, 100, 101), (904, 905, 101, 102), (950, 951, 0, 100000), (951, 952, 0, 100000), (954, 955, 0, 100000), (955, 956, 0, 100000)]
abbrev Q_mo_thingOfTest__2 (S : sS) (n : Nat) (c : Nat) : pst := fun r S1 => HI S1 ∧ FR md_mo_thingOfTest__2 S S1 ∧ (r = none ∧ (AT S1 n c) ∧ (Xi S 904 8 ≤ Xi S1 904 8 ∧ (Xi S1 904 8 ≤ n ∨ Xi S1 904 8 = Xi S 904 8)) ∧ (RNV S1 n) ∧ (Xi S1 904 65 = 0 → Xi S 904 65 = 0) ∧ (Xi S 904 69 ≤ Xi S1 904 69) ∧ (KT S1 S (Xi S 904 93)) ∧ (Xi S1 904 65 = 0 → THV (Xi S1 904 69) n (Xi S1 954 (Xi S 904 93).toNat) (Xi S1 955 (Xi S 904 93).toNat)) ∧ (BDA S1))
set_option maxRecDepth 100000 in
theorem t_mo_thingOfTest__2 {S : sS} (hH : HI S) (n : Nat) (c : Nat) (hT : TK S n) (hA : AT S n c) (hv : RNV S n) (tc : Xi S 904 93 ≤ 1699) (hBDA : BDA S) (d : Nat) : Mt lay0 (d + 5) m_mo_thingOfTest [.ref 904] S (Q_mo_thingOfTest__2 S n c) := by
  refine Mt_R rfl rfl ?_
  have hF : FR md_mo_thingOfTest__2 S S := FR.rf
  have w1 : 0 ≤ Xi S 904 65 ∧ Xi S 904 65 ≤ 1 := hH.c _ _
  have w2 : 0 ≤ Xi S 904 69 ∧ Xi S 904 69 ≤ 2600 := hH.c _ _
  have w3 : 0 ≤ Xi S 904 8 ∧ Xi S 904 8 ≤ 5010 := hH.c _ _
  have w4 : 0 ≤ Xi S 904 93 ∧ Xi S 904 93 ≤ 1700 := hH.c _ _
  have hn5 := hT.1
  have hat := hA
  have h8 : 0 ≤ Xi S 904 8 ∧ Xi S 904 8 ≤ 5010 := hH.c _ _
  have h69 : 0 ≤ Xi S 904 69 ∧ Xi S 904 69 ≤ 2600 := hH.c _ _
  have ha0 : Xi S 904 65 = 0 → Xi S 904 8 ≤ n := fun q => (hA q).1
  have ha3 : Xi S 904 65 = 0 → 2 * Xi S 904 69 ≤ Xi S 904 8 + 1 := fun q => (hA q).2.1
  clear hat
  refine l_aload_n rfl rfl ?_
  have w5 : 0 ≤ Xi S 904 100 ∧ Xi S 904 100 ≤ 2 := hH.c _ _
  have w6 : 0 ≤ Xi S 904 101 ∧ Xi S 904 101 ≤ 5010 := hH.c _ _
  have w11 : 0 ≤ Xi S 904 99 ∧ Xi S 904 99 ≤ 2600 := hH.c _ _
  refine l_callV rfl rfl rfl (t_mo_thing__2 hH n c (by first | assumption | exact (TK_FR hF rfl (by assumption : TK S _))) (by first | assumption | exact (by assumption : AT S _ _)) (by first | assumption | exact (by assumption : RNV S _)) (by first | assumption | exact (by assumption : BDA S)) _) ?_
  rintro _ T1 ⟨hHT1, w20, rfl, w12, w13, w14, w15, w16, w17, w18⟩
  have hFT1 : FR md_mo_thingOfTest__2 S T1 := FR.tr hF w20 rfl
  show Rl _ _ _ _ _ [] _ _
  refine l_aload_n rfl rfl ?_
  refine l_gfr rfl rfl rfl rfl rfl (hHT1.r 904 84 954 rfl) ?_
  refine l_aload_n rfl rfl ?_
  refine l_gfi rfl rfl rfl rfl rfl ?_
  have w21 : (Xi T1 904 93) = (Xi S 904 93) := (show Xi T1 904 93 = Xi S 904 93 from w20.x _ _ rfl)
  rw [w21]
  refine l_aload_n rfl rfl ?_
  refine l_gfi rfl rfl rfl rfl rfl ?_
  have w22 : 0 ≤ (Xi T1 904 100) ∧ (Xi T1 904 100) ≤ 2 := hHT1.c _ _
  refine l_sipush rfl rfl ?_
  refine l_imul rfl ?_
  refine l_aload_n rfl rfl ?_
  refine l_gfi rfl rfl rfl rfl rfl ?_
  have w23 : 0 ≤ (Xi T1 904 101) ∧ (Xi T1 904 101) ≤ 5010 := hHT1.c _ _
  refine l_iadd rfl ?_
  refine l_iastore (n := 1700) rfl rfl (by omega) (by omega) (by unfold rg; omega) ?_
  obtain ⟨U2, eU2⟩ : ∃ T : sS, T = uI T1 954 (((Xi S 904 93)).toNat) (Int32.ofInt (((Xi T1 904 100) * 10000) + (Xi T1 904 101))) := ⟨_, rfl⟩
  rw [← eU2]
  have hHU2 : HI U2 := by rw [eU2]; exact HI_w hHT1 (show 0 ≤ (((Xi T1 904 100) * 10000) + (Xi T1 904 101)) by omega) (show (((Xi T1 904 100) * 10000) + (Xi T1 904 101)) ≤ 25010 by omega)
  have hFU2 : FR md_mo_thingOfTest__2 S U2 := by rw [eU2]; exact FR.wI hFT1 (mdf_i (r := (954, 955, 0, 100000)) (List.mem_of_getElem? (i := 9) rfl) (inR_i (by omega) (by omega) (by omega) (by omega)))
  have w24 : Xi U2 954 (((Xi S 904 93)).toNat) = (((Xi T1 904 100) * 10000) + (Xi T1 904 101)) := by rw [eU2]; exact Xi_same (by unfold rg; omega)
  refine l_aload_n rfl rfl ?_
  refine l_gfr rfl rfl rfl rfl rfl (hHU2.r 904 85 955 rfl) ?_
  refine l_aload_n rfl rfl ?_
  refine l_gfi rfl rfl rfl rfl rfl ?_
  have w25 : (Xi U2 904 93) = (Xi S 904 93) := (show Xi U2 904 93 = Xi T1 904 93 from by rw [eU2]; exact Xi_ne (by omega)).trans ((show Xi T1 904 93 = Xi S 904 93 from w20.x _ _ rfl))
  rw [w25]
  refine l_aload_n rfl rfl ?_
  refine l_gfi rfl rfl rfl rfl rfl ?_
  have w26 : 0 ≤ (Xi U2 904 99) ∧ (Xi U2 904 99) ≤ 2600 := hHU2.c _ _
  have e35 : (Xi U2 904 99) = Xi T1 904 99 := by rw [eU2]; exact Xi_ne (by omega)
  refine l_iastore (n := 1700) rfl rfl (by omega) (by omega) (by unfold rg; omega) ?_
  obtain ⟨U3, eU3⟩ : ∃ T : sS, T = uI U2 955 (((Xi S 904 93)).toNat) (Int32.ofInt (Xi U2 904 99)) := ⟨_, rfl⟩
  rw [← eU3]
  have hHU3 : HI U3 := by rw [eU3]; exact HI_w hHU2 (show 0 ≤ (Xi U2 904 99) by omega) (show (Xi U2 904 99) ≤ 2600 by omega)
  have hFU3 : FR md_mo_thingOfTest__2 S U3 := by rw [eU3]; exact FR.wI hFU2 (mdf_i (r := (955, 956, 0, 100000)) (List.mem_of_getElem? (i := 10) rfl) (inR_i (by omega) (by omega) (by omega) (by omega)))
  have w27 : Xi U3 955 (((Xi S 904 93)).toNat) = (Xi U2 904 99) := by rw [eU3]; exact Xi_same (by unfold rg; omega)
  refine l_return rfl rfl ?_
  have w28 : Xi U3 954 (Xi S 904 93).toNat = Xi U2 954 (Xi S 904 93).toNat := (show Xi U3 954 (Xi S 904 93).toNat = Xi U2 954 (Xi S 904 93).toNat from by rw [eU3]; exact Xi_ne (by omega))
  have w29 : Xi U3 904 100 = Xi T1 904 100 := (show Xi U3 904 100 = Xi U2 904 100 from by rw [eU3]; exact Xi_ne (by omega)).trans ((show Xi U2 904 100 = Xi T1 904 100 from by rw [eU2]; exact Xi_ne (by omega)))
  have w30 : 0 ≤ Xi T1 904 100 ∧ Xi T1 904 100 ≤ 2 := hHT1.c _ _
  have w31 : Xi U3 904 101 = Xi T1 904 101 := (show Xi U3 904 101 = Xi U2 904 101 from by rw [eU3]; exact Xi_ne (by omega)).trans ((show Xi U2 904 101 = Xi T1 904 101 from by rw [eU2]; exact Xi_ne (by omega)))
  have w32 : 0 ≤ Xi T1 904 101 ∧ Xi T1 904 101 ≤ 5010 := hHT1.c _ _
  have w33 : Xi U3 904 65 = Xi T1 904 65 := (show Xi U3 904 65 = Xi U2 904 65 from by rw [eU3]; exact Xi_ne (by omega)).trans ((show Xi U2 904 65 = Xi T1 904 65 from by rw [eU2]; exact Xi_ne (by omega)))
  have w34 : 0 ≤ Xi T1 904 65 ∧ Xi T1 904 65 ≤ 1 := hHT1.c _ _
  have w35 : Xi U3 904 69 = Xi T1 904 69 := (show Xi U3 904 69 = Xi U2 904 69 from by rw [eU3]; exact Xi_ne (by omega)).trans ((show Xi U2 904 69 = Xi T1 904 69 from by rw [eU2]; exact Xi_ne (by omega)))
  have w36 : 0 ≤ Xi T1 904 69 ∧ Xi T1 904 69 ≤ 2600 := hHT1.c _ _
  have w37 : Xi U3 904 8 = Xi T1 904 8 := (show Xi U3 904 8 = Xi U2 904 8 from by rw [eU3]; exact Xi_ne (by omega)).trans ((show Xi U2 904 8 = Xi T1 904 8 from by rw [eU2]; exact Xi_ne (by omega)))
  have w38 : 0 ≤ Xi T1 904 8 ∧ Xi T1 904 8 ≤ 5010 := hHT1.c _ _
  have w39 : Xi U3 904 93 = Xi S 904 93 := (show Xi U3 904 93 = Xi U2 904 93 from by rw [eU3]; exact Xi_ne (by omega)).trans ( (show Xi U2 904 93 = Xi T1 904 93 from by rw [eU2]; exact Xi_ne (by omega)).trans ((show Xi T1 904 93 = Xi S 904 93 from w20.x _ _ rfl)))
  have w41 : Xi U3 904 99 = Xi T1 904 99 := (show Xi U3 904 99 = Xi U2 904 99 from by rw [eU3]; exact Xi_ne (by omega)).trans ((show Xi U2 904 99 = Xi T1 904 99 from by rw [eU2]; exact Xi_ne (by omega)))
  have w42 : 0 ≤ Xi T1 904 99 ∧ Xi T1 904 99 ≤ 2600 := hHT1.c _ _
  exact ⟨hHU3, hFU3, rfl, (by first | assumption | exact (AT_FR (FR_e eU3) rfl (AT_FR (FR_e eU2) rfl (by assumption : AT T1 _ _)))), (by omega), (by first | assumption | exact (RNV_FR (FR_e eU3) rfl (RNV_FR (FR_e eU2) rfl (by assumption : RNV T1 _)))), (by omega), (by omega), ((KT.w (KT.w (KT_FR w20 rfl KT.rf) eU2 (by omega)) eU3 (by omega))), (fun q => thv_i (s := Xi U3 904 100) (t := Xi U3 904 101) (r := Xi U3 904 99) (by omega) (by omega) (by omega) (by omega) (by omega) (by omega) (by omega)), (by first | assumption | exact (BDA_FR (FR_e eU3) rfl (BDA_FR (FR_e eU2) rfl (by assumption : BDA T1))))⟩
def md_mo_partOne__2 : List rec := [(904, 905, 8, 9), (904, 905, 65, 66), (904, 905, 66, 67), (904, 905, 69, 70), (904, 905, 81, 82), (950, 951, 0, 100000), (951, 952, 0, 100000)]
abbrev Q_mo_partOne__2 (S : sS) (n : Nat) (c : Nat) : pst := fun r S1 => HI S1 ∧ FR md_mo_partOne__2 S S1 ∧ (r = none ∧ (AT S1 n c) ∧ (Xi S 904 8 ≤ Xi S1 904 8 ∧ Xi S1 904 8 ≤ n) ∧ (RNV S1 n) ∧ (Xi S 904 69 ≤ Xi S1 904 69) ∧ (Xi S1 904 65 = 0 → Xi S1 904 81 ≤ n ∧ Xi S 907 (Xi S1 904 81).toNat = 5 ∧ 1 ≤ Xi S1 904 69) ∧ (BDA S1))
set_option maxRecDepth 100000 in
theorem t_mo_partOne__2 {S : sS} (hH : HI S) (n : Nat) (c : Nat) (hT : TK S n) (hA : AT S n c) (hv : RNV S n) (hb : Xi S 904 65 = 0) (hk : Xi S 907 (Xi S 904 8).toNat ≠ 1) (hBDA : BDA S) (d : Nat) : Mt lay0 (d + 3) m_mo_partOne [.ref 904] S (Q_mo_partOne__2 S n c) := by
  refine Mt_R rfl rfl ?_
  have hF : FR md_mo_partOne__2 S S := FR.rf
  have w1 : 0 ≤ Xi S 904 65 ∧ Xi S 904 65 ≤ 1 := hH.c _ _
  have w2 : 0 ≤ Xi S 904 69 ∧ Xi S 904 69 ≤ 2600 := hH.c _ _
  have w3 : 0 ≤ Xi S 904 8 ∧ Xi S 904 8 ≤ 5010 := hH.c _ _
  have hn5 := hT.1
  have hat := hA
  have h8 : 0 ≤ Xi S 904 8 ∧ Xi S 904 8 ≤ 5010 := hH.c _ _
  have h69 : 0 ≤ Xi S 904 69 ∧ Xi S 904 69 ≤ 2600 := hH.c _ _
  have ha0 : Xi S 904 65 = 0 → Xi S 904 8 ≤ n := fun q => (hA q).1
  have ha3 : Xi S 904 65 = 0 → 2 * Xi S 904 69 ≤ Xi S 904 8 + 1 := fun q => (hA q).2.1
  clear hat
  have hx := ha0 hb
  refine l_aload_n rfl rfl ?_
  refine l_dup rfl rfl ?_
  refine l_gfi rfl rfl rfl rfl rfl ?_
  refine l_iconst rfl ?_
  refine l_iadd rfl ?_
  refine l_pfi rfl rfl rfl rfl ?_
  obtain ⟨U1, eU1⟩ : ∃ T : sS, T = uI S 904 8 (Int32.ofInt ((Xi S 904 8) + 1)) := ⟨_, rfl⟩
  rw [← eU1]
  have hHU1 : HI U1 := by rw [eU1]; exact HI_w hH (show 0 ≤ ((Xi S 904 8) + 1) by omega) (show ((Xi S 904 8) + 1) ≤ 5010 by omega)
  have hFU1 : FR md_mo_partOne__2 S U1 := by rw [eU1]; exact FR.wI hF (mdf_i (r := (904, 905, 8, 9)) (List.mem_of_getElem? (i := 0) rfl) (inR_i (by omega) (by omega) (by omega) (by omega)))
  have w4 : Xi U1 904 8 = ((Xi S 904 8) + 1) := by rw [eU1]; exact Xi_same (by unfold rg; omega)
  have t7 : AT U1 n c ∧ _ := (at_mv (S := S) (P := S) (TK_FR hF rfl (by assumption : TK S _)) (by first | assumption | exact (by assumption : AT S _ _)) (fun j => rfl) (fun j => rfl) (rfl) (rfl) (rfl) (rfl) eU1 (by omega) (by omega) (by omega) (by omega) (Or.inl rfl))
  have a7 : AT U1 n c := t7.1
  have l7 := t7.2
  refine l_aload_n rfl rfl ?_
  refine l_iconst rfl ?_
  have w5 : Xi U1 904 65 = Xi S 904 65 := (show Xi U1 904 65 = Xi S 904 65 from by rw [eU1]; exact Xi_ne (by omega))
  have w9 : 0 ≤ Xi U1 904 8 ∧ Xi U1 904 8 ≤ 5010 := hHU1.c _ _
  refine l_callV rfl rfl rfl (t_mo_take__3 hHU1 n c 5 ⟨by omega, by omega⟩ (by first | assumption | exact (TK_FR hFU1 rfl (by assumption : TK S _))) (by first | assumption | exact (by assumption : AT U1 _ _)) (by first | assumption | omega) (by first | assumption | exact (BDA_FR (FR_e eU1) rfl (by assumption : BDA S))) _) ?_
  rintro _ T2 ⟨hHT2, w20, rfl, w14, w15, w16, w17, w18⟩
  have hFT2 : FR md_mo_partOne__2 S T2 := FR.tr hFU1 w20 rfl
  show Rl _ _ _ _ _ [] _ _
  have d12 : Xi T2 904 65 = 0 → ∀ x : Int, x = Xi T2 904 8 - 1 → Xi S 907 x.toNat = 5 := fun q x e => by have t := (by assumption : Xi T2 904 65 = 0 → Xi T2 904 8 = Xi U1 904 8 + 1 ∧ Xi U1 907 (Xi U1 904 8).toNat = 5) q; rw [(hFU1.cx 907 rfl _).1] at t; rw [show x = Xi U1 904 8 by omega]; exact t.2
  refine l_aload_n rfl rfl ?_
  refine l_aload_n rfl rfl ?_
  refine l_gfi rfl rfl rfl rfl rfl ?_
  have w21 : 0 ≤ (Xi T2 904 8) ∧ (Xi T2 904 8) ≤ 5010 := hHT2.c _ _
  refine l_iconst rfl ?_
  refine l_isub rfl ?_
  refine l_pfi rfl rfl rfl rfl ?_
  obtain ⟨U3, eU3⟩ : ∃ T : sS, T = uI T2 904 81 (Int32.ofInt ((Xi T2 904 8) - 1)) := ⟨_, rfl⟩
  rw [← eU3]
  have hHU3 : HI U3 := by rw [eU3]; exact HI_w hHT2 (show 0 ≤ ((Xi T2 904 8) - 1) by omega) (show ((Xi T2 904 8) - 1) ≤ 5010 by omega)
  have hFU3 : FR md_mo_partOne__2 S U3 := by rw [eU3]; exact FR.wI hFT2 (mdf_i (r := (904, 905, 81, 82)) (List.mem_of_getElem? (i := 4) rfl) (inR_i (by omega) (by omega) (by omega) (by omega)))
  have w22 : Xi U3 904 81 = ((Xi T2 904 8) - 1) := by rw [eU3]; exact Xi_same (by unfold rg; omega)
  refine l_aload_n rfl rfl ?_
  refine l_sipush rfl rfl ?_
  have w23 : Xi U3 904 65 = Xi T2 904 65 := (show Xi U3 904 65 = Xi T2 904 65 from by rw [eU3]; exact Xi_ne (by omega))
  have w24 : 0 ≤ Xi T2 904 65 ∧ Xi T2 904 65 ≤ 1 := hHT2.c _ _
  have w27 : Xi U3 904 8 = Xi T2 904 8 := (show Xi U3 904 8 = Xi T2 904 8 from by rw [eU3]; exact Xi_ne (by omega))
  have w28 : 0 ≤ Xi T2 904 8 ∧ Xi T2 904 8 ≤ 5010 := hHT2.c _ _
  refine l_callV rfl rfl rfl (t_mo_take__3 hHU3 n c 134 ⟨by omega, by omega⟩ (by first | assumption | exact (TK_FR hFU3 rfl (by assumption : TK S _))) (by first | assumption | exact (AT_FR (FR_e eU3) rfl (by assumption : AT T2 _ _))) (by first | assumption | omega) (by first | assumption | exact (BDA_FR (FR_e eU3) rfl (by assumption : BDA T2))) _) ?_
  rintro _ T4 ⟨hHT4, w38, rfl, w32, w33, w34, w35, w36⟩
  have hFT4 : FR md_mo_partOne__2 S T4 := FR.tr hFU3 w38 rfl
  show Rl _ _ _ _ _ [] _ _
  refine l_aload_n rfl rfl ?_
  have w39 : 0 ≤ Xi T4 904 65 ∧ Xi T4 904 65 ≤ 1 := hHT4.c _ _
  have w40 : Xi T4 904 69 = Xi S 904 69 := (show Xi T4 904 69 = Xi U3 904 69 from w38.x _ _ rfl).trans ( (show Xi U3 904 69 = Xi T2 904 69 from by rw [eU3]; exact Xi_ne (by omega)).trans ( (show Xi T2 904 69 = Xi U1 904 69 from w20.x _ _ rfl).trans ((show Xi U1 904 69 = Xi S 904 69 from by rw [eU1]; exact Xi_ne (by omega)))))
  have w42 : 0 ≤ Xi T4 904 8 ∧ Xi T4 904 8 ≤ 5010 := hHT4.c _ _
  refine l_callV rfl rfl rfl (t_mo_run__2 hHT4 n c (by first | assumption | exact (TK_FR hFT4 rfl (by assumption : TK S _))) (by first | assumption | exact (by assumption : AT T4 _ _)) (by first | assumption | exact (RNV_FR w38 rfl (RNV_FR (FR_e eU3) rfl (RNV_FR w20 rfl (RNV_FR (FR_e eU1) rfl (by assumption : RNV S _)))))) (by first | assumption | exact (by assumption : BDA T4)) _) ?_
  rintro _ T5 ⟨hHT5, w54, z53, rfl, w53, w47, w48, w49, w50, w51, w52⟩
  have hFT5 : FR md_mo_partOne__2 S T5 := FR.tr hFT4 w54 rfl
  show Rl _ _ _ _ _ [iv z53] _ _
  refine l_pop rfl rfl ?_
  refine l_return rfl rfl ?_
  have w55 : 0 ≤ Xi T5 904 65 ∧ Xi T5 904 65 ≤ 1 := hHT5.c _ _
  have w56 : 0 ≤ Xi T5 904 69 ∧ Xi T5 904 69 ≤ 2600 := hHT5.c _ _
  have w57 : 0 ≤ Xi T5 904 8 ∧ Xi T5 904 8 ≤ 5010 := hHT5.c _ _
  have w58 : Xi T5 904 81 = Xi U3 904 81 := (show Xi T5 904 81 = Xi T4 904 81 from w54.x _ _ rfl).trans ((show Xi T4 904 81 = Xi U3 904 81 from w38.x _ _ rfl))
  have w59 : 0 ≤ Xi U3 904 81 ∧ Xi U3 904 81 ≤ 5010 := hHU3.c _ _
  exact ⟨hHT5, hFT5, rfl, (by first | assumption | exact (by assumption : AT T5 _ _)), (by omega), (by first | assumption | exact (by assumption : RNV T5 _)), (by omega), (fun q => ⟨by omega, d12 (by omega) _ (by omega), by omega⟩), (by first | assumption | exact (by assumption : BDA T5))⟩


