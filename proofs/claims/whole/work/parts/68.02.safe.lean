/-! SAFETY of methods: printed by wip/safe (vc.py, decl.py) -/
def md_gr_takeWhat : List rec := [(890, 891, 1, 2)]
abbrev Q_gr_takeWhat (S : sS) : pst := fun r S1 => HI S1 ∧ FR md_gr_takeWhat S S1 ∧ (∃ z : Int, r = some (iv z) ∧ (0 ≤ z ∧ z ≤ 1) ∧ (Xi S 890 1 ≤ Xi S1 890 1 ∧ Xi S1 890 1 ≤ Xi S 876 7) ∧ (SAY S1 (Xi S1 890 1)))
set_option maxRecDepth 100000 in
theorem t_gr_takeWhat {S : sS} (hH : HI S) (ha : Xi S 890 1 ≤ Xi S 876 7) (hs : SAY S (Xi S 890 1)) (d : Nat) : Mt lay0 (d + 3) m_gr_takeWhat [.ref 890] S (Q_gr_takeWhat S) := by
  refine Mt_R rfl rfl ?_
  have hF : FR md_gr_takeWhat S S := FR.rf
  have w1 : 0 ≤ Xi S 876 7 ∧ Xi S 876 7 ≤ 5125 := hH.c _ _
  have w2 : 0 ≤ Xi S 890 1 ∧ Xi S 890 1 ≤ 5126 := hH.c _ _
  refine l_aload_n rfl rfl ?_
  refine l_bipush rfl rfl ?_
  refine l_callV rfl rfl rfl (t_gr_take hH 101 ⟨by omega, by omega⟩ (by first | assumption | omega) (by first | assumption | omega) (by first | assumption | omega) _) ?_
  rintro _ T1 ⟨hHT1, w10, z9, rfl, w9, w5, w6, w7, w8⟩
  have hFT1 : FR md_gr_takeWhat S T1 := FR.tr hF w10 rfl
  show Rl _ _ _ _ _ [iv z9] _ _
  refine l_if_ne rfl rfl (by unfold rg; omega) (fun w11 => ?_) (fun w12 => ?_)
  · refine l_iconst rfl ?_
    refine l_goto rfl rfl ?_
    refine l_ireturn rfl rfl ?_
    have w13 : 0 ≤ Xi T1 890 1 ∧ Xi T1 890 1 ≤ 5126 := hHT1.c _ _
    exact ⟨hHT1, hFT1, _, rfl, ⟨by omega, by omega⟩, (by first | assumption | omega), (by first | assumption | omega)⟩
  · refine l_aload_n rfl rfl ?_
    refine l_bipush rfl rfl ?_
    have w14 : Xi T1 876 7 = Xi S 876 7 := (show Xi T1 876 7 = Xi S 876 7 from w10.x _ _ rfl)
    have w16 : 0 ≤ Xi T1 890 1 ∧ Xi T1 890 1 ≤ 5126 := hHT1.c _ _
    refine l_callV rfl rfl rfl (t_gr_take hHT1 102 ⟨by omega, by omega⟩ (by first | assumption | omega) (by first | assumption | omega) (by first | assumption | omega) _) ?_
    rintro _ T2 ⟨hHT2, w22, z21, rfl, w21, w17, w18, w19, w20⟩
    have hFT2 : FR md_gr_takeWhat S T2 := FR.tr hFT1 w22 rfl
    show Rl _ _ _ _ _ [iv z21] _ _
    refine l_if_ne rfl rfl (by unfold rg; omega) (fun w23 => ?_) (fun w24 => ?_)
    · refine l_iconst rfl ?_
      refine l_goto rfl rfl ?_
      refine l_ireturn rfl rfl ?_
      have w25 : 0 ≤ Xi T2 890 1 ∧ Xi T2 890 1 ≤ 5126 := hHT2.c _ _
      exact ⟨hHT2, hFT2, _, rfl, ⟨by omega, by omega⟩, (by first | assumption | omega), (by first | assumption | omega)⟩
    · refine l_aload_n rfl rfl ?_
      have w26 : Xi T2 876 7 = Xi S 876 7 := (show Xi T2 876 7 = Xi T1 876 7 from w22.x _ _ rfl).trans ((show Xi T1 876 7 = Xi S 876 7 from w10.x _ _ rfl))
      have w28 : 0 ≤ Xi T2 890 1 ∧ Xi T2 890 1 ≤ 5126 := hHT2.c _ _
      refine l_callV rfl rfl rfl (t_gr_takeRun hHT2 (by first | assumption | omega) (by first | assumption | omega) _) ?_
      rintro _ T3 ⟨hHT3, w33, z32, rfl, w32, w29, w30, w31⟩
      have hFT3 : FR md_gr_takeWhat S T3 := FR.tr hFT2 w33 rfl
      show Rl _ _ _ _ _ [iv z32] _ _
      refine l_if_eq rfl rfl (by unfold rg; omega) (fun w34 => ?_) (fun w35 => ?_)
      · refine l_iconst rfl ?_
        refine l_ireturn rfl rfl ?_
        have w36 : 0 ≤ Xi T3 890 1 ∧ Xi T3 890 1 ≤ 5126 := hHT3.c _ _
        exact ⟨hHT3, hFT3, _, rfl, ⟨by omega, by omega⟩, (by first | assumption | omega), (by first | assumption | omega)⟩
      · refine l_iconst rfl ?_
        refine l_goto rfl rfl ?_
        refine l_ireturn rfl rfl ?_
        have w37 : 0 ≤ Xi T3 890 1 ∧ Xi T3 890 1 ≤ 5126 := hHT3.c _ _
        exact ⟨hHT3, hFT3, _, rfl, ⟨by omega, by omega⟩, (by first | assumption | omega), (by first | assumption | omega)⟩
def md_gr_takeLoose : List rec := [(890, 891, 1, 2)]
abbrev Q_gr_takeLoose (S : sS) (one : Int) (other : Int) : pst := fun r S1 => HI S1 ∧ FR md_gr_takeLoose S S1 ∧ (∃ z : Int, r = some (iv z) ∧ (0 ≤ z ∧ z ≤ 1) ∧ (Xi S 890 1 ≤ Xi S1 890 1 ∧ Xi S1 890 1 ≤ Xi S 876 7) ∧ (SAY S1 (Xi S1 890 1)))
set_option maxRecDepth 100000 in
theorem t_gr_takeLoose {S : sS} (hH : HI S) (one : Int) (other : Int) (hone : 0 ≤ one ∧ one ≤ 106) (hother : 0 ≤ other ∧ other ≤ 106) (ha : Xi S 890 1 ≤ Xi S 876 7) (hs : SAY S (Xi S 890 1)) (h1 : one ≠ 43) (h2 : other ≠ 43) (d : Nat) : Mt lay0 (d + 2) m_gr_takeLoose [.ref 890, iv one, iv other] S (Q_gr_takeLoose S one other) := by
  refine Mt_R rfl rfl ?_
  have hF : FR md_gr_takeLoose S S := FR.rf
  have w1 : 0 ≤ Xi S 876 7 ∧ Xi S 876 7 ≤ 5125 := hH.c _ _
  have w2 : 0 ≤ Xi S 890 1 ∧ Xi S 890 1 ≤ 5126 := hH.c _ _
  have C18 : ∀ (n18 : Nat) (T1 : sS) (_ : HI T1) (_ : FR md_gr_takeLoose S T1) (v3 : Int) (v4 : Int), (0 ≤ v3 ∧ v3 ≤ 5126) → (0 ≤ v4 ∧ v4 ≤ 108) → (SAY T1 (Xi T1 890 1)) → (Xi S 890 1 ≤ Xi T1 890 1 ∧ Xi T1 890 1 ≤ Xi S 876 7) → (v3 = Xi S 890 1) → (v4 ≠ 107 → Xi T1 890 1 < Xi S 876 7 ∧ v4 = Xi T1 877 (Xi T1 890 1).toNat) → n18 = (5131 - Xi T1 890 1).toNat → Rl lay0 (d + 1) m_gr_takeLoose 18 [(0, .ref 890), (1, iv one), (2, iv other), (3, iv v3), (4, iv v4)] [] T1 (Q_gr_takeLoose S one other) := by
    intro n18
    induction n18 using Nat.strongRecOn with
    | ind n18 ih18 =>
      intro T1 hHT1 hFT1 v3 v4 w3 w4 hs18 w5 w6 w7 hm18
      have w8 : Xi T1 876 7 = Xi S 876 7 := hFT1.x _ _ rfl
      have w9 : 0 ≤ Xi T1 890 1 ∧ Xi T1 890 1 ≤ 5126 := hHT1.c _ _
      refine l_aload_n rfl rfl ?_
      refine l_gfi rfl rfl rfl rfl rfl ?_
      refine l_iload_n rfl rfl ?_
      refine l_sipush rfl rfl ?_
      refine l_iadd rfl ?_
      refine l_icmp_ge rfl rfl (by unfold rg; omega) (by unfold rg; omega) (fun w10 => ?_) (fun w11 => ?_)
      · refine l_aload_n rfl rfl ?_
        refine l_gfi rfl rfl rfl rfl rfl ?_
        refine l_iload_n rfl rfl ?_
        refine l_icmp_le rfl rfl (by unfold rg; omega) (by unfold rg; omega) (fun w12 => ?_) (fun w13 => ?_)
        · refine l_iconst rfl ?_
          refine l_ireturn rfl rfl ?_
          exact ⟨hHT1, hFT1, _, rfl, ⟨by omega, by omega⟩, (by first | assumption | omega), (by first | assumption | omega)⟩
        · refine l_iconst rfl ?_
          refine l_goto rfl rfl ?_
          refine l_ireturn rfl rfl ?_
          exact ⟨hHT1, hFT1, _, rfl, ⟨by omega, by omega⟩, (by first | assumption | omega), (by first | assumption | omega)⟩
      · refine l_iload rfl rfl ?_
        refine l_bipush rfl rfl ?_
        refine l_icmp_eq rfl rfl (by unfold rg; omega) (by unfold rg; omega) (fun w16 => ?_) (fun w17 => ?_)
        · refine l_aload_n rfl rfl ?_
          refine l_dup rfl rfl ?_
          refine l_gfi rfl rfl rfl rfl rfl ?_
          refine l_iconst rfl ?_
          refine l_iadd rfl ?_
          refine l_pfi rfl rfl rfl rfl ?_
          obtain ⟨U2, eU2⟩ : ∃ T : sS, T = uI T1 890 1 (Int32.ofInt ((Xi T1 890 1) + 1)) := ⟨_, rfl⟩
          rw [← eU2]
          have hHU2 : HI U2 := by rw [eU2]; exact HI_w hHT1 (show 0 ≤ ((Xi T1 890 1) + 1) by omega) (show ((Xi T1 890 1) + 1) ≤ 5126 by omega)
          have hFU2 : FR md_gr_takeLoose S U2 := by rw [eU2]; exact FR.wI hFT1 (mdf_i (r := (890, 891, 1, 2)) (List.mem_of_getElem? (i := 0) rfl) (inR_i (by omega) (by omega) (by omega) (by omega)))
          have w18 : Xi U2 890 1 = ((Xi T1 890 1) + 1) := by rw [eU2]; exact Xi_same (by unfold rg; omega)
          refine l_aload_n rfl rfl ?_
          refine l_gfr rfl rfl rfl rfl rfl (hHU2.r 890 0 876 rfl) ?_
          refine l_aload_n rfl rfl ?_
          refine l_gfi rfl rfl rfl rfl rfl ?_
          have w19 : Xi U2 876 7 = Xi T1 876 7 := (show Xi U2 876 7 = Xi T1 876 7 from by rw [eU2]; exact Xi_ne (by omega))
          have w20 : 0 ≤ Xi T1 876 7 ∧ Xi T1 876 7 ≤ 5125 := hHT1.c _ _
          refine l_callV rfl rfl rfl (t_to_typeAt hHU2 (Xi U2 890 1) ⟨by omega, by omega⟩ _) ?_
          rintro _ _ ⟨rfl, z24, rfl, w24, w21, w22, w23⟩
          show Rl _ _ _ _ _ [iv z24] _ _
          refine l_istore rfl rfl rfl ?_
          refine l_goto rfl rfl ?_
          have w25 : 0 ≤ Xi U2 890 1 ∧ Xi U2 890 1 ≤ 5126 := hHU2.c _ _
          exact Rl_weak (ih18 _ (by omega) U2 hHU2 hFU2 (v3) (z24) (by omega) (by omega) (by first | assumption | exact SAY_1w eU2 (by assumption) hs18 (by omega) (by omega) (by omega)) (by omega) (by omega) (by omega) rfl) (And.intro rfl (And.intro rfl (And.intro rfl (And.intro rfl (And.intro rfl (True.intro))))))
        · refine l_iload rfl rfl ?_
          refine l_callS rfl rfl (by decide) rfl (t_rs_isArt hHT1 v4 ⟨by omega, by omega⟩ _) ?_
          rintro _ _ ⟨rfl, z27, rfl, w27, w26⟩
          show Rl _ _ _ _ _ [iv z27] _ _
          refine l_if_ne rfl rfl (by unfold rg; omega) (fun w28 => ?_) (fun w29 => ?_)
          · refine l_aload_n rfl rfl ?_
            refine l_dup rfl rfl ?_
            refine l_gfi rfl rfl rfl rfl rfl ?_
            refine l_iconst rfl ?_
            refine l_iadd rfl ?_
            refine l_pfi rfl rfl rfl rfl ?_
            obtain ⟨U3, eU3⟩ : ∃ T : sS, T = uI T1 890 1 (Int32.ofInt ((Xi T1 890 1) + 1)) := ⟨_, rfl⟩
            rw [← eU3]
            have hHU3 : HI U3 := by rw [eU3]; exact HI_w hHT1 (show 0 ≤ ((Xi T1 890 1) + 1) by omega) (show ((Xi T1 890 1) + 1) ≤ 5126 by omega)
            have hFU3 : FR md_gr_takeLoose S U3 := by rw [eU3]; exact FR.wI hFT1 (mdf_i (r := (890, 891, 1, 2)) (List.mem_of_getElem? (i := 0) rfl) (inR_i (by omega) (by omega) (by omega) (by omega)))
            have w30 : Xi U3 890 1 = ((Xi T1 890 1) + 1) := by rw [eU3]; exact Xi_same (by unfold rg; omega)
            refine l_aload_n rfl rfl ?_
            refine l_gfr rfl rfl rfl rfl rfl (hHU3.r 890 0 876 rfl) ?_
            refine l_aload_n rfl rfl ?_
            refine l_gfi rfl rfl rfl rfl rfl ?_
            have w31 : Xi U3 876 7 = Xi T1 876 7 := (show Xi U3 876 7 = Xi T1 876 7 from by rw [eU3]; exact Xi_ne (by omega))
            have w32 : 0 ≤ Xi T1 876 7 ∧ Xi T1 876 7 ≤ 5125 := hHT1.c _ _
            refine l_callV rfl rfl rfl (t_to_typeAt hHU3 (Xi U3 890 1) ⟨by omega, by omega⟩ _) ?_
            rintro _ _ ⟨rfl, z36, rfl, w36, w33, w34, w35⟩
            show Rl _ _ _ _ _ [iv z36] _ _
            refine l_istore rfl rfl rfl ?_
            refine l_goto rfl rfl ?_
            have w37 : 0 ≤ Xi U3 890 1 ∧ Xi U3 890 1 ≤ 5126 := hHU3.c _ _
            exact Rl_weak (ih18 _ (by omega) U3 hHU3 hFU3 (v3) (z36) (by omega) (by omega) (by first | assumption | exact SAY_1w eU3 (by assumption) hs18 (by omega) (by omega) (by omega)) (by omega) (by omega) (by omega) rfl) (And.intro rfl (And.intro rfl (And.intro rfl (And.intro rfl (And.intro rfl (True.intro))))))
          · refine l_iload rfl rfl ?_
            refine l_iload_n rfl rfl ?_
            refine l_icmp_eq rfl rfl (by unfold rg; omega) (by unfold rg; omega) (fun w38 => ?_) (fun w39 => ?_)
            · refine l_aload_n rfl rfl ?_
              refine l_dup rfl rfl ?_
              refine l_gfi rfl rfl rfl rfl rfl ?_
              refine l_iconst rfl ?_
              refine l_iadd rfl ?_
              refine l_pfi rfl rfl rfl rfl ?_
              obtain ⟨U4, eU4⟩ : ∃ T : sS, T = uI T1 890 1 (Int32.ofInt ((Xi T1 890 1) + 1)) := ⟨_, rfl⟩
              rw [← eU4]
              have hHU4 : HI U4 := by rw [eU4]; exact HI_w hHT1 (show 0 ≤ ((Xi T1 890 1) + 1) by omega) (show ((Xi T1 890 1) + 1) ≤ 5126 by omega)
              have hFU4 : FR md_gr_takeLoose S U4 := by rw [eU4]; exact FR.wI hFT1 (mdf_i (r := (890, 891, 1, 2)) (List.mem_of_getElem? (i := 0) rfl) (inR_i (by omega) (by omega) (by omega) (by omega)))
              have w40 : Xi U4 890 1 = ((Xi T1 890 1) + 1) := by rw [eU4]; exact Xi_same (by unfold rg; omega)
              refine l_aload_n rfl rfl ?_
              refine l_gfr rfl rfl rfl rfl rfl (hHU4.r 890 0 876 rfl) ?_
              refine l_aload_n rfl rfl ?_
              refine l_gfi rfl rfl rfl rfl rfl ?_
              have w41 : Xi U4 876 7 = Xi T1 876 7 := (show Xi U4 876 7 = Xi T1 876 7 from by rw [eU4]; exact Xi_ne (by omega))
              have w42 : 0 ≤ Xi T1 876 7 ∧ Xi T1 876 7 ≤ 5125 := hHT1.c _ _
              refine l_callV rfl rfl rfl (t_to_typeAt hHU4 (Xi U4 890 1) ⟨by omega, by omega⟩ _) ?_
              rintro _ _ ⟨rfl, z46, rfl, w46, w43, w44, w45⟩
              show Rl _ _ _ _ _ [iv z46] _ _
              refine l_istore rfl rfl rfl ?_
              refine l_goto rfl rfl ?_
              have w47 : 0 ≤ Xi U4 890 1 ∧ Xi U4 890 1 ≤ 5126 := hHU4.c _ _
              exact Rl_weak (ih18 _ (by omega) U4 hHU4 hFU4 (v3) (z46) (by omega) (by omega) (by first | assumption | exact SAY_1w eU4 (by assumption) hs18 (by omega) (by omega) (by omega)) (by omega) (by omega) (by omega) rfl) (And.intro rfl (And.intro rfl (And.intro rfl (And.intro rfl (And.intro rfl (True.intro))))))
            · refine l_iload rfl rfl ?_
              refine l_iload_n rfl rfl ?_
              refine l_icmp_ne rfl rfl (by unfold rg; omega) (by unfold rg; omega) (fun w48 => ?_) (fun w49 => ?_)
              · refine l_aload_n rfl rfl ?_
                refine l_gfi rfl rfl rfl rfl rfl ?_
                refine l_iload_n rfl rfl ?_
                refine l_icmp_le rfl rfl (by unfold rg; omega) (by unfold rg; omega) (fun w50 => ?_) (fun w51 => ?_)
                · refine l_iconst rfl ?_
                  refine l_ireturn rfl rfl ?_
                  exact ⟨hHT1, hFT1, _, rfl, ⟨by omega, by omega⟩, (by first | assumption | omega), (by first | assumption | omega)⟩
                · refine l_iconst rfl ?_
                  refine l_goto rfl rfl ?_
                  refine l_ireturn rfl rfl ?_
                  exact ⟨hHT1, hFT1, _, rfl, ⟨by omega, by omega⟩, (by first | assumption | omega), (by first | assumption | omega)⟩
              · refine l_aload_n rfl rfl ?_
                refine l_dup rfl rfl ?_
                refine l_gfi rfl rfl rfl rfl rfl ?_
                refine l_iconst rfl ?_
                refine l_iadd rfl ?_
                refine l_pfi rfl rfl rfl rfl ?_
                obtain ⟨U5, eU5⟩ : ∃ T : sS, T = uI T1 890 1 (Int32.ofInt ((Xi T1 890 1) + 1)) := ⟨_, rfl⟩
                rw [← eU5]
                have hHU5 : HI U5 := by rw [eU5]; exact HI_w hHT1 (show 0 ≤ ((Xi T1 890 1) + 1) by omega) (show ((Xi T1 890 1) + 1) ≤ 5126 by omega)
                have hFU5 : FR md_gr_takeLoose S U5 := by rw [eU5]; exact FR.wI hFT1 (mdf_i (r := (890, 891, 1, 2)) (List.mem_of_getElem? (i := 0) rfl) (inR_i (by omega) (by omega) (by omega) (by omega)))
                have w54 : Xi U5 890 1 = ((Xi T1 890 1) + 1) := by rw [eU5]; exact Xi_same (by unfold rg; omega)
                refine l_aload_n rfl rfl ?_
                refine l_gfr rfl rfl rfl rfl rfl (hHU5.r 890 0 876 rfl) ?_
                refine l_aload_n rfl rfl ?_
                refine l_gfi rfl rfl rfl rfl rfl ?_
                have w55 : Xi U5 876 7 = Xi T1 876 7 := (show Xi U5 876 7 = Xi T1 876 7 from by rw [eU5]; exact Xi_ne (by omega))
                have w56 : 0 ≤ Xi T1 876 7 ∧ Xi T1 876 7 ≤ 5125 := hHT1.c _ _
                refine l_callV rfl rfl rfl (t_to_typeAt hHU5 (Xi U5 890 1) ⟨by omega, by omega⟩ _) ?_
                rintro _ _ ⟨rfl, z60, rfl, w60, w57, w58, w59⟩
                show Rl _ _ _ _ _ [iv z60] _ _
                refine l_istore rfl rfl rfl ?_
                refine l_goto rfl rfl ?_
                have w61 : 0 ≤ Xi U5 890 1 ∧ Xi U5 890 1 ≤ 5126 := hHU5.c _ _
                exact Rl_weak (ih18 _ (by omega) U5 hHU5 hFU5 (v3) (z60) (by omega) (by omega) (by first | assumption | exact SAY_1w eU5 (by assumption) hs18 (by omega) (by omega) (by omega)) (by omega) (by omega) (by omega) rfl) (And.intro rfl (And.intro rfl (And.intro rfl (And.intro rfl (And.intro rfl (True.intro))))))
  refine l_aload_n rfl rfl ?_
  refine l_gfi rfl rfl rfl rfl rfl ?_
  refine l_istore_n rfl rfl rfl ?_
  refine l_aload_n rfl rfl ?_
  refine l_gfr rfl rfl rfl rfl rfl (hH.r 890 0 876 rfl) ?_
  refine l_aload_n rfl rfl ?_
  refine l_gfi rfl rfl rfl rfl rfl ?_
  refine l_callV rfl rfl rfl (t_to_typeAt hH (Xi S 890 1) ⟨by omega, by omega⟩ _) ?_
  rintro _ _ ⟨rfl, z66, rfl, w66, w63, w64, w65⟩
  show Rl _ _ _ _ _ [iv z66] _ _
  refine l_istore rfl rfl rfl ?_
  exact Rl_weak (C18 _ S hH hF ((Xi S 890 1)) (z66) (by omega) (by omega) (by first | assumption | exact SAY_1w rfl (by assumption) hs18 (by omega) (by omega) (by omega)) (by omega) (by omega) (by omega) rfl) (And.intro rfl (And.intro rfl (And.intro rfl (And.intro rfl (And.intro rfl (True.intro))))))
def md_gr_takePlace : List rec := [(890, 891, 1, 2)]
abbrev Q_gr_takePlace (S : sS) (any : Int) : pst := fun r S1 => HI S1 ∧ FR md_gr_takePlace S S1 ∧ (∃ z : Int, r = some (iv z) ∧ (0 ≤ z ∧ z ≤ 1) ∧ (Xi S 890 1 ≤ Xi S1 890 1 ∧ Xi S1 890 1 ≤ Xi S 876 7) ∧ (SAY S1 (Xi S1 890 1)))
set_option maxRecDepth 100000 in
theorem t_gr_takePlace {S : sS} (hH : HI S) (any : Int) (hany : 0 ≤ any ∧ any ≤ 1) (ha : Xi S 890 1 ≤ Xi S 876 7) (hs : SAY S (Xi S 890 1)) (hp : Xi S 890 1 < Xi S 876 7 ∧ Xi S 877 (Xi S 890 1).toNat ≠ 43) (d : Nat) : Mt lay0 (d + 4) m_gr_takePlace [.ref 890, iv any] S (Q_gr_takePlace S any) := by
  refine Mt_R rfl rfl ?_
  have hF : FR md_gr_takePlace S S := FR.rf
  have w1 : 0 ≤ Xi S 876 7 ∧ Xi S 876 7 ≤ 5125 := hH.c _ _
  have w2 : 0 ≤ Xi S 890 1 ∧ Xi S 890 1 ≤ 5126 := hH.c _ _
  refine l_aload_n rfl rfl ?_
  refine l_gfr rfl rfl rfl rfl rfl (hH.r 890 0 876 rfl) ?_
  refine l_aload_n rfl rfl ?_
  refine l_gfi rfl rfl rfl rfl rfl ?_
  refine l_callV rfl rfl rfl (t_to_typeAt hH (Xi S 890 1) ⟨by omega, by omega⟩ _) ?_
  rintro _ _ ⟨rfl, z7, rfl, w7, w4, w5, w6⟩
  show Rl _ _ _ _ _ [iv z7] _ _
  refine l_istore_n rfl rfl rfl ?_
  refine l_aload_n rfl rfl ?_
  refine l_dup rfl rfl ?_
  refine l_gfi rfl rfl rfl rfl rfl ?_
  refine l_iconst rfl ?_
  refine l_iadd rfl ?_
  refine l_pfi rfl rfl rfl rfl ?_
  obtain ⟨U1, eU1⟩ : ∃ T : sS, T = uI S 890 1 (Int32.ofInt ((Xi S 890 1) + 1)) := ⟨_, rfl⟩
  rw [← eU1]
  have hHU1 : HI U1 := by rw [eU1]; exact HI_w hH (show 0 ≤ ((Xi S 890 1) + 1) by omega) (show ((Xi S 890 1) + 1) ≤ 5126 by omega)
  have hFU1 : FR md_gr_takePlace S U1 := by rw [eU1]; exact FR.wI hF (mdf_i (r := (890, 891, 1, 2)) (List.mem_of_getElem? (i := 0) rfl) (inR_i (by omega) (by omega) (by omega) (by omega)))
  have w8 : Xi U1 890 1 = ((Xi S 890 1) + 1) := by rw [eU1]; exact Xi_same (by unfold rg; omega)
  have hs2 : SAY U1 (Xi U1 890 1) := SAY_1w eU1 (by assumption) hs (by omega) (by omega) (by omega)
  refine l_iload_n rfl rfl ?_
  refine l_bipush rfl rfl ?_
  refine l_icmp_ne rfl rfl (by unfold rg; omega) (by unfold rg; omega) (fun w9 => ?_) (fun w10 => ?_)
  · refine l_iload_n rfl rfl ?_
    refine l_bipush rfl rfl ?_
    refine l_icmp_eq rfl rfl (by unfold rg; omega) (by unfold rg; omega) (fun w11 => ?_) (fun w12 => ?_)
    · refine l_aload_n rfl rfl ?_
      refine l_bipush rfl rfl ?_
      have w13 : Xi U1 876 7 = Xi S 876 7 := (show Xi U1 876 7 = Xi S 876 7 from by rw [eU1]; exact Xi_ne (by omega))
      have w15 : 0 ≤ Xi U1 890 1 ∧ Xi U1 890 1 ≤ 5126 := hHU1.c _ _
      refine l_callV rfl rfl rfl (t_gr_take hHU1 10 ⟨by omega, by omega⟩ (by first | assumption | omega) (by first | assumption | omega) (by first | assumption | omega) _) ?_
      rintro _ T2 ⟨hHT2, w21, z20, rfl, w20, w16, w17, w18, w19⟩
      have hFT2 : FR md_gr_takePlace S T2 := FR.tr hFU1 w21 rfl
      show Rl _ _ _ _ _ [iv z20] _ _
      refine l_if_ne rfl rfl (by unfold rg; omega) (fun w22 => ?_) (fun w23 => ?_)
      · refine l_iload_n rfl rfl ?_
        refine l_if_eq rfl rfl (by unfold rg; omega) (fun w24 => ?_) (fun w25 => ?_)
        · refine l_aload_n rfl rfl ?_
          have w26 : Xi T2 876 7 = Xi S 876 7 := (show Xi T2 876 7 = Xi U1 876 7 from w21.x _ _ rfl).trans ((show Xi U1 876 7 = Xi S 876 7 from by rw [eU1]; exact Xi_ne (by omega)))
          have w28 : 0 ≤ Xi T2 890 1 ∧ Xi T2 890 1 ≤ 5126 := hHT2.c _ _
          refine l_callV rfl rfl rfl (t_gr_takeName hHT2 (by first | assumption | omega) (by first | assumption | omega) _) ?_
          rintro _ T3 ⟨hHT3, w32, z31, rfl, w31, w29, w30⟩
          have hFT3 : FR md_gr_takePlace S T3 := FR.tr hFT2 w32 rfl
          show Rl _ _ _ _ _ [iv z31] _ _
          refine l_ireturn rfl (retI_z (by omega)) ?_
          have w33 : 0 ≤ Xi T3 890 1 ∧ Xi T3 890 1 ≤ 5126 := hHT3.c _ _
          exact ⟨hHT3, hFT3, _, rfl, ⟨by omega, by omega⟩, (by first | assumption | omega), (by first | assumption | omega)⟩
        · refine l_aload_n rfl rfl ?_
          have w34 : Xi T2 876 7 = Xi S 876 7 := (show Xi T2 876 7 = Xi U1 876 7 from w21.x _ _ rfl).trans ((show Xi U1 876 7 = Xi S 876 7 from by rw [eU1]; exact Xi_ne (by omega)))
          have w36 : 0 ≤ Xi T2 890 1 ∧ Xi T2 890 1 ≤ 5126 := hHT2.c _ _
          refine l_callV rfl rfl rfl (t_gr_takeThing hHT2 (by first | assumption | omega) (by first | assumption | omega) _) ?_
          rintro _ T4 ⟨hHT4, w40, z39, rfl, w39, w37, w38⟩
          have hFT4 : FR md_gr_takePlace S T4 := FR.tr hFT2 w40 rfl
          show Rl _ _ _ _ _ [iv z39] _ _
          refine l_goto rfl rfl ?_
          refine l_ireturn rfl (retI_z (by omega)) ?_
          have w41 : 0 ≤ Xi T4 890 1 ∧ Xi T4 890 1 ≤ 5126 := hHT4.c _ _
          exact ⟨hHT4, hFT4, _, rfl, ⟨by omega, by omega⟩, (by first | assumption | omega), (by first | assumption | omega)⟩
      · refine l_iconst rfl ?_
        refine l_ireturn rfl rfl ?_
        have w42 : 0 ≤ Xi T2 890 1 ∧ Xi T2 890 1 ≤ 5126 := hHT2.c _ _
        exact ⟨hHT2, hFT2, _, rfl, ⟨by omega, by omega⟩, (by first | assumption | omega), (by first | assumption | omega)⟩
    · refine l_iload_n rfl rfl ?_
      refine l_bipush rfl rfl ?_
      refine l_icmp_ne rfl rfl (by unfold rg; omega) (by unfold rg; omega) (fun w43 => ?_) (fun w44 => ?_)
      · refine l_iload_n rfl rfl ?_
        refine l_if_eq rfl rfl (by unfold rg; omega) (fun w45 => ?_) (fun w46 => ?_)
        · refine l_aload_n rfl rfl ?_
          have w47 : Xi U1 876 7 = Xi S 876 7 := (show Xi U1 876 7 = Xi S 876 7 from by rw [eU1]; exact Xi_ne (by omega))
          have w49 : 0 ≤ Xi U1 890 1 ∧ Xi U1 890 1 ≤ 5126 := hHU1.c _ _
          refine l_callV rfl rfl rfl (t_gr_takeName hHU1 (by first | assumption | omega) (by first | assumption | omega) _) ?_
          rintro _ T5 ⟨hHT5, w53, z52, rfl, w52, w50, w51⟩
          have hFT5 : FR md_gr_takePlace S T5 := FR.tr hFU1 w53 rfl
          show Rl _ _ _ _ _ [iv z52] _ _
          refine l_ireturn rfl (retI_z (by omega)) ?_
          have w54 : 0 ≤ Xi T5 890 1 ∧ Xi T5 890 1 ≤ 5126 := hHT5.c _ _
          exact ⟨hHT5, hFT5, _, rfl, ⟨by omega, by omega⟩, (by first | assumption | omega), (by first | assumption | omega)⟩
        · refine l_aload_n rfl rfl ?_
          have w55 : Xi U1 876 7 = Xi S 876 7 := (show Xi U1 876 7 = Xi S 876 7 from by rw [eU1]; exact Xi_ne (by omega))
          have w57 : 0 ≤ Xi U1 890 1 ∧ Xi U1 890 1 ≤ 5126 := hHU1.c _ _
          refine l_callV rfl rfl rfl (t_gr_takeThing hHU1 (by first | assumption | omega) (by first | assumption | omega) _) ?_
          rintro _ T6 ⟨hHT6, w61, z60, rfl, w60, w58, w59⟩
          have hFT6 : FR md_gr_takePlace S T6 := FR.tr hFU1 w61 rfl
          show Rl _ _ _ _ _ [iv z60] _ _
          refine l_goto rfl rfl ?_
          refine l_ireturn rfl (retI_z (by omega)) ?_
          have w62 : 0 ≤ Xi T6 890 1 ∧ Xi T6 890 1 ≤ 5126 := hHT6.c _ _
          exact ⟨hHT6, hFT6, _, rfl, ⟨by omega, by omega⟩, (by first | assumption | omega), (by first | assumption | omega)⟩
      · refine l_aload_n rfl rfl ?_
        refine l_bipush rfl rfl ?_
        have w63 : Xi U1 876 7 = Xi S 876 7 := (show Xi U1 876 7 = Xi S 876 7 from by rw [eU1]; exact Xi_ne (by omega))
        have w65 : 0 ≤ Xi U1 890 1 ∧ Xi U1 890 1 ≤ 5126 := hHU1.c _ _
        refine l_callV rfl rfl rfl (t_gr_take hHU1 10 ⟨by omega, by omega⟩ (by first | assumption | omega) (by first | assumption | omega) (by first | assumption | omega) _) ?_
        rintro _ T7 ⟨hHT7, w71, z70, rfl, w70, w66, w67, w68, w69⟩
        have hFT7 : FR md_gr_takePlace S T7 := FR.tr hFU1 w71 rfl
        show Rl _ _ _ _ _ [iv z70] _ _
        refine l_if_ne rfl rfl (by unfold rg; omega) (fun w72 => ?_) (fun w73 => ?_)
        · refine l_iload_n rfl rfl ?_
          refine l_if_eq rfl rfl (by unfold rg; omega) (fun w74 => ?_) (fun w75 => ?_)
          · refine l_aload_n rfl rfl ?_
            have w76 : Xi T7 876 7 = Xi S 876 7 := (show Xi T7 876 7 = Xi U1 876 7 from w71.x _ _ rfl).trans ((show Xi U1 876 7 = Xi S 876 7 from by rw [eU1]; exact Xi_ne (by omega)))
            have w78 : 0 ≤ Xi T7 890 1 ∧ Xi T7 890 1 ≤ 5126 := hHT7.c _ _
            refine l_callV rfl rfl rfl (t_gr_takeName hHT7 (by first | assumption | omega) (by first | assumption | omega) _) ?_
            rintro _ T8 ⟨hHT8, w82, z81, rfl, w81, w79, w80⟩
            have hFT8 : FR md_gr_takePlace S T8 := FR.tr hFT7 w82 rfl
            show Rl _ _ _ _ _ [iv z81] _ _
            refine l_ireturn rfl (retI_z (by omega)) ?_
            have w83 : 0 ≤ Xi T8 890 1 ∧ Xi T8 890 1 ≤ 5126 := hHT8.c _ _
            exact ⟨hHT8, hFT8, _, rfl, ⟨by omega, by omega⟩, (by first | assumption | omega), (by first | assumption | omega)⟩
          · refine l_aload_n rfl rfl ?_
            have w84 : Xi T7 876 7 = Xi S 876 7 := (show Xi T7 876 7 = Xi U1 876 7 from w71.x _ _ rfl).trans ((show Xi U1 876 7 = Xi S 876 7 from by rw [eU1]; exact Xi_ne (by omega)))
            have w86 : 0 ≤ Xi T7 890 1 ∧ Xi T7 890 1 ≤ 5126 := hHT7.c _ _
            refine l_callV rfl rfl rfl (t_gr_takeThing hHT7 (by first | assumption | omega) (by first | assumption | omega) _) ?_
            rintro _ T9 ⟨hHT9, w90, z89, rfl, w89, w87, w88⟩
            have hFT9 : FR md_gr_takePlace S T9 := FR.tr hFT7 w90 rfl
            show Rl _ _ _ _ _ [iv z89] _ _
            refine l_goto rfl rfl ?_
            refine l_ireturn rfl (retI_z (by omega)) ?_
            have w91 : 0 ≤ Xi T9 890 1 ∧ Xi T9 890 1 ≤ 5126 := hHT9.c _ _
            exact ⟨hHT9, hFT9, _, rfl, ⟨by omega, by omega⟩, (by first | assumption | omega), (by first | assumption | omega)⟩
        · refine l_iconst rfl ?_
          refine l_ireturn rfl rfl ?_
          have w92 : 0 ≤ Xi T7 890 1 ∧ Xi T7 890 1 ≤ 5126 := hHT7.c _ _
          exact ⟨hHT7, hFT7, _, rfl, ⟨by omega, by omega⟩, (by first | assumption | omega), (by first | assumption | omega)⟩
  · refine l_aload_n rfl rfl ?_
    refine l_bipush rfl rfl ?_
    have w93 : Xi U1 876 7 = Xi S 876 7 := (show Xi U1 876 7 = Xi S 876 7 from by rw [eU1]; exact Xi_ne (by omega))
    have w95 : 0 ≤ Xi U1 890 1 ∧ Xi U1 890 1 ≤ 5126 := hHU1.c _ _
    refine l_callV rfl rfl rfl (t_gr_take hHU1 7 ⟨by omega, by omega⟩ (by first | assumption | omega) (by first | assumption | omega) (by first | assumption | omega) _) ?_
    rintro _ T10 ⟨hHT10, w101, z100, rfl, w100, w96, w97, w98, w99⟩
    have hFT10 : FR md_gr_takePlace S T10 := FR.tr hFU1 w101 rfl
    show Rl _ _ _ _ _ [iv z100] _ _
    refine l_if_eq rfl rfl (by unfold rg; omega) (fun w102 => ?_) (fun w103 => ?_)
    · refine l_iconst rfl ?_
      refine l_ireturn rfl rfl ?_
      have w104 : 0 ≤ Xi T10 890 1 ∧ Xi T10 890 1 ≤ 5126 := hHT10.c _ _
      exact ⟨hHT10, hFT10, _, rfl, ⟨by omega, by omega⟩, (by first | assumption | omega), (by first | assumption | omega)⟩
    · refine l_iload_n rfl rfl ?_
      refine l_bipush rfl rfl ?_
      refine l_icmp_eq rfl rfl (by unfold rg; omega) (by unfold rg; omega) (fun w105 => ?_) (fun w106 => ?_)
      · refine l_aload_n rfl rfl ?_
        refine l_bipush rfl rfl ?_
        have w107 : Xi T10 876 7 = Xi S 876 7 := (show Xi T10 876 7 = Xi U1 876 7 from w101.x _ _ rfl).trans ((show Xi U1 876 7 = Xi S 876 7 from by rw [eU1]; exact Xi_ne (by omega)))
        have w109 : 0 ≤ Xi T10 890 1 ∧ Xi T10 890 1 ≤ 5126 := hHT10.c _ _
        refine l_callV rfl rfl rfl (t_gr_take hHT10 10 ⟨by omega, by omega⟩ (by first | assumption | omega) (by first | assumption | omega) (by first | assumption | omega) _) ?_
        rintro _ T11 ⟨hHT11, w115, z114, rfl, w114, w110, w111, w112, w113⟩
        have hFT11 : FR md_gr_takePlace S T11 := FR.tr hFT10 w115 rfl
        show Rl _ _ _ _ _ [iv z114] _ _
        refine l_if_ne rfl rfl (by unfold rg; omega) (fun w116 => ?_) (fun w117 => ?_)
        · refine l_iload_n rfl rfl ?_
          refine l_if_eq rfl rfl (by unfold rg; omega) (fun w118 => ?_) (fun w119 => ?_)
          · refine l_aload_n rfl rfl ?_
            have w120 : Xi T11 876 7 = Xi S 876 7 := (show Xi T11 876 7 = Xi T10 876 7 from w115.x _ _ rfl).trans ( (show Xi T10 876 7 = Xi U1 876 7 from w101.x _ _ rfl).trans ((show Xi U1 876 7 = Xi S 876 7 from by rw [eU1]; exact Xi_ne (by omega))))
            have w122 : 0 ≤ Xi T11 890 1 ∧ Xi T11 890 1 ≤ 5126 := hHT11.c _ _
            refine l_callV rfl rfl rfl (t_gr_takeName hHT11 (by first | assumption | omega) (by first | assumption | omega) _) ?_
            rintro _ T12 ⟨hHT12, w126, z125, rfl, w125, w123, w124⟩
            have hFT12 : FR md_gr_takePlace S T12 := FR.tr hFT11 w126 rfl
            show Rl _ _ _ _ _ [iv z125] _ _
            refine l_ireturn rfl (retI_z (by omega)) ?_
            have w127 : 0 ≤ Xi T12 890 1 ∧ Xi T12 890 1 ≤ 5126 := hHT12.c _ _
            exact ⟨hHT12, hFT12, _, rfl, ⟨by omega, by omega⟩, (by first | assumption | omega), (by first | assumption | omega)⟩
          · refine l_aload_n rfl rfl ?_
            have w128 : Xi T11 876 7 = Xi S 876 7 := (show Xi T11 876 7 = Xi T10 876 7 from w115.x _ _ rfl).trans ( (show Xi T10 876 7 = Xi U1 876 7 from w101.x _ _ rfl).trans ((show Xi U1 876 7 = Xi S 876 7 from by rw [eU1]; exact Xi_ne (by omega))))
            have w130 : 0 ≤ Xi T11 890 1 ∧ Xi T11 890 1 ≤ 5126 := hHT11.c _ _
            refine l_callV rfl rfl rfl (t_gr_takeThing hHT11 (by first | assumption | omega) (by first | assumption | omega) _) ?_
            rintro _ T13 ⟨hHT13, w134, z133, rfl, w133, w131, w132⟩
            have hFT13 : FR md_gr_takePlace S T13 := FR.tr hFT11 w134 rfl
            show Rl _ _ _ _ _ [iv z133] _ _
            refine l_goto rfl rfl ?_
            refine l_ireturn rfl (retI_z (by omega)) ?_
            have w135 : 0 ≤ Xi T13 890 1 ∧ Xi T13 890 1 ≤ 5126 := hHT13.c _ _
            exact ⟨hHT13, hFT13, _, rfl, ⟨by omega, by omega⟩, (by first | assumption | omega), (by first | assumption | omega)⟩
        · refine l_iconst rfl ?_
          refine l_ireturn rfl rfl ?_
          have w136 : 0 ≤ Xi T11 890 1 ∧ Xi T11 890 1 ≤ 5126 := hHT11.c _ _
          exact ⟨hHT11, hFT11, _, rfl, ⟨by omega, by omega⟩, (by first | assumption | omega), (by first | assumption | omega)⟩
      · refine l_iload_n rfl rfl ?_
        refine l_bipush rfl rfl ?_
        refine l_icmp_ne rfl rfl (by unfold rg; omega) (by unfold rg; omega) (fun w137 => ?_) (fun w138 => ?_)
        · refine l_iload_n rfl rfl ?_
          refine l_if_eq rfl rfl (by unfold rg; omega) (fun w139 => ?_) (fun w140 => ?_)
          · refine l_aload_n rfl rfl ?_
            have w141 : Xi T10 876 7 = Xi S 876 7 := (show Xi T10 876 7 = Xi U1 876 7 from w101.x _ _ rfl).trans ((show Xi U1 876 7 = Xi S 876 7 from by rw [eU1]; exact Xi_ne (by omega)))
            have w143 : 0 ≤ Xi T10 890 1 ∧ Xi T10 890 1 ≤ 5126 := hHT10.c _ _
            refine l_callV rfl rfl rfl (t_gr_takeName hHT10 (by first | assumption | omega) (by first | assumption | omega) _) ?_
            rintro _ T14 ⟨hHT14, w147, z146, rfl, w146, w144, w145⟩
            have hFT14 : FR md_gr_takePlace S T14 := FR.tr hFT10 w147 rfl
            show Rl _ _ _ _ _ [iv z146] _ _
            refine l_ireturn rfl (retI_z (by omega)) ?_
            have w148 : 0 ≤ Xi T14 890 1 ∧ Xi T14 890 1 ≤ 5126 := hHT14.c _ _
            exact ⟨hHT14, hFT14, _, rfl, ⟨by omega, by omega⟩, (by first | assumption | omega), (by first | assumption | omega)⟩
          · refine l_aload_n rfl rfl ?_
            have w149 : Xi T10 876 7 = Xi S 876 7 := (show Xi T10 876 7 = Xi U1 876 7 from w101.x _ _ rfl).trans ((show Xi U1 876 7 = Xi S 876 7 from by rw [eU1]; exact Xi_ne (by omega)))
            have w151 : 0 ≤ Xi T10 890 1 ∧ Xi T10 890 1 ≤ 5126 := hHT10.c _ _
            refine l_callV rfl rfl rfl (t_gr_takeThing hHT10 (by first | assumption | omega) (by first | assumption | omega) _) ?_
            rintro _ T15 ⟨hHT15, w155, z154, rfl, w154, w152, w153⟩
            have hFT15 : FR md_gr_takePlace S T15 := FR.tr hFT10 w155 rfl
            show Rl _ _ _ _ _ [iv z154] _ _
            refine l_goto rfl rfl ?_
            refine l_ireturn rfl (retI_z (by omega)) ?_
            have w156 : 0 ≤ Xi T15 890 1 ∧ Xi T15 890 1 ≤ 5126 := hHT15.c _ _
            exact ⟨hHT15, hFT15, _, rfl, ⟨by omega, by omega⟩, (by first | assumption | omega), (by first | assumption | omega)⟩
        · refine l_aload_n rfl rfl ?_
          refine l_bipush rfl rfl ?_
          have w157 : Xi T10 876 7 = Xi S 876 7 := (show Xi T10 876 7 = Xi U1 876 7 from w101.x _ _ rfl).trans ((show Xi U1 876 7 = Xi S 876 7 from by rw [eU1]; exact Xi_ne (by omega)))
          have w159 : 0 ≤ Xi T10 890 1 ∧ Xi T10 890 1 ≤ 5126 := hHT10.c _ _
          refine l_callV rfl rfl rfl (t_gr_take hHT10 10 ⟨by omega, by omega⟩ (by first | assumption | omega) (by first | assumption | omega) (by first | assumption | omega) _) ?_
          rintro _ T16 ⟨hHT16, w165, z164, rfl, w164, w160, w161, w162, w163⟩
          have hFT16 : FR md_gr_takePlace S T16 := FR.tr hFT10 w165 rfl
          show Rl _ _ _ _ _ [iv z164] _ _
          refine l_if_ne rfl rfl (by unfold rg; omega) (fun w166 => ?_) (fun w167 => ?_)
          · refine l_iload_n rfl rfl ?_
            refine l_if_eq rfl rfl (by unfold rg; omega) (fun w168 => ?_) (fun w169 => ?_)
            · refine l_aload_n rfl rfl ?_
              have w170 : Xi T16 876 7 = Xi S 876 7 := (show Xi T16 876 7 = Xi T10 876 7 from w165.x _ _ rfl).trans ( (show Xi T10 876 7 = Xi U1 876 7 from w101.x _ _ rfl).trans ((show Xi U1 876 7 = Xi S 876 7 from by rw [eU1]; exact Xi_ne (by omega))))
              have w172 : 0 ≤ Xi T16 890 1 ∧ Xi T16 890 1 ≤ 5126 := hHT16.c _ _
              refine l_callV rfl rfl rfl (t_gr_takeName hHT16 (by first | assumption | omega) (by first | assumption | omega) _) ?_
              rintro _ T17 ⟨hHT17, w176, z175, rfl, w175, w173, w174⟩
              have hFT17 : FR md_gr_takePlace S T17 := FR.tr hFT16 w176 rfl
              show Rl _ _ _ _ _ [iv z175] _ _
              refine l_ireturn rfl (retI_z (by omega)) ?_
              have w177 : 0 ≤ Xi T17 890 1 ∧ Xi T17 890 1 ≤ 5126 := hHT17.c _ _
              exact ⟨hHT17, hFT17, _, rfl, ⟨by omega, by omega⟩, (by first | assumption | omega), (by first | assumption | omega)⟩
            · refine l_aload_n rfl rfl ?_
              have w178 : Xi T16 876 7 = Xi S 876 7 := (show Xi T16 876 7 = Xi T10 876 7 from w165.x _ _ rfl).trans ( (show Xi T10 876 7 = Xi U1 876 7 from w101.x _ _ rfl).trans ((show Xi U1 876 7 = Xi S 876 7 from by rw [eU1]; exact Xi_ne (by omega))))
              have w180 : 0 ≤ Xi T16 890 1 ∧ Xi T16 890 1 ≤ 5126 := hHT16.c _ _
              refine l_callV rfl rfl rfl (t_gr_takeThing hHT16 (by first | assumption | omega) (by first | assumption | omega) _) ?_
              rintro _ T18 ⟨hHT18, w184, z183, rfl, w183, w181, w182⟩
              have hFT18 : FR md_gr_takePlace S T18 := FR.tr hFT16 w184 rfl
              show Rl _ _ _ _ _ [iv z183] _ _
              refine l_goto rfl rfl ?_
              refine l_ireturn rfl (retI_z (by omega)) ?_
              have w185 : 0 ≤ Xi T18 890 1 ∧ Xi T18 890 1 ≤ 5126 := hHT18.c _ _
              exact ⟨hHT18, hFT18, _, rfl, ⟨by omega, by omega⟩, (by first | assumption | omega), (by first | assumption | omega)⟩
          · refine l_iconst rfl ?_
            refine l_ireturn rfl rfl ?_
            have w186 : 0 ≤ Xi T16 890 1 ∧ Xi T16 890 1 ≤ 5126 := hHT16.c _ _
            exact ⟨hHT16, hFT16, _, rfl, ⟨by omega, by omega⟩, (by first | assumption | omega), (by first | assumption | omega)⟩
def md_gr_takePropertyTest : List rec := [(890, 891, 1, 2)]
abbrev Q_gr_takePropertyTest (S : sS) (now : Int) : pst := fun r S1 => HI S1 ∧ FR md_gr_takePropertyTest S S1 ∧ (∃ z : Int, r = some (iv z) ∧ (0 ≤ z ∧ z ≤ 1) ∧ (Xi S 890 1 ≤ Xi S1 890 1 ∧ Xi S1 890 1 ≤ Xi S 876 7) ∧ (SAY S1 (Xi S1 890 1)))
set_option maxRecDepth 100000 in
theorem t_gr_takePropertyTest {S : sS} (hH : HI S) (now : Int) (hnow : 0 ≤ now ∧ now ≤ 1) (ha : Xi S 890 1 ≤ Xi S 876 7) (hs : SAY S (Xi S 890 1)) (hp : PROP S (Xi S 890 1)) (d : Nat) : Mt lay0 (d + 4) m_gr_takePropertyTest [.ref 890, iv now] S (Q_gr_takePropertyTest S now) := by
  refine Mt_R rfl rfl ?_
  have hF : FR md_gr_takePropertyTest S S := FR.rf
  have w1 : 0 ≤ Xi S 876 7 ∧ Xi S 876 7 ≤ 5125 := hH.c _ _
  have w2 : 0 ≤ Xi S 890 1 ∧ Xi S 890 1 ≤ 5126 := hH.c _ _
  refine l_aload_n rfl rfl ?_
  refine l_aload_n rfl rfl ?_
  refine l_gfr rfl rfl rfl rfl rfl (hH.r 890 0 876 rfl) ?_
  refine l_aload_n rfl rfl ?_
  refine l_gfi rfl rfl rfl rfl rfl ?_
  refine l_iconst rfl ?_
  refine l_iadd rfl ?_
  refine l_callV rfl rfl rfl (t_to_runEnd hH ((Xi S 890 1) + 1) ⟨by omega, by omega⟩ _) ?_
  rintro _ _ ⟨rfl, z11, rfl, w11, w4, w5, w6, w7, w8, w9, w10⟩
  show Rl _ _ _ _ _ [iv z11, .ref 890] _ _
  have hpe := prop_end hp (by omega) (by assumption) (by assumption)
  refine l_iconst rfl ?_
  refine l_iadd rfl ?_
  refine l_pfi rfl rfl rfl rfl ?_
  obtain ⟨U1, eU1⟩ : ∃ T : sS, T = uI S 890 1 (Int32.ofInt (z11 + 1)) := ⟨_, rfl⟩
  rw [← eU1]
  have hHU1 : HI U1 := by rw [eU1]; exact HI_w hH (show 0 ≤ (z11 + 1) by omega) (show (z11 + 1) ≤ 5126 by omega)
  have hFU1 : FR md_gr_takePropertyTest S U1 := by rw [eU1]; exact FR.wI hF (mdf_i (r := (890, 891, 1, 2)) (List.mem_of_getElem? (i := 0) rfl) (inR_i (by omega) (by omega) (by omega) (by omega)))
  have w12 : Xi U1 890 1 = (z11 + 1) := by rw [eU1]; exact Xi_same (by unfold rg; omega)
  have hs2 : SAY U1 (Xi U1 890 1) := SAY_prop eU1 (by assumption) hs hpe (by assumption) (by omega)
  refine l_aload_n rfl rfl ?_
  have w13 : Xi U1 876 7 = Xi S 876 7 := (show Xi U1 876 7 = Xi S 876 7 from by rw [eU1]; exact Xi_ne (by omega))
  have w15 : 0 ≤ Xi U1 890 1 ∧ Xi U1 890 1 ≤ 5126 := hHU1.c _ _
  refine l_callV rfl rfl rfl (t_gr_takeThing hHU1 (by first | assumption | omega) (by first | assumption | omega) _) ?_
  rintro _ T2 ⟨hHT2, w19, z18, rfl, w18, w16, w17⟩
  have hFT2 : FR md_gr_takePropertyTest S T2 := FR.tr hFU1 w19 rfl
  show Rl _ _ _ _ _ [iv z18] _ _
  refine l_if_eq rfl rfl (by unfold rg; omega) (fun w20 => ?_) (fun w21 => ?_)
  · refine l_iconst rfl ?_
    refine l_ireturn rfl rfl ?_
    have w22 : 0 ≤ Xi T2 890 1 ∧ Xi T2 890 1 ≤ 5126 := hHT2.c _ _
    exact ⟨hHT2, hFT2, _, rfl, ⟨by omega, by omega⟩, (by first | assumption | omega), (by first | assumption | omega)⟩
  · refine l_aload_n rfl rfl ?_
    refine l_iconst rfl ?_
    have w23 : Xi T2 876 7 = Xi S 876 7 := (show Xi T2 876 7 = Xi U1 876 7 from w19.x _ _ rfl).trans ((show Xi U1 876 7 = Xi S 876 7 from by rw [eU1]; exact Xi_ne (by omega)))
    have w25 : 0 ≤ Xi T2 890 1 ∧ Xi T2 890 1 ≤ 5126 := hHT2.c _ _
    refine l_callV rfl rfl rfl (t_gr_take hHT2 4 ⟨by omega, by omega⟩ (by first | assumption | omega) (by first | assumption | omega) (by first | assumption | omega) _) ?_
    rintro _ T3 ⟨hHT3, w31, z30, rfl, w30, w26, w27, w28, w29⟩
    have hFT3 : FR md_gr_takePropertyTest S T3 := FR.tr hFT2 w31 rfl
    show Rl _ _ _ _ _ [iv z30] _ _
    refine l_if_ne rfl rfl (by unfold rg; omega) (fun w32 => ?_) (fun w33 => ?_)
    · refine l_iload_n rfl rfl ?_
      refine l_if_eq rfl rfl (by unfold rg; omega) (fun w34 => ?_) (fun w35 => ?_)
      · refine l_aload_n rfl rfl ?_
        refine l_bipush rfl rfl ?_
        have w36 : Xi T3 876 7 = Xi S 876 7 := (show Xi T3 876 7 = Xi T2 876 7 from w31.x _ _ rfl).trans ( (show Xi T2 876 7 = Xi U1 876 7 from w19.x _ _ rfl).trans ((show Xi U1 876 7 = Xi S 876 7 from by rw [eU1]; exact Xi_ne (by omega))))
        have w38 : 0 ≤ Xi T3 890 1 ∧ Xi T3 890 1 ≤ 5126 := hHT3.c _ _
        refine l_callV rfl rfl rfl (t_gr_take hHT3 51 ⟨by omega, by omega⟩ (by first | assumption | omega) (by first | assumption | omega) (by first | assumption | omega) _) ?_
        rintro _ T4 ⟨hHT4, w44, z43, rfl, w43, w39, w40, w41, w42⟩
        have hFT4 : FR md_gr_takePropertyTest S T4 := FR.tr hFT3 w44 rfl
        show Rl _ _ _ _ _ [iv z43] _ _
        refine l_if_ne rfl rfl (by unfold rg; omega) (fun w45 => ?_) (fun w46 => ?_)
        · refine l_aload_n rfl rfl ?_
          refine l_bipush rfl rfl ?_
          have w47 : Xi T4 876 7 = Xi S 876 7 := (show Xi T4 876 7 = Xi T3 876 7 from w44.x _ _ rfl).trans ( (show Xi T3 876 7 = Xi T2 876 7 from w31.x _ _ rfl).trans ( (show Xi T2 876 7 = Xi U1 876 7 from w19.x _ _ rfl).trans ((show Xi U1 876 7 = Xi S 876 7 from by rw [eU1]; exact Xi_ne (by omega)))))
          have w49 : 0 ≤ Xi T4 890 1 ∧ Xi T4 890 1 ≤ 5126 := hHT4.c _ _
          refine l_callV rfl rfl rfl (t_gr_take hHT4 50 ⟨by omega, by omega⟩ (by first | assumption | omega) (by first | assumption | omega) (by first | assumption | omega) _) ?_
          rintro _ T5 ⟨hHT5, w55, z54, rfl, w54, w50, w51, w52, w53⟩
          have hFT5 : FR md_gr_takePropertyTest S T5 := FR.tr hFT4 w55 rfl
          show Rl _ _ _ _ _ [iv z54] _ _
          refine l_if_eq rfl rfl (by unfold rg; omega) (fun w56 => ?_) (fun w57 => ?_)
          · refine l_iconst rfl ?_
            refine l_ireturn rfl rfl ?_
            have w58 : 0 ≤ Xi T5 890 1 ∧ Xi T5 890 1 ≤ 5126 := hHT5.c _ _
            exact ⟨hHT5, hFT5, _, rfl, ⟨by omega, by omega⟩, (by first | assumption | omega), (by first | assumption | omega)⟩
          · refine l_aload_n rfl rfl ?_
            refine l_bipush rfl rfl ?_
            have w59 : Xi T5 876 7 = Xi S 876 7 := (show Xi T5 876 7 = Xi T4 876 7 from w55.x _ _ rfl).trans ( (show Xi T4 876 7 = Xi T3 876 7 from w44.x _ _ rfl).trans ( (show Xi T3 876 7 = Xi T2 876 7 from w31.x _ _ rfl).trans ( (show Xi T2 876 7 = Xi U1 876 7 from w19.x _ _ rfl).trans ((show Xi U1 876 7 = Xi S 876 7 from by rw [eU1]; exact Xi_ne (by omega))))))
            have w61 : 0 ≤ Xi T5 890 1 ∧ Xi T5 890 1 ≤ 5126 := hHT5.c _ _
            refine l_callV rfl rfl rfl (t_gr_take hHT5 101 ⟨by omega, by omega⟩ (by first | assumption | omega) (by first | assumption | omega) (by first | assumption | omega) _) ?_
            rintro _ T6 ⟨hHT6, w67, z66, rfl, w66, w62, w63, w64, w65⟩
            have hFT6 : FR md_gr_takePropertyTest S T6 := FR.tr hFT5 w67 rfl
            show Rl _ _ _ _ _ [iv z66] _ _
            refine l_if_eq rfl rfl (by unfold rg; omega) (fun w68 => ?_) (fun w69 => ?_)
            · refine l_iconst rfl ?_
              refine l_ireturn rfl rfl ?_
              have w70 : 0 ≤ Xi T6 890 1 ∧ Xi T6 890 1 ≤ 5126 := hHT6.c _ _
              exact ⟨hHT6, hFT6, _, rfl, ⟨by omega, by omega⟩, (by first | assumption | omega), (by first | assumption | omega)⟩
            · refine l_iconst rfl ?_
              refine l_goto rfl rfl ?_
              refine l_ireturn rfl rfl ?_
              have w71 : 0 ≤ Xi T6 890 1 ∧ Xi T6 890 1 ≤ 5126 := hHT6.c _ _
              exact ⟨hHT6, hFT6, _, rfl, ⟨by omega, by omega⟩, (by first | assumption | omega), (by first | assumption | omega)⟩
        · refine l_aload_n rfl rfl ?_
          refine l_bipush rfl rfl ?_
          have w72 : Xi T4 876 7 = Xi S 876 7 := (show Xi T4 876 7 = Xi T3 876 7 from w44.x _ _ rfl).trans ( (show Xi T3 876 7 = Xi T2 876 7 from w31.x _ _ rfl).trans ( (show Xi T2 876 7 = Xi U1 876 7 from w19.x _ _ rfl).trans ((show Xi U1 876 7 = Xi S 876 7 from by rw [eU1]; exact Xi_ne (by omega)))))
          have w74 : 0 ≤ Xi T4 890 1 ∧ Xi T4 890 1 ≤ 5126 := hHT4.c _ _
          refine l_callV rfl rfl rfl (t_gr_take hHT4 52 ⟨by omega, by omega⟩ (by first | assumption | omega) (by first | assumption | omega) (by first | assumption | omega) _) ?_
          rintro _ T7 ⟨hHT7, w80, z79, rfl, w79, w75, w76, w77, w78⟩
          have hFT7 : FR md_gr_takePropertyTest S T7 := FR.tr hFT4 w80 rfl
          show Rl _ _ _ _ _ [iv z79] _ _
          refine l_if_eq rfl rfl (by unfold rg; omega) (fun w81 => ?_) (fun w82 => ?_)
          · refine l_aload_n rfl rfl ?_
            refine l_bipush rfl rfl ?_
            have w83 : Xi T7 876 7 = Xi S 876 7 := (show Xi T7 876 7 = Xi T4 876 7 from w80.x _ _ rfl).trans ( (show Xi T4 876 7 = Xi T3 876 7 from w44.x _ _ rfl).trans ( (show Xi T3 876 7 = Xi T2 876 7 from w31.x _ _ rfl).trans ( (show Xi T2 876 7 = Xi U1 876 7 from w19.x _ _ rfl).trans ((show Xi U1 876 7 = Xi S 876 7 from by rw [eU1]; exact Xi_ne (by omega))))))
            have w85 : 0 ≤ Xi T7 890 1 ∧ Xi T7 890 1 ≤ 5126 := hHT7.c _ _
            refine l_callV rfl rfl rfl (t_gr_take hHT7 6 ⟨by omega, by omega⟩ (by first | assumption | omega) (by first | assumption | omega) (by first | assumption | omega) _) ?_
            rintro _ T8 ⟨hHT8, w91, z90, rfl, w90, w86, w87, w88, w89⟩
            have hFT8 : FR md_gr_takePropertyTest S T8 := FR.tr hFT7 w91 rfl
            show Rl _ _ _ _ _ [iv z90] _ _
            refine l_pop rfl rfl ?_
            refine l_aload_n rfl rfl ?_
            have w92 : Xi T8 876 7 = Xi S 876 7 := (show Xi T8 876 7 = Xi T7 876 7 from w91.x _ _ rfl).trans ( (show Xi T7 876 7 = Xi T4 876 7 from w80.x _ _ rfl).trans ( (show Xi T4 876 7 = Xi T3 876 7 from w44.x _ _ rfl).trans ( (show Xi T3 876 7 = Xi T2 876 7 from w31.x _ _ rfl).trans ( (show Xi T2 876 7 = Xi U1 876 7 from w19.x _ _ rfl).trans ((show Xi U1 876 7 = Xi S 876 7 from by rw [eU1]; exact Xi_ne (by omega)))))))
            have w94 : 0 ≤ Xi T8 890 1 ∧ Xi T8 890 1 ≤ 5126 := hHT8.c _ _
            refine l_callV rfl rfl rfl (t_gr_takeWhat hHT8 (by first | assumption | omega) (by first | assumption | omega) _) ?_
            rintro _ T9 ⟨hHT9, w98, z97, rfl, w97, w95, w96⟩
            have hFT9 : FR md_gr_takePropertyTest S T9 := FR.tr hFT8 w98 rfl
            show Rl _ _ _ _ _ [iv z97] _ _
            refine l_ireturn rfl (retI_z (by omega)) ?_
            have w99 : 0 ≤ Xi T9 890 1 ∧ Xi T9 890 1 ≤ 5126 := hHT9.c _ _
            exact ⟨hHT9, hFT9, _, rfl, ⟨by omega, by omega⟩, (by first | assumption | omega), (by first | assumption | omega)⟩
          · refine l_aload_n rfl rfl ?_
            refine l_bipush rfl rfl ?_
            have w100 : Xi T7 876 7 = Xi S 876 7 := (show Xi T7 876 7 = Xi T4 876 7 from w80.x _ _ rfl).trans ( (show Xi T4 876 7 = Xi T3 876 7 from w44.x _ _ rfl).trans ( (show Xi T3 876 7 = Xi T2 876 7 from w31.x _ _ rfl).trans ( (show Xi T2 876 7 = Xi U1 876 7 from w19.x _ _ rfl).trans ((show Xi U1 876 7 = Xi S 876 7 from by rw [eU1]; exact Xi_ne (by omega))))))
            have w102 : 0 ≤ Xi T7 890 1 ∧ Xi T7 890 1 ≤ 5126 := hHT7.c _ _
            refine l_callV rfl rfl rfl (t_gr_take hHT7 50 ⟨by omega, by omega⟩ (by first | assumption | omega) (by first | assumption | omega) (by first | assumption | omega) _) ?_
            rintro _ T10 ⟨hHT10, w108, z107, rfl, w107, w103, w104, w105, w106⟩
            have hFT10 : FR md_gr_takePropertyTest S T10 := FR.tr hFT7 w108 rfl
            show Rl _ _ _ _ _ [iv z107] _ _
            refine l_if_eq rfl rfl (by unfold rg; omega) (fun w109 => ?_) (fun w110 => ?_)
            · refine l_iconst rfl ?_
              refine l_ireturn rfl rfl ?_
              have w111 : 0 ≤ Xi T10 890 1 ∧ Xi T10 890 1 ≤ 5126 := hHT10.c _ _
              exact ⟨hHT10, hFT10, _, rfl, ⟨by omega, by omega⟩, (by first | assumption | omega), (by first | assumption | omega)⟩
            · refine l_aload_n rfl rfl ?_
              refine l_bipush rfl rfl ?_
              have w112 : Xi T10 876 7 = Xi S 876 7 := (show Xi T10 876 7 = Xi T7 876 7 from w108.x _ _ rfl).trans ( (show Xi T7 876 7 = Xi T4 876 7 from w80.x _ _ rfl).trans ( (show Xi T4 876 7 = Xi T3 876 7 from w44.x _ _ rfl).trans ( (show Xi T3 876 7 = Xi T2 876 7 from w31.x _ _ rfl).trans ( (show Xi T2 876 7 = Xi U1 876 7 from w19.x _ _ rfl).trans ((show Xi U1 876 7 = Xi S 876 7 from by rw [eU1]; exact Xi_ne (by omega)))))))
              have w114 : 0 ≤ Xi T10 890 1 ∧ Xi T10 890 1 ≤ 5126 := hHT10.c _ _
              refine l_callV rfl rfl rfl (t_gr_take hHT10 101 ⟨by omega, by omega⟩ (by first | assumption | omega) (by first | assumption | omega) (by first | assumption | omega) _) ?_
              rintro _ T11 ⟨hHT11, w120, z119, rfl, w119, w115, w116, w117, w118⟩
              have hFT11 : FR md_gr_takePropertyTest S T11 := FR.tr hFT10 w120 rfl
              show Rl _ _ _ _ _ [iv z119] _ _
              refine l_if_eq rfl rfl (by unfold rg; omega) (fun w121 => ?_) (fun w122 => ?_)
              · refine l_iconst rfl ?_
                refine l_ireturn rfl rfl ?_
                have w123 : 0 ≤ Xi T11 890 1 ∧ Xi T11 890 1 ≤ 5126 := hHT11.c _ _
                exact ⟨hHT11, hFT11, _, rfl, ⟨by omega, by omega⟩, (by first | assumption | omega), (by first | assumption | omega)⟩
              · refine l_iconst rfl ?_
                refine l_goto rfl rfl ?_
                refine l_ireturn rfl rfl ?_
                have w124 : 0 ≤ Xi T11 890 1 ∧ Xi T11 890 1 ≤ 5126 := hHT11.c _ _
                exact ⟨hHT11, hFT11, _, rfl, ⟨by omega, by omega⟩, (by first | assumption | omega), (by first | assumption | omega)⟩
      · refine l_aload_n rfl rfl ?_
        have w125 : Xi T3 876 7 = Xi S 876 7 := (show Xi T3 876 7 = Xi T2 876 7 from w31.x _ _ rfl).trans ( (show Xi T2 876 7 = Xi U1 876 7 from w19.x _ _ rfl).trans ((show Xi U1 876 7 = Xi S 876 7 from by rw [eU1]; exact Xi_ne (by omega))))
        have w127 : 0 ≤ Xi T3 890 1 ∧ Xi T3 890 1 ≤ 5126 := hHT3.c _ _
        refine l_callV rfl rfl rfl (t_gr_takeWhat hHT3 (by first | assumption | omega) (by first | assumption | omega) _) ?_
        rintro _ T12 ⟨hHT12, w131, z130, rfl, w130, w128, w129⟩
        have hFT12 : FR md_gr_takePropertyTest S T12 := FR.tr hFT3 w131 rfl
        show Rl _ _ _ _ _ [iv z130] _ _
        refine l_ireturn rfl (retI_z (by omega)) ?_
        have w132 : 0 ≤ Xi T12 890 1 ∧ Xi T12 890 1 ≤ 5126 := hHT12.c _ _
        exact ⟨hHT12, hFT12, _, rfl, ⟨by omega, by omega⟩, (by first | assumption | omega), (by first | assumption | omega)⟩
    · refine l_iconst rfl ?_
      refine l_ireturn rfl rfl ?_
      have w133 : 0 ≤ Xi T3 890 1 ∧ Xi T3 890 1 ≤ 5126 := hHT3.c _ _
      exact ⟨hHT3, hFT3, _, rfl, ⟨by omega, by omega⟩, (by first | assumption | omega), (by first | assumption | omega)⟩
def md_gr_takeTest : List rec := [(890, 891, 1, 2)]
abbrev Q_gr_takeTest (S : sS) (now : Int) : pst := fun r S1 => HI S1 ∧ FR md_gr_takeTest S S1 ∧ (∃ z : Int, r = some (iv z) ∧ (0 ≤ z ∧ z ≤ 1) ∧ (Xi S 890 1 ≤ Xi S1 890 1 ∧ Xi S1 890 1 ≤ Xi S 876 7) ∧ (SAY S1 (Xi S1 890 1)))
set_option maxRecDepth 100000 in
theorem t_gr_takeTest {S : sS} (hH : HI S) (now : Int) (hnow : 0 ≤ now ∧ now ≤ 1) (ha : Xi S 890 1 ≤ Xi S 876 7) (hs : SAY S (Xi S 890 1)) (d : Nat) : Mt lay0 (d + 5) m_gr_takeTest [.ref 890, iv now] S (Q_gr_takeTest S now) := by
  refine Mt_R rfl rfl ?_
  have hF : FR md_gr_takeTest S S := FR.rf
  have w1 : 0 ≤ Xi S 876 7 ∧ Xi S 876 7 ≤ 5125 := hH.c _ _
  have w2 : 0 ≤ Xi S 890 1 ∧ Xi S 890 1 ≤ 5126 := hH.c _ _
  refine l_aload_n rfl rfl ?_
  refine l_gfr rfl rfl rfl rfl rfl (hH.r 890 0 876 rfl) ?_
  refine l_iconst rfl ?_
  refine l_aload_n rfl rfl ?_
  refine l_gfi rfl rfl rfl rfl rfl ?_
  refine l_aload_n rfl rfl ?_
  refine l_gfr rfl rfl rfl rfl rfl (hH.r 890 0 876 rfl) ?_
  refine l_aload_n rfl rfl ?_
  refine l_gfi rfl rfl rfl rfl rfl ?_
  refine l_iload_n rfl rfl ?_
  refine l_callV rfl rfl rfl (t_to_testEnd hH (Xi S 890 1) now ⟨by omega, by omega⟩ ⟨by omega, by omega⟩ _) ?_
  rintro _ _ ⟨rfl, z6, rfl, w6, w4, w5⟩
  show Rl _ _ _ _ _ [iv z6, iv (Xi S 890 1), iv 4, .ref 876] _ _
  refine l_callV rfl rfl rfl (t_to_firstOf hH 4 (Xi S 890 1) z6 ⟨by omega, by omega⟩ ⟨by omega, by omega⟩ ⟨by omega, by omega⟩ _) ?_
  rintro _ _ ⟨rfl, z8, rfl, w8, w7⟩
  show Rl _ _ _ _ _ [iv z8] _ _
  refine l_iconst rfl ?_
  refine l_icmp_ne rfl rfl (by unfold rg; omega) (by unfold rg; omega) (fun w9 => ?_) (fun w10 => ?_)
  · refine l_aload_n rfl rfl ?_
    refine l_gfr rfl rfl rfl rfl rfl (hH.r 890 0 876 rfl) ?_
    refine l_aload_n rfl rfl ?_
    refine l_gfi rfl rfl rfl rfl rfl ?_
    refine l_callV rfl rfl rfl (t_to_beginsProperty hH (Xi S 890 1) ⟨by omega, by omega⟩ _) ?_
    rintro _ _ ⟨rfl, z12, rfl, w12, w11⟩
    show Rl _ _ _ _ _ [iv z12] _ _
    refine l_if_eq rfl rfl (by unfold rg; omega) (fun w13 => ?_) (fun w14 => ?_)
    · refine l_aload_n rfl rfl ?_
      refine l_callV rfl rfl rfl (t_gr_takeThing hH (by first | assumption | omega) (by first | assumption | omega) _) ?_
      rintro _ T1 ⟨hHT1, w20, z19, rfl, w19, w17, w18⟩
      have hFT1 : FR md_gr_takeTest S T1 := FR.tr hF w20 rfl
      show Rl _ _ _ _ _ [iv z19] _ _
      refine l_if_eq rfl rfl (by unfold rg; omega) (fun w21 => ?_) (fun w22 => ?_)
      · refine l_iconst rfl ?_
        refine l_ireturn rfl rfl ?_
        have w23 : 0 ≤ Xi T1 890 1 ∧ Xi T1 890 1 ≤ 5126 := hHT1.c _ _
        exact ⟨hHT1, hFT1, _, rfl, ⟨by omega, by omega⟩, (by first | assumption | omega), (by first | assumption | omega)⟩
      · refine l_aload_n rfl rfl ?_
        refine l_iconst rfl ?_
        have w24 : Xi T1 876 7 = Xi S 876 7 := (show Xi T1 876 7 = Xi S 876 7 from w20.x _ _ rfl)
        have w26 : 0 ≤ Xi T1 890 1 ∧ Xi T1 890 1 ≤ 5126 := hHT1.c _ _
        refine l_callV rfl rfl rfl (t_gr_take hHT1 4 ⟨by omega, by omega⟩ (by first | assumption | omega) (by first | assumption | omega) (by first | assumption | omega) _) ?_
        rintro _ T2 ⟨hHT2, w32, z31, rfl, w31, w27, w28, w29, w30⟩
        have hFT2 : FR md_gr_takeTest S T2 := FR.tr hFT1 w32 rfl
        show Rl _ _ _ _ _ [iv z31] _ _
        refine l_if_ne rfl rfl (by unfold rg; omega) (fun w33 => ?_) (fun w34 => ?_)
        · refine l_aload_n rfl rfl ?_
          refine l_bipush rfl rfl ?_
          have w35 : Xi T2 876 7 = Xi S 876 7 := (show Xi T2 876 7 = Xi T1 876 7 from w32.x _ _ rfl).trans ((show Xi T1 876 7 = Xi S 876 7 from w20.x _ _ rfl))
          have w37 : 0 ≤ Xi T2 890 1 ∧ Xi T2 890 1 ≤ 5126 := hHT2.c _ _
          refine l_callV rfl rfl rfl (t_gr_take hHT2 6 ⟨by omega, by omega⟩ (by first | assumption | omega) (by first | assumption | omega) (by first | assumption | omega) _) ?_
          rintro _ T3 ⟨hHT3, w43, z42, rfl, w42, w38, w39, w40, w41⟩
          have hFT3 : FR md_gr_takeTest S T3 := FR.tr hFT2 w43 rfl
          show Rl _ _ _ _ _ [iv z42] _ _
          refine l_pop rfl rfl ?_
          refine l_iload_n rfl rfl ?_
          refine l_if_ne rfl rfl (by unfold rg; omega) (fun w44 => ?_) (fun w45 => ?_)
          · refine l_aload_n rfl rfl ?_
            have w46 : Xi T3 876 7 = Xi S 876 7 := (show Xi T3 876 7 = Xi T2 876 7 from w43.x _ _ rfl).trans ( (show Xi T2 876 7 = Xi T1 876 7 from w32.x _ _ rfl).trans ((show Xi T1 876 7 = Xi S 876 7 from w20.x _ _ rfl)))
            have w48 : 0 ≤ Xi T3 890 1 ∧ Xi T3 890 1 ≤ 5126 := hHT3.c _ _
            refine l_callV rfl rfl rfl (t_gr_takeRun hHT3 (by first | assumption | omega) (by first | assumption | omega) _) ?_
            rintro _ T4 ⟨hHT4, w53, z52, rfl, w52, w49, w50, w51⟩
            have hFT4 : FR md_gr_takeTest S T4 := FR.tr hFT3 w53 rfl
            show Rl _ _ _ _ _ [iv z52] _ _
            refine l_ireturn rfl (retI_z (by omega)) ?_
            have w54 : 0 ≤ Xi T4 890 1 ∧ Xi T4 890 1 ≤ 5126 := hHT4.c _ _
            exact ⟨hHT4, hFT4, _, rfl, ⟨by omega, by omega⟩, (by first | assumption | omega), (by first | assumption | omega)⟩
          · refine l_aload_n rfl rfl ?_
            have w55 : Xi T3 876 7 = Xi S 876 7 := (show Xi T3 876 7 = Xi T2 876 7 from w43.x _ _ rfl).trans ( (show Xi T2 876 7 = Xi T1 876 7 from w32.x _ _ rfl).trans ((show Xi T1 876 7 = Xi S 876 7 from w20.x _ _ rfl)))
            have w57 : 0 ≤ Xi T3 890 1 ∧ Xi T3 890 1 ≤ 5126 := hHT3.c _ _
            refine l_callV rfl rfl rfl (t_gr_atPlace hHT3 _) ?_
            rintro _ _ ⟨rfl, z59, rfl, w59, w58⟩
            show Rl _ _ _ _ _ [iv z59] _ _
            refine l_if_eq rfl rfl (by unfold rg; omega) (fun w60 => ?_) (fun w61 => ?_)
            · refine l_aload_n rfl rfl ?_
              refine l_callV rfl rfl rfl (t_gr_takeRun hHT3 (by first | assumption | omega) (by first | assumption | omega) _) ?_
              rintro _ T5 ⟨hHT5, w69, z68, rfl, w68, w65, w66, w67⟩
              have hFT5 : FR md_gr_takeTest S T5 := FR.tr hFT3 w69 rfl
              show Rl _ _ _ _ _ [iv z68] _ _
              refine l_ireturn rfl (retI_z (by omega)) ?_
              have w70 : 0 ≤ Xi T5 890 1 ∧ Xi T5 890 1 ≤ 5126 := hHT5.c _ _
              exact ⟨hHT5, hFT5, _, rfl, ⟨by omega, by omega⟩, (by first | assumption | omega), (by first | assumption | omega)⟩
            · refine l_aload_n rfl rfl ?_
              refine l_iconst rfl ?_
              refine l_callV rfl rfl rfl (t_gr_takePlace hHT3 1 ⟨by omega, by omega⟩ (by first | assumption | omega) (by first | assumption | omega) (by first | assumption | omega) _) ?_
              rintro _ T6 ⟨hHT6, w77, z76, rfl, w76, w74, w75⟩
              have hFT6 : FR md_gr_takeTest S T6 := FR.tr hFT3 w77 rfl
              show Rl _ _ _ _ _ [iv z76] _ _
              refine l_goto rfl rfl ?_
              refine l_ireturn rfl (retI_z (by omega)) ?_
              have w78 : 0 ≤ Xi T6 890 1 ∧ Xi T6 890 1 ≤ 5126 := hHT6.c _ _
              exact ⟨hHT6, hFT6, _, rfl, ⟨by omega, by omega⟩, (by first | assumption | omega), (by first | assumption | omega)⟩
        · refine l_iconst rfl ?_
          refine l_ireturn rfl rfl ?_
          have w79 : 0 ≤ Xi T2 890 1 ∧ Xi T2 890 1 ≤ 5126 := hHT2.c _ _
          exact ⟨hHT2, hFT2, _, rfl, ⟨by omega, by omega⟩, (by first | assumption | omega), (by first | assumption | omega)⟩
    · refine l_aload_n rfl rfl ?_
      refine l_iload_n rfl rfl ?_
      refine l_callV rfl rfl rfl (t_gr_takePropertyTest hH now ⟨by omega, by omega⟩ (by first | assumption | omega) (by first | assumption | omega) (by first | assumption | (apply_assumption; omega)) _) ?_
      rintro _ T7 ⟨hHT7, w85, z84, rfl, w84, w82, w83⟩
      have hFT7 : FR md_gr_takeTest S T7 := FR.tr hF w85 rfl
      show Rl _ _ _ _ _ [iv z84] _ _
      refine l_ireturn rfl (retI_z (by omega)) ?_
      have w86 : 0 ≤ Xi T7 890 1 ∧ Xi T7 890 1 ≤ 5126 := hHT7.c _ _
      exact ⟨hHT7, hFT7, _, rfl, ⟨by omega, by omega⟩, (by first | assumption | omega), (by first | assumption | omega)⟩
  · refine l_aload_n rfl rfl ?_
    refine l_bipush rfl rfl ?_
    refine l_bipush rfl rfl ?_
    refine l_callV rfl rfl rfl (t_gr_takeLoose hH 54 53 ⟨by omega, by omega⟩ ⟨by omega, by omega⟩ (by first | assumption | omega) (by first | assumption | omega) (by first | assumption | omega) (by first | assumption | omega) _) ?_
    rintro _ T8 ⟨hHT8, w92, z91, rfl, w91, w89, w90⟩
    have hFT8 : FR md_gr_takeTest S T8 := FR.tr hF w92 rfl
    show Rl _ _ _ _ _ [iv z91] _ _
    refine l_ireturn rfl (retI_z (by omega)) ?_
    have w93 : 0 ≤ Xi T8 890 1 ∧ Xi T8 890 1 ≤ 5126 := hHT8.c _ _
    exact ⟨hHT8, hFT8, _, rfl, ⟨by omega, by omega⟩, (by first | assumption | omega), (by first | assumption | omega)⟩
def md_gr_takeTests : List rec := [(890, 891, 1, 2)]
abbrev Q_gr_takeTests (S : sS) : pst := fun r S1 => HI S1 ∧ FR md_gr_takeTests S S1 ∧ (∃ z : Int, r = some (iv z) ∧ (0 ≤ z ∧ z ≤ 1) ∧ (Xi S 890 1 ≤ Xi S1 890 1 ∧ Xi S1 890 1 ≤ Xi S 876 7) ∧ (SAY S1 (Xi S1 890 1)))
set_option maxRecDepth 100000 in
theorem t_gr_takeTests {S : sS} (hH : HI S) (ha : Xi S 890 1 ≤ Xi S 876 7) (hs : SAY S (Xi S 890 1)) (d : Nat) : Mt lay0 (d + 6) m_gr_takeTests [.ref 890] S (Q_gr_takeTests S) := by
  refine Mt_R rfl rfl ?_
  have hF : FR md_gr_takeTests S S := FR.rf
  have w1 : 0 ≤ Xi S 876 7 ∧ Xi S 876 7 ≤ 5125 := hH.c _ _
  have w2 : 0 ≤ Xi S 890 1 ∧ Xi S 890 1 ≤ 5126 := hH.c _ _
  have C8 : ∀ (n8 : Nat) (T1 : sS) (_ : HI T1) (_ : FR md_gr_takeTests S T1) (v1 : Int) (v2 : Int), (0 ≤ v1 ∧ v1 ≤ 1) → (0 ≤ v2 ∧ v2 ≤ 5000) → (SAY T1 (Xi T1 890 1)) → (Xi S 890 1 ≤ Xi T1 890 1 ∧ Xi T1 890 1 ≤ Xi S 876 7) → n8 = (5001 - v2).toNat → Rl lay0 (d + 5) m_gr_takeTests 8 [(0, .ref 890), (1, iv v1), (2, iv v2)] [] T1 (Q_gr_takeTests S) := by
    intro n8
    induction n8 using Nat.strongRecOn with
    | ind n8 ih8 =>
      intro T1 hHT1 hFT1 v1 v2 w3 w4 hs8 w5 hm8
      have w6 : Xi T1 876 7 = Xi S 876 7 := hFT1.x _ _ rfl
      have w7 : 0 ≤ Xi T1 890 1 ∧ Xi T1 890 1 ≤ 5126 := hHT1.c _ _
      have C40 : ∀  (T2 : sS) (_ : HI T2) (_ : FR md_gr_takeTests S T2) (v1 : Int), (0 ≤ v1 ∧ v1 ≤ 1) → (SAY T2 (Xi T2 890 1)) → (Xi S 890 1 ≤ Xi T2 890 1 ∧ Xi T2 890 1 ≤ Xi S 876 7) → Rl lay0 (d + 5) m_gr_takeTests 40 [(1, iv v1)] [] T2 (Q_gr_takeTests S) := by
        intro T2 hHT2 hFT2 v1 w8 hs40 w9
        have w10 : Xi T2 876 7 = Xi S 876 7 := hFT2.x _ _ rfl
        have w11 : 0 ≤ Xi T2 890 1 ∧ Xi T2 890 1 ≤ 5126 := hHT2.c _ _
        refine l_iload_n rfl rfl ?_
        refine l_ireturn rfl (retI_z (by omega)) ?_
        exact ⟨hHT2, hFT2, _, rfl, ⟨by omega, by omega⟩, (by first | assumption | omega), (by first | assumption | omega)⟩
      refine l_iload_n rfl rfl ?_
      refine l_sipush rfl rfl ?_
      refine l_icmp_ge rfl rfl (by unfold rg; omega) (by unfold rg; omega) (fun w13 => ?_) (fun w14 => ?_)
      · have w15 : 0 ≤ Xi T1 890 1 ∧ Xi T1 890 1 ≤ 5126 := hHT1.c _ _
        exact Rl_weak (C40 T1 hHT1 hFT1 (v1) (by omega) (by first | assumption | omega) (by omega)) (And.intro rfl (True.intro))
      · refine l_iload_n rfl rfl ?_
        refine l_if_eq rfl rfl (by unfold rg; omega) (fun w16 => ?_) (fun w17 => ?_)
        · have w18 : 0 ≤ Xi T1 890 1 ∧ Xi T1 890 1 ≤ 5126 := hHT1.c _ _
          exact Rl_weak (C40 T1 hHT1 hFT1 (v1) (by omega) (by first | assumption | omega) (by omega)) (And.intro rfl (True.intro))
        · refine l_aload_n rfl rfl ?_
          refine l_bipush rfl rfl ?_
          have w19 : 0 ≤ Xi T1 876 7 ∧ Xi T1 876 7 ≤ 5125 := hHT1.c _ _
          refine l_callV rfl rfl rfl (t_gr_take hHT1 16 ⟨by omega, by omega⟩ (by first | assumption | omega) (by first | assumption | omega) (by first | assumption | omega) _) ?_
          rintro _ T3 ⟨hHT3, w26, z25, rfl, w25, w21, w22, w23, w24⟩
          have hFT3 : FR md_gr_takeTests S T3 := FR.tr hFT1 w26 rfl
          show Rl _ _ _ _ _ [iv z25] _ _
          refine l_if_eq rfl rfl (by unfold rg; omega) (fun w27 => ?_) (fun w28 => ?_)
          · have w29 : 0 ≤ Xi T3 890 1 ∧ Xi T3 890 1 ≤ 5126 := hHT3.c _ _
            exact Rl_weak (C40 T3 hHT3 hFT3 (v1) (by omega) (by first | assumption | omega) (by omega)) (And.intro rfl (True.intro))
          · refine l_aload_n rfl rfl ?_
            refine l_iconst rfl ?_
            have w30 : Xi T3 876 7 = Xi T1 876 7 := (show Xi T3 876 7 = Xi T1 876 7 from w26.x _ _ rfl)
            have w32 : 0 ≤ Xi T3 890 1 ∧ Xi T3 890 1 ≤ 5126 := hHT3.c _ _
            refine l_callV rfl rfl rfl (t_gr_takeTest hHT3 0 ⟨by omega, by omega⟩ (by first | assumption | omega) (by first | assumption | omega) _) ?_
            rintro _ T4 ⟨hHT4, w36, z35, rfl, w35, w33, w34⟩
            have hFT4 : FR md_gr_takeTests S T4 := FR.tr hFT3 w36 rfl
            show Rl _ _ _ _ _ [iv z35] _ _
            refine l_istore_n rfl rfl rfl ?_
            refine l_iinc rfl rfl rfl rfl ?_
            refine l_goto rfl rfl ?_
            have w37 : 0 ≤ Xi T4 890 1 ∧ Xi T4 890 1 ≤ 5126 := hHT4.c _ _
            exact Rl_weak (ih8 _ (by omega) T4 hHT4 hFT4 (z35) ((v2 + 1)) (by omega) (by omega) (by first | assumption | omega) (by omega) rfl) (And.intro rfl (And.intro rfl (And.intro rfl (True.intro))))
  refine l_aload_n rfl rfl ?_
  refine l_iconst rfl ?_
  refine l_callV rfl rfl rfl (t_gr_takeTest hH 0 ⟨by omega, by omega⟩ (by first | assumption | omega) (by first | assumption | omega) _) ?_
  rintro _ T5 ⟨hHT5, w43, z42, rfl, w42, w40, w41⟩
  have hFT5 : FR md_gr_takeTests S T5 := FR.tr hF w43 rfl
  show Rl _ _ _ _ _ [iv z42] _ _
  refine l_istore_n rfl rfl rfl ?_
  refine l_iconst rfl ?_
  refine l_istore_n rfl rfl rfl ?_
  have w44 : 0 ≤ Xi T5 890 1 ∧ Xi T5 890 1 ≤ 5126 := hHT5.c _ _
  exact Rl_weak (C8 _ T5 hHT5 hFT5 (z42) (0) (by omega) (by omega) (by first | assumption | omega) (by omega) rfl) (And.intro rfl (And.intro rfl (And.intro rfl (True.intro))))
def md_gr_takeActing : List rec := [(890, 891, 1, 2)]
abbrev Q_gr_takeActing (S : sS) : pst := fun r S1 => HI S1 ∧ FR md_gr_takeActing S S1 ∧ (∃ z : Int, r = some (iv z) ∧ (0 ≤ z ∧ z ≤ 1) ∧ (Xi S 890 1 ≤ Xi S1 890 1 ∧ Xi S1 890 1 ≤ Xi S 876 7) ∧ (SAY S1 (Xi S1 890 1)))
set_option maxRecDepth 100000 in
theorem t_gr_takeActing {S : sS} (hH : HI S) (ha : Xi S 890 1 ≤ Xi S 876 7) (hs : SAY S (Xi S 890 1)) (d : Nat) : Mt lay0 (d + 3) m_gr_takeActing [.ref 890] S (Q_gr_takeActing S) := by
  refine Mt_R rfl rfl ?_
  have hF : FR md_gr_takeActing S S := FR.rf
  have w1 : 0 ≤ Xi S 876 7 ∧ Xi S 876 7 ≤ 5125 := hH.c _ _
  have w2 : 0 ≤ Xi S 890 1 ∧ Xi S 890 1 ≤ 5126 := hH.c _ _
  refine l_aload_n rfl rfl ?_
  refine l_callV rfl rfl rfl (t_gr_takeRun hH (by first | assumption | omega) (by first | assumption | omega) _) ?_
  rintro _ T1 ⟨hHT1, w9, z8, rfl, w8, w5, w6, w7⟩
  have hFT1 : FR md_gr_takeActing S T1 := FR.tr hF w9 rfl
  show Rl _ _ _ _ _ [iv z8] _ _
  refine l_if_eq rfl rfl (by unfold rg; omega) (fun w10 => ?_) (fun w11 => ?_)
  · refine l_iconst rfl ?_
    refine l_ireturn rfl rfl ?_
    have w12 : 0 ≤ Xi T1 890 1 ∧ Xi T1 890 1 ≤ 5126 := hHT1.c _ _
    exact ⟨hHT1, hFT1, _, rfl, ⟨by omega, by omega⟩, (by first | assumption | omega), (by first | assumption | omega)⟩
  · refine l_aload_n rfl rfl ?_
    have w13 : Xi T1 876 7 = Xi S 876 7 := (show Xi T1 876 7 = Xi S 876 7 from w9.x _ _ rfl)
    have w15 : 0 ≤ Xi T1 890 1 ∧ Xi T1 890 1 ≤ 5126 := hHT1.c _ _
    refine l_callV rfl rfl rfl (t_gr_takeArt hHT1 (by first | assumption | omega) (by first | assumption | omega) _) ?_
    rintro _ T2 ⟨hHT2, w20, z19, rfl, w19, w16, w17, w18⟩
    have hFT2 : FR md_gr_takeActing S T2 := FR.tr hFT1 w20 rfl
    show Rl _ _ _ _ _ [iv z19] _ _
    refine l_if_eq rfl rfl (by unfold rg; omega) (fun w21 => ?_) (fun w22 => ?_)
    · refine l_iconst rfl ?_
      refine l_goto rfl rfl ?_
      refine l_ireturn rfl rfl ?_
      have w23 : 0 ≤ Xi T2 890 1 ∧ Xi T2 890 1 ≤ 5126 := hHT2.c _ _
      exact ⟨hHT2, hFT2, _, rfl, ⟨by omega, by omega⟩, (by first | assumption | omega), (by first | assumption | omega)⟩
    · refine l_aload_n rfl rfl ?_
      have w24 : Xi T2 876 7 = Xi S 876 7 := (show Xi T2 876 7 = Xi T1 876 7 from w20.x _ _ rfl).trans ((show Xi T1 876 7 = Xi S 876 7 from w9.x _ _ rfl))
      have w26 : 0 ≤ Xi T2 890 1 ∧ Xi T2 890 1 ≤ 5126 := hHT2.c _ _
      refine l_callV rfl rfl rfl (t_gr_takeRun hHT2 (by first | assumption | omega) (by first | assumption | omega) _) ?_
      rintro _ T3 ⟨hHT3, w31, z30, rfl, w30, w27, w28, w29⟩
      have hFT3 : FR md_gr_takeActing S T3 := FR.tr hFT2 w31 rfl
      show Rl _ _ _ _ _ [iv z30] _ _
      refine l_if_eq rfl rfl (by unfold rg; omega) (fun w32 => ?_) (fun w33 => ?_)
      · refine l_iconst rfl ?_
        refine l_ireturn rfl rfl ?_
        have w34 : 0 ≤ Xi T3 890 1 ∧ Xi T3 890 1 ≤ 5126 := hHT3.c _ _
        exact ⟨hHT3, hFT3, _, rfl, ⟨by omega, by omega⟩, (by first | assumption | omega), (by first | assumption | omega)⟩
      · refine l_iconst rfl ?_
        refine l_goto rfl rfl ?_
        refine l_ireturn rfl rfl ?_
        have w35 : 0 ≤ Xi T3 890 1 ∧ Xi T3 890 1 ≤ 5126 := hHT3.c _ _
        exact ⟨hHT3, hFT3, _, rfl, ⟨by omega, by omega⟩, (by first | assumption | omega), (by first | assumption | omega)⟩
def md_gr_takeList : List rec := [(890, 891, 1, 2)]
abbrev Q_gr_takeList (S : sS) : pst := fun r S1 => HI S1 ∧ FR md_gr_takeList S S1 ∧ (∃ z : Int, r = some (iv z) ∧ (0 ≤ z ∧ z ≤ 1) ∧ (Xi S 890 1 ≤ Xi S1 890 1 ∧ Xi S1 890 1 ≤ Xi S 876 7) ∧ (SAY S1 (Xi S1 890 1)))
set_option maxRecDepth 100000 in
theorem t_gr_takeList {S : sS} (hH : HI S) (ha : Xi S 890 1 ≤ Xi S 876 7) (hs : SAY S (Xi S 890 1)) (d : Nat) : Mt lay0 (d + 4) m_gr_takeList [.ref 890] S (Q_gr_takeList S) := by
  refine Mt_R rfl rfl ?_
  have hF : FR md_gr_takeList S S := FR.rf
  have w1 : 0 ≤ Xi S 876 7 ∧ Xi S 876 7 ≤ 5125 := hH.c _ _
  have w2 : 0 ≤ Xi S 890 1 ∧ Xi S 890 1 ≤ 5126 := hH.c _ _
  have C7 : ∀ (n7 : Nat) (T1 : sS) (_ : HI T1) (_ : FR md_gr_takeList S T1) (v1 : Int) (v2 : Int), (0 ≤ v1 ∧ v1 ≤ 1) → (0 ≤ v2 ∧ v2 ≤ 5000) → (SAY T1 (Xi T1 890 1)) → (Xi S 890 1 ≤ Xi T1 890 1 ∧ Xi T1 890 1 ≤ Xi S 876 7) → n7 = (5001 - v2).toNat → Rl lay0 (d + 3) m_gr_takeList 7 [(0, .ref 890), (1, iv v1), (2, iv v2)] [] T1 (Q_gr_takeList S) := by
    intro n7
    induction n7 using Nat.strongRecOn with
    | ind n7 ih7 =>
      intro T1 hHT1 hFT1 v1 v2 w3 w4 hs7 w5 hm7
      have w6 : Xi T1 876 7 = Xi S 876 7 := hFT1.x _ _ rfl
      have w7 : 0 ≤ Xi T1 890 1 ∧ Xi T1 890 1 ≤ 5126 := hHT1.c _ _
      have C36 : ∀  (T2 : sS) (_ : HI T2) (_ : FR md_gr_takeList S T2) (v1 : Int), (0 ≤ v1 ∧ v1 ≤ 1) → (SAY T2 (Xi T2 890 1)) → (Xi S 890 1 ≤ Xi T2 890 1 ∧ Xi T2 890 1 ≤ Xi S 876 7) → Rl lay0 (d + 3) m_gr_takeList 36 [(1, iv v1)] [] T2 (Q_gr_takeList S) := by
        intro T2 hHT2 hFT2 v1 w8 hs36 w9
        have w10 : Xi T2 876 7 = Xi S 876 7 := hFT2.x _ _ rfl
        have w11 : 0 ≤ Xi T2 890 1 ∧ Xi T2 890 1 ≤ 5126 := hHT2.c _ _
        refine l_iload_n rfl rfl ?_
        refine l_ireturn rfl (retI_z (by omega)) ?_
        exact ⟨hHT2, hFT2, _, rfl, ⟨by omega, by omega⟩, (by first | assumption | omega), (by first | assumption | omega)⟩
      refine l_iload_n rfl rfl ?_
      refine l_sipush rfl rfl ?_
      refine l_icmp_ge rfl rfl (by unfold rg; omega) (by unfold rg; omega) (fun w13 => ?_) (fun w14 => ?_)
      · have w15 : 0 ≤ Xi T1 890 1 ∧ Xi T1 890 1 ≤ 5126 := hHT1.c _ _
        exact Rl_weak (C36 T1 hHT1 hFT1 (v1) (by omega) (by first | assumption | omega) (by omega)) (And.intro rfl (True.intro))
      · refine l_iload_n rfl rfl ?_
        refine l_if_eq rfl rfl (by unfold rg; omega) (fun w16 => ?_) (fun w17 => ?_)
        · have w18 : 0 ≤ Xi T1 890 1 ∧ Xi T1 890 1 ≤ 5126 := hHT1.c _ _
          exact Rl_weak (C36 T1 hHT1 hFT1 (v1) (by omega) (by first | assumption | omega) (by omega)) (And.intro rfl (True.intro))
        · refine l_aload_n rfl rfl ?_
          have w19 : 0 ≤ Xi T1 876 7 ∧ Xi T1 876 7 ≤ 5125 := hHT1.c _ _
          refine l_callV rfl rfl rfl (t_gr_takeBetween hHT1 (by first | assumption | omega) (by first | assumption | omega) _) ?_
          rintro _ T3 ⟨hHT3, w24, z23, rfl, w23, w21, w22⟩
          have hFT3 : FR md_gr_takeList S T3 := FR.tr hFT1 w24 rfl
          show Rl _ _ _ _ _ [iv z23] _ _
          refine l_if_eq rfl rfl (by unfold rg; omega) (fun w25 => ?_) (fun w26 => ?_)
          · have w27 : 0 ≤ Xi T3 890 1 ∧ Xi T3 890 1 ≤ 5126 := hHT3.c _ _
            exact Rl_weak (C36 T3 hHT3 hFT3 (v1) (by omega) (by first | assumption | omega) (by omega)) (And.intro rfl (True.intro))
          · refine l_aload_n rfl rfl ?_
            have w28 : Xi T3 876 7 = Xi T1 876 7 := (show Xi T3 876 7 = Xi T1 876 7 from w24.x _ _ rfl)
            have w30 : 0 ≤ Xi T3 890 1 ∧ Xi T3 890 1 ≤ 5126 := hHT3.c _ _
            refine l_callV rfl rfl rfl (t_gr_takeName hHT3 (by first | assumption | omega) (by first | assumption | omega) _) ?_
            rintro _ T4 ⟨hHT4, w34, z33, rfl, w33, w31, w32⟩
            have hFT4 : FR md_gr_takeList S T4 := FR.tr hFT3 w34 rfl
            show Rl _ _ _ _ _ [iv z33] _ _
            refine l_istore_n rfl rfl rfl ?_
            refine l_iinc rfl rfl rfl rfl ?_
            refine l_goto rfl rfl ?_
            have w35 : 0 ≤ Xi T4 890 1 ∧ Xi T4 890 1 ≤ 5126 := hHT4.c _ _
            exact Rl_weak (ih7 _ (by omega) T4 hHT4 hFT4 (z33) ((v2 + 1)) (by omega) (by omega) (by first | assumption | omega) (by omega) rfl) (And.intro rfl (And.intro rfl (And.intro rfl (True.intro))))
  refine l_aload_n rfl rfl ?_
  refine l_callV rfl rfl rfl (t_gr_takeName hH (by first | assumption | omega) (by first | assumption | omega) _) ?_
  rintro _ T5 ⟨hHT5, w41, z40, rfl, w40, w38, w39⟩
  have hFT5 : FR md_gr_takeList S T5 := FR.tr hF w41 rfl
  show Rl _ _ _ _ _ [iv z40] _ _
  refine l_istore_n rfl rfl rfl ?_
  refine l_iconst rfl ?_
  refine l_istore_n rfl rfl rfl ?_
  have w42 : 0 ≤ Xi T5 890 1 ∧ Xi T5 890 1 ≤ 5126 := hHT5.c _ _
  exact Rl_weak (C7 _ T5 hHT5 hFT5 (z40) (0) (by omega) (by omega) (by first | assumption | omega) (by omega) rfl) (And.intro rfl (And.intro rfl (And.intro rfl (True.intro))))
def md_gr_checkRuns : List rec := [(890, 891, 1, 2), (890, 891, 2, 3)]
abbrev Q_gr_checkRuns (S : sS) (alone : Int) : pst := fun r S1 => HI S1 ∧ FR md_gr_checkRuns S S1 ∧ (∃ z : Int, r = some (iv z) ∧ (0 ≤ z ∧ z ≤ 1) ∧ (Xi S 890 1 ≤ Xi S1 890 1 ∧ Xi S1 890 1 ≤ Xi S 876 7) ∧ (SAY S1 (Xi S1 890 1)) ∧ (14 ≤ Xi S1 890 2))
set_option maxRecDepth 100000 in
theorem t_gr_checkRuns {S : sS} (hH : HI S) (alone : Int) (halone : 0 ≤ alone ∧ alone ≤ 1) (ha : Xi S 890 1 ≤ Xi S 876 7) (hs : SAY S (Xi S 890 1)) (d : Nat) : Mt lay0 (d + 4) m_gr_checkRuns [.ref 890, iv alone] S (Q_gr_checkRuns S alone) := by
  refine Mt_R rfl rfl ?_
  have hF : FR md_gr_checkRuns S S := FR.rf
  have w1 : 0 ≤ Xi S 876 7 ∧ Xi S 876 7 ≤ 5125 := hH.c _ _
  have w2 : 0 ≤ Xi S 890 1 ∧ Xi S 890 1 ≤ 5126 := hH.c _ _
  have w3 : 0 ≤ Xi S 890 2 ∧ Xi S 890 2 ≤ 20 := hH.c _ _
  have C56 : ∀  (T1 : sS) (_ : HI T1) (_ : FR md_gr_checkRuns S T1), (SAY T1 (Xi T1 890 1)) → (Xi S 890 1 ≤ Xi T1 890 1 ∧ Xi T1 890 1 ≤ Xi S 876 7) → (14 ≤ Xi T1 890 2) → Rl lay0 (d + 3) m_gr_checkRuns 56 [(0, .ref 890), (1, iv alone)] [] T1 (Q_gr_checkRuns S alone) := by
    intro T1 hHT1 hFT1 hs56 w4 w5
    have w6 : Xi T1 876 7 = Xi S 876 7 := hFT1.x _ _ rfl
    have w7 : 0 ≤ Xi T1 890 1 ∧ Xi T1 890 1 ≤ 5126 := hHT1.c _ _
    have w8 : 0 ≤ Xi T1 890 2 ∧ Xi T1 890 2 ≤ 20 := hHT1.c _ _
    have C58 : ∀ (n58 : Nat) (T2 : sS) (_ : HI T2) (_ : FR md_gr_checkRuns S T2) (v2 : Int), (0 ≤ v2 ∧ v2 ≤ 5000) → (SAY T2 (Xi T2 890 1)) → (Xi S 890 1 ≤ Xi T2 890 1 ∧ Xi T2 890 1 ≤ Xi S 876 7) → (14 ≤ Xi T2 890 2) → n58 = (5001 - v2).toNat → Rl lay0 (d + 3) m_gr_checkRuns 58 [(0, .ref 890), (1, iv alone), (2, iv v2)] [] T2 (Q_gr_checkRuns S alone) := by
      intro n58
      induction n58 using Nat.strongRecOn with
      | ind n58 ih58 =>
        intro T2 hHT2 hFT2 v2 w9 hs58 w10 w11 hm58
        have w12 : Xi T2 876 7 = Xi S 876 7 := hFT2.x _ _ rfl
        have w13 : 0 ≤ Xi T2 890 1 ∧ Xi T2 890 1 ≤ 5126 := hHT2.c _ _
        have w14 : 0 ≤ Xi T2 890 2 ∧ Xi T2 890 2 ≤ 20 := hHT2.c _ _
        have C97 : ∀  (T3 : sS) (_ : HI T3) (_ : FR md_gr_checkRuns S T3), (SAY T3 (Xi T3 890 1)) → (Xi S 890 1 ≤ Xi T3 890 1 ∧ Xi T3 890 1 ≤ Xi S 876 7) → (14 ≤ Xi T3 890 2) → Rl lay0 (d + 3) m_gr_checkRuns 97 [(0, .ref 890)] [] T3 (Q_gr_checkRuns S alone) := by
          intro T3 hHT3 hFT3 hs97 w15 w16
          have w17 : Xi T3 876 7 = Xi S 876 7 := hFT3.x _ _ rfl
          have w18 : 0 ≤ Xi T3 890 1 ∧ Xi T3 890 1 ≤ 5126 := hHT3.c _ _
          have w19 : 0 ≤ Xi T3 890 2 ∧ Xi T3 890 2 ≤ 20 := hHT3.c _ _
          refine l_aload_n rfl rfl ?_
          refine l_bipush rfl rfl ?_
          have w20 : 0 ≤ Xi T3 876 7 ∧ Xi T3 876 7 ≤ 5125 := hHT3.c _ _
          refine l_callV rfl rfl rfl (t_gr_take hHT3 103 ⟨by omega, by omega⟩ (by first | assumption | omega) (by first | assumption | omega) (by first | assumption | omega) _) ?_
          rintro _ T4 ⟨hHT4, w27, z26, rfl, w26, w22, w23, w24, w25⟩
          have hFT4 : FR md_gr_checkRuns S T4 := FR.tr hFT3 w27 rfl
          show Rl _ _ _ _ _ [iv z26] _ _
          refine l_ireturn rfl (retI_z (by omega)) ?_
          have w28 : 0 ≤ Xi T4 890 1 ∧ Xi T4 890 1 ≤ 5126 := hHT4.c _ _
          have w29 : Xi T4 890 2 = Xi T3 890 2 := (show Xi T4 890 2 = Xi T3 890 2 from w27.x _ _ rfl)
          exact ⟨hHT4, hFT4, _, rfl, ⟨by omega, by omega⟩, (by first | assumption | omega), (by first | assumption | omega), (by first | assumption | omega)⟩
        refine l_iload_n rfl rfl ?_
        refine l_sipush rfl rfl ?_
        refine l_icmp_ge rfl rfl (by unfold rg; omega) (by unfold rg; omega) (fun w31 => ?_) (fun w32 => ?_)
        · have w33 : 0 ≤ Xi T2 890 1 ∧ Xi T2 890 1 ≤ 5126 := hHT2.c _ _
          exact Rl_weak (C97 T2 hHT2 hFT2  (by first | assumption | omega) (by omega) (by omega)) (And.intro rfl (True.intro))
        · refine l_iload_n rfl rfl ?_
          refine l_if_ne rfl rfl (by unfold rg; omega) (fun w35 => ?_) (fun w36 => ?_)
          · have w37 : 0 ≤ Xi T2 890 1 ∧ Xi T2 890 1 ≤ 5126 := hHT2.c _ _
            exact Rl_weak (C97 T2 hHT2 hFT2  (by first | assumption | omega) (by omega) (by omega)) (And.intro rfl (True.intro))
          · refine l_aload_n rfl rfl ?_
            have w39 : 0 ≤ Xi T2 876 7 ∧ Xi T2 876 7 ≤ 5125 := hHT2.c _ _
            refine l_callV rfl rfl rfl (t_gr_takeBetween hHT2 (by first | assumption | omega) (by first | assumption | omega) _) ?_
            rintro _ T5 ⟨hHT5, w44, z43, rfl, w43, w41, w42⟩
            have hFT5 : FR md_gr_checkRuns S T5 := FR.tr hFT2 w44 rfl
            show Rl _ _ _ _ _ [iv z43] _ _
            refine l_if_eq rfl rfl (by unfold rg; omega) (fun w45 => ?_) (fun w46 => ?_)
            · have w47 : 0 ≤ Xi T5 890 1 ∧ Xi T5 890 1 ≤ 5126 := hHT5.c _ _
              have w48 : Xi T5 890 2 = Xi T2 890 2 := (show Xi T5 890 2 = Xi T2 890 2 from w44.x _ _ rfl)
              exact Rl_weak (C97 T5 hHT5 hFT5  (by first | assumption | omega) (by omega) (by omega)) (And.intro rfl (True.intro))
            · refine l_aload_n rfl rfl ?_
              refine l_bipush rfl rfl ?_
              refine l_pfi rfl rfl rfl rfl ?_
              obtain ⟨U6, eU6⟩ : ∃ T : sS, T = uI T5 890 2 (Int32.ofInt 16) := ⟨_, rfl⟩
              rw [← eU6]
              have hHU6 : HI U6 := by rw [eU6]; exact HI_w hHT5 (show 0 ≤ 16 by omega) (show 16 ≤ 20 by omega)
              have hFU6 : FR md_gr_checkRuns S U6 := by rw [eU6]; exact FR.wI hFT5 (mdf_i (r := (890, 891, 2, 3)) (List.mem_of_getElem? (i := 1) rfl) (inR_i (by omega) (by omega) (by omega) (by omega)))
              have w50 : Xi U6 890 2 = 16 := by rw [eU6]; exact Xi_same (by unfold rg; omega)
              have hso79 : SAY U6 (Xi U6 890 1) := SAY_sort eU6 (by assumption) (by decide)
              refine l_aload_n rfl rfl ?_
              have w51 : Xi U6 876 7 = Xi T2 876 7 := (show Xi U6 876 7 = Xi T5 876 7 from by rw [eU6]; exact Xi_ne (by omega)).trans ((show Xi T5 876 7 = Xi T2 876 7 from w44.x _ _ rfl))
              have w53 : Xi U6 890 1 = Xi T5 890 1 := (show Xi U6 890 1 = Xi T5 890 1 from by rw [eU6]; exact Xi_ne (by omega))
              have w54 : 0 ≤ Xi T5 890 1 ∧ Xi T5 890 1 ≤ 5126 := hHT5.c _ _
              refine l_callV rfl rfl rfl (t_gr_takeRun hHU6 (by first | assumption | omega) (by first | assumption | omega) _) ?_
              rintro _ T7 ⟨hHT7, w59, z58, rfl, w58, w55, w56, w57⟩
              have hFT7 : FR md_gr_checkRuns S T7 := FR.tr hFU6 w59 rfl
              show Rl _ _ _ _ _ [iv z58] _ _
              refine l_if_ne rfl rfl (by unfold rg; omega) (fun w60 => ?_) (fun w61 => ?_)
              · refine l_iinc rfl rfl rfl rfl ?_
                refine l_goto rfl rfl ?_
                have w62 : 0 ≤ Xi T7 890 1 ∧ Xi T7 890 1 ≤ 5126 := hHT7.c _ _
                have w63 : Xi T7 890 2 = Xi U6 890 2 := (show Xi T7 890 2 = Xi U6 890 2 from w59.x _ _ rfl)
                have w64 : 0 ≤ Xi U6 890 2 ∧ Xi U6 890 2 ≤ 20 := hHU6.c _ _
                exact Rl_weak (ih58 _ (by omega) T7 hHT7 hFT7 ((v2 + 1)) (by omega) (by first | assumption | omega) (by omega) (by omega) rfl) (And.intro rfl (And.intro rfl (And.intro rfl (True.intro))))
              · refine l_iconst rfl ?_
                refine l_ireturn rfl rfl ?_
                have w65 : 0 ≤ Xi T7 890 1 ∧ Xi T7 890 1 ≤ 5126 := hHT7.c _ _
                have w66 : Xi T7 890 2 = Xi U6 890 2 := (show Xi T7 890 2 = Xi U6 890 2 from w59.x _ _ rfl)
                have w67 : 0 ≤ Xi U6 890 2 ∧ Xi U6 890 2 ≤ 20 := hHU6.c _ _
                exact ⟨hHT7, hFT7, _, rfl, ⟨by omega, by omega⟩, (by first | assumption | omega), (by first | assumption | omega), (by first | assumption | omega)⟩
    refine l_iconst rfl ?_
    refine l_istore_n rfl rfl rfl ?_
    exact Rl_weak (C58 _ T1 hHT1 hFT1 (0) (by omega) (by first | assumption | omega) (by omega) (by omega) rfl) (And.intro rfl (And.intro rfl (And.intro rfl (True.intro))))
  refine l_aload_n rfl rfl ?_
  refine l_bipush rfl rfl ?_
  refine l_pfi rfl rfl rfl rfl ?_
  obtain ⟨U8, eU8⟩ : ∃ T : sS, T = uI S 890 2 (Int32.ofInt 15) := ⟨_, rfl⟩
  rw [← eU8]
  have hHU8 : HI U8 := by rw [eU8]; exact HI_w hH (show 0 ≤ 15 by omega) (show 15 ≤ 20 by omega)
  have hFU8 : FR md_gr_checkRuns S U8 := by rw [eU8]; exact FR.wI hF (mdf_i (r := (890, 891, 2, 3)) (List.mem_of_getElem? (i := 1) rfl) (inR_i (by omega) (by omega) (by omega) (by omega)))
  have w70 : Xi U8 890 2 = 15 := by rw [eU8]; exact Xi_same (by unfold rg; omega)
  have hso3 : SAY U8 (Xi U8 890 1) := SAY_sort eU8 (by assumption) (by decide)
  refine l_aload_n rfl rfl ?_
  have w71 : Xi U8 876 7 = Xi S 876 7 := (show Xi U8 876 7 = Xi S 876 7 from by rw [eU8]; exact Xi_ne (by omega))
  have w73 : Xi U8 890 1 = Xi S 890 1 := (show Xi U8 890 1 = Xi S 890 1 from by rw [eU8]; exact Xi_ne (by omega))
  refine l_callV rfl rfl rfl (t_gr_takeRun hHU8 (by first | assumption | omega) (by first | assumption | omega) _) ?_
  rintro _ T9 ⟨hHT9, w79, z78, rfl, w78, w75, w76, w77⟩
  have hFT9 : FR md_gr_checkRuns S T9 := FR.tr hFU8 w79 rfl
  show Rl _ _ _ _ _ [iv z78] _ _
  refine l_if_ne rfl rfl (by unfold rg; omega) (fun w80 => ?_) (fun w81 => ?_)
  · refine l_iload_n rfl rfl ?_
    refine l_if_ne rfl rfl (by unfold rg; omega) (fun w82 => ?_) (fun w83 => ?_)
    · have w84 : 0 ≤ Xi T9 890 1 ∧ Xi T9 890 1 ≤ 5126 := hHT9.c _ _
      have w85 : Xi T9 890 2 = Xi U8 890 2 := (show Xi T9 890 2 = Xi U8 890 2 from w79.x _ _ rfl)
      have w86 : 0 ≤ Xi U8 890 2 ∧ Xi U8 890 2 ≤ 20 := hHU8.c _ _
      exact Rl_weak (C56 T9 hHT9 hFT9  (by first | assumption | omega) (by omega) (by omega)) (And.intro rfl (And.intro rfl (True.intro)))
    · refine l_aload_n rfl rfl ?_
      refine l_bipush rfl rfl ?_
      have w87 : Xi T9 876 7 = Xi S 876 7 := (show Xi T9 876 7 = Xi U8 876 7 from w79.x _ _ rfl).trans ((show Xi U8 876 7 = Xi S 876 7 from by rw [eU8]; exact Xi_ne (by omega)))
      have w89 : 0 ≤ Xi T9 890 1 ∧ Xi T9 890 1 ≤ 5126 := hHT9.c _ _
      refine l_callV rfl rfl rfl (t_gr_take hHT9 7 ⟨by omega, by omega⟩ (by first | assumption | omega) (by first | assumption | omega) (by first | assumption | omega) _) ?_
      rintro _ T10 ⟨hHT10, w95, z94, rfl, w94, w90, w91, w92, w93⟩
      have hFT10 : FR md_gr_checkRuns S T10 := FR.tr hFT9 w95 rfl
      show Rl _ _ _ _ _ [iv z94] _ _
      refine l_if_eq rfl rfl (by unfold rg; omega) (fun w96 => ?_) (fun w97 => ?_)
      · have w98 : 0 ≤ Xi T10 890 1 ∧ Xi T10 890 1 ≤ 5126 := hHT10.c _ _
        have w99 : Xi T10 890 2 = Xi U8 890 2 := (show Xi T10 890 2 = Xi T9 890 2 from w95.x _ _ rfl).trans ((show Xi T9 890 2 = Xi U8 890 2 from w79.x _ _ rfl))
        have w100 : 0 ≤ Xi U8 890 2 ∧ Xi U8 890 2 ≤ 20 := hHU8.c _ _
        exact Rl_weak (C56 T10 hHT10 hFT10  (by first | assumption | omega) (by omega) (by omega)) (And.intro rfl (And.intro rfl (True.intro)))
      · refine l_aload_n rfl rfl ?_
        refine l_bipush rfl rfl ?_
        refine l_pfi rfl rfl rfl rfl ?_
        obtain ⟨U11, eU11⟩ : ∃ T : sS, T = uI T10 890 2 (Int32.ofInt 14) := ⟨_, rfl⟩
        rw [← eU11]
        have hHU11 : HI U11 := by rw [eU11]; exact HI_w hHT10 (show 0 ≤ 14 by omega) (show 14 ≤ 20 by omega)
        have hFU11 : FR md_gr_checkRuns S U11 := by rw [eU11]; exact FR.wI hFT10 (mdf_i (r := (890, 891, 2, 3)) (List.mem_of_getElem? (i := 1) rfl) (inR_i (by omega) (by omega) (by omega) (by omega)))
        have w101 : Xi U11 890 2 = 14 := by rw [eU11]; exact Xi_same (by unfold rg; omega)
        have hso31 : SAY U11 (Xi U11 890 1) := SAY_sort eU11 (by assumption) (by decide)
        refine l_aload_n rfl rfl ?_
        have w102 : Xi U11 876 7 = Xi S 876 7 := (show Xi U11 876 7 = Xi T10 876 7 from by rw [eU11]; exact Xi_ne (by omega)).trans ( (show Xi T10 876 7 = Xi T9 876 7 from w95.x _ _ rfl).trans ( (show Xi T9 876 7 = Xi U8 876 7 from w79.x _ _ rfl).trans ((show Xi U8 876 7 = Xi S 876 7 from by rw [eU8]; exact Xi_ne (by omega)))))
        have w104 : Xi U11 890 1 = Xi T10 890 1 := (show Xi U11 890 1 = Xi T10 890 1 from by rw [eU11]; exact Xi_ne (by omega))
        have w105 : 0 ≤ Xi T10 890 1 ∧ Xi T10 890 1 ≤ 5126 := hHT10.c _ _
        refine l_callV rfl rfl rfl (t_gr_takeName hHU11 (by first | assumption | omega) (by first | assumption | omega) _) ?_
        rintro _ T12 ⟨hHT12, w109, z108, rfl, w108, w106, w107⟩
        have hFT12 : FR md_gr_checkRuns S T12 := FR.tr hFU11 w109 rfl
        show Rl _ _ _ _ _ [iv z108] _ _
        refine l_if_eq rfl rfl (by unfold rg; omega) (fun w110 => ?_) (fun w111 => ?_)
        · refine l_iconst rfl ?_
          refine l_ireturn rfl rfl ?_
          have w112 : 0 ≤ Xi T12 890 1 ∧ Xi T12 890 1 ≤ 5126 := hHT12.c _ _
          have w113 : Xi T12 890 2 = Xi U11 890 2 := (show Xi T12 890 2 = Xi U11 890 2 from w109.x _ _ rfl)
          have w114 : 0 ≤ Xi U11 890 2 ∧ Xi U11 890 2 ≤ 20 := hHU11.c _ _
          exact ⟨hHT12, hFT12, _, rfl, ⟨by omega, by omega⟩, (by first | assumption | omega), (by first | assumption | omega), (by first | assumption | omega)⟩
        · refine l_aload_n rfl rfl ?_
          refine l_bipush rfl rfl ?_
          have w115 : Xi T12 876 7 = Xi S 876 7 := (show Xi T12 876 7 = Xi U11 876 7 from w109.x _ _ rfl).trans ( (show Xi U11 876 7 = Xi T10 876 7 from by rw [eU11]; exact Xi_ne (by omega)).trans ( (show Xi T10 876 7 = Xi T9 876 7 from w95.x _ _ rfl).trans ( (show Xi T9 876 7 = Xi U8 876 7 from w79.x _ _ rfl).trans ((show Xi U8 876 7 = Xi S 876 7 from by rw [eU8]; exact Xi_ne (by omega))))))
          have w117 : 0 ≤ Xi T12 890 1 ∧ Xi T12 890 1 ≤ 5126 := hHT12.c _ _
          refine l_callV rfl rfl rfl (t_gr_take hHT12 103 ⟨by omega, by omega⟩ (by first | assumption | omega) (by first | assumption | omega) (by first | assumption | omega) _) ?_
          rintro _ T13 ⟨hHT13, w123, z122, rfl, w122, w118, w119, w120, w121⟩
          have hFT13 : FR md_gr_checkRuns S T13 := FR.tr hFT12 w123 rfl
          show Rl _ _ _ _ _ [iv z122] _ _
          refine l_if_eq rfl rfl (by unfold rg; omega) (fun w124 => ?_) (fun w125 => ?_)
          · refine l_iconst rfl ?_
            refine l_ireturn rfl rfl ?_
            have w126 : 0 ≤ Xi T13 890 1 ∧ Xi T13 890 1 ≤ 5126 := hHT13.c _ _
            have w127 : Xi T13 890 2 = Xi U11 890 2 := (show Xi T13 890 2 = Xi T12 890 2 from w123.x _ _ rfl).trans ((show Xi T12 890 2 = Xi U11 890 2 from w109.x _ _ rfl))
            have w128 : 0 ≤ Xi U11 890 2 ∧ Xi U11 890 2 ≤ 20 := hHU11.c _ _
            exact ⟨hHT13, hFT13, _, rfl, ⟨by omega, by omega⟩, (by first | assumption | omega), (by first | assumption | omega), (by first | assumption | omega)⟩
          · refine l_iconst rfl ?_
            refine l_goto rfl rfl ?_
            refine l_ireturn rfl rfl ?_
            have w129 : 0 ≤ Xi T13 890 1 ∧ Xi T13 890 1 ≤ 5126 := hHT13.c _ _
            have w130 : Xi T13 890 2 = Xi U11 890 2 := (show Xi T13 890 2 = Xi T12 890 2 from w123.x _ _ rfl).trans ((show Xi T12 890 2 = Xi U11 890 2 from w109.x _ _ rfl))
            have w131 : 0 ≤ Xi U11 890 2 ∧ Xi U11 890 2 ≤ 20 := hHU11.c _ _
            exact ⟨hHT13, hFT13, _, rfl, ⟨by omega, by omega⟩, (by first | assumption | omega), (by first | assumption | omega), (by first | assumption | omega)⟩
  · refine l_iconst rfl ?_
    refine l_ireturn rfl rfl ?_
    have w132 : 0 ≤ Xi T9 890 1 ∧ Xi T9 890 1 ≤ 5126 := hHT9.c _ _
    have w133 : Xi T9 890 2 = Xi U8 890 2 := (show Xi T9 890 2 = Xi U8 890 2 from w79.x _ _ rfl)
    have w134 : 0 ≤ Xi U8 890 2 ∧ Xi U8 890 2 ≤ 20 := hHU8.c _ _
    exact ⟨hHT9, hFT9, _, rfl, ⟨by omega, by omega⟩, (by first | assumption | omega), (by first | assumption | omega), (by first | assumption | omega)⟩
def md_gr_takePhrase : List rec := [(890, 891, 1, 2)]
abbrev Q_gr_takePhrase (S : sS) : pst := fun r S1 => HI S1 ∧ FR md_gr_takePhrase S S1 ∧ (∃ z : Int, r = some (iv z) ∧ (0 ≤ z ∧ z ≤ 1) ∧ (Xi S 890 1 ≤ Xi S1 890 1 ∧ Xi S1 890 1 ≤ Xi S 876 7) ∧ (z = 1 → SAY S1 (Xi S1 890 1)))
set_option maxRecDepth 100000 in
theorem t_gr_takePhrase {S : sS} (hH : HI S) (ha : Xi S 890 1 ≤ Xi S 876 7) (hs : SAY S (Xi S 890 1)) (d : Nat) : Mt lay0 (d + 4) m_gr_takePhrase [.ref 890] S (Q_gr_takePhrase S) := by
  refine Mt_R rfl rfl ?_
  have hF : FR md_gr_takePhrase S S := FR.rf
  have w1 : 0 ≤ Xi S 876 7 ∧ Xi S 876 7 ≤ 5125 := hH.c _ _
  have w2 : 0 ≤ Xi S 890 1 ∧ Xi S 890 1 ≤ 5126 := hH.c _ _
  refine l_aload_n rfl rfl ?_
  refine l_bipush rfl rfl ?_
  refine l_callV rfl rfl rfl (t_gr_take__2 hH 43 ⟨by omega, by omega⟩ (by first | assumption | omega) _) ?_
  rintro _ T1 ⟨hHT1, w9, z8, rfl, w8, w5, w6, w7⟩
  have hFT1 : FR md_gr_takePhrase S T1 := FR.tr hF w9 rfl
  show Rl _ _ _ _ _ [iv z8] _ _
  refine l_if_eq rfl rfl (by unfold rg; omega) (fun w10 => ?_) (fun w11 => ?_)
  · refine l_aload_n rfl rfl ?_
    have hs16 : SAY T1 (Xi T1 890 1) := by rw [show Xi T1 890 1 = Xi S 890 1 by omega]; exact SAY_fr (m877 hFT1 rfl) hs
    refine l_bipush rfl rfl ?_
    have w12 : Xi T1 876 7 = Xi S 876 7 := (show Xi T1 876 7 = Xi S 876 7 from w9.x _ _ rfl)
    have w14 : 0 ≤ Xi T1 890 1 ∧ Xi T1 890 1 ≤ 5126 := hHT1.c _ _
    refine l_callV rfl rfl rfl (t_gr_take hHT1 45 ⟨by omega, by omega⟩ (by first | assumption | omega) (by first | assumption | omega) (by first | assumption | omega) _) ?_
    rintro _ T2 ⟨hHT2, w20, z19, rfl, w19, w15, w16, w17, w18⟩
    have hFT2 : FR md_gr_takePhrase S T2 := FR.tr hFT1 w20 rfl
    show Rl _ _ _ _ _ [iv z19] _ _
    refine l_if_eq rfl rfl (by unfold rg; omega) (fun w21 => ?_) (fun w22 => ?_)
    · refine l_aload_n rfl rfl ?_
      refine l_bipush rfl rfl ?_
      have w23 : Xi T2 876 7 = Xi S 876 7 := (show Xi T2 876 7 = Xi T1 876 7 from w20.x _ _ rfl).trans ((show Xi T1 876 7 = Xi S 876 7 from w9.x _ _ rfl))
      have w25 : 0 ≤ Xi T2 890 1 ∧ Xi T2 890 1 ≤ 5126 := hHT2.c _ _
      refine l_callV rfl rfl rfl (t_gr_take hHT2 46 ⟨by omega, by omega⟩ (by first | assumption | omega) (by first | assumption | omega) (by first | assumption | omega) _) ?_
      rintro _ T3 ⟨hHT3, w31, z30, rfl, w30, w26, w27, w28, w29⟩
      have hFT3 : FR md_gr_takePhrase S T3 := FR.tr hFT2 w31 rfl
      show Rl _ _ _ _ _ [iv z30] _ _
      refine l_if_ne rfl rfl (by unfold rg; omega) (fun w32 => ?_) (fun w33 => ?_)
      · refine l_aload_n rfl rfl ?_
        refine l_iconst rfl ?_
        have w34 : Xi T3 876 7 = Xi S 876 7 := (show Xi T3 876 7 = Xi T2 876 7 from w31.x _ _ rfl).trans ( (show Xi T2 876 7 = Xi T1 876 7 from w20.x _ _ rfl).trans ((show Xi T1 876 7 = Xi S 876 7 from w9.x _ _ rfl)))
        have w36 : 0 ≤ Xi T3 890 1 ∧ Xi T3 890 1 ≤ 5126 := hHT3.c _ _
        refine l_callV rfl rfl rfl (t_gr_take hHT3 2 ⟨by omega, by omega⟩ (by first | assumption | omega) (by first | assumption | omega) (by first | assumption | omega) _) ?_
        rintro _ T4 ⟨hHT4, w42, z41, rfl, w41, w37, w38, w39, w40⟩
        have hFT4 : FR md_gr_takePhrase S T4 := FR.tr hFT3 w42 rfl
        show Rl _ _ _ _ _ [iv z41] _ _
        refine l_if_eq rfl rfl (by unfold rg; omega) (fun w43 => ?_) (fun w44 => ?_)
        · refine l_iconst rfl ?_
          refine l_ireturn rfl rfl ?_
          have w45 : 0 ≤ Xi T4 890 1 ∧ Xi T4 890 1 ≤ 5126 := hHT4.c _ _
          exact ⟨hHT4, hFT4, _, rfl, ⟨by omega, by omega⟩, (by omega), (by first | (intro _; assumption) | (intro hz; exact say_two2 (T := T3) hs (by omega) (m877 (by assumption) rfl) (m877 (by assumption) rfl) (by omega) (by omega) (by omega)))⟩
        · refine l_aload_n rfl rfl ?_
          have w46 : Xi T4 876 7 = Xi S 876 7 := (show Xi T4 876 7 = Xi T3 876 7 from w42.x _ _ rfl).trans ( (show Xi T3 876 7 = Xi T2 876 7 from w31.x _ _ rfl).trans ( (show Xi T2 876 7 = Xi T1 876 7 from w20.x _ _ rfl).trans ((show Xi T1 876 7 = Xi S 876 7 from w9.x _ _ rfl))))
          have w48 : 0 ≤ Xi T4 890 1 ∧ Xi T4 890 1 ≤ 5126 := hHT4.c _ _
          refine l_callV rfl rfl rfl (t_gr_takeRun hHT4 (by first | assumption | omega) (by first | assumption | omega) _) ?_
          rintro _ T5 ⟨hHT5, w53, z52, rfl, w52, w49, w50, w51⟩
          have hFT5 : FR md_gr_takePhrase S T5 := FR.tr hFT4 w53 rfl
          show Rl _ _ _ _ _ [iv z52] _ _
          refine l_if_eq rfl rfl (by unfold rg; omega) (fun w54 => ?_) (fun w55 => ?_)
          · refine l_iconst rfl ?_
            refine l_ireturn rfl rfl ?_
            have w56 : 0 ≤ Xi T5 890 1 ∧ Xi T5 890 1 ≤ 5126 := hHT5.c _ _
            exact ⟨hHT5, hFT5, _, rfl, ⟨by omega, by omega⟩, (by omega), (by first | (intro _; assumption) | (intro hz; exact say_two2 (T := T4) hs (by omega) (m877 (by assumption) rfl) (m877 (by assumption) rfl) (by omega) (by omega) (by omega)))⟩
          · refine l_aload_n rfl rfl ?_
            refine l_bipush rfl rfl ?_
            have w57 : Xi T5 876 7 = Xi S 876 7 := (show Xi T5 876 7 = Xi T4 876 7 from w53.x _ _ rfl).trans ( (show Xi T4 876 7 = Xi T3 876 7 from w42.x _ _ rfl).trans ( (show Xi T3 876 7 = Xi T2 876 7 from w31.x _ _ rfl).trans ( (show Xi T2 876 7 = Xi T1 876 7 from w20.x _ _ rfl).trans ((show Xi T1 876 7 = Xi S 876 7 from w9.x _ _ rfl)))))
            have w59 : 0 ≤ Xi T5 890 1 ∧ Xi T5 890 1 ≤ 5126 := hHT5.c _ _
            refine l_callV rfl rfl rfl (t_gr_take hHT5 7 ⟨by omega, by omega⟩ (by first | assumption | omega) (by first | assumption | omega) (by first | assumption | omega) _) ?_
            rintro _ T6 ⟨hHT6, w65, z64, rfl, w64, w60, w61, w62, w63⟩
            have hFT6 : FR md_gr_takePhrase S T6 := FR.tr hFT5 w65 rfl
            show Rl _ _ _ _ _ [iv z64] _ _
            refine l_if_eq rfl rfl (by unfold rg; omega) (fun w66 => ?_) (fun w67 => ?_)
            · refine l_iconst rfl ?_
              refine l_ireturn rfl rfl ?_
              have w68 : 0 ≤ Xi T6 890 1 ∧ Xi T6 890 1 ≤ 5126 := hHT6.c _ _
              exact ⟨hHT6, hFT6, _, rfl, ⟨by omega, by omega⟩, (by omega), (by first | (intro _; assumption) | (intro hz; exact say_two2 (T := T5) hs (by omega) (m877 (by assumption) rfl) (m877 (by assumption) rfl) (by omega) (by omega) (by omega)))⟩
            · refine l_aload_n rfl rfl ?_
              have w69 : Xi T6 876 7 = Xi S 876 7 := (show Xi T6 876 7 = Xi T5 876 7 from w65.x _ _ rfl).trans ( (show Xi T5 876 7 = Xi T4 876 7 from w53.x _ _ rfl).trans ( (show Xi T4 876 7 = Xi T3 876 7 from w42.x _ _ rfl).trans ( (show Xi T3 876 7 = Xi T2 876 7 from w31.x _ _ rfl).trans ( (show Xi T2 876 7 = Xi T1 876 7 from w20.x _ _ rfl).trans ((show Xi T1 876 7 = Xi S 876 7 from w9.x _ _ rfl))))))
              have w71 : 0 ≤ Xi T6 890 1 ∧ Xi T6 890 1 ≤ 5126 := hHT6.c _ _
              refine l_callV rfl rfl rfl (t_gr_takeThing hHT6 (by first | assumption | omega) (by first | assumption | omega) _) ?_
              rintro _ T7 ⟨hHT7, w75, z74, rfl, w74, w72, w73⟩
              have hFT7 : FR md_gr_takePhrase S T7 := FR.tr hFT6 w75 rfl
              show Rl _ _ _ _ _ [iv z74] _ _
              refine l_if_eq rfl rfl (by unfold rg; omega) (fun w76 => ?_) (fun w77 => ?_)
              · refine l_iconst rfl ?_
                refine l_ireturn rfl rfl ?_
                have w78 : 0 ≤ Xi T7 890 1 ∧ Xi T7 890 1 ≤ 5126 := hHT7.c _ _
                exact ⟨hHT7, hFT7, _, rfl, ⟨by omega, by omega⟩, (by omega), (by first | (intro _; assumption) | (intro hz; exact say_two2 (T := T6) hs (by omega) (m877 (by assumption) rfl) (m877 (by assumption) rfl) (by omega) (by omega) (by omega)))⟩
              · refine l_aload_n rfl rfl ?_
                refine l_bipush rfl rfl ?_
                have w79 : Xi T7 876 7 = Xi S 876 7 := (show Xi T7 876 7 = Xi T6 876 7 from w75.x _ _ rfl).trans ( (show Xi T6 876 7 = Xi T5 876 7 from w65.x _ _ rfl).trans ( (show Xi T5 876 7 = Xi T4 876 7 from w53.x _ _ rfl).trans ( (show Xi T4 876 7 = Xi T3 876 7 from w42.x _ _ rfl).trans ( (show Xi T3 876 7 = Xi T2 876 7 from w31.x _ _ rfl).trans ( (show Xi T2 876 7 = Xi T1 876 7 from w20.x _ _ rfl).trans ((show Xi T1 876 7 = Xi S 876 7 from w9.x _ _ rfl)))))))
                have w81 : 0 ≤ Xi T7 890 1 ∧ Xi T7 890 1 ≤ 5126 := hHT7.c _ _
                refine l_callV rfl rfl rfl (t_gr_take hHT7 10 ⟨by omega, by omega⟩ (by first | assumption | omega) (by first | assumption | omega) (by first | assumption | omega) _) ?_
                rintro _ T8 ⟨hHT8, w87, z86, rfl, w86, w82, w83, w84, w85⟩
                have hFT8 : FR md_gr_takePhrase S T8 := FR.tr hFT7 w87 rfl
                show Rl _ _ _ _ _ [iv z86] _ _
                refine l_if_eq rfl rfl (by unfold rg; omega) (fun w88 => ?_) (fun w89 => ?_)
                · refine l_iconst rfl ?_
                  refine l_ireturn rfl rfl ?_
                  have w90 : 0 ≤ Xi T8 890 1 ∧ Xi T8 890 1 ≤ 5126 := hHT8.c _ _
                  exact ⟨hHT8, hFT8, _, rfl, ⟨by omega, by omega⟩, (by omega), (by first | (intro _; assumption) | (intro hz; exact say_two2 (T := T7) hs (by omega) (m877 (by assumption) rfl) (m877 (by assumption) rfl) (by omega) (by omega) (by omega)))⟩
                · refine l_aload_n rfl rfl ?_
                  refine l_bipush rfl rfl ?_
                  have w91 : Xi T8 876 7 = Xi S 876 7 := (show Xi T8 876 7 = Xi T7 876 7 from w87.x _ _ rfl).trans ( (show Xi T7 876 7 = Xi T6 876 7 from w75.x _ _ rfl).trans ( (show Xi T6 876 7 = Xi T5 876 7 from w65.x _ _ rfl).trans ( (show Xi T5 876 7 = Xi T4 876 7 from w53.x _ _ rfl).trans ( (show Xi T4 876 7 = Xi T3 876 7 from w42.x _ _ rfl).trans ( (show Xi T3 876 7 = Xi T2 876 7 from w31.x _ _ rfl).trans ( (show Xi T2 876 7 = Xi T1 876 7 from w20.x _ _ rfl).trans ((show Xi T1 876 7 = Xi S 876 7 from w9.x _ _ rfl))))))))
                  have w93 : 0 ≤ Xi T8 890 1 ∧ Xi T8 890 1 ≤ 5126 := hHT8.c _ _
                  refine l_callV rfl rfl rfl (t_gr_take hHT8 101 ⟨by omega, by omega⟩ (by first | assumption | omega) (by first | assumption | omega) (by first | assumption | omega) _) ?_
                  rintro _ T9 ⟨hHT9, w99, z98, rfl, w98, w94, w95, w96, w97⟩
                  have hFT9 : FR md_gr_takePhrase S T9 := FR.tr hFT8 w99 rfl
                  show Rl _ _ _ _ _ [iv z98] _ _
                  refine l_if_eq rfl rfl (by unfold rg; omega) (fun w100 => ?_) (fun w101 => ?_)
                  · refine l_iconst rfl ?_
                    refine l_ireturn rfl rfl ?_
                    have w102 : 0 ≤ Xi T9 890 1 ∧ Xi T9 890 1 ≤ 5126 := hHT9.c _ _
                    exact ⟨hHT9, hFT9, _, rfl, ⟨by omega, by omega⟩, (by omega), (by first | (intro _; assumption) | (intro hz; exact say_two2 (T := T8) hs (by omega) (m877 (by assumption) rfl) (m877 (by assumption) rfl) (by omega) (by omega) (by omega)))⟩
                  · refine l_iconst rfl ?_
                    refine l_goto rfl rfl ?_
                    refine l_ireturn rfl rfl ?_
                    have w103 : 0 ≤ Xi T9 890 1 ∧ Xi T9 890 1 ≤ 5126 := hHT9.c _ _
                    exact ⟨hHT9, hFT9, _, rfl, ⟨by omega, by omega⟩, (by omega), (by first | (intro _; assumption) | (intro hz; exact say_two2 (T := T8) hs (by omega) (m877 (by assumption) rfl) (m877 (by assumption) rfl) (by omega) (by omega) (by omega)))⟩
      · refine l_aload_n rfl rfl ?_
        refine l_bipush rfl rfl ?_
        have w104 : Xi T3 876 7 = Xi S 876 7 := (show Xi T3 876 7 = Xi T2 876 7 from w31.x _ _ rfl).trans ( (show Xi T2 876 7 = Xi T1 876 7 from w20.x _ _ rfl).trans ((show Xi T1 876 7 = Xi S 876 7 from w9.x _ _ rfl)))
        have w106 : 0 ≤ Xi T3 890 1 ∧ Xi T3 890 1 ≤ 5126 := hHT3.c _ _
        refine l_callV rfl rfl rfl (t_gr_take hHT3 47 ⟨by omega, by omega⟩ (by first | assumption | omega) (by first | assumption | omega) (by first | assumption | omega) _) ?_
        rintro _ T10 ⟨hHT10, w112, z111, rfl, w111, w107, w108, w109, w110⟩
        have hFT10 : FR md_gr_takePhrase S T10 := FR.tr hFT3 w112 rfl
        show Rl _ _ _ _ _ [iv z111] _ _
        refine l_if_eq rfl rfl (by unfold rg; omega) (fun w113 => ?_) (fun w114 => ?_)
        · refine l_aload_n rfl rfl ?_
          refine l_bipush rfl rfl ?_
          have w115 : Xi T10 876 7 = Xi S 876 7 := (show Xi T10 876 7 = Xi T3 876 7 from w112.x _ _ rfl).trans ( (show Xi T3 876 7 = Xi T2 876 7 from w31.x _ _ rfl).trans ( (show Xi T2 876 7 = Xi T1 876 7 from w20.x _ _ rfl).trans ((show Xi T1 876 7 = Xi S 876 7 from w9.x _ _ rfl))))
          have w117 : 0 ≤ Xi T10 890 1 ∧ Xi T10 890 1 ≤ 5126 := hHT10.c _ _
          refine l_callV rfl rfl rfl (t_gr_take hHT10 49 ⟨by omega, by omega⟩ (by first | assumption | omega) (by first | assumption | omega) (by first | assumption | omega) _) ?_
          rintro _ T11 ⟨hHT11, w123, z122, rfl, w122, w118, w119, w120, w121⟩
          have hFT11 : FR md_gr_takePhrase S T11 := FR.tr hFT10 w123 rfl
          show Rl _ _ _ _ _ [iv z122] _ _
          refine l_if_eq rfl rfl (by unfold rg; omega) (fun w124 => ?_) (fun w125 => ?_)
          · refine l_aload_n rfl rfl ?_
            refine l_bipush rfl rfl ?_
            have w126 : Xi T11 876 7 = Xi S 876 7 := (show Xi T11 876 7 = Xi T10 876 7 from w123.x _ _ rfl).trans ( (show Xi T10 876 7 = Xi T3 876 7 from w112.x _ _ rfl).trans ( (show Xi T3 876 7 = Xi T2 876 7 from w31.x _ _ rfl).trans ( (show Xi T2 876 7 = Xi T1 876 7 from w20.x _ _ rfl).trans ((show Xi T1 876 7 = Xi S 876 7 from w9.x _ _ rfl)))))
            have w128 : 0 ≤ Xi T11 890 1 ∧ Xi T11 890 1 ≤ 5126 := hHT11.c _ _
            refine l_callV rfl rfl rfl (t_gr_take hHT11 48 ⟨by omega, by omega⟩ (by first | assumption | omega) (by first | assumption | omega) (by first | assumption | omega) _) ?_
            rintro _ T12 ⟨hHT12, w134, z133, rfl, w133, w129, w130, w131, w132⟩
            have hFT12 : FR md_gr_takePhrase S T12 := FR.tr hFT11 w134 rfl
            show Rl _ _ _ _ _ [iv z133] _ _
            refine l_ireturn rfl (retI_z (by omega)) ?_
            have w135 : 0 ≤ Xi T12 890 1 ∧ Xi T12 890 1 ≤ 5126 := hHT12.c _ _
            exact ⟨hHT12, hFT12, _, rfl, ⟨by omega, by omega⟩, (by omega), (by first | (intro _; assumption) | (intro hz; exact say_two2 (T := T11) hs (by omega) (m877 (by assumption) rfl) (m877 (by assumption) rfl) (by omega) (by omega) (by omega)))⟩
          · refine l_aload_n rfl rfl ?_
            have w136 : Xi T11 876 7 = Xi S 876 7 := (show Xi T11 876 7 = Xi T10 876 7 from w123.x _ _ rfl).trans ( (show Xi T10 876 7 = Xi T3 876 7 from w112.x _ _ rfl).trans ( (show Xi T3 876 7 = Xi T2 876 7 from w31.x _ _ rfl).trans ( (show Xi T2 876 7 = Xi T1 876 7 from w20.x _ _ rfl).trans ((show Xi T1 876 7 = Xi S 876 7 from w9.x _ _ rfl)))))
            have w138 : 0 ≤ Xi T11 890 1 ∧ Xi T11 890 1 ≤ 5126 := hHT11.c _ _
            refine l_callV rfl rfl rfl (t_gr_takeRun hHT11 (by first | assumption | omega) (by first | assumption | omega) _) ?_
            rintro _ T13 ⟨hHT13, w143, z142, rfl, w142, w139, w140, w141⟩
            have hFT13 : FR md_gr_takePhrase S T13 := FR.tr hFT11 w143 rfl
            show Rl _ _ _ _ _ [iv z142] _ _
            refine l_istore_n rfl rfl rfl ?_
            refine l_aload_n rfl rfl ?_
            refine l_gfr rfl rfl rfl rfl rfl (hHT13.r 890 0 876 rfl) ?_
            refine l_aload_n rfl rfl ?_
            refine l_gfi rfl rfl rfl rfl rfl ?_
            have w144 : 0 ≤ (Xi T13 890 1) ∧ (Xi T13 890 1) ≤ 5126 := hHT13.c _ _
            have w145 : Xi T13 876 7 = Xi S 876 7 := (show Xi T13 876 7 = Xi T11 876 7 from w143.x _ _ rfl).trans ( (show Xi T11 876 7 = Xi T10 876 7 from w123.x _ _ rfl).trans ( (show Xi T10 876 7 = Xi T3 876 7 from w112.x _ _ rfl).trans ( (show Xi T3 876 7 = Xi T2 876 7 from w31.x _ _ rfl).trans ( (show Xi T2 876 7 = Xi T1 876 7 from w20.x _ _ rfl).trans ((show Xi T1 876 7 = Xi S 876 7 from w9.x _ _ rfl))))))
            refine l_callV rfl rfl rfl (t_to_typeAt hHT13 (Xi T13 890 1) ⟨by omega, by omega⟩ _) ?_
            rintro _ _ ⟨rfl, z150, rfl, w150, w147, w148, w149⟩
            show Rl _ _ _ _ _ [iv z150] _ _
            refine l_istore_n rfl rfl rfl ?_
            refine l_iload_n rfl rfl ?_
            refine l_callS rfl rfl (by decide) rfl (t_rs_isArt hHT13 z150 ⟨by omega, by omega⟩ _) ?_
            rintro _ _ ⟨rfl, z152, rfl, w152, w151⟩
            show Rl _ _ _ _ _ [iv z152] _ _
            refine l_if_ne rfl rfl (by unfold rg; omega) (fun w153 => ?_) (fun w154 => ?_)
            · refine l_iconst rfl ?_
              refine l_goto rfl rfl ?_
              refine l_istore_n rfl rfl rfl ?_
              refine l_iload_n rfl rfl ?_
              refine l_if_eq rfl rfl (by unfold rg; omega) (fun w155 => ?_) (fun w156 => ?_)
              · refine l_iconst rfl ?_
                refine l_ireturn rfl rfl ?_
                have w157 : 0 ≤ Xi T13 890 1 ∧ Xi T13 890 1 ≤ 5126 := hHT13.c _ _
                exact ⟨hHT13, hFT13, _, rfl, ⟨by omega, by omega⟩, (by omega), (by first | (intro _; assumption) | (intro hz; exact say_two2 (T := T11) hs (by omega) (m877 (by assumption) rfl) (m877 (by assumption) rfl) (by omega) (by omega) (by omega)))⟩
              · refine l_iload_n rfl rfl ?_
                refine l_if_eq rfl rfl (by unfold rg; omega) (fun w158 => absurd w158 (by omega)) (fun w159 => ?_)
                · refine l_aload_n rfl rfl ?_
                  have w162 : 0 ≤ Xi T13 890 1 ∧ Xi T13 890 1 ≤ 5126 := hHT13.c _ _
                  refine l_callV rfl rfl rfl (t_gr_takeThing hHT13 (by first | assumption | omega) (by first | assumption | omega) _) ?_
                  rintro _ T14 ⟨hHT14, w166, z165, rfl, w165, w163, w164⟩
                  have hFT14 : FR md_gr_takePhrase S T14 := FR.tr hFT13 w166 rfl
                  show Rl _ _ _ _ _ [iv z165] _ _
                  refine l_if_eq rfl rfl (by unfold rg; omega) (fun w167 => ?_) (fun w168 => ?_)
                  · refine l_iconst rfl ?_
                    refine l_ireturn rfl rfl ?_
                    have w169 : 0 ≤ Xi T14 890 1 ∧ Xi T14 890 1 ≤ 5126 := hHT14.c _ _
                    exact ⟨hHT14, hFT14, _, rfl, ⟨by omega, by omega⟩, (by omega), (by first | (intro _; assumption) | (intro hz; exact say_two2 (T := T13) hs (by omega) (m877 (by assumption) rfl) (m877 (by assumption) rfl) (by omega) (by omega) (by omega)))⟩
                  · refine l_iconst rfl ?_
                    refine l_goto rfl rfl ?_
                    refine l_ireturn rfl rfl ?_
                    have w170 : 0 ≤ Xi T14 890 1 ∧ Xi T14 890 1 ≤ 5126 := hHT14.c _ _
                    exact ⟨hHT14, hFT14, _, rfl, ⟨by omega, by omega⟩, (by omega), (by first | (intro _; assumption) | (intro hz; exact say_two2 (T := T13) hs (by omega) (m877 (by assumption) rfl) (m877 (by assumption) rfl) (by omega) (by omega) (by omega)))⟩
            · refine l_iload_n rfl rfl ?_
              refine l_bipush rfl rfl ?_
              refine l_icmp_eq rfl rfl (by unfold rg; omega) (by unfold rg; omega) (fun w171 => ?_) (fun w172 => ?_)
              · refine l_iconst rfl ?_
                refine l_goto rfl rfl ?_
                refine l_istore_n rfl rfl rfl ?_
                refine l_iload_n rfl rfl ?_
                refine l_if_eq rfl rfl (by unfold rg; omega) (fun w173 => ?_) (fun w174 => ?_)
                · refine l_iconst rfl ?_
                  refine l_ireturn rfl rfl ?_
                  have w175 : 0 ≤ Xi T13 890 1 ∧ Xi T13 890 1 ≤ 5126 := hHT13.c _ _
                  exact ⟨hHT13, hFT13, _, rfl, ⟨by omega, by omega⟩, (by omega), (by first | (intro _; assumption) | (intro hz; exact say_two2 (T := T11) hs (by omega) (m877 (by assumption) rfl) (m877 (by assumption) rfl) (by omega) (by omega) (by omega)))⟩
                · refine l_iload_n rfl rfl ?_
                  refine l_if_eq rfl rfl (by unfold rg; omega) (fun w176 => absurd w176 (by omega)) (fun w177 => ?_)
                  · refine l_aload_n rfl rfl ?_
                    have w180 : 0 ≤ Xi T13 890 1 ∧ Xi T13 890 1 ≤ 5126 := hHT13.c _ _
                    refine l_callV rfl rfl rfl (t_gr_takeThing hHT13 (by first | assumption | omega) (by first | assumption | omega) _) ?_
                    rintro _ T15 ⟨hHT15, w184, z183, rfl, w183, w181, w182⟩
                    have hFT15 : FR md_gr_takePhrase S T15 := FR.tr hFT13 w184 rfl
                    show Rl _ _ _ _ _ [iv z183] _ _
                    refine l_if_eq rfl rfl (by unfold rg; omega) (fun w185 => ?_) (fun w186 => ?_)
                    · refine l_iconst rfl ?_
                      refine l_ireturn rfl rfl ?_
                      have w187 : 0 ≤ Xi T15 890 1 ∧ Xi T15 890 1 ≤ 5126 := hHT15.c _ _
                      exact ⟨hHT15, hFT15, _, rfl, ⟨by omega, by omega⟩, (by omega), (by first | (intro _; assumption) | (intro hz; exact say_two2 (T := T13) hs (by omega) (m877 (by assumption) rfl) (m877 (by assumption) rfl) (by omega) (by omega) (by omega)))⟩
                    · refine l_iconst rfl ?_
                      refine l_goto rfl rfl ?_
                      refine l_ireturn rfl rfl ?_
                      have w188 : 0 ≤ Xi T15 890 1 ∧ Xi T15 890 1 ≤ 5126 := hHT15.c _ _
                      exact ⟨hHT15, hFT15, _, rfl, ⟨by omega, by omega⟩, (by omega), (by first | (intro _; assumption) | (intro hz; exact say_two2 (T := T13) hs (by omega) (m877 (by assumption) rfl) (m877 (by assumption) rfl) (by omega) (by omega) (by omega)))⟩
              · refine l_iload_n rfl rfl ?_
                refine l_bipush rfl rfl ?_
                refine l_icmp_ne rfl rfl (by unfold rg; omega) (by unfold rg; omega) (fun w189 => ?_) (fun w190 => ?_)
                · refine l_iconst rfl ?_
                  refine l_istore_n rfl rfl rfl ?_
                  refine l_iload_n rfl rfl ?_
                  refine l_if_eq rfl rfl (by unfold rg; omega) (fun w191 => ?_) (fun w192 => ?_)
                  · refine l_iconst rfl ?_
                    refine l_ireturn rfl rfl ?_
                    have w193 : 0 ≤ Xi T13 890 1 ∧ Xi T13 890 1 ≤ 5126 := hHT13.c _ _
                    exact ⟨hHT13, hFT13, _, rfl, ⟨by omega, by omega⟩, (by omega), (by first | (intro _; assumption) | (intro hz; exact say_two2 (T := T11) hs (by omega) (m877 (by assumption) rfl) (m877 (by assumption) rfl) (by omega) (by omega) (by omega)))⟩
                  · refine l_iload_n rfl rfl ?_
                    refine l_if_eq rfl rfl (by unfold rg; omega) (fun w194 => ?_) (fun w195 => absurd w195 (by omega))
                    · refine l_iconst rfl ?_
                      refine l_goto rfl rfl ?_
                      refine l_ireturn rfl rfl ?_
                      have w196 : 0 ≤ Xi T13 890 1 ∧ Xi T13 890 1 ≤ 5126 := hHT13.c _ _
                      exact ⟨hHT13, hFT13, _, rfl, ⟨by omega, by omega⟩, (by omega), (by first | (intro _; assumption) | (intro hz; exact say_two2 (T := T11) hs (by omega) (m877 (by assumption) rfl) (m877 (by assumption) rfl) (by omega) (by omega) (by omega)))⟩
                · refine l_iconst rfl ?_
                  refine l_goto rfl rfl ?_
                  refine l_istore_n rfl rfl rfl ?_
                  refine l_iload_n rfl rfl ?_
                  refine l_if_eq rfl rfl (by unfold rg; omega) (fun w197 => ?_) (fun w198 => ?_)
                  · refine l_iconst rfl ?_
                    refine l_ireturn rfl rfl ?_
                    have w199 : 0 ≤ Xi T13 890 1 ∧ Xi T13 890 1 ≤ 5126 := hHT13.c _ _
                    exact ⟨hHT13, hFT13, _, rfl, ⟨by omega, by omega⟩, (by omega), (by first | (intro _; assumption) | (intro hz; exact say_two2 (T := T11) hs (by omega) (m877 (by assumption) rfl) (m877 (by assumption) rfl) (by omega) (by omega) (by omega)))⟩
                  · refine l_iload_n rfl rfl ?_
                    refine l_if_eq rfl rfl (by unfold rg; omega) (fun w200 => absurd w200 (by omega)) (fun w201 => ?_)
                    · refine l_aload_n rfl rfl ?_
                      have w204 : 0 ≤ Xi T13 890 1 ∧ Xi T13 890 1 ≤ 5126 := hHT13.c _ _
                      refine l_callV rfl rfl rfl (t_gr_takeThing hHT13 (by first | assumption | omega) (by first | assumption | omega) _) ?_
                      rintro _ T16 ⟨hHT16, w208, z207, rfl, w207, w205, w206⟩
                      have hFT16 : FR md_gr_takePhrase S T16 := FR.tr hFT13 w208 rfl
                      show Rl _ _ _ _ _ [iv z207] _ _
                      refine l_if_eq rfl rfl (by unfold rg; omega) (fun w209 => ?_) (fun w210 => ?_)
                      · refine l_iconst rfl ?_
                        refine l_ireturn rfl rfl ?_
                        have w211 : 0 ≤ Xi T16 890 1 ∧ Xi T16 890 1 ≤ 5126 := hHT16.c _ _
                        exact ⟨hHT16, hFT16, _, rfl, ⟨by omega, by omega⟩, (by omega), (by first | (intro _; assumption) | (intro hz; exact say_two2 (T := T13) hs (by omega) (m877 (by assumption) rfl) (m877 (by assumption) rfl) (by omega) (by omega) (by omega)))⟩
                      · refine l_iconst rfl ?_
                        refine l_goto rfl rfl ?_
                        refine l_ireturn rfl rfl ?_
                        have w212 : 0 ≤ Xi T16 890 1 ∧ Xi T16 890 1 ≤ 5126 := hHT16.c _ _
                        exact ⟨hHT16, hFT16, _, rfl, ⟨by omega, by omega⟩, (by omega), (by first | (intro _; assumption) | (intro hz; exact say_two2 (T := T13) hs (by omega) (m877 (by assumption) rfl) (m877 (by assumption) rfl) (by omega) (by omega) (by omega)))⟩
        · refine l_aload_n rfl rfl ?_
          refine l_iconst rfl ?_
          have w213 : Xi T10 876 7 = Xi S 876 7 := (show Xi T10 876 7 = Xi T3 876 7 from w112.x _ _ rfl).trans ( (show Xi T3 876 7 = Xi T2 876 7 from w31.x _ _ rfl).trans ( (show Xi T2 876 7 = Xi T1 876 7 from w20.x _ _ rfl).trans ((show Xi T1 876 7 = Xi S 876 7 from w9.x _ _ rfl))))
          have w215 : 0 ≤ Xi T10 890 1 ∧ Xi T10 890 1 ≤ 5126 := hHT10.c _ _
          refine l_callV rfl rfl rfl (t_gr_take hHT10 2 ⟨by omega, by omega⟩ (by first | assumption | omega) (by first | assumption | omega) (by first | assumption | omega) _) ?_
          rintro _ T17 ⟨hHT17, w221, z220, rfl, w220, w216, w217, w218, w219⟩
          have hFT17 : FR md_gr_takePhrase S T17 := FR.tr hFT10 w221 rfl
          show Rl _ _ _ _ _ [iv z220] _ _
          refine l_if_eq rfl rfl (by unfold rg; omega) (fun w222 => ?_) (fun w223 => ?_)
          · refine l_iconst rfl ?_
            refine l_ireturn rfl rfl ?_
            have w224 : 0 ≤ Xi T17 890 1 ∧ Xi T17 890 1 ≤ 5126 := hHT17.c _ _
            exact ⟨hHT17, hFT17, _, rfl, ⟨by omega, by omega⟩, (by omega), (by first | (intro _; assumption) | (intro hz; exact say_two2 (T := T10) hs (by omega) (m877 (by assumption) rfl) (m877 (by assumption) rfl) (by omega) (by omega) (by omega)))⟩
          · refine l_aload_n rfl rfl ?_
            have w225 : Xi T17 876 7 = Xi S 876 7 := (show Xi T17 876 7 = Xi T10 876 7 from w221.x _ _ rfl).trans ( (show Xi T10 876 7 = Xi T3 876 7 from w112.x _ _ rfl).trans ( (show Xi T3 876 7 = Xi T2 876 7 from w31.x _ _ rfl).trans ( (show Xi T2 876 7 = Xi T1 876 7 from w20.x _ _ rfl).trans ((show Xi T1 876 7 = Xi S 876 7 from w9.x _ _ rfl)))))
            have w227 : 0 ≤ Xi T17 890 1 ∧ Xi T17 890 1 ≤ 5126 := hHT17.c _ _
            refine l_callV rfl rfl rfl (t_gr_takeRun hHT17 (by first | assumption | omega) (by first | assumption | omega) _) ?_
            rintro _ T18 ⟨hHT18, w232, z231, rfl, w231, w228, w229, w230⟩
            have hFT18 : FR md_gr_takePhrase S T18 := FR.tr hFT17 w232 rfl
            show Rl _ _ _ _ _ [iv z231] _ _
            refine l_if_eq rfl rfl (by unfold rg; omega) (fun w233 => ?_) (fun w234 => ?_)
            · refine l_iconst rfl ?_
              refine l_ireturn rfl rfl ?_
              have w235 : 0 ≤ Xi T18 890 1 ∧ Xi T18 890 1 ≤ 5126 := hHT18.c _ _
              exact ⟨hHT18, hFT18, _, rfl, ⟨by omega, by omega⟩, (by omega), (by first | (intro _; assumption) | (intro hz; exact say_two2 (T := T17) hs (by omega) (m877 (by assumption) rfl) (m877 (by assumption) rfl) (by omega) (by omega) (by omega)))⟩
            · refine l_aload_n rfl rfl ?_
              refine l_bipush rfl rfl ?_
              have w236 : Xi T18 876 7 = Xi S 876 7 := (show Xi T18 876 7 = Xi T17 876 7 from w232.x _ _ rfl).trans ( (show Xi T17 876 7 = Xi T10 876 7 from w221.x _ _ rfl).trans ( (show Xi T10 876 7 = Xi T3 876 7 from w112.x _ _ rfl).trans ( (show Xi T3 876 7 = Xi T2 876 7 from w31.x _ _ rfl).trans ( (show Xi T2 876 7 = Xi T1 876 7 from w20.x _ _ rfl).trans ((show Xi T1 876 7 = Xi S 876 7 from w9.x _ _ rfl))))))
              have w238 : 0 ≤ Xi T18 890 1 ∧ Xi T18 890 1 ≤ 5126 := hHT18.c _ _
              refine l_callV rfl rfl rfl (t_gr_take hHT18 7 ⟨by omega, by omega⟩ (by first | assumption | omega) (by first | assumption | omega) (by first | assumption | omega) _) ?_
              rintro _ T19 ⟨hHT19, w244, z243, rfl, w243, w239, w240, w241, w242⟩
              have hFT19 : FR md_gr_takePhrase S T19 := FR.tr hFT18 w244 rfl
              show Rl _ _ _ _ _ [iv z243] _ _
              refine l_if_eq rfl rfl (by unfold rg; omega) (fun w245 => ?_) (fun w246 => ?_)
              · refine l_iconst rfl ?_
                refine l_ireturn rfl rfl ?_
                have w247 : 0 ≤ Xi T19 890 1 ∧ Xi T19 890 1 ≤ 5126 := hHT19.c _ _
                exact ⟨hHT19, hFT19, _, rfl, ⟨by omega, by omega⟩, (by omega), (by first | (intro _; assumption) | (intro hz; exact say_two2 (T := T18) hs (by omega) (m877 (by assumption) rfl) (m877 (by assumption) rfl) (by omega) (by omega) (by omega)))⟩
              · refine l_aload_n rfl rfl ?_
                have w248 : Xi T19 876 7 = Xi S 876 7 := (show Xi T19 876 7 = Xi T18 876 7 from w244.x _ _ rfl).trans ( (show Xi T18 876 7 = Xi T17 876 7 from w232.x _ _ rfl).trans ( (show Xi T17 876 7 = Xi T10 876 7 from w221.x _ _ rfl).trans ( (show Xi T10 876 7 = Xi T3 876 7 from w112.x _ _ rfl).trans ( (show Xi T3 876 7 = Xi T2 876 7 from w31.x _ _ rfl).trans ( (show Xi T2 876 7 = Xi T1 876 7 from w20.x _ _ rfl).trans ((show Xi T1 876 7 = Xi S 876 7 from w9.x _ _ rfl)))))))
                have w250 : 0 ≤ Xi T19 890 1 ∧ Xi T19 890 1 ≤ 5126 := hHT19.c _ _
                refine l_callV rfl rfl rfl (t_gr_takeThing hHT19 (by first | assumption | omega) (by first | assumption | omega) _) ?_
                rintro _ T20 ⟨hHT20, w254, z253, rfl, w253, w251, w252⟩
                have hFT20 : FR md_gr_takePhrase S T20 := FR.tr hFT19 w254 rfl
                show Rl _ _ _ _ _ [iv z253] _ _
                refine l_if_eq rfl rfl (by unfold rg; omega) (fun w255 => ?_) (fun w256 => ?_)
                · refine l_iconst rfl ?_
                  refine l_ireturn rfl rfl ?_
                  have w257 : 0 ≤ Xi T20 890 1 ∧ Xi T20 890 1 ≤ 5126 := hHT20.c _ _
                  exact ⟨hHT20, hFT20, _, rfl, ⟨by omega, by omega⟩, (by omega), (by first | (intro _; assumption) | (intro hz; exact say_two2 (T := T19) hs (by omega) (m877 (by assumption) rfl) (m877 (by assumption) rfl) (by omega) (by omega) (by omega)))⟩
                · refine l_aload_n rfl rfl ?_
                  refine l_bipush rfl rfl ?_
                  have w258 : Xi T20 876 7 = Xi S 876 7 := (show Xi T20 876 7 = Xi T19 876 7 from w254.x _ _ rfl).trans ( (show Xi T19 876 7 = Xi T18 876 7 from w244.x _ _ rfl).trans ( (show Xi T18 876 7 = Xi T17 876 7 from w232.x _ _ rfl).trans ( (show Xi T17 876 7 = Xi T10 876 7 from w221.x _ _ rfl).trans ( (show Xi T10 876 7 = Xi T3 876 7 from w112.x _ _ rfl).trans ( (show Xi T3 876 7 = Xi T2 876 7 from w31.x _ _ rfl).trans ( (show Xi T2 876 7 = Xi T1 876 7 from w20.x _ _ rfl).trans ((show Xi T1 876 7 = Xi S 876 7 from w9.x _ _ rfl))))))))
                  have w260 : 0 ≤ Xi T20 890 1 ∧ Xi T20 890 1 ≤ 5126 := hHT20.c _ _
                  refine l_callV rfl rfl rfl (t_gr_take hHT20 10 ⟨by omega, by omega⟩ (by first | assumption | omega) (by first | assumption | omega) (by first | assumption | omega) _) ?_
                  rintro _ T21 ⟨hHT21, w266, z265, rfl, w265, w261, w262, w263, w264⟩
                  have hFT21 : FR md_gr_takePhrase S T21 := FR.tr hFT20 w266 rfl
                  show Rl _ _ _ _ _ [iv z265] _ _
                  refine l_if_eq rfl rfl (by unfold rg; omega) (fun w267 => ?_) (fun w268 => ?_)
                  · refine l_iconst rfl ?_
                    refine l_ireturn rfl rfl ?_
                    have w269 : 0 ≤ Xi T21 890 1 ∧ Xi T21 890 1 ≤ 5126 := hHT21.c _ _
                    exact ⟨hHT21, hFT21, _, rfl, ⟨by omega, by omega⟩, (by omega), (by first | (intro _; assumption) | (intro hz; exact say_two2 (T := T20) hs (by omega) (m877 (by assumption) rfl) (m877 (by assumption) rfl) (by omega) (by omega) (by omega)))⟩
                  · refine l_aload_n rfl rfl ?_
                    refine l_bipush rfl rfl ?_
                    have w270 : Xi T21 876 7 = Xi S 876 7 := (show Xi T21 876 7 = Xi T20 876 7 from w266.x _ _ rfl).trans ( (show Xi T20 876 7 = Xi T19 876 7 from w254.x _ _ rfl).trans ( (show Xi T19 876 7 = Xi T18 876 7 from w244.x _ _ rfl).trans ( (show Xi T18 876 7 = Xi T17 876 7 from w232.x _ _ rfl).trans ( (show Xi T17 876 7 = Xi T10 876 7 from w221.x _ _ rfl).trans ( (show Xi T10 876 7 = Xi T3 876 7 from w112.x _ _ rfl).trans ( (show Xi T3 876 7 = Xi T2 876 7 from w31.x _ _ rfl).trans ( (show Xi T2 876 7 = Xi T1 876 7 from w20.x _ _ rfl).trans ((show Xi T1 876 7 = Xi S 876 7 from w9.x _ _ rfl)))))))))
                    have w272 : 0 ≤ Xi T21 890 1 ∧ Xi T21 890 1 ≤ 5126 := hHT21.c _ _
                    refine l_callV rfl rfl rfl (t_gr_take hHT21 101 ⟨by omega, by omega⟩ (by first | assumption | omega) (by first | assumption | omega) (by first | assumption | omega) _) ?_
                    rintro _ T22 ⟨hHT22, w278, z277, rfl, w277, w273, w274, w275, w276⟩
                    have hFT22 : FR md_gr_takePhrase S T22 := FR.tr hFT21 w278 rfl
                    show Rl _ _ _ _ _ [iv z277] _ _
                    refine l_if_eq rfl rfl (by unfold rg; omega) (fun w279 => ?_) (fun w280 => ?_)
                    · refine l_iconst rfl ?_
                      refine l_ireturn rfl rfl ?_
                      have w281 : 0 ≤ Xi T22 890 1 ∧ Xi T22 890 1 ≤ 5126 := hHT22.c _ _
                      exact ⟨hHT22, hFT22, _, rfl, ⟨by omega, by omega⟩, (by omega), (by first | (intro _; assumption) | (intro hz; exact say_two2 (T := T21) hs (by omega) (m877 (by assumption) rfl) (m877 (by assumption) rfl) (by omega) (by omega) (by omega)))⟩
                    · refine l_iconst rfl ?_
                      refine l_goto rfl rfl ?_
                      refine l_ireturn rfl rfl ?_
                      have w282 : 0 ≤ Xi T22 890 1 ∧ Xi T22 890 1 ≤ 5126 := hHT22.c _ _
                      exact ⟨hHT22, hFT22, _, rfl, ⟨by omega, by omega⟩, (by omega), (by first | (intro _; assumption) | (intro hz; exact say_two2 (T := T21) hs (by omega) (m877 (by assumption) rfl) (m877 (by assumption) rfl) (by omega) (by omega) (by omega)))⟩
    · refine l_aload_n rfl rfl ?_
      have w283 : Xi T2 876 7 = Xi S 876 7 := (show Xi T2 876 7 = Xi T1 876 7 from w20.x _ _ rfl).trans ((show Xi T1 876 7 = Xi S 876 7 from w9.x _ _ rfl))
      have w285 : 0 ≤ Xi T2 890 1 ∧ Xi T2 890 1 ≤ 5126 := hHT2.c _ _
      refine l_callV rfl rfl rfl (t_gr_takeThing hHT2 (by first | assumption | omega) (by first | assumption | omega) _) ?_
      rintro _ T23 ⟨hHT23, w289, z288, rfl, w288, w286, w287⟩
      have hFT23 : FR md_gr_takePhrase S T23 := FR.tr hFT2 w289 rfl
      show Rl _ _ _ _ _ [iv z288] _ _
      refine l_if_eq rfl rfl (by unfold rg; omega) (fun w290 => ?_) (fun w291 => ?_)
      · refine l_iconst rfl ?_
        refine l_ireturn rfl rfl ?_
        have w292 : 0 ≤ Xi T23 890 1 ∧ Xi T23 890 1 ≤ 5126 := hHT23.c _ _
        exact ⟨hHT23, hFT23, _, rfl, ⟨by omega, by omega⟩, (by omega), (by first | (intro _; assumption) | (intro hz; exact say_two2 (T := T2) hs (by omega) (m877 (by assumption) rfl) (m877 (by assumption) rfl) (by omega) (by omega) (by omega)))⟩
      · refine l_aload_n rfl rfl ?_
        refine l_bipush rfl rfl ?_
        have w293 : Xi T23 876 7 = Xi S 876 7 := (show Xi T23 876 7 = Xi T2 876 7 from w289.x _ _ rfl).trans ( (show Xi T2 876 7 = Xi T1 876 7 from w20.x _ _ rfl).trans ((show Xi T1 876 7 = Xi S 876 7 from w9.x _ _ rfl)))
        have w295 : 0 ≤ Xi T23 890 1 ∧ Xi T23 890 1 ≤ 5126 := hHT23.c _ _
        refine l_callV rfl rfl rfl (t_gr_take hHT23 11 ⟨by omega, by omega⟩ (by first | assumption | omega) (by first | assumption | omega) (by first | assumption | omega) _) ?_
        rintro _ T24 ⟨hHT24, w301, z300, rfl, w300, w296, w297, w298, w299⟩
        have hFT24 : FR md_gr_takePhrase S T24 := FR.tr hFT23 w301 rfl
        show Rl _ _ _ _ _ [iv z300] _ _
        refine l_if_eq rfl rfl (by unfold rg; omega) (fun w302 => ?_) (fun w303 => ?_)
        · refine l_iconst rfl ?_
          refine l_ireturn rfl rfl ?_
          have w304 : 0 ≤ Xi T24 890 1 ∧ Xi T24 890 1 ≤ 5126 := hHT24.c _ _
          exact ⟨hHT24, hFT24, _, rfl, ⟨by omega, by omega⟩, (by omega), (by first | (intro _; assumption) | (intro hz; exact say_two2 (T := T23) hs (by omega) (m877 (by assumption) rfl) (m877 (by assumption) rfl) (by omega) (by omega) (by omega)))⟩
        · refine l_aload_n rfl rfl ?_
          have w305 : Xi T24 876 7 = Xi S 876 7 := (show Xi T24 876 7 = Xi T23 876 7 from w301.x _ _ rfl).trans ( (show Xi T23 876 7 = Xi T2 876 7 from w289.x _ _ rfl).trans ( (show Xi T2 876 7 = Xi T1 876 7 from w20.x _ _ rfl).trans ((show Xi T1 876 7 = Xi S 876 7 from w9.x _ _ rfl))))
          have w307 : 0 ≤ Xi T24 890 1 ∧ Xi T24 890 1 ≤ 5126 := hHT24.c _ _
          refine l_callV rfl rfl rfl (t_gr_takeThing hHT24 (by first | assumption | omega) (by first | assumption | omega) _) ?_
          rintro _ T25 ⟨hHT25, w311, z310, rfl, w310, w308, w309⟩
          have hFT25 : FR md_gr_takePhrase S T25 := FR.tr hFT24 w311 rfl
          show Rl _ _ _ _ _ [iv z310] _ _
          refine l_if_eq rfl rfl (by unfold rg; omega) (fun w312 => ?_) (fun w313 => ?_)
          · refine l_iconst rfl ?_
            refine l_ireturn rfl rfl ?_
            have w314 : 0 ≤ Xi T25 890 1 ∧ Xi T25 890 1 ≤ 5126 := hHT25.c _ _
            exact ⟨hHT25, hFT25, _, rfl, ⟨by omega, by omega⟩, (by omega), (by first | (intro _; assumption) | (intro hz; exact say_two2 (T := T24) hs (by omega) (m877 (by assumption) rfl) (m877 (by assumption) rfl) (by omega) (by omega) (by omega)))⟩
          · refine l_iconst rfl ?_
            refine l_goto rfl rfl ?_
            refine l_ireturn rfl rfl ?_
            have w315 : 0 ≤ Xi T25 890 1 ∧ Xi T25 890 1 ≤ 5126 := hHT25.c _ _
            exact ⟨hHT25, hFT25, _, rfl, ⟨by omega, by omega⟩, (by omega), (by first | (intro _; assumption) | (intro hz; exact say_two2 (T := T24) hs (by omega) (m877 (by assumption) rfl) (m877 (by assumption) rfl) (by omega) (by omega) (by omega)))⟩
  · refine l_aload_n rfl rfl ?_
    refine l_bipush rfl rfl ?_
    have w316 : Xi T1 876 7 = Xi S 876 7 := (show Xi T1 876 7 = Xi S 876 7 from w9.x _ _ rfl)
    have w318 : 0 ≤ Xi T1 890 1 ∧ Xi T1 890 1 ≤ 5126 := hHT1.c _ _
    refine l_callV rfl rfl rfl (t_gr_take__2 hHT1 102 ⟨by omega, by omega⟩ (by first | assumption | omega) _) ?_
    rintro _ T26 ⟨hHT26, w323, z322, rfl, w322, w319, w320, w321⟩
    have hFT26 : FR md_gr_takePhrase S T26 := FR.tr hFT1 w323 rfl
    show Rl _ _ _ _ _ [iv z322] _ _
    refine l_ireturn rfl (retI_z (by omega)) ?_
    have w324 : 0 ≤ Xi T26 890 1 ∧ Xi T26 890 1 ≤ 5126 := hHT26.c _ _
    exact ⟨hHT26, hFT26, _, rfl, ⟨by omega, by omega⟩, (by omega), (by first | (intro _; assumption) | (intro hz; exact say_two2 (T := T1) hs (by omega) (m877 (by assumption) rfl) (m877 (by assumption) rfl) (by omega) (by omega) (by omega)))⟩


