/-! SAFETY of methods: printed by wip/safe (vc.py, decl.py) -/
def md_gr_check__2 : List rec := [(890, 891, 1, 2), (890, 891, 2, 3), (890, 891, 3, 4)]
abbrev Q_gr_check__2 (S : sS) : pst := fun r S1 => HI S1 ∧ FR md_gr_check__2 S S1 ∧ (∃ z : Int, r = some (iv z) ∧ (0 ≤ z ∧ z ≤ 1) ∧ (z = 1 → Xi S1 890 2 = 0 → Xi S 877 (0 : Int).toNat = 102) ∧ (z = 1 → Xi S1 890 2 = 1 → Xi S 877 (1 : Int).toNat = 102) ∧ (z = 1 → 3 ≤ Xi S1 890 2 → Xi S1 890 2 ≤ 6 → SAY S1 (Xi S1 890 1) ∧ 1 ≤ Xi S1 890 1 ∧ Xi S1 890 1 ≤ Xi S 876 7 ∧ Xi S1 877 (Xi S1 890 1 - 1).toNat = 103) ∧ (z = 1 → Xi S1 890 2 = 0 → 0 < Xi S 876 7) ∧ (z = 1 → Xi S1 890 2 = 1 → 1 < Xi S 876 7))
set_option maxRecDepth 100000 in
theorem t_gr_check__2 {S : sS} (hH : HI S) (d : Nat) : Mt lay0 (d + 7) m_gr_check [.ref 890] S (Q_gr_check__2 S) := by
  refine Mt_R rfl rfl ?_
  have hF : FR md_gr_check__2 S S := FR.rf
  have w1 : 0 ≤ Xi S 876 7 ∧ Xi S 876 7 ≤ 5125 := hH.c _ _
  refine l_aload_n rfl rfl ?_
  refine l_iconst rfl ?_
  refine l_pfi rfl rfl rfl rfl ?_
  obtain ⟨U1, eU1⟩ : ∃ T : sS, T = uI S 890 1 (Int32.ofInt 1) := ⟨_, rfl⟩
  rw [← eU1]
  have hHU1 : HI U1 := by rw [eU1]; exact HI_w hH (show 0 ≤ 1 by omega) (show 1 ≤ 5126 by omega)
  have hFU1 : FR md_gr_check__2 S U1 := by rw [eU1]; exact FR.wI hF (mdf_i (r := (890, 891, 1, 2)) (List.mem_of_getElem? (i := 0) rfl) (inR_i (by omega) (by omega) (by omega) (by omega)))
  have w2 : Xi U1 890 1 = 1 := by rw [eU1]; exact Xi_same (by unfold rg; omega)
  refine l_aload_n rfl rfl ?_
  refine l_gfr rfl rfl rfl rfl rfl (hHU1.r 890 0 876 rfl) ?_
  refine l_iconst rfl ?_
  have w3 : Xi U1 876 7 = Xi S 876 7 := (show Xi U1 876 7 = Xi S 876 7 from by rw [eU1]; exact Xi_ne (by omega))
  refine l_callV rfl rfl rfl (t_to_typeAt hHU1 0 ⟨by omega, by omega⟩ _) ?_
  rintro _ _ ⟨rfl, z8, rfl, w8, w5, w6, w7⟩
  clear w6 w7
  show Rl _ _ _ _ _ [iv z8] _ _
  refine l_lsw rfl rfl (by unfold rg; omega) ?_
  refine And.intro (fun w9 => ⟨_, rfl, ?_⟩) (fun w10 => ?_)
  · refine l_aload_n rfl rfl ?_
    refine l_iconst rfl ?_
    refine l_pfi rfl rfl rfl rfl ?_
    obtain ⟨U2, eU2⟩ : ∃ T : sS, T = uI U1 890 2 (Int32.ofInt 1) := ⟨_, rfl⟩
    rw [← eU2]
    have hHU2 : HI U2 := by rw [eU2]; exact HI_w hHU1 (show 0 ≤ 1 by omega) (show 1 ≤ 20 by omega)
    have hFU2 : FR md_gr_check__2 S U2 := by rw [eU2]; exact FR.wI hFU1 (mdf_i (r := (890, 891, 2, 3)) (List.mem_of_getElem? (i := 1) rfl) (inR_i (by omega) (by omega) (by omega) (by omega)))
    have w11 : Xi U2 890 2 = 1 := by rw [eU2]; exact Xi_same (by unfold rg; omega)
    obtain ⟨hv1, hs0⟩ := SAY_v1s eU1 eU2 (by omega)
    refine l_aload_n rfl rfl ?_
    refine l_bipush rfl rfl ?_
    have w12 : Xi U2 876 7 = Xi S 876 7 := (show Xi U2 876 7 = Xi U1 876 7 from by rw [eU2]; exact Xi_ne (by omega)).trans ((show Xi U1 876 7 = Xi S 876 7 from by rw [eU1]; exact Xi_ne (by omega)))
    have w14 : Xi U2 890 1 = Xi U1 890 1 := (show Xi U2 890 1 = Xi U1 890 1 from by rw [eU2]; exact Xi_ne (by omega))
    have w15 : 0 ≤ Xi U1 890 1 ∧ Xi U1 890 1 ≤ 5126 := hHU1.c _ _
    refine l_callV rfl rfl rfl (t_gr_take hHU2 102 ⟨by omega, by omega⟩ (by first | assumption | omega) (by first | assumption | (apply_assumption; omega)) (by first | assumption | omega) _) ?_
    rintro _ T3 ⟨hHT3, w21, z20, rfl, w20, w16, w17, w18, w19⟩
    have hFT3 : FR md_gr_check__2 S T3 := FR.tr hFU2 w21 rfl
    show Rl _ _ _ _ _ [iv z20] _ _
    have h95 : z20 = 1 → Xi S 877 (1 : Int).toNat = 102 := fun hz => tk102 (U := U2) (m877 hFU2 rfl) (by omega) (by omega)
    refine l_if_eq rfl rfl (by unfold rg; omega) (fun w22 => ?_) (fun w23 => ?_)
    · refine l_iconst rfl ?_
      refine l_ireturn rfl rfl ?_
      have w24 : 0 ≤ Xi T3 890 1 ∧ Xi T3 890 1 ≤ 5126 := hHT3.c _ _
      have w25 : Xi T3 890 2 = Xi U2 890 2 := (show Xi T3 890 2 = Xi U2 890 2 from w21.x _ _ rfl)
      have w26 : 0 ≤ Xi U2 890 2 ∧ Xi U2 890 2 ≤ 20 := hHU2.c _ _
      exact ⟨hHT3, hFT3, _, rfl, ⟨by omega, by omega⟩, (by omega), (by omega), (by first | (intro a b c; exact absurd a (by omega)) | (intro a b c; exact absurd b (by omega)) | (intro a b c; exact absurd c (by omega)) | (intro a b c; exact ⟨by assumption, by omega, by omega, tk103 (P := U2) (m877 hFT3 rfl) (m877 hFU2 rfl) (by omega) (by omega)⟩)), (by omega), (by omega)⟩
    · refine l_aload_n rfl rfl ?_
      refine l_bipush rfl rfl ?_
      have w27 : Xi T3 876 7 = Xi S 876 7 := (show Xi T3 876 7 = Xi U2 876 7 from w21.x _ _ rfl).trans ( (show Xi U2 876 7 = Xi U1 876 7 from by rw [eU2]; exact Xi_ne (by omega)).trans ((show Xi U1 876 7 = Xi S 876 7 from by rw [eU1]; exact Xi_ne (by omega))))
      have w29 : 0 ≤ Xi T3 890 1 ∧ Xi T3 890 1 ≤ 5126 := hHT3.c _ _
      refine l_callV rfl rfl rfl (t_gr_take hHT3 34 ⟨by omega, by omega⟩ (by first | assumption | omega) (by first | assumption | (apply_assumption; omega)) (by first | assumption | omega) _) ?_
      rintro _ T4 ⟨hHT4, w35, z34, rfl, w34, w30, w31, w32, w33⟩
      have hFT4 : FR md_gr_check__2 S T4 := FR.tr hFT3 w35 rfl
      show Rl _ _ _ _ _ [iv z34] _ _
      refine l_if_eq rfl rfl (by unfold rg; omega) (fun w36 => ?_) (fun w37 => ?_)
      · refine l_iconst rfl ?_
        refine l_ireturn rfl rfl ?_
        have w38 : 0 ≤ Xi T4 890 1 ∧ Xi T4 890 1 ≤ 5126 := hHT4.c _ _
        have w39 : Xi T4 890 2 = Xi U2 890 2 := (show Xi T4 890 2 = Xi T3 890 2 from w35.x _ _ rfl).trans ((show Xi T3 890 2 = Xi U2 890 2 from w21.x _ _ rfl))
        have w40 : 0 ≤ Xi U2 890 2 ∧ Xi U2 890 2 ≤ 20 := hHU2.c _ _
        exact ⟨hHT4, hFT4, _, rfl, ⟨by omega, by omega⟩, (by omega), (by omega), (by first | (intro a b c; exact absurd a (by omega)) | (intro a b c; exact absurd b (by omega)) | (intro a b c; exact absurd c (by omega)) | (intro a b c; exact ⟨by assumption, by omega, by omega, tk103 (P := T3) (m877 hFT4 rfl) (m877 hFT3 rfl) (by omega) (by omega)⟩)), (by omega), (by omega)⟩
      · refine l_aload_n rfl rfl ?_
        have w41 : Xi T4 876 7 = Xi S 876 7 := (show Xi T4 876 7 = Xi T3 876 7 from w35.x _ _ rfl).trans ( (show Xi T3 876 7 = Xi U2 876 7 from w21.x _ _ rfl).trans ( (show Xi U2 876 7 = Xi U1 876 7 from by rw [eU2]; exact Xi_ne (by omega)).trans ((show Xi U1 876 7 = Xi S 876 7 from by rw [eU1]; exact Xi_ne (by omega)))))
        have w43 : 0 ≤ Xi T4 890 1 ∧ Xi T4 890 1 ≤ 5126 := hHT4.c _ _
        refine l_callV rfl rfl rfl (t_gr_takeRun hHT4 (by first | assumption | omega) (by first | assumption | (apply_assumption; omega)) _) ?_
        rintro _ T5 ⟨hHT5, w48, z47, rfl, w47, w44, w45, w46⟩
        have hFT5 : FR md_gr_check__2 S T5 := FR.tr hFT4 w48 rfl
        show Rl _ _ _ _ _ [iv z47] _ _
        refine l_if_eq rfl rfl (by unfold rg; omega) (fun w49 => ?_) (fun w50 => ?_)
        · refine l_iconst rfl ?_
          refine l_ireturn rfl rfl ?_
          have w51 : 0 ≤ Xi T5 890 1 ∧ Xi T5 890 1 ≤ 5126 := hHT5.c _ _
          have w52 : Xi T5 890 2 = Xi U2 890 2 := (show Xi T5 890 2 = Xi T4 890 2 from w48.x _ _ rfl).trans ( (show Xi T4 890 2 = Xi T3 890 2 from w35.x _ _ rfl).trans ((show Xi T3 890 2 = Xi U2 890 2 from w21.x _ _ rfl)))
          have w53 : 0 ≤ Xi U2 890 2 ∧ Xi U2 890 2 ≤ 20 := hHU2.c _ _
          exact ⟨hHT5, hFT5, _, rfl, ⟨by omega, by omega⟩, (by omega), (by omega), (by first | (intro a b c; exact absurd a (by omega)) | (intro a b c; exact absurd b (by omega)) | (intro a b c; exact absurd c (by omega)) | (intro a b c; exact ⟨by assumption, by omega, by omega, tk103 (P := T4) (m877 hFT5 rfl) (m877 hFT4 rfl) (by omega) (by omega)⟩)), (by omega), (by omega)⟩
        · refine l_aload_n rfl rfl ?_
          refine l_bipush rfl rfl ?_
          have w54 : Xi T5 876 7 = Xi S 876 7 := (show Xi T5 876 7 = Xi T4 876 7 from w48.x _ _ rfl).trans ( (show Xi T4 876 7 = Xi T3 876 7 from w35.x _ _ rfl).trans ( (show Xi T3 876 7 = Xi U2 876 7 from w21.x _ _ rfl).trans ( (show Xi U2 876 7 = Xi U1 876 7 from by rw [eU2]; exact Xi_ne (by omega)).trans ((show Xi U1 876 7 = Xi S 876 7 from by rw [eU1]; exact Xi_ne (by omega))))))
          have w56 : 0 ≤ Xi T5 890 1 ∧ Xi T5 890 1 ≤ 5126 := hHT5.c _ _
          refine l_callV rfl rfl rfl (t_gr_take hHT5 103 ⟨by omega, by omega⟩ (by first | assumption | omega) (by first | assumption | (apply_assumption; omega)) (by first | assumption | omega) _) ?_
          rintro _ T6 ⟨hHT6, w62, z61, rfl, w61, w57, w58, w59, w60⟩
          have hFT6 : FR md_gr_check__2 S T6 := FR.tr hFT5 w62 rfl
          show Rl _ _ _ _ _ [iv z61] _ _
          refine l_if_eq rfl rfl (by unfold rg; omega) (fun w63 => ?_) (fun w64 => ?_)
          · refine l_iconst rfl ?_
            refine l_ireturn rfl rfl ?_
            have w65 : 0 ≤ Xi T6 890 1 ∧ Xi T6 890 1 ≤ 5126 := hHT6.c _ _
            have w66 : Xi T6 890 2 = Xi U2 890 2 := (show Xi T6 890 2 = Xi T5 890 2 from w62.x _ _ rfl).trans ( (show Xi T5 890 2 = Xi T4 890 2 from w48.x _ _ rfl).trans ( (show Xi T4 890 2 = Xi T3 890 2 from w35.x _ _ rfl).trans ((show Xi T3 890 2 = Xi U2 890 2 from w21.x _ _ rfl))))
            have w67 : 0 ≤ Xi U2 890 2 ∧ Xi U2 890 2 ≤ 20 := hHU2.c _ _
            exact ⟨hHT6, hFT6, _, rfl, ⟨by omega, by omega⟩, (by omega), (by omega), (by first | (intro a b c; exact absurd a (by omega)) | (intro a b c; exact absurd b (by omega)) | (intro a b c; exact absurd c (by omega)) | (intro a b c; exact ⟨by assumption, by omega, by omega, tk103 (P := T5) (m877 hFT6 rfl) (m877 hFT5 rfl) (by omega) (by omega)⟩)), (by omega), (by omega)⟩
          · refine l_iconst rfl ?_
            refine l_goto rfl rfl ?_
            refine l_ireturn rfl rfl ?_
            have w68 : 0 ≤ Xi T6 890 1 ∧ Xi T6 890 1 ≤ 5126 := hHT6.c _ _
            have w69 : Xi T6 890 2 = Xi U2 890 2 := (show Xi T6 890 2 = Xi T5 890 2 from w62.x _ _ rfl).trans ( (show Xi T5 890 2 = Xi T4 890 2 from w48.x _ _ rfl).trans ( (show Xi T4 890 2 = Xi T3 890 2 from w35.x _ _ rfl).trans ((show Xi T3 890 2 = Xi U2 890 2 from w21.x _ _ rfl))))
            have w70 : 0 ≤ Xi U2 890 2 ∧ Xi U2 890 2 ≤ 20 := hHU2.c _ _
            exact ⟨hHT6, hFT6, _, rfl, ⟨by omega, by omega⟩, (by omega), (by omega), (by first | (intro a b c; exact absurd a (by omega)) | (intro a b c; exact absurd b (by omega)) | (intro a b c; exact absurd c (by omega)) | (intro a b c; exact ⟨by assumption, by omega, by omega, tk103 (P := T5) (m877 hFT6 rfl) (m877 hFT5 rfl) (by omega) (by omega)⟩)), (by omega), (by omega)⟩
  refine And.intro (fun w71 => ⟨_, rfl, ?_⟩) (fun w72 => ?_)
  · refine l_aload_n rfl rfl ?_
    refine l_iconst rfl ?_
    refine l_pfi rfl rfl rfl rfl ?_
    obtain ⟨U7, eU7⟩ : ∃ T : sS, T = uI U1 890 2 (Int32.ofInt 2) := ⟨_, rfl⟩
    rw [← eU7]
    have hHU7 : HI U7 := by rw [eU7]; exact HI_w hHU1 (show 0 ≤ 2 by omega) (show 2 ≤ 20 by omega)
    have hFU7 : FR md_gr_check__2 S U7 := by rw [eU7]; exact FR.wI hFU1 (mdf_i (r := (890, 891, 2, 3)) (List.mem_of_getElem? (i := 1) rfl) (inR_i (by omega) (by omega) (by omega) (by omega)))
    have w73 : Xi U7 890 2 = 2 := by rw [eU7]; exact Xi_same (by unfold rg; omega)
    obtain ⟨hv1, hs0⟩ := SAY_v1s eU1 eU7 (by omega)
    refine l_aload_n rfl rfl ?_
    refine l_bipush rfl rfl ?_
    have w74 : Xi U7 876 7 = Xi S 876 7 := (show Xi U7 876 7 = Xi U1 876 7 from by rw [eU7]; exact Xi_ne (by omega)).trans ((show Xi U1 876 7 = Xi S 876 7 from by rw [eU1]; exact Xi_ne (by omega)))
    have w76 : Xi U7 890 1 = Xi U1 890 1 := (show Xi U7 890 1 = Xi U1 890 1 from by rw [eU7]; exact Xi_ne (by omega))
    have w77 : 0 ≤ Xi U1 890 1 ∧ Xi U1 890 1 ≤ 5126 := hHU1.c _ _
    refine l_callV rfl rfl rfl (t_gr_take hHU7 106 ⟨by omega, by omega⟩ (by first | assumption | omega) (by first | assumption | (apply_assumption; omega)) (by first | assumption | omega) _) ?_
    rintro _ T8 ⟨hHT8, w83, z82, rfl, w82, w78, w79, w80, w81⟩
    have hFT8 : FR md_gr_check__2 S T8 := FR.tr hFU7 w83 rfl
    show Rl _ _ _ _ _ [iv z82] _ _
    refine l_if_eq rfl rfl (by unfold rg; omega) (fun w84 => ?_) (fun w85 => ?_)
    · refine l_iconst rfl ?_
      refine l_ireturn rfl rfl ?_
      have w86 : 0 ≤ Xi T8 890 1 ∧ Xi T8 890 1 ≤ 5126 := hHT8.c _ _
      have w87 : Xi T8 890 2 = Xi U7 890 2 := (show Xi T8 890 2 = Xi U7 890 2 from w83.x _ _ rfl)
      have w88 : 0 ≤ Xi U7 890 2 ∧ Xi U7 890 2 ≤ 20 := hHU7.c _ _
      exact ⟨hHT8, hFT8, _, rfl, ⟨by omega, by omega⟩, (by omega), (by omega), (by first | (intro a b c; exact absurd a (by omega)) | (intro a b c; exact absurd b (by omega)) | (intro a b c; exact absurd c (by omega)) | (intro a b c; exact ⟨by assumption, by omega, by omega, tk103 (P := U7) (m877 hFT8 rfl) (m877 hFU7 rfl) (by omega) (by omega)⟩)), (by omega), (by omega)⟩
    · refine l_aload_n rfl rfl ?_
      have w89 : Xi T8 876 7 = Xi S 876 7 := (show Xi T8 876 7 = Xi U7 876 7 from w83.x _ _ rfl).trans ( (show Xi U7 876 7 = Xi U1 876 7 from by rw [eU7]; exact Xi_ne (by omega)).trans ((show Xi U1 876 7 = Xi S 876 7 from by rw [eU1]; exact Xi_ne (by omega))))
      have w91 : 0 ≤ Xi T8 890 1 ∧ Xi T8 890 1 ≤ 5126 := hHT8.c _ _
      refine l_callV rfl rfl rfl (t_gr_takeArt hHT8 (by first | assumption | omega) (by first | assumption | (apply_assumption; omega)) _) ?_
      rintro _ T9 ⟨hHT9, w96, z95, rfl, w95, w92, w93, w94⟩
      have hFT9 : FR md_gr_check__2 S T9 := FR.tr hFT8 w96 rfl
      show Rl _ _ _ _ _ [iv z95] _ _
      refine l_if_eq rfl rfl (by unfold rg; omega) (fun w97 => ?_) (fun w98 => ?_)
      · refine l_iconst rfl ?_
        refine l_ireturn rfl rfl ?_
        have w99 : 0 ≤ Xi T9 890 1 ∧ Xi T9 890 1 ≤ 5126 := hHT9.c _ _
        have w100 : Xi T9 890 2 = Xi U7 890 2 := (show Xi T9 890 2 = Xi T8 890 2 from w96.x _ _ rfl).trans ((show Xi T8 890 2 = Xi U7 890 2 from w83.x _ _ rfl))
        have w101 : 0 ≤ Xi U7 890 2 ∧ Xi U7 890 2 ≤ 20 := hHU7.c _ _
        exact ⟨hHT9, hFT9, _, rfl, ⟨by omega, by omega⟩, (by omega), (by omega), (by first | (intro a b c; exact absurd a (by omega)) | (intro a b c; exact absurd b (by omega)) | (intro a b c; exact absurd c (by omega)) | (intro a b c; exact ⟨by assumption, by omega, by omega, tk103 (P := T8) (m877 hFT9 rfl) (m877 hFT8 rfl) (by omega) (by omega)⟩)), (by omega), (by omega)⟩
      · refine l_aload_n rfl rfl ?_
        have w102 : Xi T9 876 7 = Xi S 876 7 := (show Xi T9 876 7 = Xi T8 876 7 from w96.x _ _ rfl).trans ( (show Xi T8 876 7 = Xi U7 876 7 from w83.x _ _ rfl).trans ( (show Xi U7 876 7 = Xi U1 876 7 from by rw [eU7]; exact Xi_ne (by omega)).trans ((show Xi U1 876 7 = Xi S 876 7 from by rw [eU1]; exact Xi_ne (by omega)))))
        have w104 : 0 ≤ Xi T9 890 1 ∧ Xi T9 890 1 ≤ 5126 := hHT9.c _ _
        refine l_callV rfl rfl rfl (t_gr_takeRun hHT9 (by first | assumption | omega) (by first | assumption | (apply_assumption; omega)) _) ?_
        rintro _ T10 ⟨hHT10, w109, z108, rfl, w108, w105, w106, w107⟩
        have hFT10 : FR md_gr_check__2 S T10 := FR.tr hFT9 w109 rfl
        show Rl _ _ _ _ _ [iv z108] _ _
        refine l_if_eq rfl rfl (by unfold rg; omega) (fun w110 => ?_) (fun w111 => ?_)
        · refine l_iconst rfl ?_
          refine l_ireturn rfl rfl ?_
          have w112 : 0 ≤ Xi T10 890 1 ∧ Xi T10 890 1 ≤ 5126 := hHT10.c _ _
          have w113 : Xi T10 890 2 = Xi U7 890 2 := (show Xi T10 890 2 = Xi T9 890 2 from w109.x _ _ rfl).trans ( (show Xi T9 890 2 = Xi T8 890 2 from w96.x _ _ rfl).trans ((show Xi T8 890 2 = Xi U7 890 2 from w83.x _ _ rfl)))
          have w114 : 0 ≤ Xi U7 890 2 ∧ Xi U7 890 2 ≤ 20 := hHU7.c _ _
          exact ⟨hHT10, hFT10, _, rfl, ⟨by omega, by omega⟩, (by omega), (by omega), (by first | (intro a b c; exact absurd a (by omega)) | (intro a b c; exact absurd b (by omega)) | (intro a b c; exact absurd c (by omega)) | (intro a b c; exact ⟨by assumption, by omega, by omega, tk103 (P := T9) (m877 hFT10 rfl) (m877 hFT9 rfl) (by omega) (by omega)⟩)), (by omega), (by omega)⟩
        · refine l_aload_n rfl rfl ?_
          refine l_iconst rfl ?_
          have w115 : Xi T10 876 7 = Xi S 876 7 := (show Xi T10 876 7 = Xi T9 876 7 from w109.x _ _ rfl).trans ( (show Xi T9 876 7 = Xi T8 876 7 from w96.x _ _ rfl).trans ( (show Xi T8 876 7 = Xi U7 876 7 from w83.x _ _ rfl).trans ( (show Xi U7 876 7 = Xi U1 876 7 from by rw [eU7]; exact Xi_ne (by omega)).trans ((show Xi U1 876 7 = Xi S 876 7 from by rw [eU1]; exact Xi_ne (by omega))))))
          have w117 : 0 ≤ Xi T10 890 1 ∧ Xi T10 890 1 ≤ 5126 := hHT10.c _ _
          refine l_callV rfl rfl rfl (t_gr_take hHT10 4 ⟨by omega, by omega⟩ (by first | assumption | omega) (by first | assumption | (apply_assumption; omega)) (by first | assumption | omega) _) ?_
          rintro _ T11 ⟨hHT11, w123, z122, rfl, w122, w118, w119, w120, w121⟩
          have hFT11 : FR md_gr_check__2 S T11 := FR.tr hFT10 w123 rfl
          show Rl _ _ _ _ _ [iv z122] _ _
          refine l_if_eq rfl rfl (by unfold rg; omega) (fun w124 => ?_) (fun w125 => ?_)
          · refine l_iconst rfl ?_
            refine l_ireturn rfl rfl ?_
            have w126 : 0 ≤ Xi T11 890 1 ∧ Xi T11 890 1 ≤ 5126 := hHT11.c _ _
            have w127 : Xi T11 890 2 = Xi U7 890 2 := (show Xi T11 890 2 = Xi T10 890 2 from w123.x _ _ rfl).trans ( (show Xi T10 890 2 = Xi T9 890 2 from w109.x _ _ rfl).trans ( (show Xi T9 890 2 = Xi T8 890 2 from w96.x _ _ rfl).trans ((show Xi T8 890 2 = Xi U7 890 2 from w83.x _ _ rfl))))
            have w128 : 0 ≤ Xi U7 890 2 ∧ Xi U7 890 2 ≤ 20 := hHU7.c _ _
            exact ⟨hHT11, hFT11, _, rfl, ⟨by omega, by omega⟩, (by omega), (by omega), (by first | (intro a b c; exact absurd a (by omega)) | (intro a b c; exact absurd b (by omega)) | (intro a b c; exact absurd c (by omega)) | (intro a b c; exact ⟨by assumption, by omega, by omega, tk103 (P := T10) (m877 hFT11 rfl) (m877 hFT10 rfl) (by omega) (by omega)⟩)), (by omega), (by omega)⟩
          · refine l_aload_n rfl rfl ?_
            have w129 : Xi T11 876 7 = Xi S 876 7 := (show Xi T11 876 7 = Xi T10 876 7 from w123.x _ _ rfl).trans ( (show Xi T10 876 7 = Xi T9 876 7 from w109.x _ _ rfl).trans ( (show Xi T9 876 7 = Xi T8 876 7 from w96.x _ _ rfl).trans ( (show Xi T8 876 7 = Xi U7 876 7 from w83.x _ _ rfl).trans ( (show Xi U7 876 7 = Xi U1 876 7 from by rw [eU7]; exact Xi_ne (by omega)).trans ((show Xi U1 876 7 = Xi S 876 7 from by rw [eU1]; exact Xi_ne (by omega)))))))
            have w131 : 0 ≤ Xi T11 890 1 ∧ Xi T11 890 1 ≤ 5126 := hHT11.c _ _
            refine l_callV rfl rfl rfl (t_gr_takeRun hHT11 (by first | assumption | omega) (by first | assumption | (apply_assumption; omega)) _) ?_
            rintro _ T12 ⟨hHT12, w136, z135, rfl, w135, w132, w133, w134⟩
            have hFT12 : FR md_gr_check__2 S T12 := FR.tr hFT11 w136 rfl
            show Rl _ _ _ _ _ [iv z135] _ _
            refine l_if_eq rfl rfl (by unfold rg; omega) (fun w137 => ?_) (fun w138 => ?_)
            · refine l_iconst rfl ?_
              refine l_ireturn rfl rfl ?_
              have w139 : 0 ≤ Xi T12 890 1 ∧ Xi T12 890 1 ≤ 5126 := hHT12.c _ _
              have w140 : Xi T12 890 2 = Xi U7 890 2 := (show Xi T12 890 2 = Xi T11 890 2 from w136.x _ _ rfl).trans ( (show Xi T11 890 2 = Xi T10 890 2 from w123.x _ _ rfl).trans ( (show Xi T10 890 2 = Xi T9 890 2 from w109.x _ _ rfl).trans ( (show Xi T9 890 2 = Xi T8 890 2 from w96.x _ _ rfl).trans ((show Xi T8 890 2 = Xi U7 890 2 from w83.x _ _ rfl)))))
              have w141 : 0 ≤ Xi U7 890 2 ∧ Xi U7 890 2 ≤ 20 := hHU7.c _ _
              exact ⟨hHT12, hFT12, _, rfl, ⟨by omega, by omega⟩, (by omega), (by omega), (by first | (intro a b c; exact absurd a (by omega)) | (intro a b c; exact absurd b (by omega)) | (intro a b c; exact absurd c (by omega)) | (intro a b c; exact ⟨by assumption, by omega, by omega, tk103 (P := T11) (m877 hFT12 rfl) (m877 hFT11 rfl) (by omega) (by omega)⟩)), (by omega), (by omega)⟩
            · refine l_aload_n rfl rfl ?_
              refine l_bipush rfl rfl ?_
              have w142 : Xi T12 876 7 = Xi S 876 7 := (show Xi T12 876 7 = Xi T11 876 7 from w136.x _ _ rfl).trans ( (show Xi T11 876 7 = Xi T10 876 7 from w123.x _ _ rfl).trans ( (show Xi T10 876 7 = Xi T9 876 7 from w109.x _ _ rfl).trans ( (show Xi T9 876 7 = Xi T8 876 7 from w96.x _ _ rfl).trans ( (show Xi T8 876 7 = Xi U7 876 7 from w83.x _ _ rfl).trans ( (show Xi U7 876 7 = Xi U1 876 7 from by rw [eU7]; exact Xi_ne (by omega)).trans ((show Xi U1 876 7 = Xi S 876 7 from by rw [eU1]; exact Xi_ne (by omega))))))))
              have w144 : 0 ≤ Xi T12 890 1 ∧ Xi T12 890 1 ≤ 5126 := hHT12.c _ _
              refine l_callV rfl rfl rfl (t_gr_take hHT12 36 ⟨by omega, by omega⟩ (by first | assumption | omega) (by first | assumption | (apply_assumption; omega)) (by first | assumption | omega) _) ?_
              rintro _ T13 ⟨hHT13, w150, z149, rfl, w149, w145, w146, w147, w148⟩
              have hFT13 : FR md_gr_check__2 S T13 := FR.tr hFT12 w150 rfl
              show Rl _ _ _ _ _ [iv z149] _ _
              refine l_if_eq rfl rfl (by unfold rg; omega) (fun w151 => ?_) (fun w152 => ?_)
              · refine l_iconst rfl ?_
                refine l_ireturn rfl rfl ?_
                have w153 : 0 ≤ Xi T13 890 1 ∧ Xi T13 890 1 ≤ 5126 := hHT13.c _ _
                have w154 : Xi T13 890 2 = Xi U7 890 2 := (show Xi T13 890 2 = Xi T12 890 2 from w150.x _ _ rfl).trans ( (show Xi T12 890 2 = Xi T11 890 2 from w136.x _ _ rfl).trans ( (show Xi T11 890 2 = Xi T10 890 2 from w123.x _ _ rfl).trans ( (show Xi T10 890 2 = Xi T9 890 2 from w109.x _ _ rfl).trans ( (show Xi T9 890 2 = Xi T8 890 2 from w96.x _ _ rfl).trans ((show Xi T8 890 2 = Xi U7 890 2 from w83.x _ _ rfl))))))
                have w155 : 0 ≤ Xi U7 890 2 ∧ Xi U7 890 2 ≤ 20 := hHU7.c _ _
                exact ⟨hHT13, hFT13, _, rfl, ⟨by omega, by omega⟩, (by omega), (by omega), (by first | (intro a b c; exact absurd a (by omega)) | (intro a b c; exact absurd b (by omega)) | (intro a b c; exact absurd c (by omega)) | (intro a b c; exact ⟨by assumption, by omega, by omega, tk103 (P := T12) (m877 hFT13 rfl) (m877 hFT12 rfl) (by omega) (by omega)⟩)), (by omega), (by omega)⟩
              · refine l_aload_n rfl rfl ?_
                have w156 : Xi T13 876 7 = Xi S 876 7 := (show Xi T13 876 7 = Xi T12 876 7 from w150.x _ _ rfl).trans ( (show Xi T12 876 7 = Xi T11 876 7 from w136.x _ _ rfl).trans ( (show Xi T11 876 7 = Xi T10 876 7 from w123.x _ _ rfl).trans ( (show Xi T10 876 7 = Xi T9 876 7 from w109.x _ _ rfl).trans ( (show Xi T9 876 7 = Xi T8 876 7 from w96.x _ _ rfl).trans ( (show Xi T8 876 7 = Xi U7 876 7 from w83.x _ _ rfl).trans ( (show Xi U7 876 7 = Xi U1 876 7 from by rw [eU7]; exact Xi_ne (by omega)).trans ((show Xi U1 876 7 = Xi S 876 7 from by rw [eU1]; exact Xi_ne (by omega)))))))))
                have w158 : 0 ≤ Xi T13 890 1 ∧ Xi T13 890 1 ≤ 5126 := hHT13.c _ _
                refine l_callV rfl rfl rfl (t_gr_takeTests hHT13 (by first | assumption | omega) (by first | assumption | (apply_assumption; omega)) _) ?_
                rintro _ T14 ⟨hHT14, w162, z161, rfl, w161, w159, w160⟩
                have hFT14 : FR md_gr_check__2 S T14 := FR.tr hFT13 w162 rfl
                show Rl _ _ _ _ _ [iv z161] _ _
                refine l_if_eq rfl rfl (by unfold rg; omega) (fun w163 => ?_) (fun w164 => ?_)
                · refine l_iconst rfl ?_
                  refine l_ireturn rfl rfl ?_
                  have w165 : 0 ≤ Xi T14 890 1 ∧ Xi T14 890 1 ≤ 5126 := hHT14.c _ _
                  have w166 : Xi T14 890 2 = Xi U7 890 2 := (show Xi T14 890 2 = Xi T13 890 2 from w162.x _ _ rfl).trans ( (show Xi T13 890 2 = Xi T12 890 2 from w150.x _ _ rfl).trans ( (show Xi T12 890 2 = Xi T11 890 2 from w136.x _ _ rfl).trans ( (show Xi T11 890 2 = Xi T10 890 2 from w123.x _ _ rfl).trans ( (show Xi T10 890 2 = Xi T9 890 2 from w109.x _ _ rfl).trans ( (show Xi T9 890 2 = Xi T8 890 2 from w96.x _ _ rfl).trans ((show Xi T8 890 2 = Xi U7 890 2 from w83.x _ _ rfl)))))))
                  have w167 : 0 ≤ Xi U7 890 2 ∧ Xi U7 890 2 ≤ 20 := hHU7.c _ _
                  exact ⟨hHT14, hFT14, _, rfl, ⟨by omega, by omega⟩, (by omega), (by omega), (by first | (intro a b c; exact absurd a (by omega)) | (intro a b c; exact absurd b (by omega)) | (intro a b c; exact absurd c (by omega)) | (intro a b c; exact ⟨by assumption, by omega, by omega, tk103 (P := T13) (m877 hFT14 rfl) (m877 hFT13 rfl) (by omega) (by omega)⟩)), (by omega), (by omega)⟩
                · refine l_aload_n rfl rfl ?_
                  refine l_bipush rfl rfl ?_
                  have w168 : Xi T14 876 7 = Xi S 876 7 := (show Xi T14 876 7 = Xi T13 876 7 from w162.x _ _ rfl).trans ( (show Xi T13 876 7 = Xi T12 876 7 from w150.x _ _ rfl).trans ( (show Xi T12 876 7 = Xi T11 876 7 from w136.x _ _ rfl).trans ( (show Xi T11 876 7 = Xi T10 876 7 from w123.x _ _ rfl).trans ( (show Xi T10 876 7 = Xi T9 876 7 from w109.x _ _ rfl).trans ( (show Xi T9 876 7 = Xi T8 876 7 from w96.x _ _ rfl).trans ( (show Xi T8 876 7 = Xi U7 876 7 from w83.x _ _ rfl).trans ( (show Xi U7 876 7 = Xi U1 876 7 from by rw [eU7]; exact Xi_ne (by omega)).trans ((show Xi U1 876 7 = Xi S 876 7 from by rw [eU1]; exact Xi_ne (by omega))))))))))
                  have w170 : 0 ≤ Xi T14 890 1 ∧ Xi T14 890 1 ≤ 5126 := hHT14.c _ _
                  refine l_callV rfl rfl rfl (t_gr_take hHT14 103 ⟨by omega, by omega⟩ (by first | assumption | omega) (by first | assumption | (apply_assumption; omega)) (by first | assumption | omega) _) ?_
                  rintro _ T15 ⟨hHT15, w176, z175, rfl, w175, w171, w172, w173, w174⟩
                  have hFT15 : FR md_gr_check__2 S T15 := FR.tr hFT14 w176 rfl
                  show Rl _ _ _ _ _ [iv z175] _ _
                  refine l_if_eq rfl rfl (by unfold rg; omega) (fun w177 => ?_) (fun w178 => ?_)
                  · refine l_iconst rfl ?_
                    refine l_ireturn rfl rfl ?_
                    have w179 : 0 ≤ Xi T15 890 1 ∧ Xi T15 890 1 ≤ 5126 := hHT15.c _ _
                    have w180 : Xi T15 890 2 = Xi U7 890 2 := (show Xi T15 890 2 = Xi T14 890 2 from w176.x _ _ rfl).trans ( (show Xi T14 890 2 = Xi T13 890 2 from w162.x _ _ rfl).trans ( (show Xi T13 890 2 = Xi T12 890 2 from w150.x _ _ rfl).trans ( (show Xi T12 890 2 = Xi T11 890 2 from w136.x _ _ rfl).trans ( (show Xi T11 890 2 = Xi T10 890 2 from w123.x _ _ rfl).trans ( (show Xi T10 890 2 = Xi T9 890 2 from w109.x _ _ rfl).trans ( (show Xi T9 890 2 = Xi T8 890 2 from w96.x _ _ rfl).trans ((show Xi T8 890 2 = Xi U7 890 2 from w83.x _ _ rfl))))))))
                    have w181 : 0 ≤ Xi U7 890 2 ∧ Xi U7 890 2 ≤ 20 := hHU7.c _ _
                    exact ⟨hHT15, hFT15, _, rfl, ⟨by omega, by omega⟩, (by omega), (by omega), (by first | (intro a b c; exact absurd a (by omega)) | (intro a b c; exact absurd b (by omega)) | (intro a b c; exact absurd c (by omega)) | (intro a b c; exact ⟨by assumption, by omega, by omega, tk103 (P := T14) (m877 hFT15 rfl) (m877 hFT14 rfl) (by omega) (by omega)⟩)), (by omega), (by omega)⟩
                  · refine l_iconst rfl ?_
                    refine l_goto rfl rfl ?_
                    refine l_ireturn rfl rfl ?_
                    have w182 : 0 ≤ Xi T15 890 1 ∧ Xi T15 890 1 ≤ 5126 := hHT15.c _ _
                    have w183 : Xi T15 890 2 = Xi U7 890 2 := (show Xi T15 890 2 = Xi T14 890 2 from w176.x _ _ rfl).trans ( (show Xi T14 890 2 = Xi T13 890 2 from w162.x _ _ rfl).trans ( (show Xi T13 890 2 = Xi T12 890 2 from w150.x _ _ rfl).trans ( (show Xi T12 890 2 = Xi T11 890 2 from w136.x _ _ rfl).trans ( (show Xi T11 890 2 = Xi T10 890 2 from w123.x _ _ rfl).trans ( (show Xi T10 890 2 = Xi T9 890 2 from w109.x _ _ rfl).trans ( (show Xi T9 890 2 = Xi T8 890 2 from w96.x _ _ rfl).trans ((show Xi T8 890 2 = Xi U7 890 2 from w83.x _ _ rfl))))))))
                    have w184 : 0 ≤ Xi U7 890 2 ∧ Xi U7 890 2 ≤ 20 := hHU7.c _ _
                    exact ⟨hHT15, hFT15, _, rfl, ⟨by omega, by omega⟩, (by omega), (by omega), (by first | (intro a b c; exact absurd a (by omega)) | (intro a b c; exact absurd b (by omega)) | (intro a b c; exact absurd c (by omega)) | (intro a b c; exact ⟨by assumption, by omega, by omega, tk103 (P := T14) (m877 hFT15 rfl) (m877 hFT14 rfl) (by omega) (by omega)⟩)), (by omega), (by omega)⟩
  refine And.intro (fun w185 => ⟨_, rfl, ?_⟩) (fun w186 => ?_)
  · refine l_aload_n rfl rfl ?_
    refine l_iconst rfl ?_
    refine l_pfi rfl rfl rfl rfl ?_
    obtain ⟨U16, eU16⟩ : ∃ T : sS, T = uI U1 890 2 (Int32.ofInt 3) := ⟨_, rfl⟩
    rw [← eU16]
    have hHU16 : HI U16 := by rw [eU16]; exact HI_w hHU1 (show 0 ≤ 3 by omega) (show 3 ≤ 20 by omega)
    have hFU16 : FR md_gr_check__2 S U16 := by rw [eU16]; exact FR.wI hFU1 (mdf_i (r := (890, 891, 2, 3)) (List.mem_of_getElem? (i := 1) rfl) (inR_i (by omega) (by omega) (by omega) (by omega)))
    have w187 : Xi U16 890 2 = 3 := by rw [eU16]; exact Xi_same (by unfold rg; omega)
    obtain ⟨hv1, hs0⟩ := SAY_v1s eU1 eU16 (by omega)
    refine l_aload_n rfl rfl ?_
    have w188 : Xi U16 876 7 = Xi S 876 7 := (show Xi U16 876 7 = Xi U1 876 7 from by rw [eU16]; exact Xi_ne (by omega)).trans ((show Xi U1 876 7 = Xi S 876 7 from by rw [eU1]; exact Xi_ne (by omega)))
    have w190 : Xi U16 890 1 = Xi U1 890 1 := (show Xi U16 890 1 = Xi U1 890 1 from by rw [eU16]; exact Xi_ne (by omega))
    have w191 : 0 ≤ Xi U1 890 1 ∧ Xi U1 890 1 ≤ 5126 := hHU1.c _ _
    refine l_callV rfl rfl rfl (t_gr_takeActing hHU16 (by first | assumption | omega) (by first | assumption | (apply_assumption; omega)) _) ?_
    rintro _ T17 ⟨hHT17, w195, z194, rfl, w194, w192, w193⟩
    have hFT17 : FR md_gr_check__2 S T17 := FR.tr hFU16 w195 rfl
    show Rl _ _ _ _ _ [iv z194] _ _
    refine l_istore_n rfl rfl rfl ?_
    refine l_goto rfl rfl ?_
    refine l_iload_n rfl rfl ?_
    refine l_if_eq rfl rfl (by unfold rg; omega) (fun w196 => ?_) (fun w197 => ?_)
    · refine l_iconst rfl ?_
      refine l_ireturn rfl rfl ?_
      have w198 : 0 ≤ Xi T17 890 1 ∧ Xi T17 890 1 ≤ 5126 := hHT17.c _ _
      have w199 : Xi T17 890 2 = Xi U16 890 2 := (show Xi T17 890 2 = Xi U16 890 2 from w195.x _ _ rfl)
      have w200 : 0 ≤ Xi U16 890 2 ∧ Xi U16 890 2 ≤ 20 := hHU16.c _ _
      exact ⟨hHT17, hFT17, _, rfl, ⟨by omega, by omega⟩, (by omega), (by omega), (by first | (intro a b c; exact absurd a (by omega)) | (intro a b c; exact absurd b (by omega)) | (intro a b c; exact absurd c (by omega)) | (intro a b c; exact ⟨by assumption, by omega, by omega, tk103 (P := U16) (m877 hFT17 rfl) (m877 hFU16 rfl) (by omega) (by omega)⟩)), (by omega), (by omega)⟩
    · refine l_aload_n rfl rfl ?_
      refine l_bipush rfl rfl ?_
      have w201 : Xi T17 876 7 = Xi S 876 7 := (show Xi T17 876 7 = Xi U16 876 7 from w195.x _ _ rfl).trans ( (show Xi U16 876 7 = Xi U1 876 7 from by rw [eU16]; exact Xi_ne (by omega)).trans ((show Xi U1 876 7 = Xi S 876 7 from by rw [eU1]; exact Xi_ne (by omega))))
      have w203 : 0 ≤ Xi T17 890 1 ∧ Xi T17 890 1 ≤ 5126 := hHT17.c _ _
      refine l_callV rfl rfl rfl (t_gr_take hHT17 37 ⟨by omega, by omega⟩ (by first | assumption | omega) (by first | assumption | (apply_assumption; omega)) (by first | assumption | omega) _) ?_
      rintro _ T18 ⟨hHT18, w209, z208, rfl, w208, w204, w205, w206, w207⟩
      have hFT18 : FR md_gr_check__2 S T18 := FR.tr hFT17 w209 rfl
      show Rl _ _ _ _ _ [iv z208] _ _
      refine l_if_eq rfl rfl (by unfold rg; omega) (fun w210 => ?_) (fun w211 => ?_)
      · refine l_aload_n rfl rfl ?_
        refine l_bipush rfl rfl ?_
        have w212 : Xi T18 876 7 = Xi S 876 7 := (show Xi T18 876 7 = Xi T17 876 7 from w209.x _ _ rfl).trans ( (show Xi T17 876 7 = Xi U16 876 7 from w195.x _ _ rfl).trans ( (show Xi U16 876 7 = Xi U1 876 7 from by rw [eU16]; exact Xi_ne (by omega)).trans ((show Xi U1 876 7 = Xi S 876 7 from by rw [eU1]; exact Xi_ne (by omega)))))
        have w214 : 0 ≤ Xi T18 890 1 ∧ Xi T18 890 1 ≤ 5126 := hHT18.c _ _
        refine l_callV rfl rfl rfl (t_gr_take hHT18 106 ⟨by omega, by omega⟩ (by first | assumption | omega) (by first | assumption | (apply_assumption; omega)) (by first | assumption | omega) _) ?_
        rintro _ T19 ⟨hHT19, w220, z219, rfl, w219, w215, w216, w217, w218⟩
        have hFT19 : FR md_gr_check__2 S T19 := FR.tr hFT18 w220 rfl
        show Rl _ _ _ _ _ [iv z219] _ _
        refine l_if_eq rfl rfl (by unfold rg; omega) (fun w221 => ?_) (fun w222 => ?_)
        · refine l_iconst rfl ?_
          refine l_ireturn rfl rfl ?_
          have w223 : 0 ≤ Xi T19 890 1 ∧ Xi T19 890 1 ≤ 5126 := hHT19.c _ _
          have w224 : Xi T19 890 2 = Xi U16 890 2 := (show Xi T19 890 2 = Xi T18 890 2 from w220.x _ _ rfl).trans ( (show Xi T18 890 2 = Xi T17 890 2 from w209.x _ _ rfl).trans ((show Xi T17 890 2 = Xi U16 890 2 from w195.x _ _ rfl)))
          have w225 : 0 ≤ Xi U16 890 2 ∧ Xi U16 890 2 ≤ 20 := hHU16.c _ _
          exact ⟨hHT19, hFT19, _, rfl, ⟨by omega, by omega⟩, (by omega), (by omega), (by first | (intro a b c; exact absurd a (by omega)) | (intro a b c; exact absurd b (by omega)) | (intro a b c; exact absurd c (by omega)) | (intro a b c; exact ⟨by assumption, by omega, by omega, tk103 (P := T18) (m877 hFT19 rfl) (m877 hFT18 rfl) (by omega) (by omega)⟩)), (by omega), (by omega)⟩
        · refine l_aload_n rfl rfl ?_
          have w226 : Xi T19 876 7 = Xi S 876 7 := (show Xi T19 876 7 = Xi T18 876 7 from w220.x _ _ rfl).trans ( (show Xi T18 876 7 = Xi T17 876 7 from w209.x _ _ rfl).trans ( (show Xi T17 876 7 = Xi U16 876 7 from w195.x _ _ rfl).trans ( (show Xi U16 876 7 = Xi U1 876 7 from by rw [eU16]; exact Xi_ne (by omega)).trans ((show Xi U1 876 7 = Xi S 876 7 from by rw [eU1]; exact Xi_ne (by omega))))))
          have w228 : 0 ≤ Xi T19 890 1 ∧ Xi T19 890 1 ≤ 5126 := hHT19.c _ _
          refine l_callV rfl rfl rfl (t_gr_takePhrases hHT19 (by first | assumption | omega) (by first | assumption | (apply_assumption; omega)) _) ?_
          rintro _ T20 ⟨hHT20, w232, z231, rfl, w231, w229, w230⟩
          have hFT20 : FR md_gr_check__2 S T20 := FR.tr hFT19 w232 rfl
          show Rl _ _ _ _ _ [iv z231] _ _
          refine l_if_eq rfl rfl (by unfold rg; omega) (fun w233 => ?_) (fun w234 => ?_)
          · refine l_iconst rfl ?_
            refine l_ireturn rfl rfl ?_
            have w235 : 0 ≤ Xi T20 890 1 ∧ Xi T20 890 1 ≤ 5126 := hHT20.c _ _
            have w236 : Xi T20 890 2 = Xi U16 890 2 := (show Xi T20 890 2 = Xi T19 890 2 from w232.x _ _ rfl).trans ( (show Xi T19 890 2 = Xi T18 890 2 from w220.x _ _ rfl).trans ( (show Xi T18 890 2 = Xi T17 890 2 from w209.x _ _ rfl).trans ((show Xi T17 890 2 = Xi U16 890 2 from w195.x _ _ rfl))))
            have w237 : 0 ≤ Xi U16 890 2 ∧ Xi U16 890 2 ≤ 20 := hHU16.c _ _
            exact ⟨hHT20, hFT20, _, rfl, ⟨by omega, by omega⟩, (by omega), (by omega), (by first | (intro a b c; exact absurd a (by omega)) | (intro a b c; exact absurd b (by omega)) | (intro a b c; exact absurd c (by omega)) | (intro a b c; exact ⟨by assumption, by omega, by omega, tk103 (P := T19) (m877 hFT20 rfl) (m877 hFT19 rfl) (by omega) (by omega)⟩)), (by omega), (by omega)⟩
          · refine l_aload_n rfl rfl ?_
            refine l_bipush rfl rfl ?_
            have w238 : Xi T20 876 7 = Xi S 876 7 := (show Xi T20 876 7 = Xi T19 876 7 from w232.x _ _ rfl).trans ( (show Xi T19 876 7 = Xi T18 876 7 from w220.x _ _ rfl).trans ( (show Xi T18 876 7 = Xi T17 876 7 from w209.x _ _ rfl).trans ( (show Xi T17 876 7 = Xi U16 876 7 from w195.x _ _ rfl).trans ( (show Xi U16 876 7 = Xi U1 876 7 from by rw [eU16]; exact Xi_ne (by omega)).trans ((show Xi U1 876 7 = Xi S 876 7 from by rw [eU1]; exact Xi_ne (by omega)))))))
            have w240 : 0 ≤ Xi T20 890 1 ∧ Xi T20 890 1 ≤ 5126 := hHT20.c _ _
            refine l_callV rfl rfl rfl (t_gr_take hHT20 103 ⟨by omega, by omega⟩ (by first | assumption | omega) (by first | assumption | (apply_assumption; omega)) (by first | assumption | omega) _) ?_
            rintro _ T21 ⟨hHT21, w246, z245, rfl, w245, w241, w242, w243, w244⟩
            have hFT21 : FR md_gr_check__2 S T21 := FR.tr hFT20 w246 rfl
            show Rl _ _ _ _ _ [iv z245] _ _
            refine l_if_eq rfl rfl (by unfold rg; omega) (fun w247 => ?_) (fun w248 => ?_)
            · refine l_iconst rfl ?_
              refine l_ireturn rfl rfl ?_
              have w249 : 0 ≤ Xi T21 890 1 ∧ Xi T21 890 1 ≤ 5126 := hHT21.c _ _
              have w250 : Xi T21 890 2 = Xi U16 890 2 := (show Xi T21 890 2 = Xi T20 890 2 from w246.x _ _ rfl).trans ( (show Xi T20 890 2 = Xi T19 890 2 from w232.x _ _ rfl).trans ( (show Xi T19 890 2 = Xi T18 890 2 from w220.x _ _ rfl).trans ( (show Xi T18 890 2 = Xi T17 890 2 from w209.x _ _ rfl).trans ((show Xi T17 890 2 = Xi U16 890 2 from w195.x _ _ rfl)))))
              have w251 : 0 ≤ Xi U16 890 2 ∧ Xi U16 890 2 ≤ 20 := hHU16.c _ _
              exact ⟨hHT21, hFT21, _, rfl, ⟨by omega, by omega⟩, (by omega), (by omega), (by first | (intro a b c; exact absurd a (by omega)) | (intro a b c; exact absurd b (by omega)) | (intro a b c; exact absurd c (by omega)) | (intro a b c; exact ⟨by assumption, by omega, by omega, tk103 (P := T20) (m877 hFT21 rfl) (m877 hFT20 rfl) (by omega) (by omega)⟩)), (by omega), (by omega)⟩
            · refine l_iconst rfl ?_
              refine l_goto rfl rfl ?_
              refine l_ireturn rfl rfl ?_
              have w252 : 0 ≤ Xi T21 890 1 ∧ Xi T21 890 1 ≤ 5126 := hHT21.c _ _
              have w253 : Xi T21 890 2 = Xi U16 890 2 := (show Xi T21 890 2 = Xi T20 890 2 from w246.x _ _ rfl).trans ( (show Xi T20 890 2 = Xi T19 890 2 from w232.x _ _ rfl).trans ( (show Xi T19 890 2 = Xi T18 890 2 from w220.x _ _ rfl).trans ( (show Xi T18 890 2 = Xi T17 890 2 from w209.x _ _ rfl).trans ((show Xi T17 890 2 = Xi U16 890 2 from w195.x _ _ rfl)))))
              have w254 : 0 ≤ Xi U16 890 2 ∧ Xi U16 890 2 ≤ 20 := hHU16.c _ _
              exact ⟨hHT21, hFT21, _, rfl, ⟨by omega, by omega⟩, (by omega), (by omega), (by first | (intro a b c; exact absurd a (by omega)) | (intro a b c; exact absurd b (by omega)) | (intro a b c; exact absurd c (by omega)) | (intro a b c; exact ⟨by assumption, by omega, by omega, tk103 (P := T20) (m877 hFT21 rfl) (m877 hFT20 rfl) (by omega) (by omega)⟩)), (by omega), (by omega)⟩
      · refine l_aload_n rfl rfl ?_
        have w255 : Xi T18 876 7 = Xi S 876 7 := (show Xi T18 876 7 = Xi T17 876 7 from w209.x _ _ rfl).trans ( (show Xi T17 876 7 = Xi U16 876 7 from w195.x _ _ rfl).trans ( (show Xi U16 876 7 = Xi U1 876 7 from by rw [eU16]; exact Xi_ne (by omega)).trans ((show Xi U1 876 7 = Xi S 876 7 from by rw [eU1]; exact Xi_ne (by omega)))))
        have w257 : 0 ≤ Xi T18 890 1 ∧ Xi T18 890 1 ≤ 5126 := hHT18.c _ _
        refine l_callV rfl rfl rfl (t_gr_takeTests hHT18 (by first | assumption | omega) (by first | assumption | (apply_assumption; omega)) _) ?_
        rintro _ T22 ⟨hHT22, w261, z260, rfl, w260, w258, w259⟩
        have hFT22 : FR md_gr_check__2 S T22 := FR.tr hFT18 w261 rfl
        show Rl _ _ _ _ _ [iv z260] _ _
        refine l_if_eq rfl rfl (by unfold rg; omega) (fun w262 => ?_) (fun w263 => ?_)
        · refine l_iconst rfl ?_
          refine l_ireturn rfl rfl ?_
          have w264 : 0 ≤ Xi T22 890 1 ∧ Xi T22 890 1 ≤ 5126 := hHT22.c _ _
          have w265 : Xi T22 890 2 = Xi U16 890 2 := (show Xi T22 890 2 = Xi T18 890 2 from w261.x _ _ rfl).trans ( (show Xi T18 890 2 = Xi T17 890 2 from w209.x _ _ rfl).trans ((show Xi T17 890 2 = Xi U16 890 2 from w195.x _ _ rfl)))
          have w266 : 0 ≤ Xi U16 890 2 ∧ Xi U16 890 2 ≤ 20 := hHU16.c _ _
          exact ⟨hHT22, hFT22, _, rfl, ⟨by omega, by omega⟩, (by omega), (by omega), (by first | (intro a b c; exact absurd a (by omega)) | (intro a b c; exact absurd b (by omega)) | (intro a b c; exact absurd c (by omega)) | (intro a b c; exact ⟨by assumption, by omega, by omega, tk103 (P := T18) (m877 hFT22 rfl) (m877 hFT18 rfl) (by omega) (by omega)⟩)), (by omega), (by omega)⟩
        · refine l_aload_n rfl rfl ?_
          refine l_bipush rfl rfl ?_
          have w267 : Xi T22 876 7 = Xi S 876 7 := (show Xi T22 876 7 = Xi T18 876 7 from w261.x _ _ rfl).trans ( (show Xi T18 876 7 = Xi T17 876 7 from w209.x _ _ rfl).trans ( (show Xi T17 876 7 = Xi U16 876 7 from w195.x _ _ rfl).trans ( (show Xi U16 876 7 = Xi U1 876 7 from by rw [eU16]; exact Xi_ne (by omega)).trans ((show Xi U1 876 7 = Xi S 876 7 from by rw [eU1]; exact Xi_ne (by omega))))))
          have w269 : 0 ≤ Xi T22 890 1 ∧ Xi T22 890 1 ≤ 5126 := hHT22.c _ _
          refine l_callV rfl rfl rfl (t_gr_take hHT22 106 ⟨by omega, by omega⟩ (by first | assumption | omega) (by first | assumption | (apply_assumption; omega)) (by first | assumption | omega) _) ?_
          rintro _ T23 ⟨hHT23, w275, z274, rfl, w274, w270, w271, w272, w273⟩
          have hFT23 : FR md_gr_check__2 S T23 := FR.tr hFT22 w275 rfl
          show Rl _ _ _ _ _ [iv z274] _ _
          refine l_if_eq rfl rfl (by unfold rg; omega) (fun w276 => ?_) (fun w277 => ?_)
          · refine l_iconst rfl ?_
            refine l_ireturn rfl rfl ?_
            have w278 : 0 ≤ Xi T23 890 1 ∧ Xi T23 890 1 ≤ 5126 := hHT23.c _ _
            have w279 : Xi T23 890 2 = Xi U16 890 2 := (show Xi T23 890 2 = Xi T22 890 2 from w275.x _ _ rfl).trans ( (show Xi T22 890 2 = Xi T18 890 2 from w261.x _ _ rfl).trans ( (show Xi T18 890 2 = Xi T17 890 2 from w209.x _ _ rfl).trans ((show Xi T17 890 2 = Xi U16 890 2 from w195.x _ _ rfl))))
            have w280 : 0 ≤ Xi U16 890 2 ∧ Xi U16 890 2 ≤ 20 := hHU16.c _ _
            exact ⟨hHT23, hFT23, _, rfl, ⟨by omega, by omega⟩, (by omega), (by omega), (by first | (intro a b c; exact absurd a (by omega)) | (intro a b c; exact absurd b (by omega)) | (intro a b c; exact absurd c (by omega)) | (intro a b c; exact ⟨by assumption, by omega, by omega, tk103 (P := T22) (m877 hFT23 rfl) (m877 hFT22 rfl) (by omega) (by omega)⟩)), (by omega), (by omega)⟩
          · refine l_aload_n rfl rfl ?_
            have w281 : Xi T23 876 7 = Xi S 876 7 := (show Xi T23 876 7 = Xi T22 876 7 from w275.x _ _ rfl).trans ( (show Xi T22 876 7 = Xi T18 876 7 from w261.x _ _ rfl).trans ( (show Xi T18 876 7 = Xi T17 876 7 from w209.x _ _ rfl).trans ( (show Xi T17 876 7 = Xi U16 876 7 from w195.x _ _ rfl).trans ( (show Xi U16 876 7 = Xi U1 876 7 from by rw [eU16]; exact Xi_ne (by omega)).trans ((show Xi U1 876 7 = Xi S 876 7 from by rw [eU1]; exact Xi_ne (by omega)))))))
            have w283 : 0 ≤ Xi T23 890 1 ∧ Xi T23 890 1 ≤ 5126 := hHT23.c _ _
            refine l_callV rfl rfl rfl (t_gr_takePhrases hHT23 (by first | assumption | omega) (by first | assumption | (apply_assumption; omega)) _) ?_
            rintro _ T24 ⟨hHT24, w287, z286, rfl, w286, w284, w285⟩
            have hFT24 : FR md_gr_check__2 S T24 := FR.tr hFT23 w287 rfl
            show Rl _ _ _ _ _ [iv z286] _ _
            refine l_if_eq rfl rfl (by unfold rg; omega) (fun w288 => ?_) (fun w289 => ?_)
            · refine l_iconst rfl ?_
              refine l_ireturn rfl rfl ?_
              have w290 : 0 ≤ Xi T24 890 1 ∧ Xi T24 890 1 ≤ 5126 := hHT24.c _ _
              have w291 : Xi T24 890 2 = Xi U16 890 2 := (show Xi T24 890 2 = Xi T23 890 2 from w287.x _ _ rfl).trans ( (show Xi T23 890 2 = Xi T22 890 2 from w275.x _ _ rfl).trans ( (show Xi T22 890 2 = Xi T18 890 2 from w261.x _ _ rfl).trans ( (show Xi T18 890 2 = Xi T17 890 2 from w209.x _ _ rfl).trans ((show Xi T17 890 2 = Xi U16 890 2 from w195.x _ _ rfl)))))
              have w292 : 0 ≤ Xi U16 890 2 ∧ Xi U16 890 2 ≤ 20 := hHU16.c _ _
              exact ⟨hHT24, hFT24, _, rfl, ⟨by omega, by omega⟩, (by omega), (by omega), (by first | (intro a b c; exact absurd a (by omega)) | (intro a b c; exact absurd b (by omega)) | (intro a b c; exact absurd c (by omega)) | (intro a b c; exact ⟨by assumption, by omega, by omega, tk103 (P := T23) (m877 hFT24 rfl) (m877 hFT23 rfl) (by omega) (by omega)⟩)), (by omega), (by omega)⟩
            · refine l_aload_n rfl rfl ?_
              refine l_bipush rfl rfl ?_
              have w293 : Xi T24 876 7 = Xi S 876 7 := (show Xi T24 876 7 = Xi T23 876 7 from w287.x _ _ rfl).trans ( (show Xi T23 876 7 = Xi T22 876 7 from w275.x _ _ rfl).trans ( (show Xi T22 876 7 = Xi T18 876 7 from w261.x _ _ rfl).trans ( (show Xi T18 876 7 = Xi T17 876 7 from w209.x _ _ rfl).trans ( (show Xi T17 876 7 = Xi U16 876 7 from w195.x _ _ rfl).trans ( (show Xi U16 876 7 = Xi U1 876 7 from by rw [eU16]; exact Xi_ne (by omega)).trans ((show Xi U1 876 7 = Xi S 876 7 from by rw [eU1]; exact Xi_ne (by omega))))))))
              have w295 : 0 ≤ Xi T24 890 1 ∧ Xi T24 890 1 ≤ 5126 := hHT24.c _ _
              refine l_callV rfl rfl rfl (t_gr_take hHT24 103 ⟨by omega, by omega⟩ (by first | assumption | omega) (by first | assumption | (apply_assumption; omega)) (by first | assumption | omega) _) ?_
              rintro _ T25 ⟨hHT25, w301, z300, rfl, w300, w296, w297, w298, w299⟩
              have hFT25 : FR md_gr_check__2 S T25 := FR.tr hFT24 w301 rfl
              show Rl _ _ _ _ _ [iv z300] _ _
              refine l_if_eq rfl rfl (by unfold rg; omega) (fun w302 => ?_) (fun w303 => ?_)
              · refine l_iconst rfl ?_
                refine l_ireturn rfl rfl ?_
                have w304 : 0 ≤ Xi T25 890 1 ∧ Xi T25 890 1 ≤ 5126 := hHT25.c _ _
                have w305 : Xi T25 890 2 = Xi U16 890 2 := (show Xi T25 890 2 = Xi T24 890 2 from w301.x _ _ rfl).trans ( (show Xi T24 890 2 = Xi T23 890 2 from w287.x _ _ rfl).trans ( (show Xi T23 890 2 = Xi T22 890 2 from w275.x _ _ rfl).trans ( (show Xi T22 890 2 = Xi T18 890 2 from w261.x _ _ rfl).trans ( (show Xi T18 890 2 = Xi T17 890 2 from w209.x _ _ rfl).trans ((show Xi T17 890 2 = Xi U16 890 2 from w195.x _ _ rfl))))))
                have w306 : 0 ≤ Xi U16 890 2 ∧ Xi U16 890 2 ≤ 20 := hHU16.c _ _
                exact ⟨hHT25, hFT25, _, rfl, ⟨by omega, by omega⟩, (by omega), (by omega), (by first | (intro a b c; exact absurd a (by omega)) | (intro a b c; exact absurd b (by omega)) | (intro a b c; exact absurd c (by omega)) | (intro a b c; exact ⟨by assumption, by omega, by omega, tk103 (P := T24) (m877 hFT25 rfl) (m877 hFT24 rfl) (by omega) (by omega)⟩)), (by omega), (by omega)⟩
              · refine l_iconst rfl ?_
                refine l_goto rfl rfl ?_
                refine l_ireturn rfl rfl ?_
                have w307 : 0 ≤ Xi T25 890 1 ∧ Xi T25 890 1 ≤ 5126 := hHT25.c _ _
                have w308 : Xi T25 890 2 = Xi U16 890 2 := (show Xi T25 890 2 = Xi T24 890 2 from w301.x _ _ rfl).trans ( (show Xi T24 890 2 = Xi T23 890 2 from w287.x _ _ rfl).trans ( (show Xi T23 890 2 = Xi T22 890 2 from w275.x _ _ rfl).trans ( (show Xi T22 890 2 = Xi T18 890 2 from w261.x _ _ rfl).trans ( (show Xi T18 890 2 = Xi T17 890 2 from w209.x _ _ rfl).trans ((show Xi T17 890 2 = Xi U16 890 2 from w195.x _ _ rfl))))))
                have w309 : 0 ≤ Xi U16 890 2 ∧ Xi U16 890 2 ≤ 20 := hHU16.c _ _
                exact ⟨hHT25, hFT25, _, rfl, ⟨by omega, by omega⟩, (by omega), (by omega), (by first | (intro a b c; exact absurd a (by omega)) | (intro a b c; exact absurd b (by omega)) | (intro a b c; exact absurd c (by omega)) | (intro a b c; exact ⟨by assumption, by omega, by omega, tk103 (P := T24) (m877 hFT25 rfl) (m877 hFT24 rfl) (by omega) (by omega)⟩)), (by omega), (by omega)⟩
  refine And.intro (fun w310 => ⟨_, rfl, ?_⟩) (fun w311 => ?_)
  · refine l_aload_n rfl rfl ?_
    refine l_iconst rfl ?_
    refine l_pfi rfl rfl rfl rfl ?_
    obtain ⟨U26, eU26⟩ : ∃ T : sS, T = uI U1 890 2 (Int32.ofInt 5) := ⟨_, rfl⟩
    rw [← eU26]
    have hHU26 : HI U26 := by rw [eU26]; exact HI_w hHU1 (show 0 ≤ 5 by omega) (show 5 ≤ 20 by omega)
    have hFU26 : FR md_gr_check__2 S U26 := by rw [eU26]; exact FR.wI hFU1 (mdf_i (r := (890, 891, 2, 3)) (List.mem_of_getElem? (i := 1) rfl) (inR_i (by omega) (by omega) (by omega) (by omega)))
    have w312 : Xi U26 890 2 = 5 := by rw [eU26]; exact Xi_same (by unfold rg; omega)
    obtain ⟨hv1, hs0⟩ := SAY_v1s eU1 eU26 (by omega)
    refine l_aload_n rfl rfl ?_
    refine l_bipush rfl rfl ?_
    have w313 : Xi U26 876 7 = Xi S 876 7 := (show Xi U26 876 7 = Xi U1 876 7 from by rw [eU26]; exact Xi_ne (by omega)).trans ((show Xi U1 876 7 = Xi S 876 7 from by rw [eU1]; exact Xi_ne (by omega)))
    have w315 : Xi U26 890 1 = Xi U1 890 1 := (show Xi U26 890 1 = Xi U1 890 1 from by rw [eU26]; exact Xi_ne (by omega))
    have w316 : 0 ≤ Xi U1 890 1 ∧ Xi U1 890 1 ≤ 5126 := hHU1.c _ _
    refine l_callV rfl rfl rfl (t_gr_take hHU26 7 ⟨by omega, by omega⟩ (by first | assumption | omega) (by first | assumption | (apply_assumption; omega)) (by first | assumption | omega) _) ?_
    rintro _ T27 ⟨hHT27, w322, z321, rfl, w321, w317, w318, w319, w320⟩
    have hFT27 : FR md_gr_check__2 S T27 := FR.tr hFU26 w322 rfl
    show Rl _ _ _ _ _ [iv z321] _ _
    refine l_if_eq rfl rfl (by unfold rg; omega) (fun w323 => ?_) (fun w324 => ?_)
    · refine l_iconst rfl ?_
      refine l_istore_n rfl rfl rfl ?_
      refine l_goto rfl rfl ?_
      refine l_iload_n rfl rfl ?_
      refine l_if_eq rfl rfl (by unfold rg; omega) (fun w325 => ?_) (fun w326 => absurd w326 (by omega))
      · refine l_iconst rfl ?_
        refine l_ireturn rfl rfl ?_
        have w327 : 0 ≤ Xi T27 890 1 ∧ Xi T27 890 1 ≤ 5126 := hHT27.c _ _
        have w328 : Xi T27 890 2 = Xi U26 890 2 := (show Xi T27 890 2 = Xi U26 890 2 from w322.x _ _ rfl)
        have w329 : 0 ≤ Xi U26 890 2 ∧ Xi U26 890 2 ≤ 20 := hHU26.c _ _
        exact ⟨hHT27, hFT27, _, rfl, ⟨by omega, by omega⟩, (by omega), (by omega), (by first | (intro a b c; exact absurd a (by omega)) | (intro a b c; exact absurd b (by omega)) | (intro a b c; exact absurd c (by omega)) | (intro a b c; exact ⟨by assumption, by omega, by omega, tk103 (P := U26) (m877 hFT27 rfl) (m877 hFU26 rfl) (by omega) (by omega)⟩)), (by omega), (by omega)⟩
    · refine l_aload_n rfl rfl ?_
      have w330 : Xi T27 876 7 = Xi S 876 7 := (show Xi T27 876 7 = Xi U26 876 7 from w322.x _ _ rfl).trans ( (show Xi U26 876 7 = Xi U1 876 7 from by rw [eU26]; exact Xi_ne (by omega)).trans ((show Xi U1 876 7 = Xi S 876 7 from by rw [eU1]; exact Xi_ne (by omega))))
      have w332 : 0 ≤ Xi T27 890 1 ∧ Xi T27 890 1 ≤ 5126 := hHT27.c _ _
      refine l_callV rfl rfl rfl (t_gr_takeActing hHT27 (by first | assumption | omega) (by first | assumption | (apply_assumption; omega)) _) ?_
      rintro _ T28 ⟨hHT28, w336, z335, rfl, w335, w333, w334⟩
      have hFT28 : FR md_gr_check__2 S T28 := FR.tr hFT27 w336 rfl
      show Rl _ _ _ _ _ [iv z335] _ _
      refine l_if_eq rfl rfl (by unfold rg; omega) (fun w337 => ?_) (fun w338 => ?_)
      · refine l_iconst rfl ?_
        refine l_istore_n rfl rfl rfl ?_
        refine l_goto rfl rfl ?_
        refine l_iload_n rfl rfl ?_
        refine l_if_eq rfl rfl (by unfold rg; omega) (fun w339 => ?_) (fun w340 => absurd w340 (by omega))
        · refine l_iconst rfl ?_
          refine l_ireturn rfl rfl ?_
          have w341 : 0 ≤ Xi T28 890 1 ∧ Xi T28 890 1 ≤ 5126 := hHT28.c _ _
          have w342 : Xi T28 890 2 = Xi U26 890 2 := (show Xi T28 890 2 = Xi T27 890 2 from w336.x _ _ rfl).trans ((show Xi T27 890 2 = Xi U26 890 2 from w322.x _ _ rfl))
          have w343 : 0 ≤ Xi U26 890 2 ∧ Xi U26 890 2 ≤ 20 := hHU26.c _ _
          exact ⟨hHT28, hFT28, _, rfl, ⟨by omega, by omega⟩, (by omega), (by omega), (by first | (intro a b c; exact absurd a (by omega)) | (intro a b c; exact absurd b (by omega)) | (intro a b c; exact absurd c (by omega)) | (intro a b c; exact ⟨by assumption, by omega, by omega, tk103 (P := T27) (m877 hFT28 rfl) (m877 hFT27 rfl) (by omega) (by omega)⟩)), (by omega), (by omega)⟩
      · refine l_iconst rfl ?_
        refine l_goto rfl rfl ?_
        refine l_istore_n rfl rfl rfl ?_
        refine l_goto rfl rfl ?_
        refine l_iload_n rfl rfl ?_
        refine l_if_eq rfl rfl (by unfold rg; omega) (fun w344 => absurd w344 (by omega)) (fun w345 => ?_)
        · refine l_aload_n rfl rfl ?_
          refine l_bipush rfl rfl ?_
          have w346 : Xi T28 876 7 = Xi S 876 7 := (show Xi T28 876 7 = Xi T27 876 7 from w336.x _ _ rfl).trans ( (show Xi T27 876 7 = Xi U26 876 7 from w322.x _ _ rfl).trans ( (show Xi U26 876 7 = Xi U1 876 7 from by rw [eU26]; exact Xi_ne (by omega)).trans ((show Xi U1 876 7 = Xi S 876 7 from by rw [eU1]; exact Xi_ne (by omega)))))
          have w348 : 0 ≤ Xi T28 890 1 ∧ Xi T28 890 1 ≤ 5126 := hHT28.c _ _
          refine l_callV rfl rfl rfl (t_gr_take hHT28 37 ⟨by omega, by omega⟩ (by first | assumption | omega) (by first | assumption | (apply_assumption; omega)) (by first | assumption | omega) _) ?_
          rintro _ T29 ⟨hHT29, w354, z353, rfl, w353, w349, w350, w351, w352⟩
          have hFT29 : FR md_gr_check__2 S T29 := FR.tr hFT28 w354 rfl
          show Rl _ _ _ _ _ [iv z353] _ _
          refine l_if_eq rfl rfl (by unfold rg; omega) (fun w355 => ?_) (fun w356 => ?_)
          · refine l_aload_n rfl rfl ?_
            refine l_bipush rfl rfl ?_
            have w357 : Xi T29 876 7 = Xi S 876 7 := (show Xi T29 876 7 = Xi T28 876 7 from w354.x _ _ rfl).trans ( (show Xi T28 876 7 = Xi T27 876 7 from w336.x _ _ rfl).trans ( (show Xi T27 876 7 = Xi U26 876 7 from w322.x _ _ rfl).trans ( (show Xi U26 876 7 = Xi U1 876 7 from by rw [eU26]; exact Xi_ne (by omega)).trans ((show Xi U1 876 7 = Xi S 876 7 from by rw [eU1]; exact Xi_ne (by omega))))))
            have w359 : 0 ≤ Xi T29 890 1 ∧ Xi T29 890 1 ≤ 5126 := hHT29.c _ _
            refine l_callV rfl rfl rfl (t_gr_take hHT29 106 ⟨by omega, by omega⟩ (by first | assumption | omega) (by first | assumption | (apply_assumption; omega)) (by first | assumption | omega) _) ?_
            rintro _ T30 ⟨hHT30, w365, z364, rfl, w364, w360, w361, w362, w363⟩
            have hFT30 : FR md_gr_check__2 S T30 := FR.tr hFT29 w365 rfl
            show Rl _ _ _ _ _ [iv z364] _ _
            refine l_if_eq rfl rfl (by unfold rg; omega) (fun w366 => ?_) (fun w367 => ?_)
            · refine l_iconst rfl ?_
              refine l_ireturn rfl rfl ?_
              have w368 : 0 ≤ Xi T30 890 1 ∧ Xi T30 890 1 ≤ 5126 := hHT30.c _ _
              have w369 : Xi T30 890 2 = Xi U26 890 2 := (show Xi T30 890 2 = Xi T29 890 2 from w365.x _ _ rfl).trans ( (show Xi T29 890 2 = Xi T28 890 2 from w354.x _ _ rfl).trans ( (show Xi T28 890 2 = Xi T27 890 2 from w336.x _ _ rfl).trans ((show Xi T27 890 2 = Xi U26 890 2 from w322.x _ _ rfl))))
              have w370 : 0 ≤ Xi U26 890 2 ∧ Xi U26 890 2 ≤ 20 := hHU26.c _ _
              exact ⟨hHT30, hFT30, _, rfl, ⟨by omega, by omega⟩, (by omega), (by omega), (by first | (intro a b c; exact absurd a (by omega)) | (intro a b c; exact absurd b (by omega)) | (intro a b c; exact absurd c (by omega)) | (intro a b c; exact ⟨by assumption, by omega, by omega, tk103 (P := T29) (m877 hFT30 rfl) (m877 hFT29 rfl) (by omega) (by omega)⟩)), (by omega), (by omega)⟩
            · refine l_aload_n rfl rfl ?_
              have w371 : Xi T30 876 7 = Xi S 876 7 := (show Xi T30 876 7 = Xi T29 876 7 from w365.x _ _ rfl).trans ( (show Xi T29 876 7 = Xi T28 876 7 from w354.x _ _ rfl).trans ( (show Xi T28 876 7 = Xi T27 876 7 from w336.x _ _ rfl).trans ( (show Xi T27 876 7 = Xi U26 876 7 from w322.x _ _ rfl).trans ( (show Xi U26 876 7 = Xi U1 876 7 from by rw [eU26]; exact Xi_ne (by omega)).trans ((show Xi U1 876 7 = Xi S 876 7 from by rw [eU1]; exact Xi_ne (by omega)))))))
              have w373 : 0 ≤ Xi T30 890 1 ∧ Xi T30 890 1 ≤ 5126 := hHT30.c _ _
              refine l_callV rfl rfl rfl (t_gr_takePhrases hHT30 (by first | assumption | omega) (by first | assumption | (apply_assumption; omega)) _) ?_
              rintro _ T31 ⟨hHT31, w377, z376, rfl, w376, w374, w375⟩
              have hFT31 : FR md_gr_check__2 S T31 := FR.tr hFT30 w377 rfl
              show Rl _ _ _ _ _ [iv z376] _ _
              refine l_if_eq rfl rfl (by unfold rg; omega) (fun w378 => ?_) (fun w379 => ?_)
              · refine l_iconst rfl ?_
                refine l_ireturn rfl rfl ?_
                have w380 : 0 ≤ Xi T31 890 1 ∧ Xi T31 890 1 ≤ 5126 := hHT31.c _ _
                have w381 : Xi T31 890 2 = Xi U26 890 2 := (show Xi T31 890 2 = Xi T30 890 2 from w377.x _ _ rfl).trans ( (show Xi T30 890 2 = Xi T29 890 2 from w365.x _ _ rfl).trans ( (show Xi T29 890 2 = Xi T28 890 2 from w354.x _ _ rfl).trans ( (show Xi T28 890 2 = Xi T27 890 2 from w336.x _ _ rfl).trans ((show Xi T27 890 2 = Xi U26 890 2 from w322.x _ _ rfl)))))
                have w382 : 0 ≤ Xi U26 890 2 ∧ Xi U26 890 2 ≤ 20 := hHU26.c _ _
                exact ⟨hHT31, hFT31, _, rfl, ⟨by omega, by omega⟩, (by omega), (by omega), (by first | (intro a b c; exact absurd a (by omega)) | (intro a b c; exact absurd b (by omega)) | (intro a b c; exact absurd c (by omega)) | (intro a b c; exact ⟨by assumption, by omega, by omega, tk103 (P := T30) (m877 hFT31 rfl) (m877 hFT30 rfl) (by omega) (by omega)⟩)), (by omega), (by omega)⟩
              · refine l_aload_n rfl rfl ?_
                refine l_bipush rfl rfl ?_
                have w383 : Xi T31 876 7 = Xi S 876 7 := (show Xi T31 876 7 = Xi T30 876 7 from w377.x _ _ rfl).trans ( (show Xi T30 876 7 = Xi T29 876 7 from w365.x _ _ rfl).trans ( (show Xi T29 876 7 = Xi T28 876 7 from w354.x _ _ rfl).trans ( (show Xi T28 876 7 = Xi T27 876 7 from w336.x _ _ rfl).trans ( (show Xi T27 876 7 = Xi U26 876 7 from w322.x _ _ rfl).trans ( (show Xi U26 876 7 = Xi U1 876 7 from by rw [eU26]; exact Xi_ne (by omega)).trans ((show Xi U1 876 7 = Xi S 876 7 from by rw [eU1]; exact Xi_ne (by omega))))))))
                have w385 : 0 ≤ Xi T31 890 1 ∧ Xi T31 890 1 ≤ 5126 := hHT31.c _ _
                refine l_callV rfl rfl rfl (t_gr_take hHT31 103 ⟨by omega, by omega⟩ (by first | assumption | omega) (by first | assumption | (apply_assumption; omega)) (by first | assumption | omega) _) ?_
                rintro _ T32 ⟨hHT32, w391, z390, rfl, w390, w386, w387, w388, w389⟩
                have hFT32 : FR md_gr_check__2 S T32 := FR.tr hFT31 w391 rfl
                show Rl _ _ _ _ _ [iv z390] _ _
                refine l_if_eq rfl rfl (by unfold rg; omega) (fun w392 => ?_) (fun w393 => ?_)
                · refine l_iconst rfl ?_
                  refine l_ireturn rfl rfl ?_
                  have w394 : 0 ≤ Xi T32 890 1 ∧ Xi T32 890 1 ≤ 5126 := hHT32.c _ _
                  have w395 : Xi T32 890 2 = Xi U26 890 2 := (show Xi T32 890 2 = Xi T31 890 2 from w391.x _ _ rfl).trans ( (show Xi T31 890 2 = Xi T30 890 2 from w377.x _ _ rfl).trans ( (show Xi T30 890 2 = Xi T29 890 2 from w365.x _ _ rfl).trans ( (show Xi T29 890 2 = Xi T28 890 2 from w354.x _ _ rfl).trans ( (show Xi T28 890 2 = Xi T27 890 2 from w336.x _ _ rfl).trans ((show Xi T27 890 2 = Xi U26 890 2 from w322.x _ _ rfl))))))
                  have w396 : 0 ≤ Xi U26 890 2 ∧ Xi U26 890 2 ≤ 20 := hHU26.c _ _
                  exact ⟨hHT32, hFT32, _, rfl, ⟨by omega, by omega⟩, (by omega), (by omega), (by first | (intro a b c; exact absurd a (by omega)) | (intro a b c; exact absurd b (by omega)) | (intro a b c; exact absurd c (by omega)) | (intro a b c; exact ⟨by assumption, by omega, by omega, tk103 (P := T31) (m877 hFT32 rfl) (m877 hFT31 rfl) (by omega) (by omega)⟩)), (by omega), (by omega)⟩
                · refine l_iconst rfl ?_
                  refine l_goto rfl rfl ?_
                  refine l_ireturn rfl rfl ?_
                  have w397 : 0 ≤ Xi T32 890 1 ∧ Xi T32 890 1 ≤ 5126 := hHT32.c _ _
                  have w398 : Xi T32 890 2 = Xi U26 890 2 := (show Xi T32 890 2 = Xi T31 890 2 from w391.x _ _ rfl).trans ( (show Xi T31 890 2 = Xi T30 890 2 from w377.x _ _ rfl).trans ( (show Xi T30 890 2 = Xi T29 890 2 from w365.x _ _ rfl).trans ( (show Xi T29 890 2 = Xi T28 890 2 from w354.x _ _ rfl).trans ( (show Xi T28 890 2 = Xi T27 890 2 from w336.x _ _ rfl).trans ((show Xi T27 890 2 = Xi U26 890 2 from w322.x _ _ rfl))))))
                  have w399 : 0 ≤ Xi U26 890 2 ∧ Xi U26 890 2 ≤ 20 := hHU26.c _ _
                  exact ⟨hHT32, hFT32, _, rfl, ⟨by omega, by omega⟩, (by omega), (by omega), (by first | (intro a b c; exact absurd a (by omega)) | (intro a b c; exact absurd b (by omega)) | (intro a b c; exact absurd c (by omega)) | (intro a b c; exact ⟨by assumption, by omega, by omega, tk103 (P := T31) (m877 hFT32 rfl) (m877 hFT31 rfl) (by omega) (by omega)⟩)), (by omega), (by omega)⟩
          · refine l_aload_n rfl rfl ?_
            have w400 : Xi T29 876 7 = Xi S 876 7 := (show Xi T29 876 7 = Xi T28 876 7 from w354.x _ _ rfl).trans ( (show Xi T28 876 7 = Xi T27 876 7 from w336.x _ _ rfl).trans ( (show Xi T27 876 7 = Xi U26 876 7 from w322.x _ _ rfl).trans ( (show Xi U26 876 7 = Xi U1 876 7 from by rw [eU26]; exact Xi_ne (by omega)).trans ((show Xi U1 876 7 = Xi S 876 7 from by rw [eU1]; exact Xi_ne (by omega))))))
            have w402 : 0 ≤ Xi T29 890 1 ∧ Xi T29 890 1 ≤ 5126 := hHT29.c _ _
            refine l_callV rfl rfl rfl (t_gr_takeTests hHT29 (by first | assumption | omega) (by first | assumption | (apply_assumption; omega)) _) ?_
            rintro _ T33 ⟨hHT33, w406, z405, rfl, w405, w403, w404⟩
            have hFT33 : FR md_gr_check__2 S T33 := FR.tr hFT29 w406 rfl
            show Rl _ _ _ _ _ [iv z405] _ _
            refine l_if_eq rfl rfl (by unfold rg; omega) (fun w407 => ?_) (fun w408 => ?_)
            · refine l_iconst rfl ?_
              refine l_ireturn rfl rfl ?_
              have w409 : 0 ≤ Xi T33 890 1 ∧ Xi T33 890 1 ≤ 5126 := hHT33.c _ _
              have w410 : Xi T33 890 2 = Xi U26 890 2 := (show Xi T33 890 2 = Xi T29 890 2 from w406.x _ _ rfl).trans ( (show Xi T29 890 2 = Xi T28 890 2 from w354.x _ _ rfl).trans ( (show Xi T28 890 2 = Xi T27 890 2 from w336.x _ _ rfl).trans ((show Xi T27 890 2 = Xi U26 890 2 from w322.x _ _ rfl))))
              have w411 : 0 ≤ Xi U26 890 2 ∧ Xi U26 890 2 ≤ 20 := hHU26.c _ _
              exact ⟨hHT33, hFT33, _, rfl, ⟨by omega, by omega⟩, (by omega), (by omega), (by first | (intro a b c; exact absurd a (by omega)) | (intro a b c; exact absurd b (by omega)) | (intro a b c; exact absurd c (by omega)) | (intro a b c; exact ⟨by assumption, by omega, by omega, tk103 (P := T29) (m877 hFT33 rfl) (m877 hFT29 rfl) (by omega) (by omega)⟩)), (by omega), (by omega)⟩
            · refine l_aload_n rfl rfl ?_
              refine l_bipush rfl rfl ?_
              have w412 : Xi T33 876 7 = Xi S 876 7 := (show Xi T33 876 7 = Xi T29 876 7 from w406.x _ _ rfl).trans ( (show Xi T29 876 7 = Xi T28 876 7 from w354.x _ _ rfl).trans ( (show Xi T28 876 7 = Xi T27 876 7 from w336.x _ _ rfl).trans ( (show Xi T27 876 7 = Xi U26 876 7 from w322.x _ _ rfl).trans ( (show Xi U26 876 7 = Xi U1 876 7 from by rw [eU26]; exact Xi_ne (by omega)).trans ((show Xi U1 876 7 = Xi S 876 7 from by rw [eU1]; exact Xi_ne (by omega)))))))
              have w414 : 0 ≤ Xi T33 890 1 ∧ Xi T33 890 1 ≤ 5126 := hHT33.c _ _
              refine l_callV rfl rfl rfl (t_gr_take hHT33 106 ⟨by omega, by omega⟩ (by first | assumption | omega) (by first | assumption | (apply_assumption; omega)) (by first | assumption | omega) _) ?_
              rintro _ T34 ⟨hHT34, w420, z419, rfl, w419, w415, w416, w417, w418⟩
              have hFT34 : FR md_gr_check__2 S T34 := FR.tr hFT33 w420 rfl
              show Rl _ _ _ _ _ [iv z419] _ _
              refine l_if_eq rfl rfl (by unfold rg; omega) (fun w421 => ?_) (fun w422 => ?_)
              · refine l_iconst rfl ?_
                refine l_ireturn rfl rfl ?_
                have w423 : 0 ≤ Xi T34 890 1 ∧ Xi T34 890 1 ≤ 5126 := hHT34.c _ _
                have w424 : Xi T34 890 2 = Xi U26 890 2 := (show Xi T34 890 2 = Xi T33 890 2 from w420.x _ _ rfl).trans ( (show Xi T33 890 2 = Xi T29 890 2 from w406.x _ _ rfl).trans ( (show Xi T29 890 2 = Xi T28 890 2 from w354.x _ _ rfl).trans ( (show Xi T28 890 2 = Xi T27 890 2 from w336.x _ _ rfl).trans ((show Xi T27 890 2 = Xi U26 890 2 from w322.x _ _ rfl)))))
                have w425 : 0 ≤ Xi U26 890 2 ∧ Xi U26 890 2 ≤ 20 := hHU26.c _ _
                exact ⟨hHT34, hFT34, _, rfl, ⟨by omega, by omega⟩, (by omega), (by omega), (by first | (intro a b c; exact absurd a (by omega)) | (intro a b c; exact absurd b (by omega)) | (intro a b c; exact absurd c (by omega)) | (intro a b c; exact ⟨by assumption, by omega, by omega, tk103 (P := T33) (m877 hFT34 rfl) (m877 hFT33 rfl) (by omega) (by omega)⟩)), (by omega), (by omega)⟩
              · refine l_aload_n rfl rfl ?_
                have w426 : Xi T34 876 7 = Xi S 876 7 := (show Xi T34 876 7 = Xi T33 876 7 from w420.x _ _ rfl).trans ( (show Xi T33 876 7 = Xi T29 876 7 from w406.x _ _ rfl).trans ( (show Xi T29 876 7 = Xi T28 876 7 from w354.x _ _ rfl).trans ( (show Xi T28 876 7 = Xi T27 876 7 from w336.x _ _ rfl).trans ( (show Xi T27 876 7 = Xi U26 876 7 from w322.x _ _ rfl).trans ( (show Xi U26 876 7 = Xi U1 876 7 from by rw [eU26]; exact Xi_ne (by omega)).trans ((show Xi U1 876 7 = Xi S 876 7 from by rw [eU1]; exact Xi_ne (by omega))))))))
                have w428 : 0 ≤ Xi T34 890 1 ∧ Xi T34 890 1 ≤ 5126 := hHT34.c _ _
                refine l_callV rfl rfl rfl (t_gr_takePhrases hHT34 (by first | assumption | omega) (by first | assumption | (apply_assumption; omega)) _) ?_
                rintro _ T35 ⟨hHT35, w432, z431, rfl, w431, w429, w430⟩
                have hFT35 : FR md_gr_check__2 S T35 := FR.tr hFT34 w432 rfl
                show Rl _ _ _ _ _ [iv z431] _ _
                refine l_if_eq rfl rfl (by unfold rg; omega) (fun w433 => ?_) (fun w434 => ?_)
                · refine l_iconst rfl ?_
                  refine l_ireturn rfl rfl ?_
                  have w435 : 0 ≤ Xi T35 890 1 ∧ Xi T35 890 1 ≤ 5126 := hHT35.c _ _
                  have w436 : Xi T35 890 2 = Xi U26 890 2 := (show Xi T35 890 2 = Xi T34 890 2 from w432.x _ _ rfl).trans ( (show Xi T34 890 2 = Xi T33 890 2 from w420.x _ _ rfl).trans ( (show Xi T33 890 2 = Xi T29 890 2 from w406.x _ _ rfl).trans ( (show Xi T29 890 2 = Xi T28 890 2 from w354.x _ _ rfl).trans ( (show Xi T28 890 2 = Xi T27 890 2 from w336.x _ _ rfl).trans ((show Xi T27 890 2 = Xi U26 890 2 from w322.x _ _ rfl))))))
                  have w437 : 0 ≤ Xi U26 890 2 ∧ Xi U26 890 2 ≤ 20 := hHU26.c _ _
                  exact ⟨hHT35, hFT35, _, rfl, ⟨by omega, by omega⟩, (by omega), (by omega), (by first | (intro a b c; exact absurd a (by omega)) | (intro a b c; exact absurd b (by omega)) | (intro a b c; exact absurd c (by omega)) | (intro a b c; exact ⟨by assumption, by omega, by omega, tk103 (P := T34) (m877 hFT35 rfl) (m877 hFT34 rfl) (by omega) (by omega)⟩)), (by omega), (by omega)⟩
                · refine l_aload_n rfl rfl ?_
                  refine l_bipush rfl rfl ?_
                  have w438 : Xi T35 876 7 = Xi S 876 7 := (show Xi T35 876 7 = Xi T34 876 7 from w432.x _ _ rfl).trans ( (show Xi T34 876 7 = Xi T33 876 7 from w420.x _ _ rfl).trans ( (show Xi T33 876 7 = Xi T29 876 7 from w406.x _ _ rfl).trans ( (show Xi T29 876 7 = Xi T28 876 7 from w354.x _ _ rfl).trans ( (show Xi T28 876 7 = Xi T27 876 7 from w336.x _ _ rfl).trans ( (show Xi T27 876 7 = Xi U26 876 7 from w322.x _ _ rfl).trans ( (show Xi U26 876 7 = Xi U1 876 7 from by rw [eU26]; exact Xi_ne (by omega)).trans ((show Xi U1 876 7 = Xi S 876 7 from by rw [eU1]; exact Xi_ne (by omega)))))))))
                  have w440 : 0 ≤ Xi T35 890 1 ∧ Xi T35 890 1 ≤ 5126 := hHT35.c _ _
                  refine l_callV rfl rfl rfl (t_gr_take hHT35 103 ⟨by omega, by omega⟩ (by first | assumption | omega) (by first | assumption | (apply_assumption; omega)) (by first | assumption | omega) _) ?_
                  rintro _ T36 ⟨hHT36, w446, z445, rfl, w445, w441, w442, w443, w444⟩
                  have hFT36 : FR md_gr_check__2 S T36 := FR.tr hFT35 w446 rfl
                  show Rl _ _ _ _ _ [iv z445] _ _
                  refine l_if_eq rfl rfl (by unfold rg; omega) (fun w447 => ?_) (fun w448 => ?_)
                  · refine l_iconst rfl ?_
                    refine l_ireturn rfl rfl ?_
                    have w449 : 0 ≤ Xi T36 890 1 ∧ Xi T36 890 1 ≤ 5126 := hHT36.c _ _
                    have w450 : Xi T36 890 2 = Xi U26 890 2 := (show Xi T36 890 2 = Xi T35 890 2 from w446.x _ _ rfl).trans ( (show Xi T35 890 2 = Xi T34 890 2 from w432.x _ _ rfl).trans ( (show Xi T34 890 2 = Xi T33 890 2 from w420.x _ _ rfl).trans ( (show Xi T33 890 2 = Xi T29 890 2 from w406.x _ _ rfl).trans ( (show Xi T29 890 2 = Xi T28 890 2 from w354.x _ _ rfl).trans ( (show Xi T28 890 2 = Xi T27 890 2 from w336.x _ _ rfl).trans ((show Xi T27 890 2 = Xi U26 890 2 from w322.x _ _ rfl)))))))
                    have w451 : 0 ≤ Xi U26 890 2 ∧ Xi U26 890 2 ≤ 20 := hHU26.c _ _
                    exact ⟨hHT36, hFT36, _, rfl, ⟨by omega, by omega⟩, (by omega), (by omega), (by first | (intro a b c; exact absurd a (by omega)) | (intro a b c; exact absurd b (by omega)) | (intro a b c; exact absurd c (by omega)) | (intro a b c; exact ⟨by assumption, by omega, by omega, tk103 (P := T35) (m877 hFT36 rfl) (m877 hFT35 rfl) (by omega) (by omega)⟩)), (by omega), (by omega)⟩
                  · refine l_iconst rfl ?_
                    refine l_goto rfl rfl ?_
                    refine l_ireturn rfl rfl ?_
                    have w452 : 0 ≤ Xi T36 890 1 ∧ Xi T36 890 1 ≤ 5126 := hHT36.c _ _
                    have w453 : Xi T36 890 2 = Xi U26 890 2 := (show Xi T36 890 2 = Xi T35 890 2 from w446.x _ _ rfl).trans ( (show Xi T35 890 2 = Xi T34 890 2 from w432.x _ _ rfl).trans ( (show Xi T34 890 2 = Xi T33 890 2 from w420.x _ _ rfl).trans ( (show Xi T33 890 2 = Xi T29 890 2 from w406.x _ _ rfl).trans ( (show Xi T29 890 2 = Xi T28 890 2 from w354.x _ _ rfl).trans ( (show Xi T28 890 2 = Xi T27 890 2 from w336.x _ _ rfl).trans ((show Xi T27 890 2 = Xi U26 890 2 from w322.x _ _ rfl)))))))
                    have w454 : 0 ≤ Xi U26 890 2 ∧ Xi U26 890 2 ≤ 20 := hHU26.c _ _
                    exact ⟨hHT36, hFT36, _, rfl, ⟨by omega, by omega⟩, (by omega), (by omega), (by first | (intro a b c; exact absurd a (by omega)) | (intro a b c; exact absurd b (by omega)) | (intro a b c; exact absurd c (by omega)) | (intro a b c; exact ⟨by assumption, by omega, by omega, tk103 (P := T35) (m877 hFT36 rfl) (m877 hFT35 rfl) (by omega) (by omega)⟩)), (by omega), (by omega)⟩
  refine And.intro (fun w455 => ⟨_, rfl, ?_⟩) (fun w456 => ?_)
  · refine l_aload_n rfl rfl ?_
    refine l_iconst rfl ?_
    refine l_pfi rfl rfl rfl rfl ?_
    obtain ⟨U37, eU37⟩ : ∃ T : sS, T = uI U1 890 2 (Int32.ofInt 4) := ⟨_, rfl⟩
    rw [← eU37]
    have hHU37 : HI U37 := by rw [eU37]; exact HI_w hHU1 (show 0 ≤ 4 by omega) (show 4 ≤ 20 by omega)
    have hFU37 : FR md_gr_check__2 S U37 := by rw [eU37]; exact FR.wI hFU1 (mdf_i (r := (890, 891, 2, 3)) (List.mem_of_getElem? (i := 1) rfl) (inR_i (by omega) (by omega) (by omega) (by omega)))
    have w457 : Xi U37 890 2 = 4 := by rw [eU37]; exact Xi_same (by unfold rg; omega)
    obtain ⟨hv1, hs0⟩ := SAY_v1s eU1 eU37 (by omega)
    refine l_aload_n rfl rfl ?_
    have w458 : Xi U37 876 7 = Xi S 876 7 := (show Xi U37 876 7 = Xi U1 876 7 from by rw [eU37]; exact Xi_ne (by omega)).trans ((show Xi U1 876 7 = Xi S 876 7 from by rw [eU1]; exact Xi_ne (by omega)))
    have w460 : Xi U37 890 1 = Xi U1 890 1 := (show Xi U37 890 1 = Xi U1 890 1 from by rw [eU37]; exact Xi_ne (by omega))
    have w461 : 0 ≤ Xi U1 890 1 ∧ Xi U1 890 1 ≤ 5126 := hHU1.c _ _
    refine l_callV rfl rfl rfl (t_gr_takeActing hHU37 (by first | assumption | omega) (by first | assumption | (apply_assumption; omega)) _) ?_
    rintro _ T38 ⟨hHT38, w465, z464, rfl, w464, w462, w463⟩
    have hFT38 : FR md_gr_check__2 S T38 := FR.tr hFU37 w465 rfl
    show Rl _ _ _ _ _ [iv z464] _ _
    refine l_istore_n rfl rfl rfl ?_
    refine l_goto rfl rfl ?_
    refine l_iload_n rfl rfl ?_
    refine l_if_eq rfl rfl (by unfold rg; omega) (fun w466 => ?_) (fun w467 => ?_)
    · refine l_iconst rfl ?_
      refine l_ireturn rfl rfl ?_
      have w468 : 0 ≤ Xi T38 890 1 ∧ Xi T38 890 1 ≤ 5126 := hHT38.c _ _
      have w469 : Xi T38 890 2 = Xi U37 890 2 := (show Xi T38 890 2 = Xi U37 890 2 from w465.x _ _ rfl)
      have w470 : 0 ≤ Xi U37 890 2 ∧ Xi U37 890 2 ≤ 20 := hHU37.c _ _
      exact ⟨hHT38, hFT38, _, rfl, ⟨by omega, by omega⟩, (by omega), (by omega), (by first | (intro a b c; exact absurd a (by omega)) | (intro a b c; exact absurd b (by omega)) | (intro a b c; exact absurd c (by omega)) | (intro a b c; exact ⟨by assumption, by omega, by omega, tk103 (P := U37) (m877 hFT38 rfl) (m877 hFU37 rfl) (by omega) (by omega)⟩)), (by omega), (by omega)⟩
    · refine l_aload_n rfl rfl ?_
      refine l_bipush rfl rfl ?_
      have w471 : Xi T38 876 7 = Xi S 876 7 := (show Xi T38 876 7 = Xi U37 876 7 from w465.x _ _ rfl).trans ( (show Xi U37 876 7 = Xi U1 876 7 from by rw [eU37]; exact Xi_ne (by omega)).trans ((show Xi U1 876 7 = Xi S 876 7 from by rw [eU1]; exact Xi_ne (by omega))))
      have w473 : 0 ≤ Xi T38 890 1 ∧ Xi T38 890 1 ≤ 5126 := hHT38.c _ _
      refine l_callV rfl rfl rfl (t_gr_take hHT38 37 ⟨by omega, by omega⟩ (by first | assumption | omega) (by first | assumption | (apply_assumption; omega)) (by first | assumption | omega) _) ?_
      rintro _ T39 ⟨hHT39, w479, z478, rfl, w478, w474, w475, w476, w477⟩
      have hFT39 : FR md_gr_check__2 S T39 := FR.tr hFT38 w479 rfl
      show Rl _ _ _ _ _ [iv z478] _ _
      refine l_if_eq rfl rfl (by unfold rg; omega) (fun w480 => ?_) (fun w481 => ?_)
      · refine l_aload_n rfl rfl ?_
        refine l_bipush rfl rfl ?_
        have w482 : Xi T39 876 7 = Xi S 876 7 := (show Xi T39 876 7 = Xi T38 876 7 from w479.x _ _ rfl).trans ( (show Xi T38 876 7 = Xi U37 876 7 from w465.x _ _ rfl).trans ( (show Xi U37 876 7 = Xi U1 876 7 from by rw [eU37]; exact Xi_ne (by omega)).trans ((show Xi U1 876 7 = Xi S 876 7 from by rw [eU1]; exact Xi_ne (by omega)))))
        have w484 : 0 ≤ Xi T39 890 1 ∧ Xi T39 890 1 ≤ 5126 := hHT39.c _ _
        refine l_callV rfl rfl rfl (t_gr_take hHT39 106 ⟨by omega, by omega⟩ (by first | assumption | omega) (by first | assumption | (apply_assumption; omega)) (by first | assumption | omega) _) ?_
        rintro _ T40 ⟨hHT40, w490, z489, rfl, w489, w485, w486, w487, w488⟩
        have hFT40 : FR md_gr_check__2 S T40 := FR.tr hFT39 w490 rfl
        show Rl _ _ _ _ _ [iv z489] _ _
        refine l_if_eq rfl rfl (by unfold rg; omega) (fun w491 => ?_) (fun w492 => ?_)
        · refine l_iconst rfl ?_
          refine l_ireturn rfl rfl ?_
          have w493 : 0 ≤ Xi T40 890 1 ∧ Xi T40 890 1 ≤ 5126 := hHT40.c _ _
          have w494 : Xi T40 890 2 = Xi U37 890 2 := (show Xi T40 890 2 = Xi T39 890 2 from w490.x _ _ rfl).trans ( (show Xi T39 890 2 = Xi T38 890 2 from w479.x _ _ rfl).trans ((show Xi T38 890 2 = Xi U37 890 2 from w465.x _ _ rfl)))
          have w495 : 0 ≤ Xi U37 890 2 ∧ Xi U37 890 2 ≤ 20 := hHU37.c _ _
          exact ⟨hHT40, hFT40, _, rfl, ⟨by omega, by omega⟩, (by omega), (by omega), (by first | (intro a b c; exact absurd a (by omega)) | (intro a b c; exact absurd b (by omega)) | (intro a b c; exact absurd c (by omega)) | (intro a b c; exact ⟨by assumption, by omega, by omega, tk103 (P := T39) (m877 hFT40 rfl) (m877 hFT39 rfl) (by omega) (by omega)⟩)), (by omega), (by omega)⟩
        · refine l_aload_n rfl rfl ?_
          have w496 : Xi T40 876 7 = Xi S 876 7 := (show Xi T40 876 7 = Xi T39 876 7 from w490.x _ _ rfl).trans ( (show Xi T39 876 7 = Xi T38 876 7 from w479.x _ _ rfl).trans ( (show Xi T38 876 7 = Xi U37 876 7 from w465.x _ _ rfl).trans ( (show Xi U37 876 7 = Xi U1 876 7 from by rw [eU37]; exact Xi_ne (by omega)).trans ((show Xi U1 876 7 = Xi S 876 7 from by rw [eU1]; exact Xi_ne (by omega))))))
          have w498 : 0 ≤ Xi T40 890 1 ∧ Xi T40 890 1 ≤ 5126 := hHT40.c _ _
          refine l_callV rfl rfl rfl (t_gr_takePhrases hHT40 (by first | assumption | omega) (by first | assumption | (apply_assumption; omega)) _) ?_
          rintro _ T41 ⟨hHT41, w502, z501, rfl, w501, w499, w500⟩
          have hFT41 : FR md_gr_check__2 S T41 := FR.tr hFT40 w502 rfl
          show Rl _ _ _ _ _ [iv z501] _ _
          refine l_if_eq rfl rfl (by unfold rg; omega) (fun w503 => ?_) (fun w504 => ?_)
          · refine l_iconst rfl ?_
            refine l_ireturn rfl rfl ?_
            have w505 : 0 ≤ Xi T41 890 1 ∧ Xi T41 890 1 ≤ 5126 := hHT41.c _ _
            have w506 : Xi T41 890 2 = Xi U37 890 2 := (show Xi T41 890 2 = Xi T40 890 2 from w502.x _ _ rfl).trans ( (show Xi T40 890 2 = Xi T39 890 2 from w490.x _ _ rfl).trans ( (show Xi T39 890 2 = Xi T38 890 2 from w479.x _ _ rfl).trans ((show Xi T38 890 2 = Xi U37 890 2 from w465.x _ _ rfl))))
            have w507 : 0 ≤ Xi U37 890 2 ∧ Xi U37 890 2 ≤ 20 := hHU37.c _ _
            exact ⟨hHT41, hFT41, _, rfl, ⟨by omega, by omega⟩, (by omega), (by omega), (by first | (intro a b c; exact absurd a (by omega)) | (intro a b c; exact absurd b (by omega)) | (intro a b c; exact absurd c (by omega)) | (intro a b c; exact ⟨by assumption, by omega, by omega, tk103 (P := T40) (m877 hFT41 rfl) (m877 hFT40 rfl) (by omega) (by omega)⟩)), (by omega), (by omega)⟩
          · refine l_aload_n rfl rfl ?_
            refine l_bipush rfl rfl ?_
            have w508 : Xi T41 876 7 = Xi S 876 7 := (show Xi T41 876 7 = Xi T40 876 7 from w502.x _ _ rfl).trans ( (show Xi T40 876 7 = Xi T39 876 7 from w490.x _ _ rfl).trans ( (show Xi T39 876 7 = Xi T38 876 7 from w479.x _ _ rfl).trans ( (show Xi T38 876 7 = Xi U37 876 7 from w465.x _ _ rfl).trans ( (show Xi U37 876 7 = Xi U1 876 7 from by rw [eU37]; exact Xi_ne (by omega)).trans ((show Xi U1 876 7 = Xi S 876 7 from by rw [eU1]; exact Xi_ne (by omega)))))))
            have w510 : 0 ≤ Xi T41 890 1 ∧ Xi T41 890 1 ≤ 5126 := hHT41.c _ _
            refine l_callV rfl rfl rfl (t_gr_take hHT41 103 ⟨by omega, by omega⟩ (by first | assumption | omega) (by first | assumption | (apply_assumption; omega)) (by first | assumption | omega) _) ?_
            rintro _ T42 ⟨hHT42, w516, z515, rfl, w515, w511, w512, w513, w514⟩
            have hFT42 : FR md_gr_check__2 S T42 := FR.tr hFT41 w516 rfl
            show Rl _ _ _ _ _ [iv z515] _ _
            refine l_if_eq rfl rfl (by unfold rg; omega) (fun w517 => ?_) (fun w518 => ?_)
            · refine l_iconst rfl ?_
              refine l_ireturn rfl rfl ?_
              have w519 : 0 ≤ Xi T42 890 1 ∧ Xi T42 890 1 ≤ 5126 := hHT42.c _ _
              have w520 : Xi T42 890 2 = Xi U37 890 2 := (show Xi T42 890 2 = Xi T41 890 2 from w516.x _ _ rfl).trans ( (show Xi T41 890 2 = Xi T40 890 2 from w502.x _ _ rfl).trans ( (show Xi T40 890 2 = Xi T39 890 2 from w490.x _ _ rfl).trans ( (show Xi T39 890 2 = Xi T38 890 2 from w479.x _ _ rfl).trans ((show Xi T38 890 2 = Xi U37 890 2 from w465.x _ _ rfl)))))
              have w521 : 0 ≤ Xi U37 890 2 ∧ Xi U37 890 2 ≤ 20 := hHU37.c _ _
              exact ⟨hHT42, hFT42, _, rfl, ⟨by omega, by omega⟩, (by omega), (by omega), (by first | (intro a b c; exact absurd a (by omega)) | (intro a b c; exact absurd b (by omega)) | (intro a b c; exact absurd c (by omega)) | (intro a b c; exact ⟨by assumption, by omega, by omega, tk103 (P := T41) (m877 hFT42 rfl) (m877 hFT41 rfl) (by omega) (by omega)⟩)), (by omega), (by omega)⟩
            · refine l_iconst rfl ?_
              refine l_goto rfl rfl ?_
              refine l_ireturn rfl rfl ?_
              have w522 : 0 ≤ Xi T42 890 1 ∧ Xi T42 890 1 ≤ 5126 := hHT42.c _ _
              have w523 : Xi T42 890 2 = Xi U37 890 2 := (show Xi T42 890 2 = Xi T41 890 2 from w516.x _ _ rfl).trans ( (show Xi T41 890 2 = Xi T40 890 2 from w502.x _ _ rfl).trans ( (show Xi T40 890 2 = Xi T39 890 2 from w490.x _ _ rfl).trans ( (show Xi T39 890 2 = Xi T38 890 2 from w479.x _ _ rfl).trans ((show Xi T38 890 2 = Xi U37 890 2 from w465.x _ _ rfl)))))
              have w524 : 0 ≤ Xi U37 890 2 ∧ Xi U37 890 2 ≤ 20 := hHU37.c _ _
              exact ⟨hHT42, hFT42, _, rfl, ⟨by omega, by omega⟩, (by omega), (by omega), (by first | (intro a b c; exact absurd a (by omega)) | (intro a b c; exact absurd b (by omega)) | (intro a b c; exact absurd c (by omega)) | (intro a b c; exact ⟨by assumption, by omega, by omega, tk103 (P := T41) (m877 hFT42 rfl) (m877 hFT41 rfl) (by omega) (by omega)⟩)), (by omega), (by omega)⟩
      · refine l_aload_n rfl rfl ?_
        have w525 : Xi T39 876 7 = Xi S 876 7 := (show Xi T39 876 7 = Xi T38 876 7 from w479.x _ _ rfl).trans ( (show Xi T38 876 7 = Xi U37 876 7 from w465.x _ _ rfl).trans ( (show Xi U37 876 7 = Xi U1 876 7 from by rw [eU37]; exact Xi_ne (by omega)).trans ((show Xi U1 876 7 = Xi S 876 7 from by rw [eU1]; exact Xi_ne (by omega)))))
        have w527 : 0 ≤ Xi T39 890 1 ∧ Xi T39 890 1 ≤ 5126 := hHT39.c _ _
        refine l_callV rfl rfl rfl (t_gr_takeTests hHT39 (by first | assumption | omega) (by first | assumption | (apply_assumption; omega)) _) ?_
        rintro _ T43 ⟨hHT43, w531, z530, rfl, w530, w528, w529⟩
        have hFT43 : FR md_gr_check__2 S T43 := FR.tr hFT39 w531 rfl
        show Rl _ _ _ _ _ [iv z530] _ _
        refine l_if_eq rfl rfl (by unfold rg; omega) (fun w532 => ?_) (fun w533 => ?_)
        · refine l_iconst rfl ?_
          refine l_ireturn rfl rfl ?_
          have w534 : 0 ≤ Xi T43 890 1 ∧ Xi T43 890 1 ≤ 5126 := hHT43.c _ _
          have w535 : Xi T43 890 2 = Xi U37 890 2 := (show Xi T43 890 2 = Xi T39 890 2 from w531.x _ _ rfl).trans ( (show Xi T39 890 2 = Xi T38 890 2 from w479.x _ _ rfl).trans ((show Xi T38 890 2 = Xi U37 890 2 from w465.x _ _ rfl)))
          have w536 : 0 ≤ Xi U37 890 2 ∧ Xi U37 890 2 ≤ 20 := hHU37.c _ _
          exact ⟨hHT43, hFT43, _, rfl, ⟨by omega, by omega⟩, (by omega), (by omega), (by first | (intro a b c; exact absurd a (by omega)) | (intro a b c; exact absurd b (by omega)) | (intro a b c; exact absurd c (by omega)) | (intro a b c; exact ⟨by assumption, by omega, by omega, tk103 (P := T39) (m877 hFT43 rfl) (m877 hFT39 rfl) (by omega) (by omega)⟩)), (by omega), (by omega)⟩
        · refine l_aload_n rfl rfl ?_
          refine l_bipush rfl rfl ?_
          have w537 : Xi T43 876 7 = Xi S 876 7 := (show Xi T43 876 7 = Xi T39 876 7 from w531.x _ _ rfl).trans ( (show Xi T39 876 7 = Xi T38 876 7 from w479.x _ _ rfl).trans ( (show Xi T38 876 7 = Xi U37 876 7 from w465.x _ _ rfl).trans ( (show Xi U37 876 7 = Xi U1 876 7 from by rw [eU37]; exact Xi_ne (by omega)).trans ((show Xi U1 876 7 = Xi S 876 7 from by rw [eU1]; exact Xi_ne (by omega))))))
          have w539 : 0 ≤ Xi T43 890 1 ∧ Xi T43 890 1 ≤ 5126 := hHT43.c _ _
          refine l_callV rfl rfl rfl (t_gr_take hHT43 106 ⟨by omega, by omega⟩ (by first | assumption | omega) (by first | assumption | (apply_assumption; omega)) (by first | assumption | omega) _) ?_
          rintro _ T44 ⟨hHT44, w545, z544, rfl, w544, w540, w541, w542, w543⟩
          have hFT44 : FR md_gr_check__2 S T44 := FR.tr hFT43 w545 rfl
          show Rl _ _ _ _ _ [iv z544] _ _
          refine l_if_eq rfl rfl (by unfold rg; omega) (fun w546 => ?_) (fun w547 => ?_)
          · refine l_iconst rfl ?_
            refine l_ireturn rfl rfl ?_
            have w548 : 0 ≤ Xi T44 890 1 ∧ Xi T44 890 1 ≤ 5126 := hHT44.c _ _
            have w549 : Xi T44 890 2 = Xi U37 890 2 := (show Xi T44 890 2 = Xi T43 890 2 from w545.x _ _ rfl).trans ( (show Xi T43 890 2 = Xi T39 890 2 from w531.x _ _ rfl).trans ( (show Xi T39 890 2 = Xi T38 890 2 from w479.x _ _ rfl).trans ((show Xi T38 890 2 = Xi U37 890 2 from w465.x _ _ rfl))))
            have w550 : 0 ≤ Xi U37 890 2 ∧ Xi U37 890 2 ≤ 20 := hHU37.c _ _
            exact ⟨hHT44, hFT44, _, rfl, ⟨by omega, by omega⟩, (by omega), (by omega), (by first | (intro a b c; exact absurd a (by omega)) | (intro a b c; exact absurd b (by omega)) | (intro a b c; exact absurd c (by omega)) | (intro a b c; exact ⟨by assumption, by omega, by omega, tk103 (P := T43) (m877 hFT44 rfl) (m877 hFT43 rfl) (by omega) (by omega)⟩)), (by omega), (by omega)⟩
          · refine l_aload_n rfl rfl ?_
            have w551 : Xi T44 876 7 = Xi S 876 7 := (show Xi T44 876 7 = Xi T43 876 7 from w545.x _ _ rfl).trans ( (show Xi T43 876 7 = Xi T39 876 7 from w531.x _ _ rfl).trans ( (show Xi T39 876 7 = Xi T38 876 7 from w479.x _ _ rfl).trans ( (show Xi T38 876 7 = Xi U37 876 7 from w465.x _ _ rfl).trans ( (show Xi U37 876 7 = Xi U1 876 7 from by rw [eU37]; exact Xi_ne (by omega)).trans ((show Xi U1 876 7 = Xi S 876 7 from by rw [eU1]; exact Xi_ne (by omega)))))))
            have w553 : 0 ≤ Xi T44 890 1 ∧ Xi T44 890 1 ≤ 5126 := hHT44.c _ _
            refine l_callV rfl rfl rfl (t_gr_takePhrases hHT44 (by first | assumption | omega) (by first | assumption | (apply_assumption; omega)) _) ?_
            rintro _ T45 ⟨hHT45, w557, z556, rfl, w556, w554, w555⟩
            have hFT45 : FR md_gr_check__2 S T45 := FR.tr hFT44 w557 rfl
            show Rl _ _ _ _ _ [iv z556] _ _
            refine l_if_eq rfl rfl (by unfold rg; omega) (fun w558 => ?_) (fun w559 => ?_)
            · refine l_iconst rfl ?_
              refine l_ireturn rfl rfl ?_
              have w560 : 0 ≤ Xi T45 890 1 ∧ Xi T45 890 1 ≤ 5126 := hHT45.c _ _
              have w561 : Xi T45 890 2 = Xi U37 890 2 := (show Xi T45 890 2 = Xi T44 890 2 from w557.x _ _ rfl).trans ( (show Xi T44 890 2 = Xi T43 890 2 from w545.x _ _ rfl).trans ( (show Xi T43 890 2 = Xi T39 890 2 from w531.x _ _ rfl).trans ( (show Xi T39 890 2 = Xi T38 890 2 from w479.x _ _ rfl).trans ((show Xi T38 890 2 = Xi U37 890 2 from w465.x _ _ rfl)))))
              have w562 : 0 ≤ Xi U37 890 2 ∧ Xi U37 890 2 ≤ 20 := hHU37.c _ _
              exact ⟨hHT45, hFT45, _, rfl, ⟨by omega, by omega⟩, (by omega), (by omega), (by first | (intro a b c; exact absurd a (by omega)) | (intro a b c; exact absurd b (by omega)) | (intro a b c; exact absurd c (by omega)) | (intro a b c; exact ⟨by assumption, by omega, by omega, tk103 (P := T44) (m877 hFT45 rfl) (m877 hFT44 rfl) (by omega) (by omega)⟩)), (by omega), (by omega)⟩
            · refine l_aload_n rfl rfl ?_
              refine l_bipush rfl rfl ?_
              have w563 : Xi T45 876 7 = Xi S 876 7 := (show Xi T45 876 7 = Xi T44 876 7 from w557.x _ _ rfl).trans ( (show Xi T44 876 7 = Xi T43 876 7 from w545.x _ _ rfl).trans ( (show Xi T43 876 7 = Xi T39 876 7 from w531.x _ _ rfl).trans ( (show Xi T39 876 7 = Xi T38 876 7 from w479.x _ _ rfl).trans ( (show Xi T38 876 7 = Xi U37 876 7 from w465.x _ _ rfl).trans ( (show Xi U37 876 7 = Xi U1 876 7 from by rw [eU37]; exact Xi_ne (by omega)).trans ((show Xi U1 876 7 = Xi S 876 7 from by rw [eU1]; exact Xi_ne (by omega))))))))
              have w565 : 0 ≤ Xi T45 890 1 ∧ Xi T45 890 1 ≤ 5126 := hHT45.c _ _
              refine l_callV rfl rfl rfl (t_gr_take hHT45 103 ⟨by omega, by omega⟩ (by first | assumption | omega) (by first | assumption | (apply_assumption; omega)) (by first | assumption | omega) _) ?_
              rintro _ T46 ⟨hHT46, w571, z570, rfl, w570, w566, w567, w568, w569⟩
              have hFT46 : FR md_gr_check__2 S T46 := FR.tr hFT45 w571 rfl
              show Rl _ _ _ _ _ [iv z570] _ _
              refine l_if_eq rfl rfl (by unfold rg; omega) (fun w572 => ?_) (fun w573 => ?_)
              · refine l_iconst rfl ?_
                refine l_ireturn rfl rfl ?_
                have w574 : 0 ≤ Xi T46 890 1 ∧ Xi T46 890 1 ≤ 5126 := hHT46.c _ _
                have w575 : Xi T46 890 2 = Xi U37 890 2 := (show Xi T46 890 2 = Xi T45 890 2 from w571.x _ _ rfl).trans ( (show Xi T45 890 2 = Xi T44 890 2 from w557.x _ _ rfl).trans ( (show Xi T44 890 2 = Xi T43 890 2 from w545.x _ _ rfl).trans ( (show Xi T43 890 2 = Xi T39 890 2 from w531.x _ _ rfl).trans ( (show Xi T39 890 2 = Xi T38 890 2 from w479.x _ _ rfl).trans ((show Xi T38 890 2 = Xi U37 890 2 from w465.x _ _ rfl))))))
                have w576 : 0 ≤ Xi U37 890 2 ∧ Xi U37 890 2 ≤ 20 := hHU37.c _ _
                exact ⟨hHT46, hFT46, _, rfl, ⟨by omega, by omega⟩, (by omega), (by omega), (by first | (intro a b c; exact absurd a (by omega)) | (intro a b c; exact absurd b (by omega)) | (intro a b c; exact absurd c (by omega)) | (intro a b c; exact ⟨by assumption, by omega, by omega, tk103 (P := T45) (m877 hFT46 rfl) (m877 hFT45 rfl) (by omega) (by omega)⟩)), (by omega), (by omega)⟩
              · refine l_iconst rfl ?_
                refine l_goto rfl rfl ?_
                refine l_ireturn rfl rfl ?_
                have w577 : 0 ≤ Xi T46 890 1 ∧ Xi T46 890 1 ≤ 5126 := hHT46.c _ _
                have w578 : Xi T46 890 2 = Xi U37 890 2 := (show Xi T46 890 2 = Xi T45 890 2 from w571.x _ _ rfl).trans ( (show Xi T45 890 2 = Xi T44 890 2 from w557.x _ _ rfl).trans ( (show Xi T44 890 2 = Xi T43 890 2 from w545.x _ _ rfl).trans ( (show Xi T43 890 2 = Xi T39 890 2 from w531.x _ _ rfl).trans ( (show Xi T39 890 2 = Xi T38 890 2 from w479.x _ _ rfl).trans ((show Xi T38 890 2 = Xi U37 890 2 from w465.x _ _ rfl))))))
                have w579 : 0 ≤ Xi U37 890 2 ∧ Xi U37 890 2 ≤ 20 := hHU37.c _ _
                exact ⟨hHT46, hFT46, _, rfl, ⟨by omega, by omega⟩, (by omega), (by omega), (by first | (intro a b c; exact absurd a (by omega)) | (intro a b c; exact absurd b (by omega)) | (intro a b c; exact absurd c (by omega)) | (intro a b c; exact ⟨by assumption, by omega, by omega, tk103 (P := T45) (m877 hFT46 rfl) (m877 hFT45 rfl) (by omega) (by omega)⟩)), (by omega), (by omega)⟩
  refine And.intro (fun w580 => ⟨_, rfl, ?_⟩) (fun w581 => ?_)
  · refine l_aload_n rfl rfl ?_
    refine l_bipush rfl rfl ?_
    refine l_pfi rfl rfl rfl rfl ?_
    obtain ⟨U47, eU47⟩ : ∃ T : sS, T = uI U1 890 2 (Int32.ofInt 6) := ⟨_, rfl⟩
    rw [← eU47]
    have hHU47 : HI U47 := by rw [eU47]; exact HI_w hHU1 (show 0 ≤ 6 by omega) (show 6 ≤ 20 by omega)
    have hFU47 : FR md_gr_check__2 S U47 := by rw [eU47]; exact FR.wI hFU1 (mdf_i (r := (890, 891, 2, 3)) (List.mem_of_getElem? (i := 1) rfl) (inR_i (by omega) (by omega) (by omega) (by omega)))
    have w582 : Xi U47 890 2 = 6 := by rw [eU47]; exact Xi_same (by unfold rg; omega)
    obtain ⟨hv1, hs0⟩ := SAY_v1s eU1 eU47 (by omega)
    refine l_aload_n rfl rfl ?_
    refine l_bipush rfl rfl ?_
    have w583 : Xi U47 876 7 = Xi S 876 7 := (show Xi U47 876 7 = Xi U1 876 7 from by rw [eU47]; exact Xi_ne (by omega)).trans ((show Xi U1 876 7 = Xi S 876 7 from by rw [eU1]; exact Xi_ne (by omega)))
    have w585 : Xi U47 890 1 = Xi U1 890 1 := (show Xi U47 890 1 = Xi U1 890 1 from by rw [eU47]; exact Xi_ne (by omega))
    have w586 : 0 ≤ Xi U1 890 1 ∧ Xi U1 890 1 ≤ 5126 := hHU1.c _ _
    refine l_callV rfl rfl rfl (t_gr_take hHU47 42 ⟨by omega, by omega⟩ (by first | assumption | omega) (by first | assumption | (apply_assumption; omega)) (by first | assumption | omega) _) ?_
    rintro _ T48 ⟨hHT48, w592, z591, rfl, w591, w587, w588, w589, w590⟩
    have hFT48 : FR md_gr_check__2 S T48 := FR.tr hFU47 w592 rfl
    show Rl _ _ _ _ _ [iv z591] _ _
    refine l_istore_n rfl rfl rfl ?_
    refine l_goto rfl rfl ?_
    refine l_iload_n rfl rfl ?_
    refine l_if_eq rfl rfl (by unfold rg; omega) (fun w593 => ?_) (fun w594 => ?_)
    · refine l_iconst rfl ?_
      refine l_ireturn rfl rfl ?_
      have w595 : 0 ≤ Xi T48 890 1 ∧ Xi T48 890 1 ≤ 5126 := hHT48.c _ _
      have w596 : Xi T48 890 2 = Xi U47 890 2 := (show Xi T48 890 2 = Xi U47 890 2 from w592.x _ _ rfl)
      have w597 : 0 ≤ Xi U47 890 2 ∧ Xi U47 890 2 ≤ 20 := hHU47.c _ _
      exact ⟨hHT48, hFT48, _, rfl, ⟨by omega, by omega⟩, (by omega), (by omega), (by first | (intro a b c; exact absurd a (by omega)) | (intro a b c; exact absurd b (by omega)) | (intro a b c; exact absurd c (by omega)) | (intro a b c; exact ⟨by assumption, by omega, by omega, tk103 (P := U47) (m877 hFT48 rfl) (m877 hFU47 rfl) (by omega) (by omega)⟩)), (by omega), (by omega)⟩
    · refine l_aload_n rfl rfl ?_
      refine l_bipush rfl rfl ?_
      have w598 : Xi T48 876 7 = Xi S 876 7 := (show Xi T48 876 7 = Xi U47 876 7 from w592.x _ _ rfl).trans ( (show Xi U47 876 7 = Xi U1 876 7 from by rw [eU47]; exact Xi_ne (by omega)).trans ((show Xi U1 876 7 = Xi S 876 7 from by rw [eU1]; exact Xi_ne (by omega))))
      have w600 : 0 ≤ Xi T48 890 1 ∧ Xi T48 890 1 ≤ 5126 := hHT48.c _ _
      refine l_callV rfl rfl rfl (t_gr_take hHT48 37 ⟨by omega, by omega⟩ (by first | assumption | omega) (by first | assumption | (apply_assumption; omega)) (by first | assumption | omega) _) ?_
      rintro _ T49 ⟨hHT49, w606, z605, rfl, w605, w601, w602, w603, w604⟩
      have hFT49 : FR md_gr_check__2 S T49 := FR.tr hFT48 w606 rfl
      show Rl _ _ _ _ _ [iv z605] _ _
      refine l_if_eq rfl rfl (by unfold rg; omega) (fun w607 => ?_) (fun w608 => ?_)
      · refine l_aload_n rfl rfl ?_
        refine l_bipush rfl rfl ?_
        have w609 : Xi T49 876 7 = Xi S 876 7 := (show Xi T49 876 7 = Xi T48 876 7 from w606.x _ _ rfl).trans ( (show Xi T48 876 7 = Xi U47 876 7 from w592.x _ _ rfl).trans ( (show Xi U47 876 7 = Xi U1 876 7 from by rw [eU47]; exact Xi_ne (by omega)).trans ((show Xi U1 876 7 = Xi S 876 7 from by rw [eU1]; exact Xi_ne (by omega)))))
        have w611 : 0 ≤ Xi T49 890 1 ∧ Xi T49 890 1 ≤ 5126 := hHT49.c _ _
        refine l_callV rfl rfl rfl (t_gr_take hHT49 106 ⟨by omega, by omega⟩ (by first | assumption | omega) (by first | assumption | (apply_assumption; omega)) (by first | assumption | omega) _) ?_
        rintro _ T50 ⟨hHT50, w617, z616, rfl, w616, w612, w613, w614, w615⟩
        have hFT50 : FR md_gr_check__2 S T50 := FR.tr hFT49 w617 rfl
        show Rl _ _ _ _ _ [iv z616] _ _
        refine l_if_eq rfl rfl (by unfold rg; omega) (fun w618 => ?_) (fun w619 => ?_)
        · refine l_iconst rfl ?_
          refine l_ireturn rfl rfl ?_
          have w620 : 0 ≤ Xi T50 890 1 ∧ Xi T50 890 1 ≤ 5126 := hHT50.c _ _
          have w621 : Xi T50 890 2 = Xi U47 890 2 := (show Xi T50 890 2 = Xi T49 890 2 from w617.x _ _ rfl).trans ( (show Xi T49 890 2 = Xi T48 890 2 from w606.x _ _ rfl).trans ((show Xi T48 890 2 = Xi U47 890 2 from w592.x _ _ rfl)))
          have w622 : 0 ≤ Xi U47 890 2 ∧ Xi U47 890 2 ≤ 20 := hHU47.c _ _
          exact ⟨hHT50, hFT50, _, rfl, ⟨by omega, by omega⟩, (by omega), (by omega), (by first | (intro a b c; exact absurd a (by omega)) | (intro a b c; exact absurd b (by omega)) | (intro a b c; exact absurd c (by omega)) | (intro a b c; exact ⟨by assumption, by omega, by omega, tk103 (P := T49) (m877 hFT50 rfl) (m877 hFT49 rfl) (by omega) (by omega)⟩)), (by omega), (by omega)⟩
        · refine l_aload_n rfl rfl ?_
          have w623 : Xi T50 876 7 = Xi S 876 7 := (show Xi T50 876 7 = Xi T49 876 7 from w617.x _ _ rfl).trans ( (show Xi T49 876 7 = Xi T48 876 7 from w606.x _ _ rfl).trans ( (show Xi T48 876 7 = Xi U47 876 7 from w592.x _ _ rfl).trans ( (show Xi U47 876 7 = Xi U1 876 7 from by rw [eU47]; exact Xi_ne (by omega)).trans ((show Xi U1 876 7 = Xi S 876 7 from by rw [eU1]; exact Xi_ne (by omega))))))
          have w625 : 0 ≤ Xi T50 890 1 ∧ Xi T50 890 1 ≤ 5126 := hHT50.c _ _
          refine l_callV rfl rfl rfl (t_gr_takePhrases hHT50 (by first | assumption | omega) (by first | assumption | (apply_assumption; omega)) _) ?_
          rintro _ T51 ⟨hHT51, w629, z628, rfl, w628, w626, w627⟩
          have hFT51 : FR md_gr_check__2 S T51 := FR.tr hFT50 w629 rfl
          show Rl _ _ _ _ _ [iv z628] _ _
          refine l_if_eq rfl rfl (by unfold rg; omega) (fun w630 => ?_) (fun w631 => ?_)
          · refine l_iconst rfl ?_
            refine l_ireturn rfl rfl ?_
            have w632 : 0 ≤ Xi T51 890 1 ∧ Xi T51 890 1 ≤ 5126 := hHT51.c _ _
            have w633 : Xi T51 890 2 = Xi U47 890 2 := (show Xi T51 890 2 = Xi T50 890 2 from w629.x _ _ rfl).trans ( (show Xi T50 890 2 = Xi T49 890 2 from w617.x _ _ rfl).trans ( (show Xi T49 890 2 = Xi T48 890 2 from w606.x _ _ rfl).trans ((show Xi T48 890 2 = Xi U47 890 2 from w592.x _ _ rfl))))
            have w634 : 0 ≤ Xi U47 890 2 ∧ Xi U47 890 2 ≤ 20 := hHU47.c _ _
            exact ⟨hHT51, hFT51, _, rfl, ⟨by omega, by omega⟩, (by omega), (by omega), (by first | (intro a b c; exact absurd a (by omega)) | (intro a b c; exact absurd b (by omega)) | (intro a b c; exact absurd c (by omega)) | (intro a b c; exact ⟨by assumption, by omega, by omega, tk103 (P := T50) (m877 hFT51 rfl) (m877 hFT50 rfl) (by omega) (by omega)⟩)), (by omega), (by omega)⟩
          · refine l_aload_n rfl rfl ?_
            refine l_bipush rfl rfl ?_
            have w635 : Xi T51 876 7 = Xi S 876 7 := (show Xi T51 876 7 = Xi T50 876 7 from w629.x _ _ rfl).trans ( (show Xi T50 876 7 = Xi T49 876 7 from w617.x _ _ rfl).trans ( (show Xi T49 876 7 = Xi T48 876 7 from w606.x _ _ rfl).trans ( (show Xi T48 876 7 = Xi U47 876 7 from w592.x _ _ rfl).trans ( (show Xi U47 876 7 = Xi U1 876 7 from by rw [eU47]; exact Xi_ne (by omega)).trans ((show Xi U1 876 7 = Xi S 876 7 from by rw [eU1]; exact Xi_ne (by omega)))))))
            have w637 : 0 ≤ Xi T51 890 1 ∧ Xi T51 890 1 ≤ 5126 := hHT51.c _ _
            refine l_callV rfl rfl rfl (t_gr_take hHT51 103 ⟨by omega, by omega⟩ (by first | assumption | omega) (by first | assumption | (apply_assumption; omega)) (by first | assumption | omega) _) ?_
            rintro _ T52 ⟨hHT52, w643, z642, rfl, w642, w638, w639, w640, w641⟩
            have hFT52 : FR md_gr_check__2 S T52 := FR.tr hFT51 w643 rfl
            show Rl _ _ _ _ _ [iv z642] _ _
            refine l_if_eq rfl rfl (by unfold rg; omega) (fun w644 => ?_) (fun w645 => ?_)
            · refine l_iconst rfl ?_
              refine l_ireturn rfl rfl ?_
              have w646 : 0 ≤ Xi T52 890 1 ∧ Xi T52 890 1 ≤ 5126 := hHT52.c _ _
              have w647 : Xi T52 890 2 = Xi U47 890 2 := (show Xi T52 890 2 = Xi T51 890 2 from w643.x _ _ rfl).trans ( (show Xi T51 890 2 = Xi T50 890 2 from w629.x _ _ rfl).trans ( (show Xi T50 890 2 = Xi T49 890 2 from w617.x _ _ rfl).trans ( (show Xi T49 890 2 = Xi T48 890 2 from w606.x _ _ rfl).trans ((show Xi T48 890 2 = Xi U47 890 2 from w592.x _ _ rfl)))))
              have w648 : 0 ≤ Xi U47 890 2 ∧ Xi U47 890 2 ≤ 20 := hHU47.c _ _
              exact ⟨hHT52, hFT52, _, rfl, ⟨by omega, by omega⟩, (by omega), (by omega), (by first | (intro a b c; exact absurd a (by omega)) | (intro a b c; exact absurd b (by omega)) | (intro a b c; exact absurd c (by omega)) | (intro a b c; exact ⟨by assumption, by omega, by omega, tk103 (P := T51) (m877 hFT52 rfl) (m877 hFT51 rfl) (by omega) (by omega)⟩)), (by omega), (by omega)⟩
            · refine l_iconst rfl ?_
              refine l_goto rfl rfl ?_
              refine l_ireturn rfl rfl ?_
              have w649 : 0 ≤ Xi T52 890 1 ∧ Xi T52 890 1 ≤ 5126 := hHT52.c _ _
              have w650 : Xi T52 890 2 = Xi U47 890 2 := (show Xi T52 890 2 = Xi T51 890 2 from w643.x _ _ rfl).trans ( (show Xi T51 890 2 = Xi T50 890 2 from w629.x _ _ rfl).trans ( (show Xi T50 890 2 = Xi T49 890 2 from w617.x _ _ rfl).trans ( (show Xi T49 890 2 = Xi T48 890 2 from w606.x _ _ rfl).trans ((show Xi T48 890 2 = Xi U47 890 2 from w592.x _ _ rfl)))))
              have w651 : 0 ≤ Xi U47 890 2 ∧ Xi U47 890 2 ≤ 20 := hHU47.c _ _
              exact ⟨hHT52, hFT52, _, rfl, ⟨by omega, by omega⟩, (by omega), (by omega), (by first | (intro a b c; exact absurd a (by omega)) | (intro a b c; exact absurd b (by omega)) | (intro a b c; exact absurd c (by omega)) | (intro a b c; exact ⟨by assumption, by omega, by omega, tk103 (P := T51) (m877 hFT52 rfl) (m877 hFT51 rfl) (by omega) (by omega)⟩)), (by omega), (by omega)⟩
      · refine l_aload_n rfl rfl ?_
        have w652 : Xi T49 876 7 = Xi S 876 7 := (show Xi T49 876 7 = Xi T48 876 7 from w606.x _ _ rfl).trans ( (show Xi T48 876 7 = Xi U47 876 7 from w592.x _ _ rfl).trans ( (show Xi U47 876 7 = Xi U1 876 7 from by rw [eU47]; exact Xi_ne (by omega)).trans ((show Xi U1 876 7 = Xi S 876 7 from by rw [eU1]; exact Xi_ne (by omega)))))
        have w654 : 0 ≤ Xi T49 890 1 ∧ Xi T49 890 1 ≤ 5126 := hHT49.c _ _
        refine l_callV rfl rfl rfl (t_gr_takeTests hHT49 (by first | assumption | omega) (by first | assumption | (apply_assumption; omega)) _) ?_
        rintro _ T53 ⟨hHT53, w658, z657, rfl, w657, w655, w656⟩
        have hFT53 : FR md_gr_check__2 S T53 := FR.tr hFT49 w658 rfl
        show Rl _ _ _ _ _ [iv z657] _ _
        refine l_if_eq rfl rfl (by unfold rg; omega) (fun w659 => ?_) (fun w660 => ?_)
        · refine l_iconst rfl ?_
          refine l_ireturn rfl rfl ?_
          have w661 : 0 ≤ Xi T53 890 1 ∧ Xi T53 890 1 ≤ 5126 := hHT53.c _ _
          have w662 : Xi T53 890 2 = Xi U47 890 2 := (show Xi T53 890 2 = Xi T49 890 2 from w658.x _ _ rfl).trans ( (show Xi T49 890 2 = Xi T48 890 2 from w606.x _ _ rfl).trans ((show Xi T48 890 2 = Xi U47 890 2 from w592.x _ _ rfl)))
          have w663 : 0 ≤ Xi U47 890 2 ∧ Xi U47 890 2 ≤ 20 := hHU47.c _ _
          exact ⟨hHT53, hFT53, _, rfl, ⟨by omega, by omega⟩, (by omega), (by omega), (by first | (intro a b c; exact absurd a (by omega)) | (intro a b c; exact absurd b (by omega)) | (intro a b c; exact absurd c (by omega)) | (intro a b c; exact ⟨by assumption, by omega, by omega, tk103 (P := T49) (m877 hFT53 rfl) (m877 hFT49 rfl) (by omega) (by omega)⟩)), (by omega), (by omega)⟩
        · refine l_aload_n rfl rfl ?_
          refine l_bipush rfl rfl ?_
          have w664 : Xi T53 876 7 = Xi S 876 7 := (show Xi T53 876 7 = Xi T49 876 7 from w658.x _ _ rfl).trans ( (show Xi T49 876 7 = Xi T48 876 7 from w606.x _ _ rfl).trans ( (show Xi T48 876 7 = Xi U47 876 7 from w592.x _ _ rfl).trans ( (show Xi U47 876 7 = Xi U1 876 7 from by rw [eU47]; exact Xi_ne (by omega)).trans ((show Xi U1 876 7 = Xi S 876 7 from by rw [eU1]; exact Xi_ne (by omega))))))
          have w666 : 0 ≤ Xi T53 890 1 ∧ Xi T53 890 1 ≤ 5126 := hHT53.c _ _
          refine l_callV rfl rfl rfl (t_gr_take hHT53 106 ⟨by omega, by omega⟩ (by first | assumption | omega) (by first | assumption | (apply_assumption; omega)) (by first | assumption | omega) _) ?_
          rintro _ T54 ⟨hHT54, w672, z671, rfl, w671, w667, w668, w669, w670⟩
          have hFT54 : FR md_gr_check__2 S T54 := FR.tr hFT53 w672 rfl
          show Rl _ _ _ _ _ [iv z671] _ _
          refine l_if_eq rfl rfl (by unfold rg; omega) (fun w673 => ?_) (fun w674 => ?_)
          · refine l_iconst rfl ?_
            refine l_ireturn rfl rfl ?_
            have w675 : 0 ≤ Xi T54 890 1 ∧ Xi T54 890 1 ≤ 5126 := hHT54.c _ _
            have w676 : Xi T54 890 2 = Xi U47 890 2 := (show Xi T54 890 2 = Xi T53 890 2 from w672.x _ _ rfl).trans ( (show Xi T53 890 2 = Xi T49 890 2 from w658.x _ _ rfl).trans ( (show Xi T49 890 2 = Xi T48 890 2 from w606.x _ _ rfl).trans ((show Xi T48 890 2 = Xi U47 890 2 from w592.x _ _ rfl))))
            have w677 : 0 ≤ Xi U47 890 2 ∧ Xi U47 890 2 ≤ 20 := hHU47.c _ _
            exact ⟨hHT54, hFT54, _, rfl, ⟨by omega, by omega⟩, (by omega), (by omega), (by first | (intro a b c; exact absurd a (by omega)) | (intro a b c; exact absurd b (by omega)) | (intro a b c; exact absurd c (by omega)) | (intro a b c; exact ⟨by assumption, by omega, by omega, tk103 (P := T53) (m877 hFT54 rfl) (m877 hFT53 rfl) (by omega) (by omega)⟩)), (by omega), (by omega)⟩
          · refine l_aload_n rfl rfl ?_
            have w678 : Xi T54 876 7 = Xi S 876 7 := (show Xi T54 876 7 = Xi T53 876 7 from w672.x _ _ rfl).trans ( (show Xi T53 876 7 = Xi T49 876 7 from w658.x _ _ rfl).trans ( (show Xi T49 876 7 = Xi T48 876 7 from w606.x _ _ rfl).trans ( (show Xi T48 876 7 = Xi U47 876 7 from w592.x _ _ rfl).trans ( (show Xi U47 876 7 = Xi U1 876 7 from by rw [eU47]; exact Xi_ne (by omega)).trans ((show Xi U1 876 7 = Xi S 876 7 from by rw [eU1]; exact Xi_ne (by omega)))))))
            have w680 : 0 ≤ Xi T54 890 1 ∧ Xi T54 890 1 ≤ 5126 := hHT54.c _ _
            refine l_callV rfl rfl rfl (t_gr_takePhrases hHT54 (by first | assumption | omega) (by first | assumption | (apply_assumption; omega)) _) ?_
            rintro _ T55 ⟨hHT55, w684, z683, rfl, w683, w681, w682⟩
            have hFT55 : FR md_gr_check__2 S T55 := FR.tr hFT54 w684 rfl
            show Rl _ _ _ _ _ [iv z683] _ _
            refine l_if_eq rfl rfl (by unfold rg; omega) (fun w685 => ?_) (fun w686 => ?_)
            · refine l_iconst rfl ?_
              refine l_ireturn rfl rfl ?_
              have w687 : 0 ≤ Xi T55 890 1 ∧ Xi T55 890 1 ≤ 5126 := hHT55.c _ _
              have w688 : Xi T55 890 2 = Xi U47 890 2 := (show Xi T55 890 2 = Xi T54 890 2 from w684.x _ _ rfl).trans ( (show Xi T54 890 2 = Xi T53 890 2 from w672.x _ _ rfl).trans ( (show Xi T53 890 2 = Xi T49 890 2 from w658.x _ _ rfl).trans ( (show Xi T49 890 2 = Xi T48 890 2 from w606.x _ _ rfl).trans ((show Xi T48 890 2 = Xi U47 890 2 from w592.x _ _ rfl)))))
              have w689 : 0 ≤ Xi U47 890 2 ∧ Xi U47 890 2 ≤ 20 := hHU47.c _ _
              exact ⟨hHT55, hFT55, _, rfl, ⟨by omega, by omega⟩, (by omega), (by omega), (by first | (intro a b c; exact absurd a (by omega)) | (intro a b c; exact absurd b (by omega)) | (intro a b c; exact absurd c (by omega)) | (intro a b c; exact ⟨by assumption, by omega, by omega, tk103 (P := T54) (m877 hFT55 rfl) (m877 hFT54 rfl) (by omega) (by omega)⟩)), (by omega), (by omega)⟩
            · refine l_aload_n rfl rfl ?_
              refine l_bipush rfl rfl ?_
              have w690 : Xi T55 876 7 = Xi S 876 7 := (show Xi T55 876 7 = Xi T54 876 7 from w684.x _ _ rfl).trans ( (show Xi T54 876 7 = Xi T53 876 7 from w672.x _ _ rfl).trans ( (show Xi T53 876 7 = Xi T49 876 7 from w658.x _ _ rfl).trans ( (show Xi T49 876 7 = Xi T48 876 7 from w606.x _ _ rfl).trans ( (show Xi T48 876 7 = Xi U47 876 7 from w592.x _ _ rfl).trans ( (show Xi U47 876 7 = Xi U1 876 7 from by rw [eU47]; exact Xi_ne (by omega)).trans ((show Xi U1 876 7 = Xi S 876 7 from by rw [eU1]; exact Xi_ne (by omega))))))))
              have w692 : 0 ≤ Xi T55 890 1 ∧ Xi T55 890 1 ≤ 5126 := hHT55.c _ _
              refine l_callV rfl rfl rfl (t_gr_take hHT55 103 ⟨by omega, by omega⟩ (by first | assumption | omega) (by first | assumption | (apply_assumption; omega)) (by first | assumption | omega) _) ?_
              rintro _ T56 ⟨hHT56, w698, z697, rfl, w697, w693, w694, w695, w696⟩
              have hFT56 : FR md_gr_check__2 S T56 := FR.tr hFT55 w698 rfl
              show Rl _ _ _ _ _ [iv z697] _ _
              refine l_if_eq rfl rfl (by unfold rg; omega) (fun w699 => ?_) (fun w700 => ?_)
              · refine l_iconst rfl ?_
                refine l_ireturn rfl rfl ?_
                have w701 : 0 ≤ Xi T56 890 1 ∧ Xi T56 890 1 ≤ 5126 := hHT56.c _ _
                have w702 : Xi T56 890 2 = Xi U47 890 2 := (show Xi T56 890 2 = Xi T55 890 2 from w698.x _ _ rfl).trans ( (show Xi T55 890 2 = Xi T54 890 2 from w684.x _ _ rfl).trans ( (show Xi T54 890 2 = Xi T53 890 2 from w672.x _ _ rfl).trans ( (show Xi T53 890 2 = Xi T49 890 2 from w658.x _ _ rfl).trans ( (show Xi T49 890 2 = Xi T48 890 2 from w606.x _ _ rfl).trans ((show Xi T48 890 2 = Xi U47 890 2 from w592.x _ _ rfl))))))
                have w703 : 0 ≤ Xi U47 890 2 ∧ Xi U47 890 2 ≤ 20 := hHU47.c _ _
                exact ⟨hHT56, hFT56, _, rfl, ⟨by omega, by omega⟩, (by omega), (by omega), (by first | (intro a b c; exact absurd a (by omega)) | (intro a b c; exact absurd b (by omega)) | (intro a b c; exact absurd c (by omega)) | (intro a b c; exact ⟨by assumption, by omega, by omega, tk103 (P := T55) (m877 hFT56 rfl) (m877 hFT55 rfl) (by omega) (by omega)⟩)), (by omega), (by omega)⟩
              · refine l_iconst rfl ?_
                refine l_goto rfl rfl ?_
                refine l_ireturn rfl rfl ?_
                have w704 : 0 ≤ Xi T56 890 1 ∧ Xi T56 890 1 ≤ 5126 := hHT56.c _ _
                have w705 : Xi T56 890 2 = Xi U47 890 2 := (show Xi T56 890 2 = Xi T55 890 2 from w698.x _ _ rfl).trans ( (show Xi T55 890 2 = Xi T54 890 2 from w684.x _ _ rfl).trans ( (show Xi T54 890 2 = Xi T53 890 2 from w672.x _ _ rfl).trans ( (show Xi T53 890 2 = Xi T49 890 2 from w658.x _ _ rfl).trans ( (show Xi T49 890 2 = Xi T48 890 2 from w606.x _ _ rfl).trans ((show Xi T48 890 2 = Xi U47 890 2 from w592.x _ _ rfl))))))
                have w706 : 0 ≤ Xi U47 890 2 ∧ Xi U47 890 2 ≤ 20 := hHU47.c _ _
                exact ⟨hHT56, hFT56, _, rfl, ⟨by omega, by omega⟩, (by omega), (by omega), (by first | (intro a b c; exact absurd a (by omega)) | (intro a b c; exact absurd b (by omega)) | (intro a b c; exact absurd c (by omega)) | (intro a b c; exact ⟨by assumption, by omega, by omega, tk103 (P := T55) (m877 hFT56 rfl) (m877 hFT55 rfl) (by omega) (by omega)⟩)), (by omega), (by omega)⟩
  refine And.intro (fun w707 => ⟨_, rfl, ?_⟩) (fun w708 => ?_)
  · refine l_aload_n rfl rfl ?_
    refine l_iconst rfl ?_
    refine l_pfi rfl rfl rfl rfl ?_
    obtain ⟨U57, eU57⟩ : ∃ T : sS, T = uI U1 890 2 (Int32.ofInt 0) := ⟨_, rfl⟩
    rw [← eU57]
    have hHU57 : HI U57 := by rw [eU57]; exact HI_w hHU1 (show 0 ≤ 0 by omega) (show 0 ≤ 20 by omega)
    have hFU57 : FR md_gr_check__2 S U57 := by rw [eU57]; exact FR.wI hFU1 (mdf_i (r := (890, 891, 2, 3)) (List.mem_of_getElem? (i := 1) rfl) (inR_i (by omega) (by omega) (by omega) (by omega)))
    have w709 : Xi U57 890 2 = 0 := by rw [eU57]; exact Xi_same (by unfold rg; omega)
    have h82 : Xi S 877 (0 : Int).toNat = 102 := by rw [← m877 hFU1 rfl]; omega
    refine l_iconst rfl ?_
    refine l_ireturn rfl rfl ?_
    have w710 : Xi U57 890 1 = Xi U1 890 1 := (show Xi U57 890 1 = Xi U1 890 1 from by rw [eU57]; exact Xi_ne (by omega))
    have w711 : 0 ≤ Xi U1 890 1 ∧ Xi U1 890 1 ≤ 5126 := hHU1.c _ _
    have w712 : 0 ≤ Xi U57 890 2 ∧ Xi U57 890 2 ≤ 20 := hHU57.c _ _
    exact ⟨hHU57, hFU57, _, rfl, ⟨by omega, by omega⟩, (by omega), (by omega), (by first | (intro a b c; exact absurd a (by omega)) | (intro a b c; exact absurd b (by omega)) | (intro a b c; exact absurd c (by omega)) | (intro a b c; exact ⟨by assumption, by omega, by omega, tk103 (P := U1) (m877 hFU57 rfl) (m877 hFU1 rfl) (by omega) (by omega)⟩)), (by omega), (by omega)⟩
  refine ⟨_, rfl, ?_⟩
  refine l_aload_n rfl rfl ?_
  refine l_callV rfl rfl rfl (t_gr_checkOthers hHU1 _) ?_
  rintro _ T58 ⟨hHT58, w715, z714, rfl, w714, w713⟩
  have hFT58 : FR md_gr_check__2 S T58 := FR.tr hFU1 w715 rfl
  show Rl _ _ _ _ _ [iv z714] _ _
  refine l_ireturn rfl (retI_z (by omega)) ?_
  have w716 : 0 ≤ Xi T58 890 1 ∧ Xi T58 890 1 ≤ 5126 := hHT58.c _ _
  have w717 : 0 ≤ Xi T58 890 2 ∧ Xi T58 890 2 ≤ 20 := hHT58.c _ _
  exact ⟨hHT58, hFT58, _, rfl, ⟨by omega, by omega⟩, (by omega), (by omega), (by first | (intro a b c; exact absurd a (by omega)) | (intro a b c; exact absurd b (by omega)) | (intro a b c; exact absurd c (by omega)) | (intro a b c; exact ⟨by assumption, by omega, by omega, tk103 (P := U1) (m877 hFT58 rfl) (m877 hFU1 rfl) (by omega) (by omega)⟩)), (by omega), (by omega)⟩
def md_rule : List rec := md_rr_ruleHead ++ (md_rr_tests ++ md_rr_rulePhrases)
def md_re_beginSentence : List rec := [(1, 2, 3, 4), (2, 3, 0, 100000), (3, 4, 0, 100000), (4, 5, 0, 100000), (5, 6, 0, 100000), (10, 11, 0, 100000), (11, 12, 0, 100000), (12, 13, 0, 100000), (13, 14, 0, 100000), (18, 19, 0, 100000), (66, 106, 0, 100000), (107, 147, 0, 100000), (148, 188, 0, 100000), (246, 247, 2, 3), (246, 247, 5, 6), (246, 247, 8, 9), (248, 272, 0, 100000), (274, 275, 0, 100000), (275, 276, 0, 100000), (276, 876, 0, 1), (276, 876, 1, 2), (276, 876, 2, 3), (276, 876, 3, 4), (276, 876, 4, 5), (276, 876, 5, 6), (276, 876, 6, 7), (876, 877, 7, 8), (876, 877, 8, 9), (876, 877, 9, 10), (877, 878, 0, 100000), (878, 879, 0, 100000), (879, 880, 0, 100000), (882, 883, 3, 4), (882, 883, 10, 11), (883, 884, 0, 100000), (884, 885, 0, 100000), (885, 886, 0, 100000), (886, 887, 0, 100000), (887, 888, 0, 100000), (888, 889, 0, 100000), (891, 892, 9, 10), (892, 893, 0, 100000), (893, 894, 0, 100000), (894, 895, 0, 100000), (895, 896, 3, 4), (895, 896, 4, 5), (895, 896, 5, 6), (895, 896, 6, 7), (895, 896, 7, 8), (895, 896, 8, 9), (895, 896, 9, 10), (895, 896, 10, 11), (895, 896, 11, 12), (895, 896, 12, 13), (895, 896, 13, 14), (895, 896, 14, 15), (896, 897, 0, 100000), (897, 898, 0, 100000), (898, 899, 0, 100000), (899, 900, 4, 5), (899, 900, 5, 6), (899, 900, 6, 7)]
abbrev Q_re_beginSentence (S : sS) (ts : Nat) : pst := fun r S1 => HI S1 ∧ FR md_re_beginSentence S S1 ∧ (∃ z : Int, r = some (iv z) ∧ (0 ≤ z ∧ z ≤ 1) ∧ (z = 1 → WI S1) ∧ (z = 0 → Xi S1 876 8 ≠ 0))
set_option maxRecDepth 100000 in
set_option maxHeartbeats 4000000 in
theorem t_re_beginSentence {S : sS} (hH : HI S) (ts : Nat) (hts : S.2.2 876 4 = some ts) (htp : tp ts) (hW : WI S) (hT : TOK S) (hS : SRX S) (hx : ts = txr S) (hcr : Xi S 876 6 = Xi S 876 7) (p0 : Xi S 890 2 = 0 → Xi S 877 (0 : Int).toNat = 102 ∧ 0 < Xi S 876 7) (p1 : Xi S 890 2 = 1 → Xi S 877 (1 : Int).toNat = 102 ∧ 1 < Xi S 876 7) (p3 : 3 ≤ Xi S 890 2 → Xi S 890 2 ≤ 6 → SAY S (Xi S 876 6)) (p4 : 3 ≤ Xi S 890 2 → Xi S 890 2 ≤ 6 → Xi S 877 (Xi S 876 6 - 1).toNat = 103) (pm : 1 ≤ Xi S 876 6) (p8 : Xi S 890 2 ≤ 8) (d : Nat) : Mt lay0 (d + 7) m_re_beginSentence [.ref 891] S (Q_re_beginSentence S ts) := by
  refine Mt_R rfl rfl ?_
  have hF : FR md_re_beginSentence S S := FR.rf
  have w1 : 0 ≤ Xi S 246 2 ∧ Xi S 246 2 ≤ 24 := hH.c _ _
  have w2 : 0 ≤ Xi S 246 5 ∧ Xi S 246 5 ≤ 200000 := hH.c _ _
  have w3 : 0 ≤ Xi S 876 6 ∧ Xi S 876 6 ≤ 5002 := hH.c _ _
  have w4 : 0 ≤ Xi S 876 7 ∧ Xi S 876 7 ≤ 5125 := hH.c _ _
  have w5 : 0 ≤ Xi S 890 2 ∧ Xi S 890 2 ≤ 20 := hH.c _ _
  have C122 : ∀  (T1 : sS) (_ : HI T1) (_ : FR md_re_beginSentence S T1), (WI T1) → (TOK T1) → (SRX T1) → (SAY T1 (Xi T1 876 6)) → (Xi T1 877 (Xi T1 876 6 - 1).toNat = 103) → (1 ≤ Xi T1 876 6) → (Xi T1 876 6 = Xi T1 876 7) → (3 ≤ Xi T1 890 2 ∧ Xi T1 890 2 ≤ 6) → (Xi T1 246 2 = Xi S 246 2) → (Xi T1 246 5 = Xi S 246 5) → Rl lay0 (d + 6) m_re_beginSentence 122 [(0, .ref 891)] [] T1 (Q_re_beginSentence S ts) := by
    intro T1 hHT1 hFT1 hW122 hT122 hS122 hY122 hd122 w6 w7 w8 w9 w10
    have w11 : Xi T1 876 6 = Xi S 876 6 := hFT1.x _ _ rfl
    have w12 : Xi T1 890 2 = Xi S 890 2 := hFT1.x _ _ rfl
    have w13 : 0 ≤ Xi T1 246 2 ∧ Xi T1 246 2 ≤ 24 := hHT1.c _ _
    have w14 : 0 ≤ Xi T1 246 5 ∧ Xi T1 246 5 ≤ 200000 := hHT1.c _ _
    have w15 : 0 ≤ Xi T1 876 6 ∧ Xi T1 876 6 ≤ 5002 := hHT1.c _ _
    have w16 : 0 ≤ Xi T1 876 7 ∧ Xi T1 876 7 ≤ 5125 := hHT1.c _ _
    have w17 : 0 ≤ Xi T1 890 2 ∧ Xi T1 890 2 ≤ 20 := hHT1.c _ _
    refine l_aload_n rfl rfl ?_
    refine l_gfr rfl rfl rfl rfl rfl (hHT1.r 891 5 899 rfl) ?_
    refine l_aload_n rfl rfl ?_
    refine l_gfr rfl rfl rfl rfl rfl (hHT1.r 891 1 890 rfl) ?_
    refine l_gfi rfl rfl rfl rfl rfl ?_
    have w20 : 0 ≤ Xi T1 5 3 ∧ Xi T1 5 3 ≤ 24 := hHT1.c _ _
    refine l_callV rfl rfl rfl (t_rr_ruleHead hHT1 (Xi T1 890 2) ⟨by omega, by omega⟩ (by first | assumption | exact (by first | assumption | exact (by assumption : WI T1).1 : LEX T1)) (fun q => by have t : Xi T1 246 5 ≤ 19 * Xi T1 246 2 + 6 * Xi T1 5 3 := hW122.2.2.2.2.2.2.1; have u : 0 ≤ Xi T1 5 3 ∧ Xi T1 5 3 ≤ 24 := hHT1.c _ _; omega) _) ?_
    rintro _ T2 ⟨hHT2, w33, z32, rfl, w32, w25, w26, w27, w28, w29, w30, w31⟩
    have hFT2 : FR md_re_beginSentence S T2 := FR.tr hFT1 w33 rfl
    show Rl _ _ _ _ _ [iv z32] _ _
    have f133 : FR md_rr_ruleHead T1 T2 := by assumption
    have g133 : z32 = 1 → sG T1 T2 := by assumption
    have q133 : z32 = 1 → KRU T1 T2 (Xi T1 246 2).toNat := by assumption
    have h133 : z32 = 1 → T2.2.2 899 4 = some (248 + (Xi T1 246 2).toNat) := by assumption
    have b133 : z32 = 1 → RB T2 (Xi T1 246 2).toNat (Xi T1 246 5) 0 0 := by assumption
    have z133 : z32 = 1 → Xi T2 (248 + (Xi T1 246 2).toNat) 5 = 0 ∧ Xi T2 (248 + (Xi T1 246 2).toNat) 6 = 0 := by assumption
    have y133 : ∀ j, Xi T2 877 j = Xi T1 877 j := fun j => (f133.cx 877 rfl j).1
    have v133 : Xi T2 876 6 = Xi T1 876 6 := f133.x 876 6 rfl
    have Y133 : SAY T2 (Xi T2 876 6) := by rw [v133]; exact SAY_fr y133 hY122
    have d133 : Xi T2 877 (Xi T2 876 6 - 1).toNat = 103 := by rw [v133, y133]; exact hd122
    have u133 : Xi T2 876 7 = Xi T1 876 7 := f133.x 876 7 rfl
    refine l_if_eq rfl rfl (by unfold rg; omega) (fun w34 => ?_) (fun w35 => ?_)
    · refine l_iconst rfl ?_
      refine l_ireturn rfl rfl ?_
      have w45 : 0 ≤ Xi T2 876 8 ∧ Xi T2 876 8 ≤ 9 := hHT2.c _ _
      exact ⟨hHT2, hFT2, _, rfl, ⟨by omega, by omega⟩, (by first | (intro hz; omega) | (intro _; assumption) | (intro hz; apply_assumption; omega)), (by omega)⟩
    · refine l_aload_n rfl rfl ?_
      have hru139 : T2.2.2 899 4 = some (248 + (Xi S 246 2).toNat) := by rw [show (Xi S 246 2).toNat = (Xi T1 246 2).toNat by omega]; exact h133 (by omega)
      have q139 : KRU T1 T2 (Xi S 246 2).toNat := by rw [show (Xi S 246 2).toNat = (Xi T1 246 2).toNat by omega]; exact q133 (by omega)
      have b139 : RB T2 (Xi S 246 2).toNat (Xi S 246 5) 0 0 := by rw [show (Xi S 246 2).toNat = (Xi T1 246 2).toNat by omega, show Xi S 246 5 = Xi T1 246 5 by omega]; exact b133 (by omega)
      have z139 : Xi T2 (248 + (Xi S 246 2).toNat) 6 = 0 := by rw [show (Xi S 246 2).toNat = (Xi T1 246 2).toNat by omega]; exact (z133 (by omega)).2
      have l139 : Xi S 246 2 < 24 ∧ 0 ≤ Xi S 246 2 := by omega
      have c139 : Xi T2 246 5 ≤ Xi S 246 5 + 5 := by have t := b139.1; have r4 : 0 ≤ Xi T2 (248 + (Xi S 246 2).toNat) 4 ∧ Xi T2 (248 + (Xi S 246 2).toNat) 4 ≤ 5 := ruc4 hHT2 (by omega); omega
      have e139 : Xi S 246 5 ≤ 581 := by have t : Xi T1 246 5 ≤ 19 * Xi T1 246 2 + 6 * Xi T1 5 3 := hW122.2.2.2.2.2.2.1; have u : 0 ≤ Xi T1 5 3 ∧ Xi T1 5 3 ≤ 24 := hHT1.c _ _; omega
      refine l_gfr rfl rfl rfl rfl rfl (hHT2.r 891 5 899 rfl) ?_
      refine l_aload_n rfl rfl ?_
      refine l_gfr rfl rfl rfl rfl rfl (hHT2.r 891 5 899 rfl) ?_
      refine l_callV rfl rfl rfl (t_rr_whenEnd hHT2 _) ?_
      rintro _ _ ⟨rfl, z61, rfl, w61⟩
      show Rl _ _ _ _ _ [iv z61, .ref 899] _ _
      have w64 : 0 ≤ Xi T2 246 5 ∧ Xi T2 246 5 ≤ 200000 := hHT2.c _ _
      have w71 : -1 ≤ Xi T2 895 4 ∧ Xi T2 895 4 ≤ 15 := hHT2.c _ _
      have w72 : Xi T2 899 6 = Xi T1 899 6 := (show Xi T2 899 6 = Xi T1 899 6 from w33.x _ _ rfl)
      have w73 : 0 ≤ Xi T1 899 6 ∧ Xi T1 899 6 ≤ 6 := hHT1.c _ _
      refine l_callV rfl rfl rfl (t_rr_tests hHT2 z61 ⟨by omega, by omega⟩ (by first | assumption | exact (LEX_FR w33 rfl rfl (by first | assumption | exact (by assumption : WI T1).1 : LEX T1))) (by first | assumption | exact (TOK_FR w33 rfl rfl rfl (by assumption : TOK T1))) (by first | assumption | exact (SRX_FR hFT2 rfl (by assumption : SRX S))) (by first | assumption | omega) _) ?_
      rintro _ T3 ⟨hHT3, w79, z78, rfl, w78, w74, w75, w76, w77⟩
      have hFT3 : FR md_re_beginSentence S T3 := FR.tr hFT2 w79 rfl
      show Rl _ _ _ _ _ [iv z78] _ _
      have f150 : FR md_rr_tests T2 T3 := by assumption
      have g150 : z78 = 1 → sG T2 T3 := by assumption
      have n150 : 0 ≤ Xi T3 899 6 ∧ Xi T3 899 6 ≤ 6 := hHT3.c _ _
      have b150 : z78 = 1 → RB T3 (Xi S 246 2).toNat (Xi S 246 5) (Xi T3 899 6) 0 := fun q => RB_t hHT2 (by omega) (g150 q) (FR_ru f150 rfl (by omega)) (FR_ru f150 rfl (by omega)) (FR_ru f150 rfl (by omega)) (FR_ru f150 rfl (by omega)) (f150.x 895 4 rfl) (by omega) (by omega) (by omega) ((by assumption : z78 = 1 → ∀ i : Nat, (i : Int) < Xi T3 899 6 → TSok T3 (0 ≤ Xi T2 895 4) ((Xi T2 246 5).toNat + i)) q) b139
      have z150 : Xi T3 (248 + (Xi S 246 2).toNat) 6 = 0 := (FR_ru f150 rfl (by omega)).trans z139
      have k150 : Xi T3 246 2 = Xi T2 246 2 := f150.x 246 2 rfl
      have y150 : ∀ j, Xi T3 877 j = Xi T2 877 j := fun j => (f150.cx 877 rfl j).1
      have v150 : Xi T3 876 6 = Xi T2 876 6 := f150.x 876 6 rfl
      have Y150 : SAY T3 (Xi T3 876 6) := by rw [v150]; exact SAY_fr y150 Y133
      have d150 : Xi T3 877 (Xi T3 876 6 - 1).toNat = 103 := by rw [v150, y150]; exact d133
      have u150 : Xi T3 876 7 = Xi T2 876 7 := f150.x 876 7 rfl
      refine l_if_eq rfl rfl (by unfold rg; omega) (fun w80 => ?_) (fun w81 => ?_)
      · refine l_iconst rfl ?_
        refine l_ireturn rfl rfl ?_
        have w91 : 0 ≤ Xi T3 876 8 ∧ Xi T3 876 8 ≤ 9 := hHT3.c _ _
        exact ⟨hHT3, hFT3, _, rfl, ⟨by omega, by omega⟩, (by first | (intro hz; omega) | (intro _; assumption) | (intro hz; apply_assumption; omega)), (by omega)⟩
      · refine l_aload_n rfl rfl ?_
        refine l_gfr rfl rfl rfl rfl rfl (hHT3.r 891 5 899 rfl) ?_
        have w95 : Xi T3 246 2 = Xi T1 246 2 := (show Xi T3 246 2 = Xi T2 246 2 from w79.x _ _ rfl).trans ((show Xi T2 246 2 = Xi T1 246 2 from w33.x _ _ rfl))
        have w97 : 0 ≤ Xi T3 246 5 ∧ Xi T3 246 5 ≤ 200000 := hHT3.c _ _
        have w100 : Xi T3 876 6 = Xi T1 876 6 := (show Xi T3 876 6 = Xi T2 876 6 from w79.x _ _ rfl).trans ((show Xi T2 876 6 = Xi T1 876 6 from w33.x _ _ rfl))
        have w102 : Xi T3 876 7 = Xi T1 876 7 := (show Xi T3 876 7 = Xi T2 876 7 from w79.x _ _ rfl).trans ((show Xi T2 876 7 = Xi T1 876 7 from w33.x _ _ rfl))
        have w106 : 0 ≤ Xi T3 899 6 ∧ Xi T3 899 6 ≤ 6 := hHT3.c _ _
        refine l_callV rfl rfl rfl (t_rr_rulePhrases hHT3 (Xi S 246 2).toNat ts ((hFT3 876 4 rfl).2.2.trans hts) htp ((w79 899 4 rfl).2.2.trans hru139) (by omega) (by first | assumption | exact (LEX_FR w79 rfl rfl (LEX_FR w33 rfl rfl (by first | assumption | exact (by assumption : WI T1).1 : LEX T1)))) (by first | assumption | exact (TOK_FR w79 rfl rfl rfl (TOK_FR w33 rfl rfl rfl (by assumption : TOK T1)))) (by first | assumption | exact (SRX_FR hFT3 rfl (by assumption : SRX S))) (hx.trans (by unfold txr; rw [(hFT3 20 1 rfl).2.2])) (by first | assumption | omega) (Y150) (d150) (by first | assumption | omega) (by first | assumption | omega) (by rw [(b150 (by omega)).1.1]; exact b150 (by omega)) (z150) (by first | assumption | omega) _) ?_
        rintro _ T4 ⟨hHT4, w113, z112, rfl, w112, w107, w108, w109, w110, w111⟩
        have hFT4 : FR md_re_beginSentence S T4 := FR.tr hFT3 w113 rfl
        show Rl _ _ _ _ _ [iv z112] _ _
        have f160 : FR md_rr_rulePhrases T3 T4 := by assumption
        have W160 : z112 = 1 → WI T4 := fun q => WI_ru (l := md_rule) (r := (Xi S 246 2).toNat) hHT1 (FR.tr (FR.tr (FR.tr FR.rf f133 rfl) f150 rfl) f160 rfl) (sG.tr (g133 (by omega)) (sG.tr (g150 (by omega)) ((by assumption : z112 = 1 → sG T3 T4) q))) (kru_tr q139 (kru_tr (kru_f f150 rfl KRU.rf) ((by assumption : z112 = 1 → KRU T3 T4 (Xi S 246 2).toNat) q))) rfl rfl rfl rfl rfl rfl rfl (by omega) (by omega) (by omega) ((by assumption : z112 = 1 → RUL1 T4 (Xi S 246 2).toNat) q) hW122
        refine l_if_eq rfl rfl (by unfold rg; omega) (fun w114 => ?_) (fun w115 => ?_)
        · refine l_iconst rfl ?_
          refine l_ireturn rfl rfl ?_
          have w123 : 0 ≤ Xi T4 876 8 ∧ Xi T4 876 8 ≤ 9 := hHT4.c _ _
          exact ⟨hHT4, hFT4, _, rfl, ⟨by omega, by omega⟩, (by first | (intro hz; omega) | (intro _; assumption) | (intro hz; apply_assumption; omega)), (by omega)⟩
        · refine l_iconst rfl ?_
          refine l_goto rfl rfl ?_
          refine l_ireturn rfl rfl ?_
          have w135 : 0 ≤ Xi T4 876 8 ∧ Xi T4 876 8 ≤ 9 := hHT4.c _ _
          exact ⟨hHT4, hFT4, _, rfl, ⟨by omega, by omega⟩, (by first | (intro hz; omega) | (intro _; assumption) | (intro hz; apply_assumption; omega)), (by omega)⟩
  refine l_aload_n rfl rfl ?_
  refine l_iconst rfl ?_
  refine l_pfi rfl rfl rfl rfl ?_
  obtain ⟨U5, eU5⟩ : ∃ T : sS, T = uI S 891 9 (Int32.ofInt 0) := ⟨_, rfl⟩
  rw [← eU5]
  have hHU5 : HI U5 := by rw [eU5]; exact HI_w hH (show 0 ≤ 0 by omega) (show 0 ≤ 24 by omega)
  have hFU5 : FR md_re_beginSentence S U5 := by rw [eU5]; exact FR.wI hF (mdf_i (r := (891, 892, 9, 10)) (List.mem_of_getElem? (i := 40) rfl) (inR_i (by omega) (by omega) (by omega) (by omega)))
  have w140 : Xi U5 891 9 = 0 := by rw [eU5]; exact Xi_same (by unfold rg; omega)
  have W2 : WI U5 := (WI_FR hH (FR_e eU5) rfl rfl rfl rfl rfl rfl rfl rfl rfl (by assumption : WI S))
  have x2 : ∀ j, Xi U5 877 j = Xi S 877 j := fun j => by rw [eU5, Xi_ne (by omega)]
  have r2 : Xi U5 876 7 = Xi S 876 7 ∧ Xi U5 876 6 = Xi S 876 6 ∧ Xi U5 890 2 = Xi S 890 2 ∧ Xi U5 246 2 = Xi S 246 2 ∧ Xi U5 246 5 = Xi S 246 5 := ⟨by rw [eU5, Xi_ne (by omega)], by rw [eU5, Xi_ne (by omega)], by rw [eU5, Xi_ne (by omega)], by rw [eU5, Xi_ne (by omega)], by rw [eU5, Xi_ne (by omega)]⟩
  refine l_aload_n rfl rfl ?_
  refine l_gfr rfl rfl rfl rfl rfl (hHU5.r 891 1 890 rfl) ?_
  refine l_gfi rfl rfl rfl rfl rfl ?_
  have w141 : (Xi U5 890 2) = (Xi S 890 2) := (show Xi U5 890 2 = Xi S 890 2 from by rw [eU5]; exact Xi_ne (by omega))
  rw [w141]
  refine l_tsw rfl rfl rfl rfl (by unfold rg; omega) (fun w142 => ?_) (fun ii tt hii w142 => ?_)
  · have w143 : Xi U5 246 2 = Xi S 246 2 := (show Xi U5 246 2 = Xi S 246 2 from by rw [eU5]; exact Xi_ne (by omega))
    have w145 : Xi U5 246 5 = Xi S 246 5 := (show Xi U5 246 5 = Xi S 246 5 from by rw [eU5]; exact Xi_ne (by omega))
    have w147 : Xi U5 5 3 = Xi S 5 3 := (show Xi U5 5 3 = Xi S 5 3 from by rw [eU5]; exact Xi_ne (by omega))
    have w148 : 0 ≤ Xi S 5 3 ∧ Xi S 5 3 ≤ 24 := hH.c _ _
    have w149 : Xi U5 876 6 = Xi S 876 6 := (show Xi U5 876 6 = Xi S 876 6 from by rw [eU5]; exact Xi_ne (by omega))
    have w151 : Xi U5 876 7 = Xi S 876 7 := (show Xi U5 876 7 = Xi S 876 7 from by rw [eU5]; exact Xi_ne (by omega))
    have w153 : Xi U5 890 2 = Xi S 890 2 := (show Xi U5 890 2 = Xi S 890 2 from by rw [eU5]; exact Xi_ne (by omega))
    have w155 : Xi U5 895 4 = Xi S 895 4 := (show Xi U5 895 4 = Xi S 895 4 from by rw [eU5]; exact Xi_ne (by omega))
    have w156 : -1 ≤ Xi S 895 4 ∧ Xi S 895 4 ≤ 15 := hH.c _ _
    have w157 : Xi U5 899 6 = Xi S 899 6 := (show Xi U5 899 6 = Xi S 899 6 from by rw [eU5]; exact Xi_ne (by omega))
    have w158 : 0 ≤ Xi S 899 6 ∧ Xi S 899 6 ≤ 6 := hH.c _ _
    exact Rl_weak (C122 U5 hHU5 hFU5  (by first | exact W2 | (exfalso; omega)) (by first | assumption | exact (TOK_FR (FR_e eU5) rfl rfl rfl (by assumption : TOK S))) (by first | assumption | exact (SRX_FR hFU5 rfl (by assumption : SRX S))) (by first | (exfalso; omega) | (rw [show Xi U5 876 6 = Xi S 876 6 by omega]; exact SAY_fr x2 (p3 (by omega) (by omega)))) (by first | (exfalso; omega) | (rw [show Xi U5 876 6 = Xi S 876 6 by omega, x2]; exact p4 (by omega) (by omega))) (by omega) (by omega) (⟨by omega, by omega⟩) (by omega) (by omega)) (And.intro rfl (True.intro))
  · match ii, hii with
    | 0, hii =>
      cases hii
      have w159 : (Xi S 890 2) = 0 := by simpa using w142
      refine l_aload_n rfl rfl ?_
      have w168 : Xi U5 876 7 = Xi S 876 7 := (show Xi U5 876 7 = Xi S 876 7 from by rw [eU5]; exact Xi_ne (by omega))
      refine l_callV rfl rfl rfl (t_re_describe hHU5 (by first | assumption | exact (WI_FR hH (FR_e eU5) rfl rfl rfl rfl rfl rfl rfl rfl rfl (by assumption : WI S))) (by first | assumption | exact (TOK_FR (FR_e eU5) rfl rfl rfl (by assumption : TOK S))) (by first | assumption | exact (SRX_FR hFU5 rfl (by assumption : SRX S))) (⟨by rw [x2]; exact (p0 (by omega)).1, by omega⟩) _) ?_
      rintro _ T6 ⟨hHT6, w177, z176, rfl, w176, w174, w175⟩
      have hFT6 : FR md_re_beginSentence S T6 := FR.tr hFU5 w177 rfl
      show Rl _ _ _ _ _ [iv z176] _ _
      refine l_ireturn rfl (retI_z (by omega)) ?_
      have w188 : 0 ≤ Xi T6 876 8 ∧ Xi T6 876 8 ≤ 9 := hHT6.c _ _
      exact ⟨hHT6, hFT6, _, rfl, ⟨by omega, by omega⟩, (by first | (intro hz; omega) | (intro _; assumption) | (intro hz; apply_assumption; omega)), (by omega)⟩
    | 1, hii =>
      cases hii
      have w193 : (Xi S 890 2) = 1 := by simpa using w142
      refine l_aload_n rfl rfl ?_
      have w202 : Xi U5 876 7 = Xi S 876 7 := (show Xi U5 876 7 = Xi S 876 7 from by rw [eU5]; exact Xi_ne (by omega))
      refine l_callV rfl rfl rfl (t_re_understand hHU5 (by first | assumption | exact (WI_FR hH (FR_e eU5) rfl rfl rfl rfl rfl rfl rfl rfl rfl (by assumption : WI S))) (by first | assumption | exact (TOK_FR (FR_e eU5) rfl rfl rfl (by assumption : TOK S))) (⟨ts, (hFU5 876 4 rfl).2.2.trans hts, htp⟩) (⟨by rw [x2]; exact (p1 (by omega)).1, by omega⟩) _) ?_
      rintro _ T7 ⟨hHT7, w211, z210, rfl, w210, w208, w209⟩
      have hFT7 : FR md_re_beginSentence S T7 := FR.tr hFU5 w211 rfl
      show Rl _ _ _ _ _ [iv z210] _ _
      refine l_ireturn rfl (retI_z (by omega)) ?_
      have w222 : 0 ≤ Xi T7 876 8 ∧ Xi T7 876 8 ≤ 9 := hHT7.c _ _
      exact ⟨hHT7, hFT7, _, rfl, ⟨by omega, by omega⟩, (by first | (intro hz; omega) | (intro _; assumption) | (intro hz; apply_assumption; omega)), (by omega)⟩
    | 2, hii =>
      cases hii
      have w227 : (Xi S 890 2) = 2 := by simpa using w142
      refine l_aload_n rfl rfl ?_
      have w232 : Xi U5 5 3 = Xi S 5 3 := (show Xi U5 5 3 = Xi S 5 3 from by rw [eU5]; exact Xi_ne (by omega))
      have w233 : 0 ≤ Xi S 5 3 ∧ Xi S 5 3 ≤ 24 := hH.c _ _
      have w238 : 0 ≤ Xi U5 891 9 ∧ Xi U5 891 9 ≤ 24 := hHU5.c _ _
      have w239 : Xi U5 895 4 = Xi S 895 4 := (show Xi U5 895 4 = Xi S 895 4 from by rw [eU5]; exact Xi_ne (by omega))
      have w240 : -1 ≤ Xi S 895 4 ∧ Xi S 895 4 ≤ 15 := hH.c _ _
      refine l_callV rfl rfl rfl (t_re_startDefinition__2 hHU5 (by first | assumption | exact (LEX_FR (FR_e eU5) rfl rfl (by first | assumption | exact (by assumption : WI S).1 : LEX S))) (by first | assumption | omega) _) ?_
      rintro _ T8 ⟨hHT8, w247, z246, rfl, w246, w243, w244, w245⟩
      have hFT8 : FR md_re_beginSentence S T8 := FR.tr hFU5 w247 rfl
      show Rl _ _ _ _ _ [iv z246] _ _
      have f75 : FR md_re_startDefinition__2 U5 T8 := by assumption
      have W75 : WI T8 := (WI_FR hHU5 w247 rfl rfl rfl rfl rfl rfl rfl rfl rfl (WI_FR hH (FR_e eU5) rfl rfl rfl rfl rfl rfl rfl rfl rfl (by assumption : WI S)))
      have c75 : Xi T8 246 5 ≤ 19 * Xi T8 246 2 + 6 * Xi T8 5 3 := W75.2.2.2.2.2.2.1
      have e75 : (0 ≤ Xi T8 246 2 ∧ Xi T8 246 2 ≤ 24) ∧ (0 ≤ Xi T8 5 3 ∧ Xi T8 5 3 ≤ 24) := ⟨hHT8.c _ _, hHT8.c _ _⟩
      refine l_if_eq rfl rfl (by unfold rg; omega) (fun w248 => ?_) (fun w249 => ?_)
      · refine l_iconst rfl ?_
        refine l_ireturn rfl rfl ?_
        have w260 : 0 ≤ Xi T8 876 8 ∧ Xi T8 876 8 ≤ 9 := hHT8.c _ _
        exact ⟨hHT8, hFT8, _, rfl, ⟨by omega, by omega⟩, (by first | (intro hz; omega) | (intro _; assumption) | (intro hz; apply_assumption; omega)), (by omega)⟩
      · refine l_aload_n rfl rfl ?_
        refine l_gfr rfl rfl rfl rfl rfl (hHT8.r 891 5 899 rfl) ?_
        refine l_aload_n rfl rfl ?_
        refine l_gfr rfl rfl rfl rfl rfl (hHT8.r 891 8 893 rfl) ?_
        refine l_iconst rfl ?_
        refine l_iaload (n := 24) rfl rfl (by omega) (by omega) (by unfold rg; omega) ?_
        have w264 : 0 ≤ (Xi T8 893 ((0 : Int).toNat)) ∧ (Xi T8 893 ((0 : Int).toNat)) ≤ 5130 := hHT8.c _ _
        have w265 : (Xi T8 893 ((0 : Int).toNat)) = Xi T8 893 0 := rfl
        refine l_iconst rfl ?_
        refine l_iadd rfl ?_
        have w268 : Xi T8 246 5 = Xi S 246 5 := (show Xi T8 246 5 = Xi U5 246 5 from w247.x _ _ rfl).trans ((show Xi U5 246 5 = Xi S 246 5 from by rw [eU5]; exact Xi_ne (by omega)))
        have w276 : -1 ≤ Xi T8 895 4 ∧ Xi T8 895 4 ≤ 15 := hHT8.c _ _
        have w277 : Xi T8 899 6 = Xi S 899 6 := (show Xi T8 899 6 = Xi U5 899 6 from w247.x _ _ rfl).trans ((show Xi U5 899 6 = Xi S 899 6 from by rw [eU5]; exact Xi_ne (by omega)))
        have w278 : 0 ≤ Xi S 899 6 ∧ Xi S 899 6 ≤ 6 := hH.c _ _
        refine l_callV rfl rfl rfl (t_rr_tests hHT8 ((Xi T8 893 ((0 : Int).toNat)) + 1) ⟨by omega, by omega⟩ (by first | assumption | exact (LEX_FR w247 rfl rfl (LEX_FR (FR_e eU5) rfl rfl (by first | assumption | exact (by assumption : WI S).1 : LEX S)))) (by first | assumption | exact (TOK_FR w247 rfl rfl rfl (TOK_FR (FR_e eU5) rfl rfl rfl (by assumption : TOK S)))) (by first | assumption | exact (SRX_FR hFT8 rfl (by assumption : SRX S))) (by first | assumption | omega) _) ?_
        rintro _ T9 ⟨hHT9, w284, z283, rfl, w283, w279, w280, w281, w282⟩
        have hFT9 : FR md_re_beginSentence S T9 := FR.tr hFT8 w284 rfl
        show Rl _ _ _ _ _ [iv z283] _ _
        have f93 : FR md_rr_tests T8 T9 := by assumption
        have x93 : z283 = 1 → WX T9 := fun q => WX_g hHT8 f93 ((by assumption : z283 = 1 → sG T8 T9) q) rfl rfl rfl rfl rfl rfl rfl rfl (wx_of W75)
        have y93 : Xi T9 246 2 = Xi T8 246 2 ∧ Xi T9 5 3 = Xi T8 5 3 ∧ Xi T9 895 4 = Xi T8 895 4 := ⟨f93.x 246 2 rfl, f93.x 5 3 rfl, f93.x 895 4 rfl⟩
        have t93 : z283 = 1 → ∀ i : Nat, (i : Int) < Xi T9 899 6 → TSok T9 (0 ≤ Xi T8 895 4) ((Xi T8 246 5).toNat + i) := by assumption
        refine l_if_eq rfl rfl (by unfold rg; omega) (fun w285 => ?_) (fun w286 => ?_)
        · refine l_iconst rfl ?_
          refine l_ireturn rfl rfl ?_
          have w296 : 0 ≤ Xi T9 876 8 ∧ Xi T9 876 8 ≤ 9 := hHT9.c _ _
          exact ⟨hHT9, hFT9, _, rfl, ⟨by omega, by omega⟩, (by first | (intro hz; omega) | (intro _; assumption) | (intro hz; apply_assumption; omega)), (by omega)⟩
        · refine l_aload_n rfl rfl ?_
          have w300 : Xi T9 246 2 = Xi S 246 2 := (show Xi T9 246 2 = Xi T8 246 2 from w284.x _ _ rfl).trans ( (show Xi T8 246 2 = Xi U5 246 2 from w247.x _ _ rfl).trans ((show Xi U5 246 2 = Xi S 246 2 from by rw [eU5]; exact Xi_ne (by omega))))
          have w302 : 0 ≤ Xi T9 246 5 ∧ Xi T9 246 5 ≤ 200000 := hHT9.c _ _
          have w303 : Xi T9 5 3 = Xi S 5 3 := (show Xi T9 5 3 = Xi T8 5 3 from w284.x _ _ rfl).trans ( (show Xi T8 5 3 = Xi U5 5 3 from w247.x _ _ rfl).trans ((show Xi U5 5 3 = Xi S 5 3 from by rw [eU5]; exact Xi_ne (by omega))))
          have w309 : Xi T9 895 4 = Xi T8 895 4 := (show Xi T9 895 4 = Xi T8 895 4 from w284.x _ _ rfl)
          have w311 : 0 ≤ Xi T9 899 6 ∧ Xi T9 899 6 ≤ 6 := hHT9.c _ _
          refine l_callV rfl rfl rfl (t_re_endDefinition hHT9 (x93 (by omega)) (by first | assumption | omega) (by first | assumption | omega) (by first | assumption | omega) (by first | assumption | omega) (fun i hi => by rw [show (Xi T9 246 5 - Xi T9 899 6).toNat = (Xi T8 246 5).toNat by omega]; exact (t93 (by omega) i hi).mono (fun _ => trivial)) _) ?_
          rintro _ T10 ⟨hHT10, w315, z314, rfl, w314, w312, w313⟩
          have hFT10 : FR md_re_beginSentence S T10 := FR.tr hFT9 w315 rfl
          show Rl _ _ _ _ _ [iv z314] _ _
          refine l_if_eq rfl rfl (by unfold rg; omega) (fun w316 => ?_) (fun w317 => ?_)
          · refine l_iconst rfl ?_
            refine l_ireturn rfl rfl ?_
            have w327 : Xi T10 876 8 = Xi T9 876 8 := (show Xi T10 876 8 = Xi T9 876 8 from w315.x _ _ rfl)
            have w328 : 0 ≤ Xi T9 876 8 ∧ Xi T9 876 8 ≤ 9 := hHT9.c _ _
            exact ⟨hHT10, hFT10, _, rfl, ⟨by omega, by omega⟩, (by first | (intro hz; omega) | (intro _; assumption) | (intro hz; apply_assumption; omega)), (by omega)⟩
          · refine l_iconst rfl ?_
            refine l_goto rfl rfl ?_
            refine l_ireturn rfl rfl ?_
            have w342 : Xi T10 876 8 = Xi T9 876 8 := (show Xi T10 876 8 = Xi T9 876 8 from w315.x _ _ rfl)
            have w343 : 0 ≤ Xi T9 876 8 ∧ Xi T9 876 8 ≤ 9 := hHT9.c _ _
            exact ⟨hHT10, hFT10, _, rfl, ⟨by omega, by omega⟩, (by first | (intro hz; omega) | (intro _; assumption) | (intro hz; apply_assumption; omega)), (by omega)⟩
    | 3, hii =>
      cases hii
      have w348 : (Xi S 890 2) = 3 := by simpa using w142
      have w349 : Xi U5 246 2 = Xi S 246 2 := (show Xi U5 246 2 = Xi S 246 2 from by rw [eU5]; exact Xi_ne (by omega))
      have w351 : Xi U5 246 5 = Xi S 246 5 := (show Xi U5 246 5 = Xi S 246 5 from by rw [eU5]; exact Xi_ne (by omega))
      have w353 : Xi U5 5 3 = Xi S 5 3 := (show Xi U5 5 3 = Xi S 5 3 from by rw [eU5]; exact Xi_ne (by omega))
      have w354 : 0 ≤ Xi S 5 3 ∧ Xi S 5 3 ≤ 24 := hH.c _ _
      have w355 : Xi U5 876 6 = Xi S 876 6 := (show Xi U5 876 6 = Xi S 876 6 from by rw [eU5]; exact Xi_ne (by omega))
      have w357 : Xi U5 876 7 = Xi S 876 7 := (show Xi U5 876 7 = Xi S 876 7 from by rw [eU5]; exact Xi_ne (by omega))
      have w359 : Xi U5 890 2 = Xi S 890 2 := (show Xi U5 890 2 = Xi S 890 2 from by rw [eU5]; exact Xi_ne (by omega))
      have w361 : Xi U5 895 4 = Xi S 895 4 := (show Xi U5 895 4 = Xi S 895 4 from by rw [eU5]; exact Xi_ne (by omega))
      have w362 : -1 ≤ Xi S 895 4 ∧ Xi S 895 4 ≤ 15 := hH.c _ _
      have w363 : Xi U5 899 6 = Xi S 899 6 := (show Xi U5 899 6 = Xi S 899 6 from by rw [eU5]; exact Xi_ne (by omega))
      have w364 : 0 ≤ Xi S 899 6 ∧ Xi S 899 6 ≤ 6 := hH.c _ _
      exact Rl_weak (C122 U5 hHU5 hFU5  (by first | exact W2 | (exfalso; omega)) (by first | assumption | exact (TOK_FR (FR_e eU5) rfl rfl rfl (by assumption : TOK S))) (by first | assumption | exact (SRX_FR hFU5 rfl (by assumption : SRX S))) (by first | (exfalso; omega) | (rw [show Xi U5 876 6 = Xi S 876 6 by omega]; exact SAY_fr x2 (p3 (by omega) (by omega)))) (by first | (exfalso; omega) | (rw [show Xi U5 876 6 = Xi S 876 6 by omega, x2]; exact p4 (by omega) (by omega))) (by omega) (by omega) (⟨by omega, by omega⟩) (by omega) (by omega)) (And.intro rfl (True.intro))
    | 4, hii =>
      cases hii
      have w365 : (Xi S 890 2) = 4 := by simpa using w142
      have w366 : Xi U5 246 2 = Xi S 246 2 := (show Xi U5 246 2 = Xi S 246 2 from by rw [eU5]; exact Xi_ne (by omega))
      have w368 : Xi U5 246 5 = Xi S 246 5 := (show Xi U5 246 5 = Xi S 246 5 from by rw [eU5]; exact Xi_ne (by omega))
      have w370 : Xi U5 5 3 = Xi S 5 3 := (show Xi U5 5 3 = Xi S 5 3 from by rw [eU5]; exact Xi_ne (by omega))
      have w371 : 0 ≤ Xi S 5 3 ∧ Xi S 5 3 ≤ 24 := hH.c _ _
      have w372 : Xi U5 876 6 = Xi S 876 6 := (show Xi U5 876 6 = Xi S 876 6 from by rw [eU5]; exact Xi_ne (by omega))
      have w374 : Xi U5 876 7 = Xi S 876 7 := (show Xi U5 876 7 = Xi S 876 7 from by rw [eU5]; exact Xi_ne (by omega))
      have w376 : Xi U5 890 2 = Xi S 890 2 := (show Xi U5 890 2 = Xi S 890 2 from by rw [eU5]; exact Xi_ne (by omega))
      have w378 : Xi U5 895 4 = Xi S 895 4 := (show Xi U5 895 4 = Xi S 895 4 from by rw [eU5]; exact Xi_ne (by omega))
      have w379 : -1 ≤ Xi S 895 4 ∧ Xi S 895 4 ≤ 15 := hH.c _ _
      have w380 : Xi U5 899 6 = Xi S 899 6 := (show Xi U5 899 6 = Xi S 899 6 from by rw [eU5]; exact Xi_ne (by omega))
      have w381 : 0 ≤ Xi S 899 6 ∧ Xi S 899 6 ≤ 6 := hH.c _ _
      exact Rl_weak (C122 U5 hHU5 hFU5  (by first | exact W2 | (exfalso; omega)) (by first | assumption | exact (TOK_FR (FR_e eU5) rfl rfl rfl (by assumption : TOK S))) (by first | assumption | exact (SRX_FR hFU5 rfl (by assumption : SRX S))) (by first | (exfalso; omega) | (rw [show Xi U5 876 6 = Xi S 876 6 by omega]; exact SAY_fr x2 (p3 (by omega) (by omega)))) (by first | (exfalso; omega) | (rw [show Xi U5 876 6 = Xi S 876 6 by omega, x2]; exact p4 (by omega) (by omega))) (by omega) (by omega) (⟨by omega, by omega⟩) (by omega) (by omega)) (And.intro rfl (True.intro))
    | 5, hii =>
      cases hii
      have w382 : (Xi S 890 2) = 5 := by simpa using w142
      have w383 : Xi U5 246 2 = Xi S 246 2 := (show Xi U5 246 2 = Xi S 246 2 from by rw [eU5]; exact Xi_ne (by omega))
      have w385 : Xi U5 246 5 = Xi S 246 5 := (show Xi U5 246 5 = Xi S 246 5 from by rw [eU5]; exact Xi_ne (by omega))
      have w387 : Xi U5 5 3 = Xi S 5 3 := (show Xi U5 5 3 = Xi S 5 3 from by rw [eU5]; exact Xi_ne (by omega))
      have w388 : 0 ≤ Xi S 5 3 ∧ Xi S 5 3 ≤ 24 := hH.c _ _
      have w389 : Xi U5 876 6 = Xi S 876 6 := (show Xi U5 876 6 = Xi S 876 6 from by rw [eU5]; exact Xi_ne (by omega))
      have w391 : Xi U5 876 7 = Xi S 876 7 := (show Xi U5 876 7 = Xi S 876 7 from by rw [eU5]; exact Xi_ne (by omega))
      have w393 : Xi U5 890 2 = Xi S 890 2 := (show Xi U5 890 2 = Xi S 890 2 from by rw [eU5]; exact Xi_ne (by omega))
      have w395 : Xi U5 895 4 = Xi S 895 4 := (show Xi U5 895 4 = Xi S 895 4 from by rw [eU5]; exact Xi_ne (by omega))
      have w396 : -1 ≤ Xi S 895 4 ∧ Xi S 895 4 ≤ 15 := hH.c _ _
      have w397 : Xi U5 899 6 = Xi S 899 6 := (show Xi U5 899 6 = Xi S 899 6 from by rw [eU5]; exact Xi_ne (by omega))
      have w398 : 0 ≤ Xi S 899 6 ∧ Xi S 899 6 ≤ 6 := hH.c _ _
      exact Rl_weak (C122 U5 hHU5 hFU5  (by first | exact W2 | (exfalso; omega)) (by first | assumption | exact (TOK_FR (FR_e eU5) rfl rfl rfl (by assumption : TOK S))) (by first | assumption | exact (SRX_FR hFU5 rfl (by assumption : SRX S))) (by first | (exfalso; omega) | (rw [show Xi U5 876 6 = Xi S 876 6 by omega]; exact SAY_fr x2 (p3 (by omega) (by omega)))) (by first | (exfalso; omega) | (rw [show Xi U5 876 6 = Xi S 876 6 by omega, x2]; exact p4 (by omega) (by omega))) (by omega) (by omega) (⟨by omega, by omega⟩) (by omega) (by omega)) (And.intro rfl (True.intro))
    | 6, hii =>
      cases hii
      have w399 : (Xi S 890 2) = 6 := by simpa using w142
      have w400 : Xi U5 246 2 = Xi S 246 2 := (show Xi U5 246 2 = Xi S 246 2 from by rw [eU5]; exact Xi_ne (by omega))
      have w402 : Xi U5 246 5 = Xi S 246 5 := (show Xi U5 246 5 = Xi S 246 5 from by rw [eU5]; exact Xi_ne (by omega))
      have w404 : Xi U5 5 3 = Xi S 5 3 := (show Xi U5 5 3 = Xi S 5 3 from by rw [eU5]; exact Xi_ne (by omega))
      have w405 : 0 ≤ Xi S 5 3 ∧ Xi S 5 3 ≤ 24 := hH.c _ _
      have w406 : Xi U5 876 6 = Xi S 876 6 := (show Xi U5 876 6 = Xi S 876 6 from by rw [eU5]; exact Xi_ne (by omega))
      have w408 : Xi U5 876 7 = Xi S 876 7 := (show Xi U5 876 7 = Xi S 876 7 from by rw [eU5]; exact Xi_ne (by omega))
      have w410 : Xi U5 890 2 = Xi S 890 2 := (show Xi U5 890 2 = Xi S 890 2 from by rw [eU5]; exact Xi_ne (by omega))
      have w412 : Xi U5 895 4 = Xi S 895 4 := (show Xi U5 895 4 = Xi S 895 4 from by rw [eU5]; exact Xi_ne (by omega))
      have w413 : -1 ≤ Xi S 895 4 ∧ Xi S 895 4 ≤ 15 := hH.c _ _
      have w414 : Xi U5 899 6 = Xi S 899 6 := (show Xi U5 899 6 = Xi S 899 6 from by rw [eU5]; exact Xi_ne (by omega))
      have w415 : 0 ≤ Xi S 899 6 ∧ Xi S 899 6 ≤ 6 := hH.c _ _
      exact Rl_weak (C122 U5 hHU5 hFU5  (by first | exact W2 | (exfalso; omega)) (by first | assumption | exact (TOK_FR (FR_e eU5) rfl rfl rfl (by assumption : TOK S))) (by first | assumption | exact (SRX_FR hFU5 rfl (by assumption : SRX S))) (by first | (exfalso; omega) | (rw [show Xi U5 876 6 = Xi S 876 6 by omega]; exact SAY_fr x2 (p3 (by omega) (by omega)))) (by first | (exfalso; omega) | (rw [show Xi U5 876 6 = Xi S 876 6 by omega, x2]; exact p4 (by omega) (by omega))) (by omega) (by omega) (⟨by omega, by omega⟩) (by omega) (by omega)) (And.intro rfl (True.intro))
    | 7, hii =>
      cases hii
      have w416 : (Xi S 890 2) = 7 := by simpa using w142
      refine l_aload_n rfl rfl ?_
      have w427 : 0 ≤ Xi U5 891 9 ∧ Xi U5 891 9 ≤ 24 := hHU5.c _ _
      refine l_callV rfl rfl rfl (t_re_tellVerb hHU5 (by first | assumption | exact (WI_FR hH (FR_e eU5) rfl rfl rfl rfl rfl rfl rfl rfl rfl (by assumption : WI S))) (by first | assumption | omega) _) ?_
      rintro _ T11 ⟨hHT11, w435, z434, rfl, w434, w432, w433⟩
      have hFT11 : FR md_re_beginSentence S T11 := FR.tr hFU5 w435 rfl
      show Rl _ _ _ _ _ [iv z434] _ _
      refine l_ireturn rfl (retI_z (by omega)) ?_
      have w445 : 0 ≤ Xi T11 876 8 ∧ Xi T11 876 8 ≤ 9 := hHT11.c _ _
      exact ⟨hHT11, hFT11, _, rfl, ⟨by omega, by omega⟩, (by first | (intro hz; omega) | (intro _; assumption) | (intro hz; apply_assumption; omega)), (by omega)⟩
    | 8, hii =>
      cases hii
      have w450 : (Xi S 890 2) = 8 := by simpa using w142
      refine l_aload_n rfl rfl ?_
      have w461 : 0 ≤ Xi U5 891 9 ∧ Xi U5 891 9 ≤ 24 := hHU5.c _ _
      refine l_callV rfl rfl rfl (t_re_tellPlural hHU5 (by first | assumption | exact (WI_FR hH (FR_e eU5) rfl rfl rfl rfl rfl rfl rfl rfl rfl (by assumption : WI S))) (by first | assumption | omega) _) ?_
      rintro _ T12 ⟨hHT12, w469, z468, rfl, w468, w466, w467⟩
      have hFT12 : FR md_re_beginSentence S T12 := FR.tr hFU5 w469 rfl
      show Rl _ _ _ _ _ [iv z468] _ _
      refine l_ireturn rfl (retI_z (by omega)) ?_
      have w480 : 0 ≤ Xi T12 876 8 ∧ Xi T12 876 8 ≤ 9 := hHT12.c _ _
      exact ⟨hHT12, hFT12, _, rfl, ⟨by omega, by omega⟩, (by first | (intro hz; omega) | (intro _; assumption) | (intro hz; apply_assumption; omega)), (by omega)⟩
    | n + 9, hii => exact absurd hii (by simp)
/-! SAFETY of methods: printed by wip/safe (vc.py, decl.py) -/
def md_to_open : List rec := [(876, 877, 4, 5), (876, 877, 5, 6), (876, 877, 8, 9), (876, 877, 9, 10)]
abbrev Q_to_open (S : sS) (b : Nat) (n : Int) : pst := fun r S1 => HI S1 ∧ FR md_to_open S S1 ∧ (r = none ∧ (S1.2.2 876 4 = some b) ∧ (Xi S1 876 5 = n ∧ Xi S1 876 8 = 0))
set_option maxRecDepth 100000 in
theorem t_to_open {S : sS} (hH : HI S) (b : Nat) (n : Int) (hb : tp b) (hn : 0 ≤ n ∧ n ≤ 5000) (d : Nat) : Mt lay0 (d + 1) m_to_open [.ref 876, .ref b, iv n] S (Q_to_open S b n) := by
  refine Mt_R rfl rfl ?_
  have hF : FR md_to_open S S := FR.rf
  refine l_aload_n rfl rfl ?_
  refine l_aload_n rfl rfl ?_
  refine l_pfr rfl rfl rfl rfl ?_
  obtain ⟨U1, eU1⟩ : ∃ T : sS, T = uR S 876 4 (some b) := ⟨_, rfl⟩
  rw [← eU1]
  have hHU1 : HI U1 := by rw [eU1]; exact HI_R hH rfl rfl (fun q => absurd q.1 (by decide)) (fun q => absurd q.1 (by decide)) (fun q => absurd q.1 (by decide)) (fun _ => ⟨_, rfl, by first | assumption | (right; assumption) | omega⟩) (fun q => absurd q.1 (by decide))
  have hFU1 : FR md_to_open S U1 := by rw [eU1]; exact FR.wR hF (mdf_i (r := (876, 877, 4, 5)) (List.mem_of_getElem? (i := 0) rfl) (inR_i (by omega) (by omega) (by omega) (by omega)))
  refine l_aload_n rfl rfl ?_
  refine l_iload_n rfl rfl ?_
  refine l_pfi rfl rfl rfl rfl ?_
  obtain ⟨U2, eU2⟩ : ∃ T : sS, T = uI U1 876 5 (Int32.ofInt n) := ⟨_, rfl⟩
  rw [← eU2]
  have hHU2 : HI U2 := by rw [eU2]; exact HI_w hHU1 (show 0 ≤ n by omega) (show n ≤ 5000 by omega)
  have hFU2 : FR md_to_open S U2 := by rw [eU2]; exact FR.wI hFU1 (mdf_i (r := (876, 877, 5, 6)) (List.mem_of_getElem? (i := 1) rfl) (inR_i (by omega) (by omega) (by omega) (by omega)))
  have w1 : Xi U2 876 5 = n := by rw [eU2]; exact Xi_same (by unfold rg; omega)
  refine l_aload_n rfl rfl ?_
  refine l_iconst rfl ?_
  refine l_pfi rfl rfl rfl rfl ?_
  obtain ⟨U3, eU3⟩ : ∃ T : sS, T = uI U2 876 8 (Int32.ofInt 0) := ⟨_, rfl⟩
  rw [← eU3]
  have hHU3 : HI U3 := by rw [eU3]; exact HI_w hHU2 (show 0 ≤ 0 by omega) (show 0 ≤ 9 by omega)
  have hFU3 : FR md_to_open S U3 := by rw [eU3]; exact FR.wI hFU2 (mdf_i (r := (876, 877, 8, 9)) (List.mem_of_getElem? (i := 2) rfl) (inR_i (by omega) (by omega) (by omega) (by omega)))
  have w2 : Xi U3 876 8 = 0 := by rw [eU3]; exact Xi_same (by unfold rg; omega)
  refine l_aload_n rfl rfl ?_
  refine l_iconst rfl ?_
  refine l_pfi rfl rfl rfl rfl ?_
  obtain ⟨U4, eU4⟩ : ∃ T : sS, T = uI U3 876 9 (Int32.ofInt 0) := ⟨_, rfl⟩
  rw [← eU4]
  have hHU4 : HI U4 := by rw [eU4]; exact HI_w hHU3 (show 0 ≤ 0 by omega) (show 0 ≤ 5000 by omega)
  have hFU4 : FR md_to_open S U4 := by rw [eU4]; exact FR.wI hFU3 (mdf_i (r := (876, 877, 9, 10)) (List.mem_of_getElem? (i := 3) rfl) (inR_i (by omega) (by omega) (by omega) (by omega)))
  have w3 : Xi U4 876 9 = 0 := by rw [eU4]; exact Xi_same (by unfold rg; omega)
  refine l_return rfl rfl ?_
  have w4 : Xi U4 876 5 = Xi U2 876 5 := (show Xi U4 876 5 = Xi U3 876 5 from by rw [eU4]; exact Xi_ne (by omega)).trans ((show Xi U3 876 5 = Xi U2 876 5 from by rw [eU3]; exact Xi_ne (by omega)))
  have w5 : 0 ≤ Xi U2 876 5 ∧ Xi U2 876 5 ≤ 5000 := hHU2.c _ _
  have w6 : Xi U4 876 8 = Xi U3 876 8 := (show Xi U4 876 8 = Xi U3 876 8 from by rw [eU4]; exact Xi_ne (by omega))
  have w7 : 0 ≤ Xi U3 876 8 ∧ Xi U3 876 8 ≤ 9 := hHU3.c _ _
  exact ⟨hHU4, hFU4, rfl, (by rw [eU4, eU3, eU2, eU1]; show (uR S 876 4 (some b)).2.2 876 4 = some b; exact uR_s), (by omega)⟩
/-! SAFETY: read -/
theorem srx_of {S : sS} {t : Nat} (h : S.2.2 20 1 = some t) (ht : tp t) : SRX S ∧ txr S = t := by
  have e : txr S = t := by unfold txr; rw [h]; rfl
  exact ⟨⟨by rw [e]; exact h, by rw [e]; exact ht⟩, e⟩
theorem dot_end {S : sS} {n G m : Int} (h1 : 1 ≤ n) (hn : ND S (n - 1)) (h : SAY S G ∧ 1 ≤ G ∧ G ≤ n ∧ Xi S 877 (G - 1).toNat = 103) (hm : m = n) : SAY S m ∧ Xi S 877 (m - 1).toNat = 103 := by
  obtain ⟨a, b, c, e⟩ := h
  have g : G = n := by
    by_cases q : G - 1 < n - 1
    · exact absurd e (hn (G - 1).toNat (by omega))
    · omega
  rw [hm, ← g]
  exact ⟨a, e⟩
/-- other texts: before a rule is told -/
theorem TXT_r {S U : sS} {t : Nat} {v n : Int} (e : U = uR S 20 1 (some t)) (ht : tp t) (h : TXT S v n) : TXT U v n := h.elim Or.inl (fun q => Or.inr ⟨q.1, q.2.1, (srx_of (S := U) (t := t) (by rw [e]; exact uR_s) ht).1⟩)
theorem WI_tx {S U : sS} {t : Nat} (e : U = uR S 20 1 (some t)) (ht : tp t) (hr : Xi S 246 2 = 0) (hW : WI S) : WI U := by
  obtain ⟨w1, w2, w3, w4, w5, w6, w7, w8⟩ := hW
  have x : ∀ k j, Xi U k j = Xi S k j := fun k j => by rw [e]; rfl
  have f := FR_R e
  refine ⟨LEX_FR f rfl rfl w1, fun r p h1 h2 h3 => ?_, fun a h1 h2 => ?_, fun i hi => ?_, CMD_FR f rfl w5, AK_FR f rfl w6, ?_, VAL_fr f rfl (x 5 4) w8⟩
  · rw [x] at h3
    rw [x, x]
    exact TXT_r e ht (w2 r p h1 h2 h3)
  · rw [x] at h1 h2
    simp only [x]
    obtain ⟨b, c⟩ := w3 a h1 h2
    refine ⟨b, fun i hi => ?_⟩
    obtain ⟨⟨k0, k1, k2, k3, k4, k5, k6, k7⟩, k8⟩ := c i hi
    unfold TSok CLok
    simp only [x]
    exact ⟨⟨k0, fun q => ⟨(k1 q).1, TXT_r e ht (k1 q).2⟩, k2, k3, k4, fun q => by omega, k6, k7⟩, k8⟩
  · rw [x] at hi
    omega
  · unfold CC
    simp only [x]
    exact w7

