/-! SAFETY of methods: printed by wip/safe (vc.py, decl.py) -/
def md_gr_check : List rec := [(890, 891, 1, 2), (890, 891, 2, 3), (890, 891, 3, 4)]
abbrev Q_gr_check (S : sS) : pst := fun r S1 => HI S1 ∧ FR md_gr_check S S1 ∧ (∃ z : Int, r = some (iv z) ∧ (0 ≤ z ∧ z ≤ 1) ∧ (z = 1 → Xi S1 890 2 = 0 → Xi S 877 (0 : Int).toNat = 102) ∧ (z = 1 → Xi S1 890 2 = 1 → Xi S 877 (1 : Int).toNat = 102) ∧ (z = 1 → 3 ≤ Xi S1 890 2 → Xi S1 890 2 ≤ 6 → SAY S1 (Xi S1 890 1) ∧ 1 ≤ Xi S1 890 1 ∧ Xi S1 890 1 ≤ Xi S 876 7 ∧ Xi S1 877 (Xi S1 890 1 - 1).toNat = 103))
set_option maxRecDepth 100000 in
theorem t_gr_check {S : sS} (hH : HI S) (d : Nat) : Mt lay0 (d + 7) m_gr_check [.ref 890] S (Q_gr_check S) := by
  refine Mt_R rfl rfl ?_
  have hF : FR md_gr_check S S := FR.rf
  have w1 : 0 ≤ Xi S 876 7 ∧ Xi S 876 7 ≤ 5125 := hH.c _ _
  refine l_aload_n rfl rfl ?_
  refine l_iconst rfl ?_
  refine l_pfi rfl rfl rfl rfl ?_
  obtain ⟨U1, eU1⟩ : ∃ T : sS, T = uI S 890 1 (Int32.ofInt 1) := ⟨_, rfl⟩
  rw [← eU1]
  have hHU1 : HI U1 := by rw [eU1]; exact HI_w hH (show 0 ≤ 1 by omega) (show 1 ≤ 5126 by omega)
  have hFU1 : FR md_gr_check S U1 := by rw [eU1]; exact FR.wI hF (mdf_i (r := (890, 891, 1, 2)) (List.mem_of_getElem? (i := 0) rfl) (inR_i (by omega) (by omega) (by omega) (by omega)))
  have w2 : Xi U1 890 1 = 1 := by rw [eU1]; exact Xi_same (by unfold rg; omega)
  refine l_aload_n rfl rfl ?_
  refine l_gfr rfl rfl rfl rfl rfl (hHU1.r 890 0 876 rfl) ?_
  refine l_iconst rfl ?_
  have w3 : Xi U1 876 7 = Xi S 876 7 := (show Xi U1 876 7 = Xi S 876 7 from by rw [eU1]; exact Xi_ne (by omega))
  have w4 : 0 ≤ Xi S 876 7 ∧ Xi S 876 7 ≤ 5125 := hH.c _ _
  refine l_callV rfl rfl rfl (t_to_typeAt hHU1 0 ⟨by omega, by omega⟩ _) ?_
  rintro _ _ ⟨rfl, z6, rfl, w6, w5⟩
  show Rl _ _ _ _ _ [iv z6] _ _
  refine l_lsw rfl rfl (by unfold rg; omega) ?_
  refine And.intro (fun w7 => ⟨_, rfl, ?_⟩) (fun w8 => ?_)
  · refine l_aload_n rfl rfl ?_
    refine l_iconst rfl ?_
    refine l_pfi rfl rfl rfl rfl ?_
    obtain ⟨U2, eU2⟩ : ∃ T : sS, T = uI U1 890 2 (Int32.ofInt 1) := ⟨_, rfl⟩
    rw [← eU2]
    have hHU2 : HI U2 := by rw [eU2]; exact HI_w hHU1 (show 0 ≤ 1 by omega) (show 1 ≤ 20 by omega)
    have hFU2 : FR md_gr_check S U2 := by rw [eU2]; exact FR.wI hFU1 (mdf_i (r := (890, 891, 2, 3)) (List.mem_of_getElem? (i := 1) rfl) (inR_i (by omega) (by omega) (by omega) (by omega)))
    have w9 : Xi U2 890 2 = 1 := by rw [eU2]; exact Xi_same (by unfold rg; omega)
    obtain ⟨hv1, hs0⟩ := SAY_v1s eU1 eU2 (by omega)
    refine l_aload_n rfl rfl ?_
    refine l_bipush rfl rfl ?_
    have w10 : Xi U2 876 7 = Xi S 876 7 := (show Xi U2 876 7 = Xi U1 876 7 from by rw [eU2]; exact Xi_ne (by omega)).trans ((show Xi U1 876 7 = Xi S 876 7 from by rw [eU1]; exact Xi_ne (by omega)))
    have w11 : 0 ≤ Xi S 876 7 ∧ Xi S 876 7 ≤ 5125 := hH.c _ _
    have w12 : Xi U2 890 1 = Xi U1 890 1 := (show Xi U2 890 1 = Xi U1 890 1 from by rw [eU2]; exact Xi_ne (by omega))
    have w13 : 0 ≤ Xi U1 890 1 ∧ Xi U1 890 1 ≤ 5126 := hHU1.c _ _
    refine l_callV rfl rfl rfl (t_gr_take hHU2 102 ⟨by omega, by omega⟩ (by first | assumption | omega) (by first | assumption | (apply_assumption; omega)) (by first | assumption | omega) _) ?_
    rintro _ T3 ⟨hHT3, w19, z18, rfl, w18, w14, w15, w16, w17⟩
    have hFT3 : FR md_gr_check S T3 := FR.tr hFU2 w19 rfl
    show Rl _ _ _ _ _ [iv z18] _ _
    have h95 : z18 = 1 → Xi S 877 (1 : Int).toNat = 102 := fun hz => tk102 (U := U2) (m877 hFU2 rfl) (by omega) (by omega)
    refine l_if_eq rfl rfl (by unfold rg; omega) (fun w20 => ?_) (fun w21 => ?_)
    · refine l_iconst rfl ?_
      refine l_ireturn rfl rfl ?_
      have w22 : 0 ≤ Xi T3 890 1 ∧ Xi T3 890 1 ≤ 5126 := hHT3.c _ _
      have w23 : Xi T3 890 2 = Xi U2 890 2 := (show Xi T3 890 2 = Xi U2 890 2 from w19.x _ _ rfl)
      have w24 : 0 ≤ Xi U2 890 2 ∧ Xi U2 890 2 ≤ 20 := hHU2.c _ _
      exact ⟨hHT3, hFT3, _, rfl, ⟨by omega, by omega⟩, (by omega), (by omega), (by first | (intro a b c; exact absurd a (by omega)) | (intro a b c; exact absurd b (by omega)) | (intro a b c; exact absurd c (by omega)) | (intro a b c; exact ⟨by assumption, by omega, by omega, tk103 (P := U2) (m877 hFT3 rfl) (m877 hFU2 rfl) (by omega) (by omega)⟩))⟩
    · refine l_aload_n rfl rfl ?_
      refine l_bipush rfl rfl ?_
      have w25 : Xi T3 876 7 = Xi S 876 7 := (show Xi T3 876 7 = Xi U2 876 7 from w19.x _ _ rfl).trans ( (show Xi U2 876 7 = Xi U1 876 7 from by rw [eU2]; exact Xi_ne (by omega)).trans ((show Xi U1 876 7 = Xi S 876 7 from by rw [eU1]; exact Xi_ne (by omega))))
      have w26 : 0 ≤ Xi S 876 7 ∧ Xi S 876 7 ≤ 5125 := hH.c _ _
      have w27 : 0 ≤ Xi T3 890 1 ∧ Xi T3 890 1 ≤ 5126 := hHT3.c _ _
      refine l_callV rfl rfl rfl (t_gr_take hHT3 34 ⟨by omega, by omega⟩ (by first | assumption | omega) (by first | assumption | (apply_assumption; omega)) (by first | assumption | omega) _) ?_
      rintro _ T4 ⟨hHT4, w33, z32, rfl, w32, w28, w29, w30, w31⟩
      have hFT4 : FR md_gr_check S T4 := FR.tr hFT3 w33 rfl
      show Rl _ _ _ _ _ [iv z32] _ _
      refine l_if_eq rfl rfl (by unfold rg; omega) (fun w34 => ?_) (fun w35 => ?_)
      · refine l_iconst rfl ?_
        refine l_ireturn rfl rfl ?_
        have w36 : 0 ≤ Xi T4 890 1 ∧ Xi T4 890 1 ≤ 5126 := hHT4.c _ _
        have w37 : Xi T4 890 2 = Xi U2 890 2 := (show Xi T4 890 2 = Xi T3 890 2 from w33.x _ _ rfl).trans ((show Xi T3 890 2 = Xi U2 890 2 from w19.x _ _ rfl))
        have w38 : 0 ≤ Xi U2 890 2 ∧ Xi U2 890 2 ≤ 20 := hHU2.c _ _
        exact ⟨hHT4, hFT4, _, rfl, ⟨by omega, by omega⟩, (by omega), (by omega), (by first | (intro a b c; exact absurd a (by omega)) | (intro a b c; exact absurd b (by omega)) | (intro a b c; exact absurd c (by omega)) | (intro a b c; exact ⟨by assumption, by omega, by omega, tk103 (P := T3) (m877 hFT4 rfl) (m877 hFT3 rfl) (by omega) (by omega)⟩))⟩
      · refine l_aload_n rfl rfl ?_
        have w39 : Xi T4 876 7 = Xi S 876 7 := (show Xi T4 876 7 = Xi T3 876 7 from w33.x _ _ rfl).trans ( (show Xi T3 876 7 = Xi U2 876 7 from w19.x _ _ rfl).trans ( (show Xi U2 876 7 = Xi U1 876 7 from by rw [eU2]; exact Xi_ne (by omega)).trans ((show Xi U1 876 7 = Xi S 876 7 from by rw [eU1]; exact Xi_ne (by omega)))))
        have w40 : 0 ≤ Xi S 876 7 ∧ Xi S 876 7 ≤ 5125 := hH.c _ _
        have w41 : 0 ≤ Xi T4 890 1 ∧ Xi T4 890 1 ≤ 5126 := hHT4.c _ _
        refine l_callV rfl rfl rfl (t_gr_takeRun hHT4 (by first | assumption | omega) (by first | assumption | (apply_assumption; omega)) _) ?_
        rintro _ T5 ⟨hHT5, w46, z45, rfl, w45, w42, w43, w44⟩
        have hFT5 : FR md_gr_check S T5 := FR.tr hFT4 w46 rfl
        show Rl _ _ _ _ _ [iv z45] _ _
        refine l_if_eq rfl rfl (by unfold rg; omega) (fun w47 => ?_) (fun w48 => ?_)
        · refine l_iconst rfl ?_
          refine l_ireturn rfl rfl ?_
          have w49 : 0 ≤ Xi T5 890 1 ∧ Xi T5 890 1 ≤ 5126 := hHT5.c _ _
          have w50 : Xi T5 890 2 = Xi U2 890 2 := (show Xi T5 890 2 = Xi T4 890 2 from w46.x _ _ rfl).trans ( (show Xi T4 890 2 = Xi T3 890 2 from w33.x _ _ rfl).trans ((show Xi T3 890 2 = Xi U2 890 2 from w19.x _ _ rfl)))
          have w51 : 0 ≤ Xi U2 890 2 ∧ Xi U2 890 2 ≤ 20 := hHU2.c _ _
          exact ⟨hHT5, hFT5, _, rfl, ⟨by omega, by omega⟩, (by omega), (by omega), (by first | (intro a b c; exact absurd a (by omega)) | (intro a b c; exact absurd b (by omega)) | (intro a b c; exact absurd c (by omega)) | (intro a b c; exact ⟨by assumption, by omega, by omega, tk103 (P := T4) (m877 hFT5 rfl) (m877 hFT4 rfl) (by omega) (by omega)⟩))⟩
        · refine l_aload_n rfl rfl ?_
          refine l_bipush rfl rfl ?_
          have w52 : Xi T5 876 7 = Xi S 876 7 := (show Xi T5 876 7 = Xi T4 876 7 from w46.x _ _ rfl).trans ( (show Xi T4 876 7 = Xi T3 876 7 from w33.x _ _ rfl).trans ( (show Xi T3 876 7 = Xi U2 876 7 from w19.x _ _ rfl).trans ( (show Xi U2 876 7 = Xi U1 876 7 from by rw [eU2]; exact Xi_ne (by omega)).trans ((show Xi U1 876 7 = Xi S 876 7 from by rw [eU1]; exact Xi_ne (by omega))))))
          have w53 : 0 ≤ Xi S 876 7 ∧ Xi S 876 7 ≤ 5125 := hH.c _ _
          have w54 : 0 ≤ Xi T5 890 1 ∧ Xi T5 890 1 ≤ 5126 := hHT5.c _ _
          refine l_callV rfl rfl rfl (t_gr_take hHT5 103 ⟨by omega, by omega⟩ (by first | assumption | omega) (by first | assumption | (apply_assumption; omega)) (by first | assumption | omega) _) ?_
          rintro _ T6 ⟨hHT6, w60, z59, rfl, w59, w55, w56, w57, w58⟩
          have hFT6 : FR md_gr_check S T6 := FR.tr hFT5 w60 rfl
          show Rl _ _ _ _ _ [iv z59] _ _
          refine l_if_eq rfl rfl (by unfold rg; omega) (fun w61 => ?_) (fun w62 => ?_)
          · refine l_iconst rfl ?_
            refine l_ireturn rfl rfl ?_
            have w63 : 0 ≤ Xi T6 890 1 ∧ Xi T6 890 1 ≤ 5126 := hHT6.c _ _
            have w64 : Xi T6 890 2 = Xi U2 890 2 := (show Xi T6 890 2 = Xi T5 890 2 from w60.x _ _ rfl).trans ( (show Xi T5 890 2 = Xi T4 890 2 from w46.x _ _ rfl).trans ( (show Xi T4 890 2 = Xi T3 890 2 from w33.x _ _ rfl).trans ((show Xi T3 890 2 = Xi U2 890 2 from w19.x _ _ rfl))))
            have w65 : 0 ≤ Xi U2 890 2 ∧ Xi U2 890 2 ≤ 20 := hHU2.c _ _
            exact ⟨hHT6, hFT6, _, rfl, ⟨by omega, by omega⟩, (by omega), (by omega), (by first | (intro a b c; exact absurd a (by omega)) | (intro a b c; exact absurd b (by omega)) | (intro a b c; exact absurd c (by omega)) | (intro a b c; exact ⟨by assumption, by omega, by omega, tk103 (P := T5) (m877 hFT6 rfl) (m877 hFT5 rfl) (by omega) (by omega)⟩))⟩
          · refine l_iconst rfl ?_
            refine l_goto rfl rfl ?_
            refine l_ireturn rfl rfl ?_
            have w66 : 0 ≤ Xi T6 890 1 ∧ Xi T6 890 1 ≤ 5126 := hHT6.c _ _
            have w67 : Xi T6 890 2 = Xi U2 890 2 := (show Xi T6 890 2 = Xi T5 890 2 from w60.x _ _ rfl).trans ( (show Xi T5 890 2 = Xi T4 890 2 from w46.x _ _ rfl).trans ( (show Xi T4 890 2 = Xi T3 890 2 from w33.x _ _ rfl).trans ((show Xi T3 890 2 = Xi U2 890 2 from w19.x _ _ rfl))))
            have w68 : 0 ≤ Xi U2 890 2 ∧ Xi U2 890 2 ≤ 20 := hHU2.c _ _
            exact ⟨hHT6, hFT6, _, rfl, ⟨by omega, by omega⟩, (by omega), (by omega), (by first | (intro a b c; exact absurd a (by omega)) | (intro a b c; exact absurd b (by omega)) | (intro a b c; exact absurd c (by omega)) | (intro a b c; exact ⟨by assumption, by omega, by omega, tk103 (P := T5) (m877 hFT6 rfl) (m877 hFT5 rfl) (by omega) (by omega)⟩))⟩
  refine And.intro (fun w69 => ⟨_, rfl, ?_⟩) (fun w70 => ?_)
  · refine l_aload_n rfl rfl ?_
    refine l_iconst rfl ?_
    refine l_pfi rfl rfl rfl rfl ?_
    obtain ⟨U7, eU7⟩ : ∃ T : sS, T = uI U1 890 2 (Int32.ofInt 2) := ⟨_, rfl⟩
    rw [← eU7]
    have hHU7 : HI U7 := by rw [eU7]; exact HI_w hHU1 (show 0 ≤ 2 by omega) (show 2 ≤ 20 by omega)
    have hFU7 : FR md_gr_check S U7 := by rw [eU7]; exact FR.wI hFU1 (mdf_i (r := (890, 891, 2, 3)) (List.mem_of_getElem? (i := 1) rfl) (inR_i (by omega) (by omega) (by omega) (by omega)))
    have w71 : Xi U7 890 2 = 2 := by rw [eU7]; exact Xi_same (by unfold rg; omega)
    obtain ⟨hv1, hs0⟩ := SAY_v1s eU1 eU7 (by omega)
    refine l_aload_n rfl rfl ?_
    refine l_bipush rfl rfl ?_
    have w72 : Xi U7 876 7 = Xi S 876 7 := (show Xi U7 876 7 = Xi U1 876 7 from by rw [eU7]; exact Xi_ne (by omega)).trans ((show Xi U1 876 7 = Xi S 876 7 from by rw [eU1]; exact Xi_ne (by omega)))
    have w73 : 0 ≤ Xi S 876 7 ∧ Xi S 876 7 ≤ 5125 := hH.c _ _
    have w74 : Xi U7 890 1 = Xi U1 890 1 := (show Xi U7 890 1 = Xi U1 890 1 from by rw [eU7]; exact Xi_ne (by omega))
    have w75 : 0 ≤ Xi U1 890 1 ∧ Xi U1 890 1 ≤ 5126 := hHU1.c _ _
    refine l_callV rfl rfl rfl (t_gr_take hHU7 106 ⟨by omega, by omega⟩ (by first | assumption | omega) (by first | assumption | (apply_assumption; omega)) (by first | assumption | omega) _) ?_
    rintro _ T8 ⟨hHT8, w81, z80, rfl, w80, w76, w77, w78, w79⟩
    have hFT8 : FR md_gr_check S T8 := FR.tr hFU7 w81 rfl
    show Rl _ _ _ _ _ [iv z80] _ _
    refine l_if_eq rfl rfl (by unfold rg; omega) (fun w82 => ?_) (fun w83 => ?_)
    · refine l_iconst rfl ?_
      refine l_ireturn rfl rfl ?_
      have w84 : 0 ≤ Xi T8 890 1 ∧ Xi T8 890 1 ≤ 5126 := hHT8.c _ _
      have w85 : Xi T8 890 2 = Xi U7 890 2 := (show Xi T8 890 2 = Xi U7 890 2 from w81.x _ _ rfl)
      have w86 : 0 ≤ Xi U7 890 2 ∧ Xi U7 890 2 ≤ 20 := hHU7.c _ _
      exact ⟨hHT8, hFT8, _, rfl, ⟨by omega, by omega⟩, (by omega), (by omega), (by first | (intro a b c; exact absurd a (by omega)) | (intro a b c; exact absurd b (by omega)) | (intro a b c; exact absurd c (by omega)) | (intro a b c; exact ⟨by assumption, by omega, by omega, tk103 (P := U7) (m877 hFT8 rfl) (m877 hFU7 rfl) (by omega) (by omega)⟩))⟩
    · refine l_aload_n rfl rfl ?_
      have w87 : Xi T8 876 7 = Xi S 876 7 := (show Xi T8 876 7 = Xi U7 876 7 from w81.x _ _ rfl).trans ( (show Xi U7 876 7 = Xi U1 876 7 from by rw [eU7]; exact Xi_ne (by omega)).trans ((show Xi U1 876 7 = Xi S 876 7 from by rw [eU1]; exact Xi_ne (by omega))))
      have w88 : 0 ≤ Xi S 876 7 ∧ Xi S 876 7 ≤ 5125 := hH.c _ _
      have w89 : 0 ≤ Xi T8 890 1 ∧ Xi T8 890 1 ≤ 5126 := hHT8.c _ _
      refine l_callV rfl rfl rfl (t_gr_takeArt hHT8 (by first | assumption | omega) (by first | assumption | (apply_assumption; omega)) _) ?_
      rintro _ T9 ⟨hHT9, w94, z93, rfl, w93, w90, w91, w92⟩
      have hFT9 : FR md_gr_check S T9 := FR.tr hFT8 w94 rfl
      show Rl _ _ _ _ _ [iv z93] _ _
      refine l_if_eq rfl rfl (by unfold rg; omega) (fun w95 => ?_) (fun w96 => ?_)
      · refine l_iconst rfl ?_
        refine l_ireturn rfl rfl ?_
        have w97 : 0 ≤ Xi T9 890 1 ∧ Xi T9 890 1 ≤ 5126 := hHT9.c _ _
        have w98 : Xi T9 890 2 = Xi U7 890 2 := (show Xi T9 890 2 = Xi T8 890 2 from w94.x _ _ rfl).trans ((show Xi T8 890 2 = Xi U7 890 2 from w81.x _ _ rfl))
        have w99 : 0 ≤ Xi U7 890 2 ∧ Xi U7 890 2 ≤ 20 := hHU7.c _ _
        exact ⟨hHT9, hFT9, _, rfl, ⟨by omega, by omega⟩, (by omega), (by omega), (by first | (intro a b c; exact absurd a (by omega)) | (intro a b c; exact absurd b (by omega)) | (intro a b c; exact absurd c (by omega)) | (intro a b c; exact ⟨by assumption, by omega, by omega, tk103 (P := T8) (m877 hFT9 rfl) (m877 hFT8 rfl) (by omega) (by omega)⟩))⟩
      · refine l_aload_n rfl rfl ?_
        have w100 : Xi T9 876 7 = Xi S 876 7 := (show Xi T9 876 7 = Xi T8 876 7 from w94.x _ _ rfl).trans ( (show Xi T8 876 7 = Xi U7 876 7 from w81.x _ _ rfl).trans ( (show Xi U7 876 7 = Xi U1 876 7 from by rw [eU7]; exact Xi_ne (by omega)).trans ((show Xi U1 876 7 = Xi S 876 7 from by rw [eU1]; exact Xi_ne (by omega)))))
        have w101 : 0 ≤ Xi S 876 7 ∧ Xi S 876 7 ≤ 5125 := hH.c _ _
        have w102 : 0 ≤ Xi T9 890 1 ∧ Xi T9 890 1 ≤ 5126 := hHT9.c _ _
        refine l_callV rfl rfl rfl (t_gr_takeRun hHT9 (by first | assumption | omega) (by first | assumption | (apply_assumption; omega)) _) ?_
        rintro _ T10 ⟨hHT10, w107, z106, rfl, w106, w103, w104, w105⟩
        have hFT10 : FR md_gr_check S T10 := FR.tr hFT9 w107 rfl
        show Rl _ _ _ _ _ [iv z106] _ _
        refine l_if_eq rfl rfl (by unfold rg; omega) (fun w108 => ?_) (fun w109 => ?_)
        · refine l_iconst rfl ?_
          refine l_ireturn rfl rfl ?_
          have w110 : 0 ≤ Xi T10 890 1 ∧ Xi T10 890 1 ≤ 5126 := hHT10.c _ _
          have w111 : Xi T10 890 2 = Xi U7 890 2 := (show Xi T10 890 2 = Xi T9 890 2 from w107.x _ _ rfl).trans ( (show Xi T9 890 2 = Xi T8 890 2 from w94.x _ _ rfl).trans ((show Xi T8 890 2 = Xi U7 890 2 from w81.x _ _ rfl)))
          have w112 : 0 ≤ Xi U7 890 2 ∧ Xi U7 890 2 ≤ 20 := hHU7.c _ _
          exact ⟨hHT10, hFT10, _, rfl, ⟨by omega, by omega⟩, (by omega), (by omega), (by first | (intro a b c; exact absurd a (by omega)) | (intro a b c; exact absurd b (by omega)) | (intro a b c; exact absurd c (by omega)) | (intro a b c; exact ⟨by assumption, by omega, by omega, tk103 (P := T9) (m877 hFT10 rfl) (m877 hFT9 rfl) (by omega) (by omega)⟩))⟩
        · refine l_aload_n rfl rfl ?_
          refine l_iconst rfl ?_
          have w113 : Xi T10 876 7 = Xi S 876 7 := (show Xi T10 876 7 = Xi T9 876 7 from w107.x _ _ rfl).trans ( (show Xi T9 876 7 = Xi T8 876 7 from w94.x _ _ rfl).trans ( (show Xi T8 876 7 = Xi U7 876 7 from w81.x _ _ rfl).trans ( (show Xi U7 876 7 = Xi U1 876 7 from by rw [eU7]; exact Xi_ne (by omega)).trans ((show Xi U1 876 7 = Xi S 876 7 from by rw [eU1]; exact Xi_ne (by omega))))))
          have w114 : 0 ≤ Xi S 876 7 ∧ Xi S 876 7 ≤ 5125 := hH.c _ _
          have w115 : 0 ≤ Xi T10 890 1 ∧ Xi T10 890 1 ≤ 5126 := hHT10.c _ _
          refine l_callV rfl rfl rfl (t_gr_take hHT10 4 ⟨by omega, by omega⟩ (by first | assumption | omega) (by first | assumption | (apply_assumption; omega)) (by first | assumption | omega) _) ?_
          rintro _ T11 ⟨hHT11, w121, z120, rfl, w120, w116, w117, w118, w119⟩
          have hFT11 : FR md_gr_check S T11 := FR.tr hFT10 w121 rfl
          show Rl _ _ _ _ _ [iv z120] _ _
          refine l_if_eq rfl rfl (by unfold rg; omega) (fun w122 => ?_) (fun w123 => ?_)
          · refine l_iconst rfl ?_
            refine l_ireturn rfl rfl ?_
            have w124 : 0 ≤ Xi T11 890 1 ∧ Xi T11 890 1 ≤ 5126 := hHT11.c _ _
            have w125 : Xi T11 890 2 = Xi U7 890 2 := (show Xi T11 890 2 = Xi T10 890 2 from w121.x _ _ rfl).trans ( (show Xi T10 890 2 = Xi T9 890 2 from w107.x _ _ rfl).trans ( (show Xi T9 890 2 = Xi T8 890 2 from w94.x _ _ rfl).trans ((show Xi T8 890 2 = Xi U7 890 2 from w81.x _ _ rfl))))
            have w126 : 0 ≤ Xi U7 890 2 ∧ Xi U7 890 2 ≤ 20 := hHU7.c _ _
            exact ⟨hHT11, hFT11, _, rfl, ⟨by omega, by omega⟩, (by omega), (by omega), (by first | (intro a b c; exact absurd a (by omega)) | (intro a b c; exact absurd b (by omega)) | (intro a b c; exact absurd c (by omega)) | (intro a b c; exact ⟨by assumption, by omega, by omega, tk103 (P := T10) (m877 hFT11 rfl) (m877 hFT10 rfl) (by omega) (by omega)⟩))⟩
          · refine l_aload_n rfl rfl ?_
            have w127 : Xi T11 876 7 = Xi S 876 7 := (show Xi T11 876 7 = Xi T10 876 7 from w121.x _ _ rfl).trans ( (show Xi T10 876 7 = Xi T9 876 7 from w107.x _ _ rfl).trans ( (show Xi T9 876 7 = Xi T8 876 7 from w94.x _ _ rfl).trans ( (show Xi T8 876 7 = Xi U7 876 7 from w81.x _ _ rfl).trans ( (show Xi U7 876 7 = Xi U1 876 7 from by rw [eU7]; exact Xi_ne (by omega)).trans ((show Xi U1 876 7 = Xi S 876 7 from by rw [eU1]; exact Xi_ne (by omega)))))))
            have w128 : 0 ≤ Xi S 876 7 ∧ Xi S 876 7 ≤ 5125 := hH.c _ _
            have w129 : 0 ≤ Xi T11 890 1 ∧ Xi T11 890 1 ≤ 5126 := hHT11.c _ _
            refine l_callV rfl rfl rfl (t_gr_takeRun hHT11 (by first | assumption | omega) (by first | assumption | (apply_assumption; omega)) _) ?_
            rintro _ T12 ⟨hHT12, w134, z133, rfl, w133, w130, w131, w132⟩
            have hFT12 : FR md_gr_check S T12 := FR.tr hFT11 w134 rfl
            show Rl _ _ _ _ _ [iv z133] _ _
            refine l_if_eq rfl rfl (by unfold rg; omega) (fun w135 => ?_) (fun w136 => ?_)
            · refine l_iconst rfl ?_
              refine l_ireturn rfl rfl ?_
              have w137 : 0 ≤ Xi T12 890 1 ∧ Xi T12 890 1 ≤ 5126 := hHT12.c _ _
              have w138 : Xi T12 890 2 = Xi U7 890 2 := (show Xi T12 890 2 = Xi T11 890 2 from w134.x _ _ rfl).trans ( (show Xi T11 890 2 = Xi T10 890 2 from w121.x _ _ rfl).trans ( (show Xi T10 890 2 = Xi T9 890 2 from w107.x _ _ rfl).trans ( (show Xi T9 890 2 = Xi T8 890 2 from w94.x _ _ rfl).trans ((show Xi T8 890 2 = Xi U7 890 2 from w81.x _ _ rfl)))))
              have w139 : 0 ≤ Xi U7 890 2 ∧ Xi U7 890 2 ≤ 20 := hHU7.c _ _
              exact ⟨hHT12, hFT12, _, rfl, ⟨by omega, by omega⟩, (by omega), (by omega), (by first | (intro a b c; exact absurd a (by omega)) | (intro a b c; exact absurd b (by omega)) | (intro a b c; exact absurd c (by omega)) | (intro a b c; exact ⟨by assumption, by omega, by omega, tk103 (P := T11) (m877 hFT12 rfl) (m877 hFT11 rfl) (by omega) (by omega)⟩))⟩
            · refine l_aload_n rfl rfl ?_
              refine l_bipush rfl rfl ?_
              have w140 : Xi T12 876 7 = Xi S 876 7 := (show Xi T12 876 7 = Xi T11 876 7 from w134.x _ _ rfl).trans ( (show Xi T11 876 7 = Xi T10 876 7 from w121.x _ _ rfl).trans ( (show Xi T10 876 7 = Xi T9 876 7 from w107.x _ _ rfl).trans ( (show Xi T9 876 7 = Xi T8 876 7 from w94.x _ _ rfl).trans ( (show Xi T8 876 7 = Xi U7 876 7 from w81.x _ _ rfl).trans ( (show Xi U7 876 7 = Xi U1 876 7 from by rw [eU7]; exact Xi_ne (by omega)).trans ((show Xi U1 876 7 = Xi S 876 7 from by rw [eU1]; exact Xi_ne (by omega))))))))
              have w141 : 0 ≤ Xi S 876 7 ∧ Xi S 876 7 ≤ 5125 := hH.c _ _
              have w142 : 0 ≤ Xi T12 890 1 ∧ Xi T12 890 1 ≤ 5126 := hHT12.c _ _
              refine l_callV rfl rfl rfl (t_gr_take hHT12 36 ⟨by omega, by omega⟩ (by first | assumption | omega) (by first | assumption | (apply_assumption; omega)) (by first | assumption | omega) _) ?_
              rintro _ T13 ⟨hHT13, w148, z147, rfl, w147, w143, w144, w145, w146⟩
              have hFT13 : FR md_gr_check S T13 := FR.tr hFT12 w148 rfl
              show Rl _ _ _ _ _ [iv z147] _ _
              refine l_if_eq rfl rfl (by unfold rg; omega) (fun w149 => ?_) (fun w150 => ?_)
              · refine l_iconst rfl ?_
                refine l_ireturn rfl rfl ?_
                have w151 : 0 ≤ Xi T13 890 1 ∧ Xi T13 890 1 ≤ 5126 := hHT13.c _ _
                have w152 : Xi T13 890 2 = Xi U7 890 2 := (show Xi T13 890 2 = Xi T12 890 2 from w148.x _ _ rfl).trans ( (show Xi T12 890 2 = Xi T11 890 2 from w134.x _ _ rfl).trans ( (show Xi T11 890 2 = Xi T10 890 2 from w121.x _ _ rfl).trans ( (show Xi T10 890 2 = Xi T9 890 2 from w107.x _ _ rfl).trans ( (show Xi T9 890 2 = Xi T8 890 2 from w94.x _ _ rfl).trans ((show Xi T8 890 2 = Xi U7 890 2 from w81.x _ _ rfl))))))
                have w153 : 0 ≤ Xi U7 890 2 ∧ Xi U7 890 2 ≤ 20 := hHU7.c _ _
                exact ⟨hHT13, hFT13, _, rfl, ⟨by omega, by omega⟩, (by omega), (by omega), (by first | (intro a b c; exact absurd a (by omega)) | (intro a b c; exact absurd b (by omega)) | (intro a b c; exact absurd c (by omega)) | (intro a b c; exact ⟨by assumption, by omega, by omega, tk103 (P := T12) (m877 hFT13 rfl) (m877 hFT12 rfl) (by omega) (by omega)⟩))⟩
              · refine l_aload_n rfl rfl ?_
                have w154 : Xi T13 876 7 = Xi S 876 7 := (show Xi T13 876 7 = Xi T12 876 7 from w148.x _ _ rfl).trans ( (show Xi T12 876 7 = Xi T11 876 7 from w134.x _ _ rfl).trans ( (show Xi T11 876 7 = Xi T10 876 7 from w121.x _ _ rfl).trans ( (show Xi T10 876 7 = Xi T9 876 7 from w107.x _ _ rfl).trans ( (show Xi T9 876 7 = Xi T8 876 7 from w94.x _ _ rfl).trans ( (show Xi T8 876 7 = Xi U7 876 7 from w81.x _ _ rfl).trans ( (show Xi U7 876 7 = Xi U1 876 7 from by rw [eU7]; exact Xi_ne (by omega)).trans ((show Xi U1 876 7 = Xi S 876 7 from by rw [eU1]; exact Xi_ne (by omega)))))))))
                have w155 : 0 ≤ Xi S 876 7 ∧ Xi S 876 7 ≤ 5125 := hH.c _ _
                have w156 : 0 ≤ Xi T13 890 1 ∧ Xi T13 890 1 ≤ 5126 := hHT13.c _ _
                refine l_callV rfl rfl rfl (t_gr_takeTests hHT13 (by first | assumption | omega) (by first | assumption | (apply_assumption; omega)) _) ?_
                rintro _ T14 ⟨hHT14, w160, z159, rfl, w159, w157, w158⟩
                have hFT14 : FR md_gr_check S T14 := FR.tr hFT13 w160 rfl
                show Rl _ _ _ _ _ [iv z159] _ _
                refine l_if_eq rfl rfl (by unfold rg; omega) (fun w161 => ?_) (fun w162 => ?_)
                · refine l_iconst rfl ?_
                  refine l_ireturn rfl rfl ?_
                  have w163 : 0 ≤ Xi T14 890 1 ∧ Xi T14 890 1 ≤ 5126 := hHT14.c _ _
                  have w164 : Xi T14 890 2 = Xi U7 890 2 := (show Xi T14 890 2 = Xi T13 890 2 from w160.x _ _ rfl).trans ( (show Xi T13 890 2 = Xi T12 890 2 from w148.x _ _ rfl).trans ( (show Xi T12 890 2 = Xi T11 890 2 from w134.x _ _ rfl).trans ( (show Xi T11 890 2 = Xi T10 890 2 from w121.x _ _ rfl).trans ( (show Xi T10 890 2 = Xi T9 890 2 from w107.x _ _ rfl).trans ( (show Xi T9 890 2 = Xi T8 890 2 from w94.x _ _ rfl).trans ((show Xi T8 890 2 = Xi U7 890 2 from w81.x _ _ rfl)))))))
                  have w165 : 0 ≤ Xi U7 890 2 ∧ Xi U7 890 2 ≤ 20 := hHU7.c _ _
                  exact ⟨hHT14, hFT14, _, rfl, ⟨by omega, by omega⟩, (by omega), (by omega), (by first | (intro a b c; exact absurd a (by omega)) | (intro a b c; exact absurd b (by omega)) | (intro a b c; exact absurd c (by omega)) | (intro a b c; exact ⟨by assumption, by omega, by omega, tk103 (P := T13) (m877 hFT14 rfl) (m877 hFT13 rfl) (by omega) (by omega)⟩))⟩
                · refine l_aload_n rfl rfl ?_
                  refine l_bipush rfl rfl ?_
                  have w166 : Xi T14 876 7 = Xi S 876 7 := (show Xi T14 876 7 = Xi T13 876 7 from w160.x _ _ rfl).trans ( (show Xi T13 876 7 = Xi T12 876 7 from w148.x _ _ rfl).trans ( (show Xi T12 876 7 = Xi T11 876 7 from w134.x _ _ rfl).trans ( (show Xi T11 876 7 = Xi T10 876 7 from w121.x _ _ rfl).trans ( (show Xi T10 876 7 = Xi T9 876 7 from w107.x _ _ rfl).trans ( (show Xi T9 876 7 = Xi T8 876 7 from w94.x _ _ rfl).trans ( (show Xi T8 876 7 = Xi U7 876 7 from w81.x _ _ rfl).trans ( (show Xi U7 876 7 = Xi U1 876 7 from by rw [eU7]; exact Xi_ne (by omega)).trans ((show Xi U1 876 7 = Xi S 876 7 from by rw [eU1]; exact Xi_ne (by omega))))))))))
                  have w167 : 0 ≤ Xi S 876 7 ∧ Xi S 876 7 ≤ 5125 := hH.c _ _
                  have w168 : 0 ≤ Xi T14 890 1 ∧ Xi T14 890 1 ≤ 5126 := hHT14.c _ _
                  refine l_callV rfl rfl rfl (t_gr_take hHT14 103 ⟨by omega, by omega⟩ (by first | assumption | omega) (by first | assumption | (apply_assumption; omega)) (by first | assumption | omega) _) ?_
                  rintro _ T15 ⟨hHT15, w174, z173, rfl, w173, w169, w170, w171, w172⟩
                  have hFT15 : FR md_gr_check S T15 := FR.tr hFT14 w174 rfl
                  show Rl _ _ _ _ _ [iv z173] _ _
                  refine l_if_eq rfl rfl (by unfold rg; omega) (fun w175 => ?_) (fun w176 => ?_)
                  · refine l_iconst rfl ?_
                    refine l_ireturn rfl rfl ?_
                    have w177 : 0 ≤ Xi T15 890 1 ∧ Xi T15 890 1 ≤ 5126 := hHT15.c _ _
                    have w178 : Xi T15 890 2 = Xi U7 890 2 := (show Xi T15 890 2 = Xi T14 890 2 from w174.x _ _ rfl).trans ( (show Xi T14 890 2 = Xi T13 890 2 from w160.x _ _ rfl).trans ( (show Xi T13 890 2 = Xi T12 890 2 from w148.x _ _ rfl).trans ( (show Xi T12 890 2 = Xi T11 890 2 from w134.x _ _ rfl).trans ( (show Xi T11 890 2 = Xi T10 890 2 from w121.x _ _ rfl).trans ( (show Xi T10 890 2 = Xi T9 890 2 from w107.x _ _ rfl).trans ( (show Xi T9 890 2 = Xi T8 890 2 from w94.x _ _ rfl).trans ((show Xi T8 890 2 = Xi U7 890 2 from w81.x _ _ rfl))))))))
                    have w179 : 0 ≤ Xi U7 890 2 ∧ Xi U7 890 2 ≤ 20 := hHU7.c _ _
                    exact ⟨hHT15, hFT15, _, rfl, ⟨by omega, by omega⟩, (by omega), (by omega), (by first | (intro a b c; exact absurd a (by omega)) | (intro a b c; exact absurd b (by omega)) | (intro a b c; exact absurd c (by omega)) | (intro a b c; exact ⟨by assumption, by omega, by omega, tk103 (P := T14) (m877 hFT15 rfl) (m877 hFT14 rfl) (by omega) (by omega)⟩))⟩
                  · refine l_iconst rfl ?_
                    refine l_goto rfl rfl ?_
                    refine l_ireturn rfl rfl ?_
                    have w180 : 0 ≤ Xi T15 890 1 ∧ Xi T15 890 1 ≤ 5126 := hHT15.c _ _
                    have w181 : Xi T15 890 2 = Xi U7 890 2 := (show Xi T15 890 2 = Xi T14 890 2 from w174.x _ _ rfl).trans ( (show Xi T14 890 2 = Xi T13 890 2 from w160.x _ _ rfl).trans ( (show Xi T13 890 2 = Xi T12 890 2 from w148.x _ _ rfl).trans ( (show Xi T12 890 2 = Xi T11 890 2 from w134.x _ _ rfl).trans ( (show Xi T11 890 2 = Xi T10 890 2 from w121.x _ _ rfl).trans ( (show Xi T10 890 2 = Xi T9 890 2 from w107.x _ _ rfl).trans ( (show Xi T9 890 2 = Xi T8 890 2 from w94.x _ _ rfl).trans ((show Xi T8 890 2 = Xi U7 890 2 from w81.x _ _ rfl))))))))
                    have w182 : 0 ≤ Xi U7 890 2 ∧ Xi U7 890 2 ≤ 20 := hHU7.c _ _
                    exact ⟨hHT15, hFT15, _, rfl, ⟨by omega, by omega⟩, (by omega), (by omega), (by first | (intro a b c; exact absurd a (by omega)) | (intro a b c; exact absurd b (by omega)) | (intro a b c; exact absurd c (by omega)) | (intro a b c; exact ⟨by assumption, by omega, by omega, tk103 (P := T14) (m877 hFT15 rfl) (m877 hFT14 rfl) (by omega) (by omega)⟩))⟩
  refine And.intro (fun w183 => ⟨_, rfl, ?_⟩) (fun w184 => ?_)
  · refine l_aload_n rfl rfl ?_
    refine l_iconst rfl ?_
    refine l_pfi rfl rfl rfl rfl ?_
    obtain ⟨U16, eU16⟩ : ∃ T : sS, T = uI U1 890 2 (Int32.ofInt 3) := ⟨_, rfl⟩
    rw [← eU16]
    have hHU16 : HI U16 := by rw [eU16]; exact HI_w hHU1 (show 0 ≤ 3 by omega) (show 3 ≤ 20 by omega)
    have hFU16 : FR md_gr_check S U16 := by rw [eU16]; exact FR.wI hFU1 (mdf_i (r := (890, 891, 2, 3)) (List.mem_of_getElem? (i := 1) rfl) (inR_i (by omega) (by omega) (by omega) (by omega)))
    have w185 : Xi U16 890 2 = 3 := by rw [eU16]; exact Xi_same (by unfold rg; omega)
    obtain ⟨hv1, hs0⟩ := SAY_v1s eU1 eU16 (by omega)
    refine l_aload_n rfl rfl ?_
    have w186 : Xi U16 876 7 = Xi S 876 7 := (show Xi U16 876 7 = Xi U1 876 7 from by rw [eU16]; exact Xi_ne (by omega)).trans ((show Xi U1 876 7 = Xi S 876 7 from by rw [eU1]; exact Xi_ne (by omega)))
    have w187 : 0 ≤ Xi S 876 7 ∧ Xi S 876 7 ≤ 5125 := hH.c _ _
    have w188 : Xi U16 890 1 = Xi U1 890 1 := (show Xi U16 890 1 = Xi U1 890 1 from by rw [eU16]; exact Xi_ne (by omega))
    have w189 : 0 ≤ Xi U1 890 1 ∧ Xi U1 890 1 ≤ 5126 := hHU1.c _ _
    refine l_callV rfl rfl rfl (t_gr_takeActing hHU16 (by first | assumption | omega) (by first | assumption | (apply_assumption; omega)) _) ?_
    rintro _ T17 ⟨hHT17, w193, z192, rfl, w192, w190, w191⟩
    have hFT17 : FR md_gr_check S T17 := FR.tr hFU16 w193 rfl
    show Rl _ _ _ _ _ [iv z192] _ _
    refine l_istore_n rfl rfl rfl ?_
    refine l_goto rfl rfl ?_
    refine l_iload_n rfl rfl ?_
    refine l_if_eq rfl rfl (by unfold rg; omega) (fun w194 => ?_) (fun w195 => ?_)
    · refine l_iconst rfl ?_
      refine l_ireturn rfl rfl ?_
      have w196 : 0 ≤ Xi T17 890 1 ∧ Xi T17 890 1 ≤ 5126 := hHT17.c _ _
      have w197 : Xi T17 890 2 = Xi U16 890 2 := (show Xi T17 890 2 = Xi U16 890 2 from w193.x _ _ rfl)
      have w198 : 0 ≤ Xi U16 890 2 ∧ Xi U16 890 2 ≤ 20 := hHU16.c _ _
      exact ⟨hHT17, hFT17, _, rfl, ⟨by omega, by omega⟩, (by omega), (by omega), (by first | (intro a b c; exact absurd a (by omega)) | (intro a b c; exact absurd b (by omega)) | (intro a b c; exact absurd c (by omega)) | (intro a b c; exact ⟨by assumption, by omega, by omega, tk103 (P := U16) (m877 hFT17 rfl) (m877 hFU16 rfl) (by omega) (by omega)⟩))⟩
    · refine l_aload_n rfl rfl ?_
      refine l_bipush rfl rfl ?_
      have w199 : Xi T17 876 7 = Xi S 876 7 := (show Xi T17 876 7 = Xi U16 876 7 from w193.x _ _ rfl).trans ( (show Xi U16 876 7 = Xi U1 876 7 from by rw [eU16]; exact Xi_ne (by omega)).trans ((show Xi U1 876 7 = Xi S 876 7 from by rw [eU1]; exact Xi_ne (by omega))))
      have w200 : 0 ≤ Xi S 876 7 ∧ Xi S 876 7 ≤ 5125 := hH.c _ _
      have w201 : 0 ≤ Xi T17 890 1 ∧ Xi T17 890 1 ≤ 5126 := hHT17.c _ _
      refine l_callV rfl rfl rfl (t_gr_take hHT17 37 ⟨by omega, by omega⟩ (by first | assumption | omega) (by first | assumption | (apply_assumption; omega)) (by first | assumption | omega) _) ?_
      rintro _ T18 ⟨hHT18, w207, z206, rfl, w206, w202, w203, w204, w205⟩
      have hFT18 : FR md_gr_check S T18 := FR.tr hFT17 w207 rfl
      show Rl _ _ _ _ _ [iv z206] _ _
      refine l_if_eq rfl rfl (by unfold rg; omega) (fun w208 => ?_) (fun w209 => ?_)
      · refine l_aload_n rfl rfl ?_
        refine l_bipush rfl rfl ?_
        have w210 : Xi T18 876 7 = Xi S 876 7 := (show Xi T18 876 7 = Xi T17 876 7 from w207.x _ _ rfl).trans ( (show Xi T17 876 7 = Xi U16 876 7 from w193.x _ _ rfl).trans ( (show Xi U16 876 7 = Xi U1 876 7 from by rw [eU16]; exact Xi_ne (by omega)).trans ((show Xi U1 876 7 = Xi S 876 7 from by rw [eU1]; exact Xi_ne (by omega)))))
        have w211 : 0 ≤ Xi S 876 7 ∧ Xi S 876 7 ≤ 5125 := hH.c _ _
        have w212 : 0 ≤ Xi T18 890 1 ∧ Xi T18 890 1 ≤ 5126 := hHT18.c _ _
        refine l_callV rfl rfl rfl (t_gr_take hHT18 106 ⟨by omega, by omega⟩ (by first | assumption | omega) (by first | assumption | (apply_assumption; omega)) (by first | assumption | omega) _) ?_
        rintro _ T19 ⟨hHT19, w218, z217, rfl, w217, w213, w214, w215, w216⟩
        have hFT19 : FR md_gr_check S T19 := FR.tr hFT18 w218 rfl
        show Rl _ _ _ _ _ [iv z217] _ _
        refine l_if_eq rfl rfl (by unfold rg; omega) (fun w219 => ?_) (fun w220 => ?_)
        · refine l_iconst rfl ?_
          refine l_ireturn rfl rfl ?_
          have w221 : 0 ≤ Xi T19 890 1 ∧ Xi T19 890 1 ≤ 5126 := hHT19.c _ _
          have w222 : Xi T19 890 2 = Xi U16 890 2 := (show Xi T19 890 2 = Xi T18 890 2 from w218.x _ _ rfl).trans ( (show Xi T18 890 2 = Xi T17 890 2 from w207.x _ _ rfl).trans ((show Xi T17 890 2 = Xi U16 890 2 from w193.x _ _ rfl)))
          have w223 : 0 ≤ Xi U16 890 2 ∧ Xi U16 890 2 ≤ 20 := hHU16.c _ _
          exact ⟨hHT19, hFT19, _, rfl, ⟨by omega, by omega⟩, (by omega), (by omega), (by first | (intro a b c; exact absurd a (by omega)) | (intro a b c; exact absurd b (by omega)) | (intro a b c; exact absurd c (by omega)) | (intro a b c; exact ⟨by assumption, by omega, by omega, tk103 (P := T18) (m877 hFT19 rfl) (m877 hFT18 rfl) (by omega) (by omega)⟩))⟩
        · refine l_aload_n rfl rfl ?_
          have w224 : Xi T19 876 7 = Xi S 876 7 := (show Xi T19 876 7 = Xi T18 876 7 from w218.x _ _ rfl).trans ( (show Xi T18 876 7 = Xi T17 876 7 from w207.x _ _ rfl).trans ( (show Xi T17 876 7 = Xi U16 876 7 from w193.x _ _ rfl).trans ( (show Xi U16 876 7 = Xi U1 876 7 from by rw [eU16]; exact Xi_ne (by omega)).trans ((show Xi U1 876 7 = Xi S 876 7 from by rw [eU1]; exact Xi_ne (by omega))))))
          have w225 : 0 ≤ Xi S 876 7 ∧ Xi S 876 7 ≤ 5125 := hH.c _ _
          have w226 : 0 ≤ Xi T19 890 1 ∧ Xi T19 890 1 ≤ 5126 := hHT19.c _ _
          refine l_callV rfl rfl rfl (t_gr_takePhrases hHT19 (by first | assumption | omega) (by first | assumption | (apply_assumption; omega)) _) ?_
          rintro _ T20 ⟨hHT20, w230, z229, rfl, w229, w227, w228⟩
          have hFT20 : FR md_gr_check S T20 := FR.tr hFT19 w230 rfl
          show Rl _ _ _ _ _ [iv z229] _ _
          refine l_if_eq rfl rfl (by unfold rg; omega) (fun w231 => ?_) (fun w232 => ?_)
          · refine l_iconst rfl ?_
            refine l_ireturn rfl rfl ?_
            have w233 : 0 ≤ Xi T20 890 1 ∧ Xi T20 890 1 ≤ 5126 := hHT20.c _ _
            have w234 : Xi T20 890 2 = Xi U16 890 2 := (show Xi T20 890 2 = Xi T19 890 2 from w230.x _ _ rfl).trans ( (show Xi T19 890 2 = Xi T18 890 2 from w218.x _ _ rfl).trans ( (show Xi T18 890 2 = Xi T17 890 2 from w207.x _ _ rfl).trans ((show Xi T17 890 2 = Xi U16 890 2 from w193.x _ _ rfl))))
            have w235 : 0 ≤ Xi U16 890 2 ∧ Xi U16 890 2 ≤ 20 := hHU16.c _ _
            exact ⟨hHT20, hFT20, _, rfl, ⟨by omega, by omega⟩, (by omega), (by omega), (by first | (intro a b c; exact absurd a (by omega)) | (intro a b c; exact absurd b (by omega)) | (intro a b c; exact absurd c (by omega)) | (intro a b c; exact ⟨by assumption, by omega, by omega, tk103 (P := T19) (m877 hFT20 rfl) (m877 hFT19 rfl) (by omega) (by omega)⟩))⟩
          · refine l_aload_n rfl rfl ?_
            refine l_bipush rfl rfl ?_
            have w236 : Xi T20 876 7 = Xi S 876 7 := (show Xi T20 876 7 = Xi T19 876 7 from w230.x _ _ rfl).trans ( (show Xi T19 876 7 = Xi T18 876 7 from w218.x _ _ rfl).trans ( (show Xi T18 876 7 = Xi T17 876 7 from w207.x _ _ rfl).trans ( (show Xi T17 876 7 = Xi U16 876 7 from w193.x _ _ rfl).trans ( (show Xi U16 876 7 = Xi U1 876 7 from by rw [eU16]; exact Xi_ne (by omega)).trans ((show Xi U1 876 7 = Xi S 876 7 from by rw [eU1]; exact Xi_ne (by omega)))))))
            have w237 : 0 ≤ Xi S 876 7 ∧ Xi S 876 7 ≤ 5125 := hH.c _ _
            have w238 : 0 ≤ Xi T20 890 1 ∧ Xi T20 890 1 ≤ 5126 := hHT20.c _ _
            refine l_callV rfl rfl rfl (t_gr_take hHT20 103 ⟨by omega, by omega⟩ (by first | assumption | omega) (by first | assumption | (apply_assumption; omega)) (by first | assumption | omega) _) ?_
            rintro _ T21 ⟨hHT21, w244, z243, rfl, w243, w239, w240, w241, w242⟩
            have hFT21 : FR md_gr_check S T21 := FR.tr hFT20 w244 rfl
            show Rl _ _ _ _ _ [iv z243] _ _
            refine l_if_eq rfl rfl (by unfold rg; omega) (fun w245 => ?_) (fun w246 => ?_)
            · refine l_iconst rfl ?_
              refine l_ireturn rfl rfl ?_
              have w247 : 0 ≤ Xi T21 890 1 ∧ Xi T21 890 1 ≤ 5126 := hHT21.c _ _
              have w248 : Xi T21 890 2 = Xi U16 890 2 := (show Xi T21 890 2 = Xi T20 890 2 from w244.x _ _ rfl).trans ( (show Xi T20 890 2 = Xi T19 890 2 from w230.x _ _ rfl).trans ( (show Xi T19 890 2 = Xi T18 890 2 from w218.x _ _ rfl).trans ( (show Xi T18 890 2 = Xi T17 890 2 from w207.x _ _ rfl).trans ((show Xi T17 890 2 = Xi U16 890 2 from w193.x _ _ rfl)))))
              have w249 : 0 ≤ Xi U16 890 2 ∧ Xi U16 890 2 ≤ 20 := hHU16.c _ _
              exact ⟨hHT21, hFT21, _, rfl, ⟨by omega, by omega⟩, (by omega), (by omega), (by first | (intro a b c; exact absurd a (by omega)) | (intro a b c; exact absurd b (by omega)) | (intro a b c; exact absurd c (by omega)) | (intro a b c; exact ⟨by assumption, by omega, by omega, tk103 (P := T20) (m877 hFT21 rfl) (m877 hFT20 rfl) (by omega) (by omega)⟩))⟩
            · refine l_iconst rfl ?_
              refine l_goto rfl rfl ?_
              refine l_ireturn rfl rfl ?_
              have w250 : 0 ≤ Xi T21 890 1 ∧ Xi T21 890 1 ≤ 5126 := hHT21.c _ _
              have w251 : Xi T21 890 2 = Xi U16 890 2 := (show Xi T21 890 2 = Xi T20 890 2 from w244.x _ _ rfl).trans ( (show Xi T20 890 2 = Xi T19 890 2 from w230.x _ _ rfl).trans ( (show Xi T19 890 2 = Xi T18 890 2 from w218.x _ _ rfl).trans ( (show Xi T18 890 2 = Xi T17 890 2 from w207.x _ _ rfl).trans ((show Xi T17 890 2 = Xi U16 890 2 from w193.x _ _ rfl)))))
              have w252 : 0 ≤ Xi U16 890 2 ∧ Xi U16 890 2 ≤ 20 := hHU16.c _ _
              exact ⟨hHT21, hFT21, _, rfl, ⟨by omega, by omega⟩, (by omega), (by omega), (by first | (intro a b c; exact absurd a (by omega)) | (intro a b c; exact absurd b (by omega)) | (intro a b c; exact absurd c (by omega)) | (intro a b c; exact ⟨by assumption, by omega, by omega, tk103 (P := T20) (m877 hFT21 rfl) (m877 hFT20 rfl) (by omega) (by omega)⟩))⟩
      · refine l_aload_n rfl rfl ?_
        have w253 : Xi T18 876 7 = Xi S 876 7 := (show Xi T18 876 7 = Xi T17 876 7 from w207.x _ _ rfl).trans ( (show Xi T17 876 7 = Xi U16 876 7 from w193.x _ _ rfl).trans ( (show Xi U16 876 7 = Xi U1 876 7 from by rw [eU16]; exact Xi_ne (by omega)).trans ((show Xi U1 876 7 = Xi S 876 7 from by rw [eU1]; exact Xi_ne (by omega)))))
        have w254 : 0 ≤ Xi S 876 7 ∧ Xi S 876 7 ≤ 5125 := hH.c _ _
        have w255 : 0 ≤ Xi T18 890 1 ∧ Xi T18 890 1 ≤ 5126 := hHT18.c _ _
        refine l_callV rfl rfl rfl (t_gr_takeTests hHT18 (by first | assumption | omega) (by first | assumption | (apply_assumption; omega)) _) ?_
        rintro _ T22 ⟨hHT22, w259, z258, rfl, w258, w256, w257⟩
        have hFT22 : FR md_gr_check S T22 := FR.tr hFT18 w259 rfl
        show Rl _ _ _ _ _ [iv z258] _ _
        refine l_if_eq rfl rfl (by unfold rg; omega) (fun w260 => ?_) (fun w261 => ?_)
        · refine l_iconst rfl ?_
          refine l_ireturn rfl rfl ?_
          have w262 : 0 ≤ Xi T22 890 1 ∧ Xi T22 890 1 ≤ 5126 := hHT22.c _ _
          have w263 : Xi T22 890 2 = Xi U16 890 2 := (show Xi T22 890 2 = Xi T18 890 2 from w259.x _ _ rfl).trans ( (show Xi T18 890 2 = Xi T17 890 2 from w207.x _ _ rfl).trans ((show Xi T17 890 2 = Xi U16 890 2 from w193.x _ _ rfl)))
          have w264 : 0 ≤ Xi U16 890 2 ∧ Xi U16 890 2 ≤ 20 := hHU16.c _ _
          exact ⟨hHT22, hFT22, _, rfl, ⟨by omega, by omega⟩, (by omega), (by omega), (by first | (intro a b c; exact absurd a (by omega)) | (intro a b c; exact absurd b (by omega)) | (intro a b c; exact absurd c (by omega)) | (intro a b c; exact ⟨by assumption, by omega, by omega, tk103 (P := T18) (m877 hFT22 rfl) (m877 hFT18 rfl) (by omega) (by omega)⟩))⟩
        · refine l_aload_n rfl rfl ?_
          refine l_bipush rfl rfl ?_
          have w265 : Xi T22 876 7 = Xi S 876 7 := (show Xi T22 876 7 = Xi T18 876 7 from w259.x _ _ rfl).trans ( (show Xi T18 876 7 = Xi T17 876 7 from w207.x _ _ rfl).trans ( (show Xi T17 876 7 = Xi U16 876 7 from w193.x _ _ rfl).trans ( (show Xi U16 876 7 = Xi U1 876 7 from by rw [eU16]; exact Xi_ne (by omega)).trans ((show Xi U1 876 7 = Xi S 876 7 from by rw [eU1]; exact Xi_ne (by omega))))))
          have w266 : 0 ≤ Xi S 876 7 ∧ Xi S 876 7 ≤ 5125 := hH.c _ _
          have w267 : 0 ≤ Xi T22 890 1 ∧ Xi T22 890 1 ≤ 5126 := hHT22.c _ _
          refine l_callV rfl rfl rfl (t_gr_take hHT22 106 ⟨by omega, by omega⟩ (by first | assumption | omega) (by first | assumption | (apply_assumption; omega)) (by first | assumption | omega) _) ?_
          rintro _ T23 ⟨hHT23, w273, z272, rfl, w272, w268, w269, w270, w271⟩
          have hFT23 : FR md_gr_check S T23 := FR.tr hFT22 w273 rfl
          show Rl _ _ _ _ _ [iv z272] _ _
          refine l_if_eq rfl rfl (by unfold rg; omega) (fun w274 => ?_) (fun w275 => ?_)
          · refine l_iconst rfl ?_
            refine l_ireturn rfl rfl ?_
            have w276 : 0 ≤ Xi T23 890 1 ∧ Xi T23 890 1 ≤ 5126 := hHT23.c _ _
            have w277 : Xi T23 890 2 = Xi U16 890 2 := (show Xi T23 890 2 = Xi T22 890 2 from w273.x _ _ rfl).trans ( (show Xi T22 890 2 = Xi T18 890 2 from w259.x _ _ rfl).trans ( (show Xi T18 890 2 = Xi T17 890 2 from w207.x _ _ rfl).trans ((show Xi T17 890 2 = Xi U16 890 2 from w193.x _ _ rfl))))
            have w278 : 0 ≤ Xi U16 890 2 ∧ Xi U16 890 2 ≤ 20 := hHU16.c _ _
            exact ⟨hHT23, hFT23, _, rfl, ⟨by omega, by omega⟩, (by omega), (by omega), (by first | (intro a b c; exact absurd a (by omega)) | (intro a b c; exact absurd b (by omega)) | (intro a b c; exact absurd c (by omega)) | (intro a b c; exact ⟨by assumption, by omega, by omega, tk103 (P := T22) (m877 hFT23 rfl) (m877 hFT22 rfl) (by omega) (by omega)⟩))⟩
          · refine l_aload_n rfl rfl ?_
            have w279 : Xi T23 876 7 = Xi S 876 7 := (show Xi T23 876 7 = Xi T22 876 7 from w273.x _ _ rfl).trans ( (show Xi T22 876 7 = Xi T18 876 7 from w259.x _ _ rfl).trans ( (show Xi T18 876 7 = Xi T17 876 7 from w207.x _ _ rfl).trans ( (show Xi T17 876 7 = Xi U16 876 7 from w193.x _ _ rfl).trans ( (show Xi U16 876 7 = Xi U1 876 7 from by rw [eU16]; exact Xi_ne (by omega)).trans ((show Xi U1 876 7 = Xi S 876 7 from by rw [eU1]; exact Xi_ne (by omega)))))))
            have w280 : 0 ≤ Xi S 876 7 ∧ Xi S 876 7 ≤ 5125 := hH.c _ _
            have w281 : 0 ≤ Xi T23 890 1 ∧ Xi T23 890 1 ≤ 5126 := hHT23.c _ _
            refine l_callV rfl rfl rfl (t_gr_takePhrases hHT23 (by first | assumption | omega) (by first | assumption | (apply_assumption; omega)) _) ?_
            rintro _ T24 ⟨hHT24, w285, z284, rfl, w284, w282, w283⟩
            have hFT24 : FR md_gr_check S T24 := FR.tr hFT23 w285 rfl
            show Rl _ _ _ _ _ [iv z284] _ _
            refine l_if_eq rfl rfl (by unfold rg; omega) (fun w286 => ?_) (fun w287 => ?_)
            · refine l_iconst rfl ?_
              refine l_ireturn rfl rfl ?_
              have w288 : 0 ≤ Xi T24 890 1 ∧ Xi T24 890 1 ≤ 5126 := hHT24.c _ _
              have w289 : Xi T24 890 2 = Xi U16 890 2 := (show Xi T24 890 2 = Xi T23 890 2 from w285.x _ _ rfl).trans ( (show Xi T23 890 2 = Xi T22 890 2 from w273.x _ _ rfl).trans ( (show Xi T22 890 2 = Xi T18 890 2 from w259.x _ _ rfl).trans ( (show Xi T18 890 2 = Xi T17 890 2 from w207.x _ _ rfl).trans ((show Xi T17 890 2 = Xi U16 890 2 from w193.x _ _ rfl)))))
              have w290 : 0 ≤ Xi U16 890 2 ∧ Xi U16 890 2 ≤ 20 := hHU16.c _ _
              exact ⟨hHT24, hFT24, _, rfl, ⟨by omega, by omega⟩, (by omega), (by omega), (by first | (intro a b c; exact absurd a (by omega)) | (intro a b c; exact absurd b (by omega)) | (intro a b c; exact absurd c (by omega)) | (intro a b c; exact ⟨by assumption, by omega, by omega, tk103 (P := T23) (m877 hFT24 rfl) (m877 hFT23 rfl) (by omega) (by omega)⟩))⟩
            · refine l_aload_n rfl rfl ?_
              refine l_bipush rfl rfl ?_
              have w291 : Xi T24 876 7 = Xi S 876 7 := (show Xi T24 876 7 = Xi T23 876 7 from w285.x _ _ rfl).trans ( (show Xi T23 876 7 = Xi T22 876 7 from w273.x _ _ rfl).trans ( (show Xi T22 876 7 = Xi T18 876 7 from w259.x _ _ rfl).trans ( (show Xi T18 876 7 = Xi T17 876 7 from w207.x _ _ rfl).trans ( (show Xi T17 876 7 = Xi U16 876 7 from w193.x _ _ rfl).trans ( (show Xi U16 876 7 = Xi U1 876 7 from by rw [eU16]; exact Xi_ne (by omega)).trans ((show Xi U1 876 7 = Xi S 876 7 from by rw [eU1]; exact Xi_ne (by omega))))))))
              have w292 : 0 ≤ Xi S 876 7 ∧ Xi S 876 7 ≤ 5125 := hH.c _ _
              have w293 : 0 ≤ Xi T24 890 1 ∧ Xi T24 890 1 ≤ 5126 := hHT24.c _ _
              refine l_callV rfl rfl rfl (t_gr_take hHT24 103 ⟨by omega, by omega⟩ (by first | assumption | omega) (by first | assumption | (apply_assumption; omega)) (by first | assumption | omega) _) ?_
              rintro _ T25 ⟨hHT25, w299, z298, rfl, w298, w294, w295, w296, w297⟩
              have hFT25 : FR md_gr_check S T25 := FR.tr hFT24 w299 rfl
              show Rl _ _ _ _ _ [iv z298] _ _
              refine l_if_eq rfl rfl (by unfold rg; omega) (fun w300 => ?_) (fun w301 => ?_)
              · refine l_iconst rfl ?_
                refine l_ireturn rfl rfl ?_
                have w302 : 0 ≤ Xi T25 890 1 ∧ Xi T25 890 1 ≤ 5126 := hHT25.c _ _
                have w303 : Xi T25 890 2 = Xi U16 890 2 := (show Xi T25 890 2 = Xi T24 890 2 from w299.x _ _ rfl).trans ( (show Xi T24 890 2 = Xi T23 890 2 from w285.x _ _ rfl).trans ( (show Xi T23 890 2 = Xi T22 890 2 from w273.x _ _ rfl).trans ( (show Xi T22 890 2 = Xi T18 890 2 from w259.x _ _ rfl).trans ( (show Xi T18 890 2 = Xi T17 890 2 from w207.x _ _ rfl).trans ((show Xi T17 890 2 = Xi U16 890 2 from w193.x _ _ rfl))))))
                have w304 : 0 ≤ Xi U16 890 2 ∧ Xi U16 890 2 ≤ 20 := hHU16.c _ _
                exact ⟨hHT25, hFT25, _, rfl, ⟨by omega, by omega⟩, (by omega), (by omega), (by first | (intro a b c; exact absurd a (by omega)) | (intro a b c; exact absurd b (by omega)) | (intro a b c; exact absurd c (by omega)) | (intro a b c; exact ⟨by assumption, by omega, by omega, tk103 (P := T24) (m877 hFT25 rfl) (m877 hFT24 rfl) (by omega) (by omega)⟩))⟩
              · refine l_iconst rfl ?_
                refine l_goto rfl rfl ?_
                refine l_ireturn rfl rfl ?_
                have w305 : 0 ≤ Xi T25 890 1 ∧ Xi T25 890 1 ≤ 5126 := hHT25.c _ _
                have w306 : Xi T25 890 2 = Xi U16 890 2 := (show Xi T25 890 2 = Xi T24 890 2 from w299.x _ _ rfl).trans ( (show Xi T24 890 2 = Xi T23 890 2 from w285.x _ _ rfl).trans ( (show Xi T23 890 2 = Xi T22 890 2 from w273.x _ _ rfl).trans ( (show Xi T22 890 2 = Xi T18 890 2 from w259.x _ _ rfl).trans ( (show Xi T18 890 2 = Xi T17 890 2 from w207.x _ _ rfl).trans ((show Xi T17 890 2 = Xi U16 890 2 from w193.x _ _ rfl))))))
                have w307 : 0 ≤ Xi U16 890 2 ∧ Xi U16 890 2 ≤ 20 := hHU16.c _ _
                exact ⟨hHT25, hFT25, _, rfl, ⟨by omega, by omega⟩, (by omega), (by omega), (by first | (intro a b c; exact absurd a (by omega)) | (intro a b c; exact absurd b (by omega)) | (intro a b c; exact absurd c (by omega)) | (intro a b c; exact ⟨by assumption, by omega, by omega, tk103 (P := T24) (m877 hFT25 rfl) (m877 hFT24 rfl) (by omega) (by omega)⟩))⟩
  refine And.intro (fun w308 => ⟨_, rfl, ?_⟩) (fun w309 => ?_)
  · refine l_aload_n rfl rfl ?_
    refine l_iconst rfl ?_
    refine l_pfi rfl rfl rfl rfl ?_
    obtain ⟨U26, eU26⟩ : ∃ T : sS, T = uI U1 890 2 (Int32.ofInt 5) := ⟨_, rfl⟩
    rw [← eU26]
    have hHU26 : HI U26 := by rw [eU26]; exact HI_w hHU1 (show 0 ≤ 5 by omega) (show 5 ≤ 20 by omega)
    have hFU26 : FR md_gr_check S U26 := by rw [eU26]; exact FR.wI hFU1 (mdf_i (r := (890, 891, 2, 3)) (List.mem_of_getElem? (i := 1) rfl) (inR_i (by omega) (by omega) (by omega) (by omega)))
    have w310 : Xi U26 890 2 = 5 := by rw [eU26]; exact Xi_same (by unfold rg; omega)
    obtain ⟨hv1, hs0⟩ := SAY_v1s eU1 eU26 (by omega)
    refine l_aload_n rfl rfl ?_
    refine l_bipush rfl rfl ?_
    have w311 : Xi U26 876 7 = Xi S 876 7 := (show Xi U26 876 7 = Xi U1 876 7 from by rw [eU26]; exact Xi_ne (by omega)).trans ((show Xi U1 876 7 = Xi S 876 7 from by rw [eU1]; exact Xi_ne (by omega)))
    have w312 : 0 ≤ Xi S 876 7 ∧ Xi S 876 7 ≤ 5125 := hH.c _ _
    have w313 : Xi U26 890 1 = Xi U1 890 1 := (show Xi U26 890 1 = Xi U1 890 1 from by rw [eU26]; exact Xi_ne (by omega))
    have w314 : 0 ≤ Xi U1 890 1 ∧ Xi U1 890 1 ≤ 5126 := hHU1.c _ _
    refine l_callV rfl rfl rfl (t_gr_take hHU26 7 ⟨by omega, by omega⟩ (by first | assumption | omega) (by first | assumption | (apply_assumption; omega)) (by first | assumption | omega) _) ?_
    rintro _ T27 ⟨hHT27, w320, z319, rfl, w319, w315, w316, w317, w318⟩
    have hFT27 : FR md_gr_check S T27 := FR.tr hFU26 w320 rfl
    show Rl _ _ _ _ _ [iv z319] _ _
    refine l_if_eq rfl rfl (by unfold rg; omega) (fun w321 => ?_) (fun w322 => ?_)
    · refine l_iconst rfl ?_
      refine l_istore_n rfl rfl rfl ?_
      refine l_goto rfl rfl ?_
      refine l_iload_n rfl rfl ?_
      refine l_if_eq rfl rfl (by unfold rg; omega) (fun w323 => ?_) (fun w324 => absurd w324 (by omega))
      · refine l_iconst rfl ?_
        refine l_ireturn rfl rfl ?_
        have w325 : 0 ≤ Xi T27 890 1 ∧ Xi T27 890 1 ≤ 5126 := hHT27.c _ _
        have w326 : Xi T27 890 2 = Xi U26 890 2 := (show Xi T27 890 2 = Xi U26 890 2 from w320.x _ _ rfl)
        have w327 : 0 ≤ Xi U26 890 2 ∧ Xi U26 890 2 ≤ 20 := hHU26.c _ _
        exact ⟨hHT27, hFT27, _, rfl, ⟨by omega, by omega⟩, (by omega), (by omega), (by first | (intro a b c; exact absurd a (by omega)) | (intro a b c; exact absurd b (by omega)) | (intro a b c; exact absurd c (by omega)) | (intro a b c; exact ⟨by assumption, by omega, by omega, tk103 (P := U26) (m877 hFT27 rfl) (m877 hFU26 rfl) (by omega) (by omega)⟩))⟩
    · refine l_aload_n rfl rfl ?_
      have w328 : Xi T27 876 7 = Xi S 876 7 := (show Xi T27 876 7 = Xi U26 876 7 from w320.x _ _ rfl).trans ( (show Xi U26 876 7 = Xi U1 876 7 from by rw [eU26]; exact Xi_ne (by omega)).trans ((show Xi U1 876 7 = Xi S 876 7 from by rw [eU1]; exact Xi_ne (by omega))))
      have w329 : 0 ≤ Xi S 876 7 ∧ Xi S 876 7 ≤ 5125 := hH.c _ _
      have w330 : 0 ≤ Xi T27 890 1 ∧ Xi T27 890 1 ≤ 5126 := hHT27.c _ _
      refine l_callV rfl rfl rfl (t_gr_takeActing hHT27 (by first | assumption | omega) (by first | assumption | (apply_assumption; omega)) _) ?_
      rintro _ T28 ⟨hHT28, w334, z333, rfl, w333, w331, w332⟩
      have hFT28 : FR md_gr_check S T28 := FR.tr hFT27 w334 rfl
      show Rl _ _ _ _ _ [iv z333] _ _
      refine l_if_eq rfl rfl (by unfold rg; omega) (fun w335 => ?_) (fun w336 => ?_)
      · refine l_iconst rfl ?_
        refine l_istore_n rfl rfl rfl ?_
        refine l_goto rfl rfl ?_
        refine l_iload_n rfl rfl ?_
        refine l_if_eq rfl rfl (by unfold rg; omega) (fun w337 => ?_) (fun w338 => absurd w338 (by omega))
        · refine l_iconst rfl ?_
          refine l_ireturn rfl rfl ?_
          have w339 : 0 ≤ Xi T28 890 1 ∧ Xi T28 890 1 ≤ 5126 := hHT28.c _ _
          have w340 : Xi T28 890 2 = Xi U26 890 2 := (show Xi T28 890 2 = Xi T27 890 2 from w334.x _ _ rfl).trans ((show Xi T27 890 2 = Xi U26 890 2 from w320.x _ _ rfl))
          have w341 : 0 ≤ Xi U26 890 2 ∧ Xi U26 890 2 ≤ 20 := hHU26.c _ _
          exact ⟨hHT28, hFT28, _, rfl, ⟨by omega, by omega⟩, (by omega), (by omega), (by first | (intro a b c; exact absurd a (by omega)) | (intro a b c; exact absurd b (by omega)) | (intro a b c; exact absurd c (by omega)) | (intro a b c; exact ⟨by assumption, by omega, by omega, tk103 (P := T27) (m877 hFT28 rfl) (m877 hFT27 rfl) (by omega) (by omega)⟩))⟩
      · refine l_iconst rfl ?_
        refine l_goto rfl rfl ?_
        refine l_istore_n rfl rfl rfl ?_
        refine l_goto rfl rfl ?_
        refine l_iload_n rfl rfl ?_
        refine l_if_eq rfl rfl (by unfold rg; omega) (fun w342 => absurd w342 (by omega)) (fun w343 => ?_)
        · refine l_aload_n rfl rfl ?_
          refine l_bipush rfl rfl ?_
          have w344 : Xi T28 876 7 = Xi S 876 7 := (show Xi T28 876 7 = Xi T27 876 7 from w334.x _ _ rfl).trans ( (show Xi T27 876 7 = Xi U26 876 7 from w320.x _ _ rfl).trans ( (show Xi U26 876 7 = Xi U1 876 7 from by rw [eU26]; exact Xi_ne (by omega)).trans ((show Xi U1 876 7 = Xi S 876 7 from by rw [eU1]; exact Xi_ne (by omega)))))
          have w345 : 0 ≤ Xi S 876 7 ∧ Xi S 876 7 ≤ 5125 := hH.c _ _
          have w346 : 0 ≤ Xi T28 890 1 ∧ Xi T28 890 1 ≤ 5126 := hHT28.c _ _
          refine l_callV rfl rfl rfl (t_gr_take hHT28 37 ⟨by omega, by omega⟩ (by first | assumption | omega) (by first | assumption | (apply_assumption; omega)) (by first | assumption | omega) _) ?_
          rintro _ T29 ⟨hHT29, w352, z351, rfl, w351, w347, w348, w349, w350⟩
          have hFT29 : FR md_gr_check S T29 := FR.tr hFT28 w352 rfl
          show Rl _ _ _ _ _ [iv z351] _ _
          refine l_if_eq rfl rfl (by unfold rg; omega) (fun w353 => ?_) (fun w354 => ?_)
          · refine l_aload_n rfl rfl ?_
            refine l_bipush rfl rfl ?_
            have w355 : Xi T29 876 7 = Xi S 876 7 := (show Xi T29 876 7 = Xi T28 876 7 from w352.x _ _ rfl).trans ( (show Xi T28 876 7 = Xi T27 876 7 from w334.x _ _ rfl).trans ( (show Xi T27 876 7 = Xi U26 876 7 from w320.x _ _ rfl).trans ( (show Xi U26 876 7 = Xi U1 876 7 from by rw [eU26]; exact Xi_ne (by omega)).trans ((show Xi U1 876 7 = Xi S 876 7 from by rw [eU1]; exact Xi_ne (by omega))))))
            have w356 : 0 ≤ Xi S 876 7 ∧ Xi S 876 7 ≤ 5125 := hH.c _ _
            have w357 : 0 ≤ Xi T29 890 1 ∧ Xi T29 890 1 ≤ 5126 := hHT29.c _ _
            refine l_callV rfl rfl rfl (t_gr_take hHT29 106 ⟨by omega, by omega⟩ (by first | assumption | omega) (by first | assumption | (apply_assumption; omega)) (by first | assumption | omega) _) ?_
            rintro _ T30 ⟨hHT30, w363, z362, rfl, w362, w358, w359, w360, w361⟩
            have hFT30 : FR md_gr_check S T30 := FR.tr hFT29 w363 rfl
            show Rl _ _ _ _ _ [iv z362] _ _
            refine l_if_eq rfl rfl (by unfold rg; omega) (fun w364 => ?_) (fun w365 => ?_)
            · refine l_iconst rfl ?_
              refine l_ireturn rfl rfl ?_
              have w366 : 0 ≤ Xi T30 890 1 ∧ Xi T30 890 1 ≤ 5126 := hHT30.c _ _
              have w367 : Xi T30 890 2 = Xi U26 890 2 := (show Xi T30 890 2 = Xi T29 890 2 from w363.x _ _ rfl).trans ( (show Xi T29 890 2 = Xi T28 890 2 from w352.x _ _ rfl).trans ( (show Xi T28 890 2 = Xi T27 890 2 from w334.x _ _ rfl).trans ((show Xi T27 890 2 = Xi U26 890 2 from w320.x _ _ rfl))))
              have w368 : 0 ≤ Xi U26 890 2 ∧ Xi U26 890 2 ≤ 20 := hHU26.c _ _
              exact ⟨hHT30, hFT30, _, rfl, ⟨by omega, by omega⟩, (by omega), (by omega), (by first | (intro a b c; exact absurd a (by omega)) | (intro a b c; exact absurd b (by omega)) | (intro a b c; exact absurd c (by omega)) | (intro a b c; exact ⟨by assumption, by omega, by omega, tk103 (P := T29) (m877 hFT30 rfl) (m877 hFT29 rfl) (by omega) (by omega)⟩))⟩
            · refine l_aload_n rfl rfl ?_
              have w369 : Xi T30 876 7 = Xi S 876 7 := (show Xi T30 876 7 = Xi T29 876 7 from w363.x _ _ rfl).trans ( (show Xi T29 876 7 = Xi T28 876 7 from w352.x _ _ rfl).trans ( (show Xi T28 876 7 = Xi T27 876 7 from w334.x _ _ rfl).trans ( (show Xi T27 876 7 = Xi U26 876 7 from w320.x _ _ rfl).trans ( (show Xi U26 876 7 = Xi U1 876 7 from by rw [eU26]; exact Xi_ne (by omega)).trans ((show Xi U1 876 7 = Xi S 876 7 from by rw [eU1]; exact Xi_ne (by omega)))))))
              have w370 : 0 ≤ Xi S 876 7 ∧ Xi S 876 7 ≤ 5125 := hH.c _ _
              have w371 : 0 ≤ Xi T30 890 1 ∧ Xi T30 890 1 ≤ 5126 := hHT30.c _ _
              refine l_callV rfl rfl rfl (t_gr_takePhrases hHT30 (by first | assumption | omega) (by first | assumption | (apply_assumption; omega)) _) ?_
              rintro _ T31 ⟨hHT31, w375, z374, rfl, w374, w372, w373⟩
              have hFT31 : FR md_gr_check S T31 := FR.tr hFT30 w375 rfl
              show Rl _ _ _ _ _ [iv z374] _ _
              refine l_if_eq rfl rfl (by unfold rg; omega) (fun w376 => ?_) (fun w377 => ?_)
              · refine l_iconst rfl ?_
                refine l_ireturn rfl rfl ?_
                have w378 : 0 ≤ Xi T31 890 1 ∧ Xi T31 890 1 ≤ 5126 := hHT31.c _ _
                have w379 : Xi T31 890 2 = Xi U26 890 2 := (show Xi T31 890 2 = Xi T30 890 2 from w375.x _ _ rfl).trans ( (show Xi T30 890 2 = Xi T29 890 2 from w363.x _ _ rfl).trans ( (show Xi T29 890 2 = Xi T28 890 2 from w352.x _ _ rfl).trans ( (show Xi T28 890 2 = Xi T27 890 2 from w334.x _ _ rfl).trans ((show Xi T27 890 2 = Xi U26 890 2 from w320.x _ _ rfl)))))
                have w380 : 0 ≤ Xi U26 890 2 ∧ Xi U26 890 2 ≤ 20 := hHU26.c _ _
                exact ⟨hHT31, hFT31, _, rfl, ⟨by omega, by omega⟩, (by omega), (by omega), (by first | (intro a b c; exact absurd a (by omega)) | (intro a b c; exact absurd b (by omega)) | (intro a b c; exact absurd c (by omega)) | (intro a b c; exact ⟨by assumption, by omega, by omega, tk103 (P := T30) (m877 hFT31 rfl) (m877 hFT30 rfl) (by omega) (by omega)⟩))⟩
              · refine l_aload_n rfl rfl ?_
                refine l_bipush rfl rfl ?_
                have w381 : Xi T31 876 7 = Xi S 876 7 := (show Xi T31 876 7 = Xi T30 876 7 from w375.x _ _ rfl).trans ( (show Xi T30 876 7 = Xi T29 876 7 from w363.x _ _ rfl).trans ( (show Xi T29 876 7 = Xi T28 876 7 from w352.x _ _ rfl).trans ( (show Xi T28 876 7 = Xi T27 876 7 from w334.x _ _ rfl).trans ( (show Xi T27 876 7 = Xi U26 876 7 from w320.x _ _ rfl).trans ( (show Xi U26 876 7 = Xi U1 876 7 from by rw [eU26]; exact Xi_ne (by omega)).trans ((show Xi U1 876 7 = Xi S 876 7 from by rw [eU1]; exact Xi_ne (by omega))))))))
                have w382 : 0 ≤ Xi S 876 7 ∧ Xi S 876 7 ≤ 5125 := hH.c _ _
                have w383 : 0 ≤ Xi T31 890 1 ∧ Xi T31 890 1 ≤ 5126 := hHT31.c _ _
                refine l_callV rfl rfl rfl (t_gr_take hHT31 103 ⟨by omega, by omega⟩ (by first | assumption | omega) (by first | assumption | (apply_assumption; omega)) (by first | assumption | omega) _) ?_
                rintro _ T32 ⟨hHT32, w389, z388, rfl, w388, w384, w385, w386, w387⟩
                have hFT32 : FR md_gr_check S T32 := FR.tr hFT31 w389 rfl
                show Rl _ _ _ _ _ [iv z388] _ _
                refine l_if_eq rfl rfl (by unfold rg; omega) (fun w390 => ?_) (fun w391 => ?_)
                · refine l_iconst rfl ?_
                  refine l_ireturn rfl rfl ?_
                  have w392 : 0 ≤ Xi T32 890 1 ∧ Xi T32 890 1 ≤ 5126 := hHT32.c _ _
                  have w393 : Xi T32 890 2 = Xi U26 890 2 := (show Xi T32 890 2 = Xi T31 890 2 from w389.x _ _ rfl).trans ( (show Xi T31 890 2 = Xi T30 890 2 from w375.x _ _ rfl).trans ( (show Xi T30 890 2 = Xi T29 890 2 from w363.x _ _ rfl).trans ( (show Xi T29 890 2 = Xi T28 890 2 from w352.x _ _ rfl).trans ( (show Xi T28 890 2 = Xi T27 890 2 from w334.x _ _ rfl).trans ((show Xi T27 890 2 = Xi U26 890 2 from w320.x _ _ rfl))))))
                  have w394 : 0 ≤ Xi U26 890 2 ∧ Xi U26 890 2 ≤ 20 := hHU26.c _ _
                  exact ⟨hHT32, hFT32, _, rfl, ⟨by omega, by omega⟩, (by omega), (by omega), (by first | (intro a b c; exact absurd a (by omega)) | (intro a b c; exact absurd b (by omega)) | (intro a b c; exact absurd c (by omega)) | (intro a b c; exact ⟨by assumption, by omega, by omega, tk103 (P := T31) (m877 hFT32 rfl) (m877 hFT31 rfl) (by omega) (by omega)⟩))⟩
                · refine l_iconst rfl ?_
                  refine l_goto rfl rfl ?_
                  refine l_ireturn rfl rfl ?_
                  have w395 : 0 ≤ Xi T32 890 1 ∧ Xi T32 890 1 ≤ 5126 := hHT32.c _ _
                  have w396 : Xi T32 890 2 = Xi U26 890 2 := (show Xi T32 890 2 = Xi T31 890 2 from w389.x _ _ rfl).trans ( (show Xi T31 890 2 = Xi T30 890 2 from w375.x _ _ rfl).trans ( (show Xi T30 890 2 = Xi T29 890 2 from w363.x _ _ rfl).trans ( (show Xi T29 890 2 = Xi T28 890 2 from w352.x _ _ rfl).trans ( (show Xi T28 890 2 = Xi T27 890 2 from w334.x _ _ rfl).trans ((show Xi T27 890 2 = Xi U26 890 2 from w320.x _ _ rfl))))))
                  have w397 : 0 ≤ Xi U26 890 2 ∧ Xi U26 890 2 ≤ 20 := hHU26.c _ _
                  exact ⟨hHT32, hFT32, _, rfl, ⟨by omega, by omega⟩, (by omega), (by omega), (by first | (intro a b c; exact absurd a (by omega)) | (intro a b c; exact absurd b (by omega)) | (intro a b c; exact absurd c (by omega)) | (intro a b c; exact ⟨by assumption, by omega, by omega, tk103 (P := T31) (m877 hFT32 rfl) (m877 hFT31 rfl) (by omega) (by omega)⟩))⟩
          · refine l_aload_n rfl rfl ?_
            have w398 : Xi T29 876 7 = Xi S 876 7 := (show Xi T29 876 7 = Xi T28 876 7 from w352.x _ _ rfl).trans ( (show Xi T28 876 7 = Xi T27 876 7 from w334.x _ _ rfl).trans ( (show Xi T27 876 7 = Xi U26 876 7 from w320.x _ _ rfl).trans ( (show Xi U26 876 7 = Xi U1 876 7 from by rw [eU26]; exact Xi_ne (by omega)).trans ((show Xi U1 876 7 = Xi S 876 7 from by rw [eU1]; exact Xi_ne (by omega))))))
            have w399 : 0 ≤ Xi S 876 7 ∧ Xi S 876 7 ≤ 5125 := hH.c _ _
            have w400 : 0 ≤ Xi T29 890 1 ∧ Xi T29 890 1 ≤ 5126 := hHT29.c _ _
            refine l_callV rfl rfl rfl (t_gr_takeTests hHT29 (by first | assumption | omega) (by first | assumption | (apply_assumption; omega)) _) ?_
            rintro _ T33 ⟨hHT33, w404, z403, rfl, w403, w401, w402⟩
            have hFT33 : FR md_gr_check S T33 := FR.tr hFT29 w404 rfl
            show Rl _ _ _ _ _ [iv z403] _ _
            refine l_if_eq rfl rfl (by unfold rg; omega) (fun w405 => ?_) (fun w406 => ?_)
            · refine l_iconst rfl ?_
              refine l_ireturn rfl rfl ?_
              have w407 : 0 ≤ Xi T33 890 1 ∧ Xi T33 890 1 ≤ 5126 := hHT33.c _ _
              have w408 : Xi T33 890 2 = Xi U26 890 2 := (show Xi T33 890 2 = Xi T29 890 2 from w404.x _ _ rfl).trans ( (show Xi T29 890 2 = Xi T28 890 2 from w352.x _ _ rfl).trans ( (show Xi T28 890 2 = Xi T27 890 2 from w334.x _ _ rfl).trans ((show Xi T27 890 2 = Xi U26 890 2 from w320.x _ _ rfl))))
              have w409 : 0 ≤ Xi U26 890 2 ∧ Xi U26 890 2 ≤ 20 := hHU26.c _ _
              exact ⟨hHT33, hFT33, _, rfl, ⟨by omega, by omega⟩, (by omega), (by omega), (by first | (intro a b c; exact absurd a (by omega)) | (intro a b c; exact absurd b (by omega)) | (intro a b c; exact absurd c (by omega)) | (intro a b c; exact ⟨by assumption, by omega, by omega, tk103 (P := T29) (m877 hFT33 rfl) (m877 hFT29 rfl) (by omega) (by omega)⟩))⟩
            · refine l_aload_n rfl rfl ?_
              refine l_bipush rfl rfl ?_
              have w410 : Xi T33 876 7 = Xi S 876 7 := (show Xi T33 876 7 = Xi T29 876 7 from w404.x _ _ rfl).trans ( (show Xi T29 876 7 = Xi T28 876 7 from w352.x _ _ rfl).trans ( (show Xi T28 876 7 = Xi T27 876 7 from w334.x _ _ rfl).trans ( (show Xi T27 876 7 = Xi U26 876 7 from w320.x _ _ rfl).trans ( (show Xi U26 876 7 = Xi U1 876 7 from by rw [eU26]; exact Xi_ne (by omega)).trans ((show Xi U1 876 7 = Xi S 876 7 from by rw [eU1]; exact Xi_ne (by omega)))))))
              have w411 : 0 ≤ Xi S 876 7 ∧ Xi S 876 7 ≤ 5125 := hH.c _ _
              have w412 : 0 ≤ Xi T33 890 1 ∧ Xi T33 890 1 ≤ 5126 := hHT33.c _ _
              refine l_callV rfl rfl rfl (t_gr_take hHT33 106 ⟨by omega, by omega⟩ (by first | assumption | omega) (by first | assumption | (apply_assumption; omega)) (by first | assumption | omega) _) ?_
              rintro _ T34 ⟨hHT34, w418, z417, rfl, w417, w413, w414, w415, w416⟩
              have hFT34 : FR md_gr_check S T34 := FR.tr hFT33 w418 rfl
              show Rl _ _ _ _ _ [iv z417] _ _
              refine l_if_eq rfl rfl (by unfold rg; omega) (fun w419 => ?_) (fun w420 => ?_)
              · refine l_iconst rfl ?_
                refine l_ireturn rfl rfl ?_
                have w421 : 0 ≤ Xi T34 890 1 ∧ Xi T34 890 1 ≤ 5126 := hHT34.c _ _
                have w422 : Xi T34 890 2 = Xi U26 890 2 := (show Xi T34 890 2 = Xi T33 890 2 from w418.x _ _ rfl).trans ( (show Xi T33 890 2 = Xi T29 890 2 from w404.x _ _ rfl).trans ( (show Xi T29 890 2 = Xi T28 890 2 from w352.x _ _ rfl).trans ( (show Xi T28 890 2 = Xi T27 890 2 from w334.x _ _ rfl).trans ((show Xi T27 890 2 = Xi U26 890 2 from w320.x _ _ rfl)))))
                have w423 : 0 ≤ Xi U26 890 2 ∧ Xi U26 890 2 ≤ 20 := hHU26.c _ _
                exact ⟨hHT34, hFT34, _, rfl, ⟨by omega, by omega⟩, (by omega), (by omega), (by first | (intro a b c; exact absurd a (by omega)) | (intro a b c; exact absurd b (by omega)) | (intro a b c; exact absurd c (by omega)) | (intro a b c; exact ⟨by assumption, by omega, by omega, tk103 (P := T33) (m877 hFT34 rfl) (m877 hFT33 rfl) (by omega) (by omega)⟩))⟩
              · refine l_aload_n rfl rfl ?_
                have w424 : Xi T34 876 7 = Xi S 876 7 := (show Xi T34 876 7 = Xi T33 876 7 from w418.x _ _ rfl).trans ( (show Xi T33 876 7 = Xi T29 876 7 from w404.x _ _ rfl).trans ( (show Xi T29 876 7 = Xi T28 876 7 from w352.x _ _ rfl).trans ( (show Xi T28 876 7 = Xi T27 876 7 from w334.x _ _ rfl).trans ( (show Xi T27 876 7 = Xi U26 876 7 from w320.x _ _ rfl).trans ( (show Xi U26 876 7 = Xi U1 876 7 from by rw [eU26]; exact Xi_ne (by omega)).trans ((show Xi U1 876 7 = Xi S 876 7 from by rw [eU1]; exact Xi_ne (by omega))))))))
                have w425 : 0 ≤ Xi S 876 7 ∧ Xi S 876 7 ≤ 5125 := hH.c _ _
                have w426 : 0 ≤ Xi T34 890 1 ∧ Xi T34 890 1 ≤ 5126 := hHT34.c _ _
                refine l_callV rfl rfl rfl (t_gr_takePhrases hHT34 (by first | assumption | omega) (by first | assumption | (apply_assumption; omega)) _) ?_
                rintro _ T35 ⟨hHT35, w430, z429, rfl, w429, w427, w428⟩
                have hFT35 : FR md_gr_check S T35 := FR.tr hFT34 w430 rfl
                show Rl _ _ _ _ _ [iv z429] _ _
                refine l_if_eq rfl rfl (by unfold rg; omega) (fun w431 => ?_) (fun w432 => ?_)
                · refine l_iconst rfl ?_
                  refine l_ireturn rfl rfl ?_
                  have w433 : 0 ≤ Xi T35 890 1 ∧ Xi T35 890 1 ≤ 5126 := hHT35.c _ _
                  have w434 : Xi T35 890 2 = Xi U26 890 2 := (show Xi T35 890 2 = Xi T34 890 2 from w430.x _ _ rfl).trans ( (show Xi T34 890 2 = Xi T33 890 2 from w418.x _ _ rfl).trans ( (show Xi T33 890 2 = Xi T29 890 2 from w404.x _ _ rfl).trans ( (show Xi T29 890 2 = Xi T28 890 2 from w352.x _ _ rfl).trans ( (show Xi T28 890 2 = Xi T27 890 2 from w334.x _ _ rfl).trans ((show Xi T27 890 2 = Xi U26 890 2 from w320.x _ _ rfl))))))
                  have w435 : 0 ≤ Xi U26 890 2 ∧ Xi U26 890 2 ≤ 20 := hHU26.c _ _
                  exact ⟨hHT35, hFT35, _, rfl, ⟨by omega, by omega⟩, (by omega), (by omega), (by first | (intro a b c; exact absurd a (by omega)) | (intro a b c; exact absurd b (by omega)) | (intro a b c; exact absurd c (by omega)) | (intro a b c; exact ⟨by assumption, by omega, by omega, tk103 (P := T34) (m877 hFT35 rfl) (m877 hFT34 rfl) (by omega) (by omega)⟩))⟩
                · refine l_aload_n rfl rfl ?_
                  refine l_bipush rfl rfl ?_
                  have w436 : Xi T35 876 7 = Xi S 876 7 := (show Xi T35 876 7 = Xi T34 876 7 from w430.x _ _ rfl).trans ( (show Xi T34 876 7 = Xi T33 876 7 from w418.x _ _ rfl).trans ( (show Xi T33 876 7 = Xi T29 876 7 from w404.x _ _ rfl).trans ( (show Xi T29 876 7 = Xi T28 876 7 from w352.x _ _ rfl).trans ( (show Xi T28 876 7 = Xi T27 876 7 from w334.x _ _ rfl).trans ( (show Xi T27 876 7 = Xi U26 876 7 from w320.x _ _ rfl).trans ( (show Xi U26 876 7 = Xi U1 876 7 from by rw [eU26]; exact Xi_ne (by omega)).trans ((show Xi U1 876 7 = Xi S 876 7 from by rw [eU1]; exact Xi_ne (by omega)))))))))
                  have w437 : 0 ≤ Xi S 876 7 ∧ Xi S 876 7 ≤ 5125 := hH.c _ _
                  have w438 : 0 ≤ Xi T35 890 1 ∧ Xi T35 890 1 ≤ 5126 := hHT35.c _ _
                  refine l_callV rfl rfl rfl (t_gr_take hHT35 103 ⟨by omega, by omega⟩ (by first | assumption | omega) (by first | assumption | (apply_assumption; omega)) (by first | assumption | omega) _) ?_
                  rintro _ T36 ⟨hHT36, w444, z443, rfl, w443, w439, w440, w441, w442⟩
                  have hFT36 : FR md_gr_check S T36 := FR.tr hFT35 w444 rfl
                  show Rl _ _ _ _ _ [iv z443] _ _
                  refine l_if_eq rfl rfl (by unfold rg; omega) (fun w445 => ?_) (fun w446 => ?_)
                  · refine l_iconst rfl ?_
                    refine l_ireturn rfl rfl ?_
                    have w447 : 0 ≤ Xi T36 890 1 ∧ Xi T36 890 1 ≤ 5126 := hHT36.c _ _
                    have w448 : Xi T36 890 2 = Xi U26 890 2 := (show Xi T36 890 2 = Xi T35 890 2 from w444.x _ _ rfl).trans ( (show Xi T35 890 2 = Xi T34 890 2 from w430.x _ _ rfl).trans ( (show Xi T34 890 2 = Xi T33 890 2 from w418.x _ _ rfl).trans ( (show Xi T33 890 2 = Xi T29 890 2 from w404.x _ _ rfl).trans ( (show Xi T29 890 2 = Xi T28 890 2 from w352.x _ _ rfl).trans ( (show Xi T28 890 2 = Xi T27 890 2 from w334.x _ _ rfl).trans ((show Xi T27 890 2 = Xi U26 890 2 from w320.x _ _ rfl)))))))
                    have w449 : 0 ≤ Xi U26 890 2 ∧ Xi U26 890 2 ≤ 20 := hHU26.c _ _
                    exact ⟨hHT36, hFT36, _, rfl, ⟨by omega, by omega⟩, (by omega), (by omega), (by first | (intro a b c; exact absurd a (by omega)) | (intro a b c; exact absurd b (by omega)) | (intro a b c; exact absurd c (by omega)) | (intro a b c; exact ⟨by assumption, by omega, by omega, tk103 (P := T35) (m877 hFT36 rfl) (m877 hFT35 rfl) (by omega) (by omega)⟩))⟩
                  · refine l_iconst rfl ?_
                    refine l_goto rfl rfl ?_
                    refine l_ireturn rfl rfl ?_
                    have w450 : 0 ≤ Xi T36 890 1 ∧ Xi T36 890 1 ≤ 5126 := hHT36.c _ _
                    have w451 : Xi T36 890 2 = Xi U26 890 2 := (show Xi T36 890 2 = Xi T35 890 2 from w444.x _ _ rfl).trans ( (show Xi T35 890 2 = Xi T34 890 2 from w430.x _ _ rfl).trans ( (show Xi T34 890 2 = Xi T33 890 2 from w418.x _ _ rfl).trans ( (show Xi T33 890 2 = Xi T29 890 2 from w404.x _ _ rfl).trans ( (show Xi T29 890 2 = Xi T28 890 2 from w352.x _ _ rfl).trans ( (show Xi T28 890 2 = Xi T27 890 2 from w334.x _ _ rfl).trans ((show Xi T27 890 2 = Xi U26 890 2 from w320.x _ _ rfl)))))))
                    have w452 : 0 ≤ Xi U26 890 2 ∧ Xi U26 890 2 ≤ 20 := hHU26.c _ _
                    exact ⟨hHT36, hFT36, _, rfl, ⟨by omega, by omega⟩, (by omega), (by omega), (by first | (intro a b c; exact absurd a (by omega)) | (intro a b c; exact absurd b (by omega)) | (intro a b c; exact absurd c (by omega)) | (intro a b c; exact ⟨by assumption, by omega, by omega, tk103 (P := T35) (m877 hFT36 rfl) (m877 hFT35 rfl) (by omega) (by omega)⟩))⟩
  refine And.intro (fun w453 => ⟨_, rfl, ?_⟩) (fun w454 => ?_)
  · refine l_aload_n rfl rfl ?_
    refine l_iconst rfl ?_
    refine l_pfi rfl rfl rfl rfl ?_
    obtain ⟨U37, eU37⟩ : ∃ T : sS, T = uI U1 890 2 (Int32.ofInt 4) := ⟨_, rfl⟩
    rw [← eU37]
    have hHU37 : HI U37 := by rw [eU37]; exact HI_w hHU1 (show 0 ≤ 4 by omega) (show 4 ≤ 20 by omega)
    have hFU37 : FR md_gr_check S U37 := by rw [eU37]; exact FR.wI hFU1 (mdf_i (r := (890, 891, 2, 3)) (List.mem_of_getElem? (i := 1) rfl) (inR_i (by omega) (by omega) (by omega) (by omega)))
    have w455 : Xi U37 890 2 = 4 := by rw [eU37]; exact Xi_same (by unfold rg; omega)
    obtain ⟨hv1, hs0⟩ := SAY_v1s eU1 eU37 (by omega)
    refine l_aload_n rfl rfl ?_
    have w456 : Xi U37 876 7 = Xi S 876 7 := (show Xi U37 876 7 = Xi U1 876 7 from by rw [eU37]; exact Xi_ne (by omega)).trans ((show Xi U1 876 7 = Xi S 876 7 from by rw [eU1]; exact Xi_ne (by omega)))
    have w457 : 0 ≤ Xi S 876 7 ∧ Xi S 876 7 ≤ 5125 := hH.c _ _
    have w458 : Xi U37 890 1 = Xi U1 890 1 := (show Xi U37 890 1 = Xi U1 890 1 from by rw [eU37]; exact Xi_ne (by omega))
    have w459 : 0 ≤ Xi U1 890 1 ∧ Xi U1 890 1 ≤ 5126 := hHU1.c _ _
    refine l_callV rfl rfl rfl (t_gr_takeActing hHU37 (by first | assumption | omega) (by first | assumption | (apply_assumption; omega)) _) ?_
    rintro _ T38 ⟨hHT38, w463, z462, rfl, w462, w460, w461⟩
    have hFT38 : FR md_gr_check S T38 := FR.tr hFU37 w463 rfl
    show Rl _ _ _ _ _ [iv z462] _ _
    refine l_istore_n rfl rfl rfl ?_
    refine l_goto rfl rfl ?_
    refine l_iload_n rfl rfl ?_
    refine l_if_eq rfl rfl (by unfold rg; omega) (fun w464 => ?_) (fun w465 => ?_)
    · refine l_iconst rfl ?_
      refine l_ireturn rfl rfl ?_
      have w466 : 0 ≤ Xi T38 890 1 ∧ Xi T38 890 1 ≤ 5126 := hHT38.c _ _
      have w467 : Xi T38 890 2 = Xi U37 890 2 := (show Xi T38 890 2 = Xi U37 890 2 from w463.x _ _ rfl)
      have w468 : 0 ≤ Xi U37 890 2 ∧ Xi U37 890 2 ≤ 20 := hHU37.c _ _
      exact ⟨hHT38, hFT38, _, rfl, ⟨by omega, by omega⟩, (by omega), (by omega), (by first | (intro a b c; exact absurd a (by omega)) | (intro a b c; exact absurd b (by omega)) | (intro a b c; exact absurd c (by omega)) | (intro a b c; exact ⟨by assumption, by omega, by omega, tk103 (P := U37) (m877 hFT38 rfl) (m877 hFU37 rfl) (by omega) (by omega)⟩))⟩
    · refine l_aload_n rfl rfl ?_
      refine l_bipush rfl rfl ?_
      have w469 : Xi T38 876 7 = Xi S 876 7 := (show Xi T38 876 7 = Xi U37 876 7 from w463.x _ _ rfl).trans ( (show Xi U37 876 7 = Xi U1 876 7 from by rw [eU37]; exact Xi_ne (by omega)).trans ((show Xi U1 876 7 = Xi S 876 7 from by rw [eU1]; exact Xi_ne (by omega))))
      have w470 : 0 ≤ Xi S 876 7 ∧ Xi S 876 7 ≤ 5125 := hH.c _ _
      have w471 : 0 ≤ Xi T38 890 1 ∧ Xi T38 890 1 ≤ 5126 := hHT38.c _ _
      refine l_callV rfl rfl rfl (t_gr_take hHT38 37 ⟨by omega, by omega⟩ (by first | assumption | omega) (by first | assumption | (apply_assumption; omega)) (by first | assumption | omega) _) ?_
      rintro _ T39 ⟨hHT39, w477, z476, rfl, w476, w472, w473, w474, w475⟩
      have hFT39 : FR md_gr_check S T39 := FR.tr hFT38 w477 rfl
      show Rl _ _ _ _ _ [iv z476] _ _
      refine l_if_eq rfl rfl (by unfold rg; omega) (fun w478 => ?_) (fun w479 => ?_)
      · refine l_aload_n rfl rfl ?_
        refine l_bipush rfl rfl ?_
        have w480 : Xi T39 876 7 = Xi S 876 7 := (show Xi T39 876 7 = Xi T38 876 7 from w477.x _ _ rfl).trans ( (show Xi T38 876 7 = Xi U37 876 7 from w463.x _ _ rfl).trans ( (show Xi U37 876 7 = Xi U1 876 7 from by rw [eU37]; exact Xi_ne (by omega)).trans ((show Xi U1 876 7 = Xi S 876 7 from by rw [eU1]; exact Xi_ne (by omega)))))
        have w481 : 0 ≤ Xi S 876 7 ∧ Xi S 876 7 ≤ 5125 := hH.c _ _
        have w482 : 0 ≤ Xi T39 890 1 ∧ Xi T39 890 1 ≤ 5126 := hHT39.c _ _
        refine l_callV rfl rfl rfl (t_gr_take hHT39 106 ⟨by omega, by omega⟩ (by first | assumption | omega) (by first | assumption | (apply_assumption; omega)) (by first | assumption | omega) _) ?_
        rintro _ T40 ⟨hHT40, w488, z487, rfl, w487, w483, w484, w485, w486⟩
        have hFT40 : FR md_gr_check S T40 := FR.tr hFT39 w488 rfl
        show Rl _ _ _ _ _ [iv z487] _ _
        refine l_if_eq rfl rfl (by unfold rg; omega) (fun w489 => ?_) (fun w490 => ?_)
        · refine l_iconst rfl ?_
          refine l_ireturn rfl rfl ?_
          have w491 : 0 ≤ Xi T40 890 1 ∧ Xi T40 890 1 ≤ 5126 := hHT40.c _ _
          have w492 : Xi T40 890 2 = Xi U37 890 2 := (show Xi T40 890 2 = Xi T39 890 2 from w488.x _ _ rfl).trans ( (show Xi T39 890 2 = Xi T38 890 2 from w477.x _ _ rfl).trans ((show Xi T38 890 2 = Xi U37 890 2 from w463.x _ _ rfl)))
          have w493 : 0 ≤ Xi U37 890 2 ∧ Xi U37 890 2 ≤ 20 := hHU37.c _ _
          exact ⟨hHT40, hFT40, _, rfl, ⟨by omega, by omega⟩, (by omega), (by omega), (by first | (intro a b c; exact absurd a (by omega)) | (intro a b c; exact absurd b (by omega)) | (intro a b c; exact absurd c (by omega)) | (intro a b c; exact ⟨by assumption, by omega, by omega, tk103 (P := T39) (m877 hFT40 rfl) (m877 hFT39 rfl) (by omega) (by omega)⟩))⟩
        · refine l_aload_n rfl rfl ?_
          have w494 : Xi T40 876 7 = Xi S 876 7 := (show Xi T40 876 7 = Xi T39 876 7 from w488.x _ _ rfl).trans ( (show Xi T39 876 7 = Xi T38 876 7 from w477.x _ _ rfl).trans ( (show Xi T38 876 7 = Xi U37 876 7 from w463.x _ _ rfl).trans ( (show Xi U37 876 7 = Xi U1 876 7 from by rw [eU37]; exact Xi_ne (by omega)).trans ((show Xi U1 876 7 = Xi S 876 7 from by rw [eU1]; exact Xi_ne (by omega))))))
          have w495 : 0 ≤ Xi S 876 7 ∧ Xi S 876 7 ≤ 5125 := hH.c _ _
          have w496 : 0 ≤ Xi T40 890 1 ∧ Xi T40 890 1 ≤ 5126 := hHT40.c _ _
          refine l_callV rfl rfl rfl (t_gr_takePhrases hHT40 (by first | assumption | omega) (by first | assumption | (apply_assumption; omega)) _) ?_
          rintro _ T41 ⟨hHT41, w500, z499, rfl, w499, w497, w498⟩
          have hFT41 : FR md_gr_check S T41 := FR.tr hFT40 w500 rfl
          show Rl _ _ _ _ _ [iv z499] _ _
          refine l_if_eq rfl rfl (by unfold rg; omega) (fun w501 => ?_) (fun w502 => ?_)
          · refine l_iconst rfl ?_
            refine l_ireturn rfl rfl ?_
            have w503 : 0 ≤ Xi T41 890 1 ∧ Xi T41 890 1 ≤ 5126 := hHT41.c _ _
            have w504 : Xi T41 890 2 = Xi U37 890 2 := (show Xi T41 890 2 = Xi T40 890 2 from w500.x _ _ rfl).trans ( (show Xi T40 890 2 = Xi T39 890 2 from w488.x _ _ rfl).trans ( (show Xi T39 890 2 = Xi T38 890 2 from w477.x _ _ rfl).trans ((show Xi T38 890 2 = Xi U37 890 2 from w463.x _ _ rfl))))
            have w505 : 0 ≤ Xi U37 890 2 ∧ Xi U37 890 2 ≤ 20 := hHU37.c _ _
            exact ⟨hHT41, hFT41, _, rfl, ⟨by omega, by omega⟩, (by omega), (by omega), (by first | (intro a b c; exact absurd a (by omega)) | (intro a b c; exact absurd b (by omega)) | (intro a b c; exact absurd c (by omega)) | (intro a b c; exact ⟨by assumption, by omega, by omega, tk103 (P := T40) (m877 hFT41 rfl) (m877 hFT40 rfl) (by omega) (by omega)⟩))⟩
          · refine l_aload_n rfl rfl ?_
            refine l_bipush rfl rfl ?_
            have w506 : Xi T41 876 7 = Xi S 876 7 := (show Xi T41 876 7 = Xi T40 876 7 from w500.x _ _ rfl).trans ( (show Xi T40 876 7 = Xi T39 876 7 from w488.x _ _ rfl).trans ( (show Xi T39 876 7 = Xi T38 876 7 from w477.x _ _ rfl).trans ( (show Xi T38 876 7 = Xi U37 876 7 from w463.x _ _ rfl).trans ( (show Xi U37 876 7 = Xi U1 876 7 from by rw [eU37]; exact Xi_ne (by omega)).trans ((show Xi U1 876 7 = Xi S 876 7 from by rw [eU1]; exact Xi_ne (by omega)))))))
            have w507 : 0 ≤ Xi S 876 7 ∧ Xi S 876 7 ≤ 5125 := hH.c _ _
            have w508 : 0 ≤ Xi T41 890 1 ∧ Xi T41 890 1 ≤ 5126 := hHT41.c _ _
            refine l_callV rfl rfl rfl (t_gr_take hHT41 103 ⟨by omega, by omega⟩ (by first | assumption | omega) (by first | assumption | (apply_assumption; omega)) (by first | assumption | omega) _) ?_
            rintro _ T42 ⟨hHT42, w514, z513, rfl, w513, w509, w510, w511, w512⟩
            have hFT42 : FR md_gr_check S T42 := FR.tr hFT41 w514 rfl
            show Rl _ _ _ _ _ [iv z513] _ _
            refine l_if_eq rfl rfl (by unfold rg; omega) (fun w515 => ?_) (fun w516 => ?_)
            · refine l_iconst rfl ?_
              refine l_ireturn rfl rfl ?_
              have w517 : 0 ≤ Xi T42 890 1 ∧ Xi T42 890 1 ≤ 5126 := hHT42.c _ _
              have w518 : Xi T42 890 2 = Xi U37 890 2 := (show Xi T42 890 2 = Xi T41 890 2 from w514.x _ _ rfl).trans ( (show Xi T41 890 2 = Xi T40 890 2 from w500.x _ _ rfl).trans ( (show Xi T40 890 2 = Xi T39 890 2 from w488.x _ _ rfl).trans ( (show Xi T39 890 2 = Xi T38 890 2 from w477.x _ _ rfl).trans ((show Xi T38 890 2 = Xi U37 890 2 from w463.x _ _ rfl)))))
              have w519 : 0 ≤ Xi U37 890 2 ∧ Xi U37 890 2 ≤ 20 := hHU37.c _ _
              exact ⟨hHT42, hFT42, _, rfl, ⟨by omega, by omega⟩, (by omega), (by omega), (by first | (intro a b c; exact absurd a (by omega)) | (intro a b c; exact absurd b (by omega)) | (intro a b c; exact absurd c (by omega)) | (intro a b c; exact ⟨by assumption, by omega, by omega, tk103 (P := T41) (m877 hFT42 rfl) (m877 hFT41 rfl) (by omega) (by omega)⟩))⟩
            · refine l_iconst rfl ?_
              refine l_goto rfl rfl ?_
              refine l_ireturn rfl rfl ?_
              have w520 : 0 ≤ Xi T42 890 1 ∧ Xi T42 890 1 ≤ 5126 := hHT42.c _ _
              have w521 : Xi T42 890 2 = Xi U37 890 2 := (show Xi T42 890 2 = Xi T41 890 2 from w514.x _ _ rfl).trans ( (show Xi T41 890 2 = Xi T40 890 2 from w500.x _ _ rfl).trans ( (show Xi T40 890 2 = Xi T39 890 2 from w488.x _ _ rfl).trans ( (show Xi T39 890 2 = Xi T38 890 2 from w477.x _ _ rfl).trans ((show Xi T38 890 2 = Xi U37 890 2 from w463.x _ _ rfl)))))
              have w522 : 0 ≤ Xi U37 890 2 ∧ Xi U37 890 2 ≤ 20 := hHU37.c _ _
              exact ⟨hHT42, hFT42, _, rfl, ⟨by omega, by omega⟩, (by omega), (by omega), (by first | (intro a b c; exact absurd a (by omega)) | (intro a b c; exact absurd b (by omega)) | (intro a b c; exact absurd c (by omega)) | (intro a b c; exact ⟨by assumption, by omega, by omega, tk103 (P := T41) (m877 hFT42 rfl) (m877 hFT41 rfl) (by omega) (by omega)⟩))⟩
      · refine l_aload_n rfl rfl ?_
        have w523 : Xi T39 876 7 = Xi S 876 7 := (show Xi T39 876 7 = Xi T38 876 7 from w477.x _ _ rfl).trans ( (show Xi T38 876 7 = Xi U37 876 7 from w463.x _ _ rfl).trans ( (show Xi U37 876 7 = Xi U1 876 7 from by rw [eU37]; exact Xi_ne (by omega)).trans ((show Xi U1 876 7 = Xi S 876 7 from by rw [eU1]; exact Xi_ne (by omega)))))
        have w524 : 0 ≤ Xi S 876 7 ∧ Xi S 876 7 ≤ 5125 := hH.c _ _
        have w525 : 0 ≤ Xi T39 890 1 ∧ Xi T39 890 1 ≤ 5126 := hHT39.c _ _
        refine l_callV rfl rfl rfl (t_gr_takeTests hHT39 (by first | assumption | omega) (by first | assumption | (apply_assumption; omega)) _) ?_
        rintro _ T43 ⟨hHT43, w529, z528, rfl, w528, w526, w527⟩
        have hFT43 : FR md_gr_check S T43 := FR.tr hFT39 w529 rfl
        show Rl _ _ _ _ _ [iv z528] _ _
        refine l_if_eq rfl rfl (by unfold rg; omega) (fun w530 => ?_) (fun w531 => ?_)
        · refine l_iconst rfl ?_
          refine l_ireturn rfl rfl ?_
          have w532 : 0 ≤ Xi T43 890 1 ∧ Xi T43 890 1 ≤ 5126 := hHT43.c _ _
          have w533 : Xi T43 890 2 = Xi U37 890 2 := (show Xi T43 890 2 = Xi T39 890 2 from w529.x _ _ rfl).trans ( (show Xi T39 890 2 = Xi T38 890 2 from w477.x _ _ rfl).trans ((show Xi T38 890 2 = Xi U37 890 2 from w463.x _ _ rfl)))
          have w534 : 0 ≤ Xi U37 890 2 ∧ Xi U37 890 2 ≤ 20 := hHU37.c _ _
          exact ⟨hHT43, hFT43, _, rfl, ⟨by omega, by omega⟩, (by omega), (by omega), (by first | (intro a b c; exact absurd a (by omega)) | (intro a b c; exact absurd b (by omega)) | (intro a b c; exact absurd c (by omega)) | (intro a b c; exact ⟨by assumption, by omega, by omega, tk103 (P := T39) (m877 hFT43 rfl) (m877 hFT39 rfl) (by omega) (by omega)⟩))⟩
        · refine l_aload_n rfl rfl ?_
          refine l_bipush rfl rfl ?_
          have w535 : Xi T43 876 7 = Xi S 876 7 := (show Xi T43 876 7 = Xi T39 876 7 from w529.x _ _ rfl).trans ( (show Xi T39 876 7 = Xi T38 876 7 from w477.x _ _ rfl).trans ( (show Xi T38 876 7 = Xi U37 876 7 from w463.x _ _ rfl).trans ( (show Xi U37 876 7 = Xi U1 876 7 from by rw [eU37]; exact Xi_ne (by omega)).trans ((show Xi U1 876 7 = Xi S 876 7 from by rw [eU1]; exact Xi_ne (by omega))))))
          have w536 : 0 ≤ Xi S 876 7 ∧ Xi S 876 7 ≤ 5125 := hH.c _ _
          have w537 : 0 ≤ Xi T43 890 1 ∧ Xi T43 890 1 ≤ 5126 := hHT43.c _ _
          refine l_callV rfl rfl rfl (t_gr_take hHT43 106 ⟨by omega, by omega⟩ (by first | assumption | omega) (by first | assumption | (apply_assumption; omega)) (by first | assumption | omega) _) ?_
          rintro _ T44 ⟨hHT44, w543, z542, rfl, w542, w538, w539, w540, w541⟩
          have hFT44 : FR md_gr_check S T44 := FR.tr hFT43 w543 rfl
          show Rl _ _ _ _ _ [iv z542] _ _
          refine l_if_eq rfl rfl (by unfold rg; omega) (fun w544 => ?_) (fun w545 => ?_)
          · refine l_iconst rfl ?_
            refine l_ireturn rfl rfl ?_
            have w546 : 0 ≤ Xi T44 890 1 ∧ Xi T44 890 1 ≤ 5126 := hHT44.c _ _
            have w547 : Xi T44 890 2 = Xi U37 890 2 := (show Xi T44 890 2 = Xi T43 890 2 from w543.x _ _ rfl).trans ( (show Xi T43 890 2 = Xi T39 890 2 from w529.x _ _ rfl).trans ( (show Xi T39 890 2 = Xi T38 890 2 from w477.x _ _ rfl).trans ((show Xi T38 890 2 = Xi U37 890 2 from w463.x _ _ rfl))))
            have w548 : 0 ≤ Xi U37 890 2 ∧ Xi U37 890 2 ≤ 20 := hHU37.c _ _
            exact ⟨hHT44, hFT44, _, rfl, ⟨by omega, by omega⟩, (by omega), (by omega), (by first | (intro a b c; exact absurd a (by omega)) | (intro a b c; exact absurd b (by omega)) | (intro a b c; exact absurd c (by omega)) | (intro a b c; exact ⟨by assumption, by omega, by omega, tk103 (P := T43) (m877 hFT44 rfl) (m877 hFT43 rfl) (by omega) (by omega)⟩))⟩
          · refine l_aload_n rfl rfl ?_
            have w549 : Xi T44 876 7 = Xi S 876 7 := (show Xi T44 876 7 = Xi T43 876 7 from w543.x _ _ rfl).trans ( (show Xi T43 876 7 = Xi T39 876 7 from w529.x _ _ rfl).trans ( (show Xi T39 876 7 = Xi T38 876 7 from w477.x _ _ rfl).trans ( (show Xi T38 876 7 = Xi U37 876 7 from w463.x _ _ rfl).trans ( (show Xi U37 876 7 = Xi U1 876 7 from by rw [eU37]; exact Xi_ne (by omega)).trans ((show Xi U1 876 7 = Xi S 876 7 from by rw [eU1]; exact Xi_ne (by omega)))))))
            have w550 : 0 ≤ Xi S 876 7 ∧ Xi S 876 7 ≤ 5125 := hH.c _ _
            have w551 : 0 ≤ Xi T44 890 1 ∧ Xi T44 890 1 ≤ 5126 := hHT44.c _ _
            refine l_callV rfl rfl rfl (t_gr_takePhrases hHT44 (by first | assumption | omega) (by first | assumption | (apply_assumption; omega)) _) ?_
            rintro _ T45 ⟨hHT45, w555, z554, rfl, w554, w552, w553⟩
            have hFT45 : FR md_gr_check S T45 := FR.tr hFT44 w555 rfl
            show Rl _ _ _ _ _ [iv z554] _ _
            refine l_if_eq rfl rfl (by unfold rg; omega) (fun w556 => ?_) (fun w557 => ?_)
            · refine l_iconst rfl ?_
              refine l_ireturn rfl rfl ?_
              have w558 : 0 ≤ Xi T45 890 1 ∧ Xi T45 890 1 ≤ 5126 := hHT45.c _ _
              have w559 : Xi T45 890 2 = Xi U37 890 2 := (show Xi T45 890 2 = Xi T44 890 2 from w555.x _ _ rfl).trans ( (show Xi T44 890 2 = Xi T43 890 2 from w543.x _ _ rfl).trans ( (show Xi T43 890 2 = Xi T39 890 2 from w529.x _ _ rfl).trans ( (show Xi T39 890 2 = Xi T38 890 2 from w477.x _ _ rfl).trans ((show Xi T38 890 2 = Xi U37 890 2 from w463.x _ _ rfl)))))
              have w560 : 0 ≤ Xi U37 890 2 ∧ Xi U37 890 2 ≤ 20 := hHU37.c _ _
              exact ⟨hHT45, hFT45, _, rfl, ⟨by omega, by omega⟩, (by omega), (by omega), (by first | (intro a b c; exact absurd a (by omega)) | (intro a b c; exact absurd b (by omega)) | (intro a b c; exact absurd c (by omega)) | (intro a b c; exact ⟨by assumption, by omega, by omega, tk103 (P := T44) (m877 hFT45 rfl) (m877 hFT44 rfl) (by omega) (by omega)⟩))⟩
            · refine l_aload_n rfl rfl ?_
              refine l_bipush rfl rfl ?_
              have w561 : Xi T45 876 7 = Xi S 876 7 := (show Xi T45 876 7 = Xi T44 876 7 from w555.x _ _ rfl).trans ( (show Xi T44 876 7 = Xi T43 876 7 from w543.x _ _ rfl).trans ( (show Xi T43 876 7 = Xi T39 876 7 from w529.x _ _ rfl).trans ( (show Xi T39 876 7 = Xi T38 876 7 from w477.x _ _ rfl).trans ( (show Xi T38 876 7 = Xi U37 876 7 from w463.x _ _ rfl).trans ( (show Xi U37 876 7 = Xi U1 876 7 from by rw [eU37]; exact Xi_ne (by omega)).trans ((show Xi U1 876 7 = Xi S 876 7 from by rw [eU1]; exact Xi_ne (by omega))))))))
              have w562 : 0 ≤ Xi S 876 7 ∧ Xi S 876 7 ≤ 5125 := hH.c _ _
              have w563 : 0 ≤ Xi T45 890 1 ∧ Xi T45 890 1 ≤ 5126 := hHT45.c _ _
              refine l_callV rfl rfl rfl (t_gr_take hHT45 103 ⟨by omega, by omega⟩ (by first | assumption | omega) (by first | assumption | (apply_assumption; omega)) (by first | assumption | omega) _) ?_
              rintro _ T46 ⟨hHT46, w569, z568, rfl, w568, w564, w565, w566, w567⟩
              have hFT46 : FR md_gr_check S T46 := FR.tr hFT45 w569 rfl
              show Rl _ _ _ _ _ [iv z568] _ _
              refine l_if_eq rfl rfl (by unfold rg; omega) (fun w570 => ?_) (fun w571 => ?_)
              · refine l_iconst rfl ?_
                refine l_ireturn rfl rfl ?_
                have w572 : 0 ≤ Xi T46 890 1 ∧ Xi T46 890 1 ≤ 5126 := hHT46.c _ _
                have w573 : Xi T46 890 2 = Xi U37 890 2 := (show Xi T46 890 2 = Xi T45 890 2 from w569.x _ _ rfl).trans ( (show Xi T45 890 2 = Xi T44 890 2 from w555.x _ _ rfl).trans ( (show Xi T44 890 2 = Xi T43 890 2 from w543.x _ _ rfl).trans ( (show Xi T43 890 2 = Xi T39 890 2 from w529.x _ _ rfl).trans ( (show Xi T39 890 2 = Xi T38 890 2 from w477.x _ _ rfl).trans ((show Xi T38 890 2 = Xi U37 890 2 from w463.x _ _ rfl))))))
                have w574 : 0 ≤ Xi U37 890 2 ∧ Xi U37 890 2 ≤ 20 := hHU37.c _ _
                exact ⟨hHT46, hFT46, _, rfl, ⟨by omega, by omega⟩, (by omega), (by omega), (by first | (intro a b c; exact absurd a (by omega)) | (intro a b c; exact absurd b (by omega)) | (intro a b c; exact absurd c (by omega)) | (intro a b c; exact ⟨by assumption, by omega, by omega, tk103 (P := T45) (m877 hFT46 rfl) (m877 hFT45 rfl) (by omega) (by omega)⟩))⟩
              · refine l_iconst rfl ?_
                refine l_goto rfl rfl ?_
                refine l_ireturn rfl rfl ?_
                have w575 : 0 ≤ Xi T46 890 1 ∧ Xi T46 890 1 ≤ 5126 := hHT46.c _ _
                have w576 : Xi T46 890 2 = Xi U37 890 2 := (show Xi T46 890 2 = Xi T45 890 2 from w569.x _ _ rfl).trans ( (show Xi T45 890 2 = Xi T44 890 2 from w555.x _ _ rfl).trans ( (show Xi T44 890 2 = Xi T43 890 2 from w543.x _ _ rfl).trans ( (show Xi T43 890 2 = Xi T39 890 2 from w529.x _ _ rfl).trans ( (show Xi T39 890 2 = Xi T38 890 2 from w477.x _ _ rfl).trans ((show Xi T38 890 2 = Xi U37 890 2 from w463.x _ _ rfl))))))
                have w577 : 0 ≤ Xi U37 890 2 ∧ Xi U37 890 2 ≤ 20 := hHU37.c _ _
                exact ⟨hHT46, hFT46, _, rfl, ⟨by omega, by omega⟩, (by omega), (by omega), (by first | (intro a b c; exact absurd a (by omega)) | (intro a b c; exact absurd b (by omega)) | (intro a b c; exact absurd c (by omega)) | (intro a b c; exact ⟨by assumption, by omega, by omega, tk103 (P := T45) (m877 hFT46 rfl) (m877 hFT45 rfl) (by omega) (by omega)⟩))⟩
  refine And.intro (fun w578 => ⟨_, rfl, ?_⟩) (fun w579 => ?_)
  · refine l_aload_n rfl rfl ?_
    refine l_bipush rfl rfl ?_
    refine l_pfi rfl rfl rfl rfl ?_
    obtain ⟨U47, eU47⟩ : ∃ T : sS, T = uI U1 890 2 (Int32.ofInt 6) := ⟨_, rfl⟩
    rw [← eU47]
    have hHU47 : HI U47 := by rw [eU47]; exact HI_w hHU1 (show 0 ≤ 6 by omega) (show 6 ≤ 20 by omega)
    have hFU47 : FR md_gr_check S U47 := by rw [eU47]; exact FR.wI hFU1 (mdf_i (r := (890, 891, 2, 3)) (List.mem_of_getElem? (i := 1) rfl) (inR_i (by omega) (by omega) (by omega) (by omega)))
    have w580 : Xi U47 890 2 = 6 := by rw [eU47]; exact Xi_same (by unfold rg; omega)
    obtain ⟨hv1, hs0⟩ := SAY_v1s eU1 eU47 (by omega)
    refine l_aload_n rfl rfl ?_
    refine l_bipush rfl rfl ?_
    have w581 : Xi U47 876 7 = Xi S 876 7 := (show Xi U47 876 7 = Xi U1 876 7 from by rw [eU47]; exact Xi_ne (by omega)).trans ((show Xi U1 876 7 = Xi S 876 7 from by rw [eU1]; exact Xi_ne (by omega)))
    have w582 : 0 ≤ Xi S 876 7 ∧ Xi S 876 7 ≤ 5125 := hH.c _ _
    have w583 : Xi U47 890 1 = Xi U1 890 1 := (show Xi U47 890 1 = Xi U1 890 1 from by rw [eU47]; exact Xi_ne (by omega))
    have w584 : 0 ≤ Xi U1 890 1 ∧ Xi U1 890 1 ≤ 5126 := hHU1.c _ _
    refine l_callV rfl rfl rfl (t_gr_take hHU47 42 ⟨by omega, by omega⟩ (by first | assumption | omega) (by first | assumption | (apply_assumption; omega)) (by first | assumption | omega) _) ?_
    rintro _ T48 ⟨hHT48, w590, z589, rfl, w589, w585, w586, w587, w588⟩
    have hFT48 : FR md_gr_check S T48 := FR.tr hFU47 w590 rfl
    show Rl _ _ _ _ _ [iv z589] _ _
    refine l_istore_n rfl rfl rfl ?_
    refine l_goto rfl rfl ?_
    refine l_iload_n rfl rfl ?_
    refine l_if_eq rfl rfl (by unfold rg; omega) (fun w591 => ?_) (fun w592 => ?_)
    · refine l_iconst rfl ?_
      refine l_ireturn rfl rfl ?_
      have w593 : 0 ≤ Xi T48 890 1 ∧ Xi T48 890 1 ≤ 5126 := hHT48.c _ _
      have w594 : Xi T48 890 2 = Xi U47 890 2 := (show Xi T48 890 2 = Xi U47 890 2 from w590.x _ _ rfl)
      have w595 : 0 ≤ Xi U47 890 2 ∧ Xi U47 890 2 ≤ 20 := hHU47.c _ _
      exact ⟨hHT48, hFT48, _, rfl, ⟨by omega, by omega⟩, (by omega), (by omega), (by first | (intro a b c; exact absurd a (by omega)) | (intro a b c; exact absurd b (by omega)) | (intro a b c; exact absurd c (by omega)) | (intro a b c; exact ⟨by assumption, by omega, by omega, tk103 (P := U47) (m877 hFT48 rfl) (m877 hFU47 rfl) (by omega) (by omega)⟩))⟩
    · refine l_aload_n rfl rfl ?_
      refine l_bipush rfl rfl ?_
      have w596 : Xi T48 876 7 = Xi S 876 7 := (show Xi T48 876 7 = Xi U47 876 7 from w590.x _ _ rfl).trans ( (show Xi U47 876 7 = Xi U1 876 7 from by rw [eU47]; exact Xi_ne (by omega)).trans ((show Xi U1 876 7 = Xi S 876 7 from by rw [eU1]; exact Xi_ne (by omega))))
      have w597 : 0 ≤ Xi S 876 7 ∧ Xi S 876 7 ≤ 5125 := hH.c _ _
      have w598 : 0 ≤ Xi T48 890 1 ∧ Xi T48 890 1 ≤ 5126 := hHT48.c _ _
      refine l_callV rfl rfl rfl (t_gr_take hHT48 37 ⟨by omega, by omega⟩ (by first | assumption | omega) (by first | assumption | (apply_assumption; omega)) (by first | assumption | omega) _) ?_
      rintro _ T49 ⟨hHT49, w604, z603, rfl, w603, w599, w600, w601, w602⟩
      have hFT49 : FR md_gr_check S T49 := FR.tr hFT48 w604 rfl
      show Rl _ _ _ _ _ [iv z603] _ _
      refine l_if_eq rfl rfl (by unfold rg; omega) (fun w605 => ?_) (fun w606 => ?_)
      · refine l_aload_n rfl rfl ?_
        refine l_bipush rfl rfl ?_
        have w607 : Xi T49 876 7 = Xi S 876 7 := (show Xi T49 876 7 = Xi T48 876 7 from w604.x _ _ rfl).trans ( (show Xi T48 876 7 = Xi U47 876 7 from w590.x _ _ rfl).trans ( (show Xi U47 876 7 = Xi U1 876 7 from by rw [eU47]; exact Xi_ne (by omega)).trans ((show Xi U1 876 7 = Xi S 876 7 from by rw [eU1]; exact Xi_ne (by omega)))))
        have w608 : 0 ≤ Xi S 876 7 ∧ Xi S 876 7 ≤ 5125 := hH.c _ _
        have w609 : 0 ≤ Xi T49 890 1 ∧ Xi T49 890 1 ≤ 5126 := hHT49.c _ _
        refine l_callV rfl rfl rfl (t_gr_take hHT49 106 ⟨by omega, by omega⟩ (by first | assumption | omega) (by first | assumption | (apply_assumption; omega)) (by first | assumption | omega) _) ?_
        rintro _ T50 ⟨hHT50, w615, z614, rfl, w614, w610, w611, w612, w613⟩
        have hFT50 : FR md_gr_check S T50 := FR.tr hFT49 w615 rfl
        show Rl _ _ _ _ _ [iv z614] _ _
        refine l_if_eq rfl rfl (by unfold rg; omega) (fun w616 => ?_) (fun w617 => ?_)
        · refine l_iconst rfl ?_
          refine l_ireturn rfl rfl ?_
          have w618 : 0 ≤ Xi T50 890 1 ∧ Xi T50 890 1 ≤ 5126 := hHT50.c _ _
          have w619 : Xi T50 890 2 = Xi U47 890 2 := (show Xi T50 890 2 = Xi T49 890 2 from w615.x _ _ rfl).trans ( (show Xi T49 890 2 = Xi T48 890 2 from w604.x _ _ rfl).trans ((show Xi T48 890 2 = Xi U47 890 2 from w590.x _ _ rfl)))
          have w620 : 0 ≤ Xi U47 890 2 ∧ Xi U47 890 2 ≤ 20 := hHU47.c _ _
          exact ⟨hHT50, hFT50, _, rfl, ⟨by omega, by omega⟩, (by omega), (by omega), (by first | (intro a b c; exact absurd a (by omega)) | (intro a b c; exact absurd b (by omega)) | (intro a b c; exact absurd c (by omega)) | (intro a b c; exact ⟨by assumption, by omega, by omega, tk103 (P := T49) (m877 hFT50 rfl) (m877 hFT49 rfl) (by omega) (by omega)⟩))⟩
        · refine l_aload_n rfl rfl ?_
          have w621 : Xi T50 876 7 = Xi S 876 7 := (show Xi T50 876 7 = Xi T49 876 7 from w615.x _ _ rfl).trans ( (show Xi T49 876 7 = Xi T48 876 7 from w604.x _ _ rfl).trans ( (show Xi T48 876 7 = Xi U47 876 7 from w590.x _ _ rfl).trans ( (show Xi U47 876 7 = Xi U1 876 7 from by rw [eU47]; exact Xi_ne (by omega)).trans ((show Xi U1 876 7 = Xi S 876 7 from by rw [eU1]; exact Xi_ne (by omega))))))
          have w622 : 0 ≤ Xi S 876 7 ∧ Xi S 876 7 ≤ 5125 := hH.c _ _
          have w623 : 0 ≤ Xi T50 890 1 ∧ Xi T50 890 1 ≤ 5126 := hHT50.c _ _
          refine l_callV rfl rfl rfl (t_gr_takePhrases hHT50 (by first | assumption | omega) (by first | assumption | (apply_assumption; omega)) _) ?_
          rintro _ T51 ⟨hHT51, w627, z626, rfl, w626, w624, w625⟩
          have hFT51 : FR md_gr_check S T51 := FR.tr hFT50 w627 rfl
          show Rl _ _ _ _ _ [iv z626] _ _
          refine l_if_eq rfl rfl (by unfold rg; omega) (fun w628 => ?_) (fun w629 => ?_)
          · refine l_iconst rfl ?_
            refine l_ireturn rfl rfl ?_
            have w630 : 0 ≤ Xi T51 890 1 ∧ Xi T51 890 1 ≤ 5126 := hHT51.c _ _
            have w631 : Xi T51 890 2 = Xi U47 890 2 := (show Xi T51 890 2 = Xi T50 890 2 from w627.x _ _ rfl).trans ( (show Xi T50 890 2 = Xi T49 890 2 from w615.x _ _ rfl).trans ( (show Xi T49 890 2 = Xi T48 890 2 from w604.x _ _ rfl).trans ((show Xi T48 890 2 = Xi U47 890 2 from w590.x _ _ rfl))))
            have w632 : 0 ≤ Xi U47 890 2 ∧ Xi U47 890 2 ≤ 20 := hHU47.c _ _
            exact ⟨hHT51, hFT51, _, rfl, ⟨by omega, by omega⟩, (by omega), (by omega), (by first | (intro a b c; exact absurd a (by omega)) | (intro a b c; exact absurd b (by omega)) | (intro a b c; exact absurd c (by omega)) | (intro a b c; exact ⟨by assumption, by omega, by omega, tk103 (P := T50) (m877 hFT51 rfl) (m877 hFT50 rfl) (by omega) (by omega)⟩))⟩
          · refine l_aload_n rfl rfl ?_
            refine l_bipush rfl rfl ?_
            have w633 : Xi T51 876 7 = Xi S 876 7 := (show Xi T51 876 7 = Xi T50 876 7 from w627.x _ _ rfl).trans ( (show Xi T50 876 7 = Xi T49 876 7 from w615.x _ _ rfl).trans ( (show Xi T49 876 7 = Xi T48 876 7 from w604.x _ _ rfl).trans ( (show Xi T48 876 7 = Xi U47 876 7 from w590.x _ _ rfl).trans ( (show Xi U47 876 7 = Xi U1 876 7 from by rw [eU47]; exact Xi_ne (by omega)).trans ((show Xi U1 876 7 = Xi S 876 7 from by rw [eU1]; exact Xi_ne (by omega)))))))
            have w634 : 0 ≤ Xi S 876 7 ∧ Xi S 876 7 ≤ 5125 := hH.c _ _
            have w635 : 0 ≤ Xi T51 890 1 ∧ Xi T51 890 1 ≤ 5126 := hHT51.c _ _
            refine l_callV rfl rfl rfl (t_gr_take hHT51 103 ⟨by omega, by omega⟩ (by first | assumption | omega) (by first | assumption | (apply_assumption; omega)) (by first | assumption | omega) _) ?_
            rintro _ T52 ⟨hHT52, w641, z640, rfl, w640, w636, w637, w638, w639⟩
            have hFT52 : FR md_gr_check S T52 := FR.tr hFT51 w641 rfl
            show Rl _ _ _ _ _ [iv z640] _ _
            refine l_if_eq rfl rfl (by unfold rg; omega) (fun w642 => ?_) (fun w643 => ?_)
            · refine l_iconst rfl ?_
              refine l_ireturn rfl rfl ?_
              have w644 : 0 ≤ Xi T52 890 1 ∧ Xi T52 890 1 ≤ 5126 := hHT52.c _ _
              have w645 : Xi T52 890 2 = Xi U47 890 2 := (show Xi T52 890 2 = Xi T51 890 2 from w641.x _ _ rfl).trans ( (show Xi T51 890 2 = Xi T50 890 2 from w627.x _ _ rfl).trans ( (show Xi T50 890 2 = Xi T49 890 2 from w615.x _ _ rfl).trans ( (show Xi T49 890 2 = Xi T48 890 2 from w604.x _ _ rfl).trans ((show Xi T48 890 2 = Xi U47 890 2 from w590.x _ _ rfl)))))
              have w646 : 0 ≤ Xi U47 890 2 ∧ Xi U47 890 2 ≤ 20 := hHU47.c _ _
              exact ⟨hHT52, hFT52, _, rfl, ⟨by omega, by omega⟩, (by omega), (by omega), (by first | (intro a b c; exact absurd a (by omega)) | (intro a b c; exact absurd b (by omega)) | (intro a b c; exact absurd c (by omega)) | (intro a b c; exact ⟨by assumption, by omega, by omega, tk103 (P := T51) (m877 hFT52 rfl) (m877 hFT51 rfl) (by omega) (by omega)⟩))⟩
            · refine l_iconst rfl ?_
              refine l_goto rfl rfl ?_
              refine l_ireturn rfl rfl ?_
              have w647 : 0 ≤ Xi T52 890 1 ∧ Xi T52 890 1 ≤ 5126 := hHT52.c _ _
              have w648 : Xi T52 890 2 = Xi U47 890 2 := (show Xi T52 890 2 = Xi T51 890 2 from w641.x _ _ rfl).trans ( (show Xi T51 890 2 = Xi T50 890 2 from w627.x _ _ rfl).trans ( (show Xi T50 890 2 = Xi T49 890 2 from w615.x _ _ rfl).trans ( (show Xi T49 890 2 = Xi T48 890 2 from w604.x _ _ rfl).trans ((show Xi T48 890 2 = Xi U47 890 2 from w590.x _ _ rfl)))))
              have w649 : 0 ≤ Xi U47 890 2 ∧ Xi U47 890 2 ≤ 20 := hHU47.c _ _
              exact ⟨hHT52, hFT52, _, rfl, ⟨by omega, by omega⟩, (by omega), (by omega), (by first | (intro a b c; exact absurd a (by omega)) | (intro a b c; exact absurd b (by omega)) | (intro a b c; exact absurd c (by omega)) | (intro a b c; exact ⟨by assumption, by omega, by omega, tk103 (P := T51) (m877 hFT52 rfl) (m877 hFT51 rfl) (by omega) (by omega)⟩))⟩
      · refine l_aload_n rfl rfl ?_
        have w650 : Xi T49 876 7 = Xi S 876 7 := (show Xi T49 876 7 = Xi T48 876 7 from w604.x _ _ rfl).trans ( (show Xi T48 876 7 = Xi U47 876 7 from w590.x _ _ rfl).trans ( (show Xi U47 876 7 = Xi U1 876 7 from by rw [eU47]; exact Xi_ne (by omega)).trans ((show Xi U1 876 7 = Xi S 876 7 from by rw [eU1]; exact Xi_ne (by omega)))))
        have w651 : 0 ≤ Xi S 876 7 ∧ Xi S 876 7 ≤ 5125 := hH.c _ _
        have w652 : 0 ≤ Xi T49 890 1 ∧ Xi T49 890 1 ≤ 5126 := hHT49.c _ _
        refine l_callV rfl rfl rfl (t_gr_takeTests hHT49 (by first | assumption | omega) (by first | assumption | (apply_assumption; omega)) _) ?_
        rintro _ T53 ⟨hHT53, w656, z655, rfl, w655, w653, w654⟩
        have hFT53 : FR md_gr_check S T53 := FR.tr hFT49 w656 rfl
        show Rl _ _ _ _ _ [iv z655] _ _
        refine l_if_eq rfl rfl (by unfold rg; omega) (fun w657 => ?_) (fun w658 => ?_)
        · refine l_iconst rfl ?_
          refine l_ireturn rfl rfl ?_
          have w659 : 0 ≤ Xi T53 890 1 ∧ Xi T53 890 1 ≤ 5126 := hHT53.c _ _
          have w660 : Xi T53 890 2 = Xi U47 890 2 := (show Xi T53 890 2 = Xi T49 890 2 from w656.x _ _ rfl).trans ( (show Xi T49 890 2 = Xi T48 890 2 from w604.x _ _ rfl).trans ((show Xi T48 890 2 = Xi U47 890 2 from w590.x _ _ rfl)))
          have w661 : 0 ≤ Xi U47 890 2 ∧ Xi U47 890 2 ≤ 20 := hHU47.c _ _
          exact ⟨hHT53, hFT53, _, rfl, ⟨by omega, by omega⟩, (by omega), (by omega), (by first | (intro a b c; exact absurd a (by omega)) | (intro a b c; exact absurd b (by omega)) | (intro a b c; exact absurd c (by omega)) | (intro a b c; exact ⟨by assumption, by omega, by omega, tk103 (P := T49) (m877 hFT53 rfl) (m877 hFT49 rfl) (by omega) (by omega)⟩))⟩
        · refine l_aload_n rfl rfl ?_
          refine l_bipush rfl rfl ?_
          have w662 : Xi T53 876 7 = Xi S 876 7 := (show Xi T53 876 7 = Xi T49 876 7 from w656.x _ _ rfl).trans ( (show Xi T49 876 7 = Xi T48 876 7 from w604.x _ _ rfl).trans ( (show Xi T48 876 7 = Xi U47 876 7 from w590.x _ _ rfl).trans ( (show Xi U47 876 7 = Xi U1 876 7 from by rw [eU47]; exact Xi_ne (by omega)).trans ((show Xi U1 876 7 = Xi S 876 7 from by rw [eU1]; exact Xi_ne (by omega))))))
          have w663 : 0 ≤ Xi S 876 7 ∧ Xi S 876 7 ≤ 5125 := hH.c _ _
          have w664 : 0 ≤ Xi T53 890 1 ∧ Xi T53 890 1 ≤ 5126 := hHT53.c _ _
          refine l_callV rfl rfl rfl (t_gr_take hHT53 106 ⟨by omega, by omega⟩ (by first | assumption | omega) (by first | assumption | (apply_assumption; omega)) (by first | assumption | omega) _) ?_
          rintro _ T54 ⟨hHT54, w670, z669, rfl, w669, w665, w666, w667, w668⟩
          have hFT54 : FR md_gr_check S T54 := FR.tr hFT53 w670 rfl
          show Rl _ _ _ _ _ [iv z669] _ _
          refine l_if_eq rfl rfl (by unfold rg; omega) (fun w671 => ?_) (fun w672 => ?_)
          · refine l_iconst rfl ?_
            refine l_ireturn rfl rfl ?_
            have w673 : 0 ≤ Xi T54 890 1 ∧ Xi T54 890 1 ≤ 5126 := hHT54.c _ _
            have w674 : Xi T54 890 2 = Xi U47 890 2 := (show Xi T54 890 2 = Xi T53 890 2 from w670.x _ _ rfl).trans ( (show Xi T53 890 2 = Xi T49 890 2 from w656.x _ _ rfl).trans ( (show Xi T49 890 2 = Xi T48 890 2 from w604.x _ _ rfl).trans ((show Xi T48 890 2 = Xi U47 890 2 from w590.x _ _ rfl))))
            have w675 : 0 ≤ Xi U47 890 2 ∧ Xi U47 890 2 ≤ 20 := hHU47.c _ _
            exact ⟨hHT54, hFT54, _, rfl, ⟨by omega, by omega⟩, (by omega), (by omega), (by first | (intro a b c; exact absurd a (by omega)) | (intro a b c; exact absurd b (by omega)) | (intro a b c; exact absurd c (by omega)) | (intro a b c; exact ⟨by assumption, by omega, by omega, tk103 (P := T53) (m877 hFT54 rfl) (m877 hFT53 rfl) (by omega) (by omega)⟩))⟩
          · refine l_aload_n rfl rfl ?_
            have w676 : Xi T54 876 7 = Xi S 876 7 := (show Xi T54 876 7 = Xi T53 876 7 from w670.x _ _ rfl).trans ( (show Xi T53 876 7 = Xi T49 876 7 from w656.x _ _ rfl).trans ( (show Xi T49 876 7 = Xi T48 876 7 from w604.x _ _ rfl).trans ( (show Xi T48 876 7 = Xi U47 876 7 from w590.x _ _ rfl).trans ( (show Xi U47 876 7 = Xi U1 876 7 from by rw [eU47]; exact Xi_ne (by omega)).trans ((show Xi U1 876 7 = Xi S 876 7 from by rw [eU1]; exact Xi_ne (by omega)))))))
            have w677 : 0 ≤ Xi S 876 7 ∧ Xi S 876 7 ≤ 5125 := hH.c _ _
            have w678 : 0 ≤ Xi T54 890 1 ∧ Xi T54 890 1 ≤ 5126 := hHT54.c _ _
            refine l_callV rfl rfl rfl (t_gr_takePhrases hHT54 (by first | assumption | omega) (by first | assumption | (apply_assumption; omega)) _) ?_
            rintro _ T55 ⟨hHT55, w682, z681, rfl, w681, w679, w680⟩
            have hFT55 : FR md_gr_check S T55 := FR.tr hFT54 w682 rfl
            show Rl _ _ _ _ _ [iv z681] _ _
            refine l_if_eq rfl rfl (by unfold rg; omega) (fun w683 => ?_) (fun w684 => ?_)
            · refine l_iconst rfl ?_
              refine l_ireturn rfl rfl ?_
              have w685 : 0 ≤ Xi T55 890 1 ∧ Xi T55 890 1 ≤ 5126 := hHT55.c _ _
              have w686 : Xi T55 890 2 = Xi U47 890 2 := (show Xi T55 890 2 = Xi T54 890 2 from w682.x _ _ rfl).trans ( (show Xi T54 890 2 = Xi T53 890 2 from w670.x _ _ rfl).trans ( (show Xi T53 890 2 = Xi T49 890 2 from w656.x _ _ rfl).trans ( (show Xi T49 890 2 = Xi T48 890 2 from w604.x _ _ rfl).trans ((show Xi T48 890 2 = Xi U47 890 2 from w590.x _ _ rfl)))))
              have w687 : 0 ≤ Xi U47 890 2 ∧ Xi U47 890 2 ≤ 20 := hHU47.c _ _
              exact ⟨hHT55, hFT55, _, rfl, ⟨by omega, by omega⟩, (by omega), (by omega), (by first | (intro a b c; exact absurd a (by omega)) | (intro a b c; exact absurd b (by omega)) | (intro a b c; exact absurd c (by omega)) | (intro a b c; exact ⟨by assumption, by omega, by omega, tk103 (P := T54) (m877 hFT55 rfl) (m877 hFT54 rfl) (by omega) (by omega)⟩))⟩
            · refine l_aload_n rfl rfl ?_
              refine l_bipush rfl rfl ?_
              have w688 : Xi T55 876 7 = Xi S 876 7 := (show Xi T55 876 7 = Xi T54 876 7 from w682.x _ _ rfl).trans ( (show Xi T54 876 7 = Xi T53 876 7 from w670.x _ _ rfl).trans ( (show Xi T53 876 7 = Xi T49 876 7 from w656.x _ _ rfl).trans ( (show Xi T49 876 7 = Xi T48 876 7 from w604.x _ _ rfl).trans ( (show Xi T48 876 7 = Xi U47 876 7 from w590.x _ _ rfl).trans ( (show Xi U47 876 7 = Xi U1 876 7 from by rw [eU47]; exact Xi_ne (by omega)).trans ((show Xi U1 876 7 = Xi S 876 7 from by rw [eU1]; exact Xi_ne (by omega))))))))
              have w689 : 0 ≤ Xi S 876 7 ∧ Xi S 876 7 ≤ 5125 := hH.c _ _
              have w690 : 0 ≤ Xi T55 890 1 ∧ Xi T55 890 1 ≤ 5126 := hHT55.c _ _
              refine l_callV rfl rfl rfl (t_gr_take hHT55 103 ⟨by omega, by omega⟩ (by first | assumption | omega) (by first | assumption | (apply_assumption; omega)) (by first | assumption | omega) _) ?_
              rintro _ T56 ⟨hHT56, w696, z695, rfl, w695, w691, w692, w693, w694⟩
              have hFT56 : FR md_gr_check S T56 := FR.tr hFT55 w696 rfl
              show Rl _ _ _ _ _ [iv z695] _ _
              refine l_if_eq rfl rfl (by unfold rg; omega) (fun w697 => ?_) (fun w698 => ?_)
              · refine l_iconst rfl ?_
                refine l_ireturn rfl rfl ?_
                have w699 : 0 ≤ Xi T56 890 1 ∧ Xi T56 890 1 ≤ 5126 := hHT56.c _ _
                have w700 : Xi T56 890 2 = Xi U47 890 2 := (show Xi T56 890 2 = Xi T55 890 2 from w696.x _ _ rfl).trans ( (show Xi T55 890 2 = Xi T54 890 2 from w682.x _ _ rfl).trans ( (show Xi T54 890 2 = Xi T53 890 2 from w670.x _ _ rfl).trans ( (show Xi T53 890 2 = Xi T49 890 2 from w656.x _ _ rfl).trans ( (show Xi T49 890 2 = Xi T48 890 2 from w604.x _ _ rfl).trans ((show Xi T48 890 2 = Xi U47 890 2 from w590.x _ _ rfl))))))
                have w701 : 0 ≤ Xi U47 890 2 ∧ Xi U47 890 2 ≤ 20 := hHU47.c _ _
                exact ⟨hHT56, hFT56, _, rfl, ⟨by omega, by omega⟩, (by omega), (by omega), (by first | (intro a b c; exact absurd a (by omega)) | (intro a b c; exact absurd b (by omega)) | (intro a b c; exact absurd c (by omega)) | (intro a b c; exact ⟨by assumption, by omega, by omega, tk103 (P := T55) (m877 hFT56 rfl) (m877 hFT55 rfl) (by omega) (by omega)⟩))⟩
              · refine l_iconst rfl ?_
                refine l_goto rfl rfl ?_
                refine l_ireturn rfl rfl ?_
                have w702 : 0 ≤ Xi T56 890 1 ∧ Xi T56 890 1 ≤ 5126 := hHT56.c _ _
                have w703 : Xi T56 890 2 = Xi U47 890 2 := (show Xi T56 890 2 = Xi T55 890 2 from w696.x _ _ rfl).trans ( (show Xi T55 890 2 = Xi T54 890 2 from w682.x _ _ rfl).trans ( (show Xi T54 890 2 = Xi T53 890 2 from w670.x _ _ rfl).trans ( (show Xi T53 890 2 = Xi T49 890 2 from w656.x _ _ rfl).trans ( (show Xi T49 890 2 = Xi T48 890 2 from w604.x _ _ rfl).trans ((show Xi T48 890 2 = Xi U47 890 2 from w590.x _ _ rfl))))))
                have w704 : 0 ≤ Xi U47 890 2 ∧ Xi U47 890 2 ≤ 20 := hHU47.c _ _
                exact ⟨hHT56, hFT56, _, rfl, ⟨by omega, by omega⟩, (by omega), (by omega), (by first | (intro a b c; exact absurd a (by omega)) | (intro a b c; exact absurd b (by omega)) | (intro a b c; exact absurd c (by omega)) | (intro a b c; exact ⟨by assumption, by omega, by omega, tk103 (P := T55) (m877 hFT56 rfl) (m877 hFT55 rfl) (by omega) (by omega)⟩))⟩
  refine And.intro (fun w705 => ⟨_, rfl, ?_⟩) (fun w706 => ?_)
  · refine l_aload_n rfl rfl ?_
    refine l_iconst rfl ?_
    refine l_pfi rfl rfl rfl rfl ?_
    obtain ⟨U57, eU57⟩ : ∃ T : sS, T = uI U1 890 2 (Int32.ofInt 0) := ⟨_, rfl⟩
    rw [← eU57]
    have hHU57 : HI U57 := by rw [eU57]; exact HI_w hHU1 (show 0 ≤ 0 by omega) (show 0 ≤ 20 by omega)
    have hFU57 : FR md_gr_check S U57 := by rw [eU57]; exact FR.wI hFU1 (mdf_i (r := (890, 891, 2, 3)) (List.mem_of_getElem? (i := 1) rfl) (inR_i (by omega) (by omega) (by omega) (by omega)))
    have w707 : Xi U57 890 2 = 0 := by rw [eU57]; exact Xi_same (by unfold rg; omega)
    have h82 : Xi S 877 (0 : Int).toNat = 102 := by rw [← m877 hFU1 rfl]; omega
    refine l_iconst rfl ?_
    refine l_ireturn rfl rfl ?_
    have w708 : Xi U57 890 1 = Xi U1 890 1 := (show Xi U57 890 1 = Xi U1 890 1 from by rw [eU57]; exact Xi_ne (by omega))
    have w709 : 0 ≤ Xi U1 890 1 ∧ Xi U1 890 1 ≤ 5126 := hHU1.c _ _
    have w710 : 0 ≤ Xi U57 890 2 ∧ Xi U57 890 2 ≤ 20 := hHU57.c _ _
    exact ⟨hHU57, hFU57, _, rfl, ⟨by omega, by omega⟩, (by omega), (by omega), (by first | (intro a b c; exact absurd a (by omega)) | (intro a b c; exact absurd b (by omega)) | (intro a b c; exact absurd c (by omega)) | (intro a b c; exact ⟨by assumption, by omega, by omega, tk103 (P := U1) (m877 hFU57 rfl) (m877 hFU1 rfl) (by omega) (by omega)⟩))⟩
  refine ⟨_, rfl, ?_⟩
  refine l_aload_n rfl rfl ?_
  refine l_callV rfl rfl rfl (t_gr_checkOthers hHU1 _) ?_
  rintro _ T58 ⟨hHT58, w713, z712, rfl, w712, w711⟩
  have hFT58 : FR md_gr_check S T58 := FR.tr hFU1 w713 rfl
  show Rl _ _ _ _ _ [iv z712] _ _
  refine l_ireturn rfl (retI_z (by omega)) ?_
  have w714 : 0 ≤ Xi T58 890 1 ∧ Xi T58 890 1 ≤ 5126 := hHT58.c _ _
  have w715 : 0 ≤ Xi T58 890 2 ∧ Xi T58 890 2 ≤ 20 := hHT58.c _ _
  exact ⟨hHT58, hFT58, _, rfl, ⟨by omega, by omega⟩, (by omega), (by omega), (by first | (intro a b c; exact absurd a (by omega)) | (intro a b c; exact absurd b (by omega)) | (intro a b c; exact absurd c (by omega)) | (intro a b c; exact ⟨by assumption, by omega, by omega, tk103 (P := U1) (m877 hFT58 rfl) (m877 hFU1 rfl) (by omega) (by omega)⟩))⟩
