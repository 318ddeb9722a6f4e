/-! SAFETY of methods: printed by wip/safe (vc.py, decl.py) -/
def md_gr_checkOthers : List rec := [(890, 891, 1, 2), (890, 891, 2, 3), (890, 891, 3, 4)]
abbrev Q_gr_checkOthers (S : sS) : pst := fun r S1 => HI S1 ∧ FR md_gr_checkOthers S S1 ∧ (∃ z : Int, r = some (iv z) ∧ (0 ≤ z ∧ z ≤ 1) ∧ (7 ≤ Xi S1 890 2 ∨ z = 0))
set_option maxRecDepth 100000 in
theorem t_gr_checkOthers {S : sS} (hH : HI S) (d : Nat) : Mt lay0 (d + 6) m_gr_checkOthers [.ref 890] S (Q_gr_checkOthers S) := by
  refine Mt_R rfl rfl ?_
  have hF : FR md_gr_checkOthers S S := FR.rf
  refine l_aload_n rfl rfl ?_
  refine l_gfr rfl rfl rfl rfl rfl (hH.r 890 0 876 rfl) ?_
  refine l_iconst rfl ?_
  have w1 : 0 ≤ Xi S 876 7 ∧ Xi S 876 7 ≤ 5125 := hH.c _ _
  refine l_callV rfl rfl rfl (t_to_typeAt hH 0 ⟨by omega, by omega⟩ _) ?_
  rintro _ _ ⟨rfl, z5, rfl, w5, w2, w3, w4⟩
  show Rl _ _ _ _ _ [iv z5] _ _
  refine l_iconst rfl ?_
  refine l_icmp_ne rfl rfl (by unfold rg; omega) (by unfold rg; omega) (fun w6 => ?_) (fun w7 => ?_)
  · refine l_aload_n rfl rfl ?_
    refine l_gfr rfl rfl rfl rfl rfl (hH.r 890 0 876 rfl) ?_
    refine l_iconst rfl ?_
    refine l_callV rfl rfl rfl (t_to_typeAt hH 0 ⟨by omega, by omega⟩ _) ?_
    rintro _ _ ⟨rfl, z12, rfl, w12, w9, w10, w11⟩
    show Rl _ _ _ _ _ [iv z12] _ _
    refine l_iconst rfl ?_
    refine l_icmp_ne rfl rfl (by unfold rg; omega) (by unfold rg; omega) (fun w13 => ?_) (fun w14 => ?_)
    · refine l_aload_n rfl rfl ?_
      refine l_iconst rfl ?_
      refine l_pfi rfl rfl rfl rfl ?_
      obtain ⟨U1, eU1⟩ : ∃ T : sS, T = uI S 890 1 (Int32.ofInt 0) := ⟨_, rfl⟩
      rw [← eU1]
      have hHU1 : HI U1 := by rw [eU1]; exact HI_w hH (show 0 ≤ 0 by omega) (show 0 ≤ 5126 by omega)
      have hFU1 : FR md_gr_checkOthers S U1 := by rw [eU1]; exact FR.wI hF (mdf_i (r := (890, 891, 1, 2)) (List.mem_of_getElem? (i := 0) rfl) (inR_i (by omega) (by omega) (by omega) (by omega)))
      have w15 : Xi U1 890 1 = 0 := by rw [eU1]; exact Xi_same (by unfold rg; omega)
      have hs183 : SAY U1 (Xi U1 890 1) := SAY_v0 (by omega)
      refine l_aload_n rfl rfl ?_
      refine l_aload_n rfl rfl ?_
      refine l_gfr rfl rfl rfl rfl rfl (hHU1.r 890 0 876 rfl) ?_
      have w16 : Xi U1 876 7 = Xi S 876 7 := (show Xi U1 876 7 = Xi S 876 7 from by rw [eU1]; exact Xi_ne (by omega))
      refine l_callV rfl rfl rfl (t_to_tellingKey hHU1 _) ?_
      rintro _ _ ⟨rfl, z19, rfl, w19, w18⟩
      show Rl _ _ _ _ _ [iv z19, .ref 890] _ _
      refine l_pfi rfl rfl rfl rfl ?_
      obtain ⟨U2, eU2⟩ : ∃ T : sS, T = uI U1 890 3 (Int32.ofInt z19) := ⟨_, rfl⟩
      rw [← eU2]
      have hHU2 : HI U2 := by rw [eU2]; exact HI_w hHU1 (show -1 ≤ z19 by omega) (show z19 ≤ 5124 by omega)
      have hFU2 : FR md_gr_checkOthers S U2 := by rw [eU2]; exact FR.wI hFU1 (mdf_i (r := (890, 891, 3, 4)) (List.mem_of_getElem? (i := 2) rfl) (inR_i (by omega) (by omega) (by omega) (by omega)))
      have w20 : Xi U2 890 3 = z19 := by rw [eU2]; exact Xi_same (by unfold rg; omega)
      have hso194 : SAY U2 (Xi U2 890 1) := SAY_sort eU2 (by assumption) (by decide)
      refine l_aload_n rfl rfl ?_
      refine l_gfr rfl rfl rfl rfl rfl (hHU2.r 890 0 876 rfl) ?_
      refine l_aload_n rfl rfl ?_
      refine l_gfi rfl rfl rfl rfl rfl ?_
      have w21 : Xi U2 876 7 = Xi S 876 7 := (show Xi U2 876 7 = Xi U1 876 7 from by rw [eU2]; exact Xi_ne (by omega)).trans ((show Xi U1 876 7 = Xi S 876 7 from by rw [eU1]; exact Xi_ne (by omega)))
      refine l_callV rfl rfl rfl (t_to_typeAt hHU2 (Xi U2 890 3) ⟨by omega, by omega⟩ _) ?_
      rintro _ _ ⟨rfl, z26, rfl, w26, w23, w24, w25⟩
      show Rl _ _ _ _ _ [iv z26] _ _
      refine l_lsw rfl rfl (by unfold rg; omega) ?_
      refine And.intro (fun w27 => ⟨_, rfl, ?_⟩) (fun w28 => ?_)
      · refine l_aload_n rfl rfl ?_
        have w31 : Xi U2 890 1 = Xi U1 890 1 := (show Xi U2 890 1 = Xi U1 890 1 from by rw [eU2]; exact Xi_ne (by omega))
        have w32 : 0 ≤ Xi U1 890 1 ∧ Xi U1 890 1 ≤ 5126 := hHU1.c _ _
        refine l_callV rfl rfl rfl (t_gr_checkBe hHU2 (by first | assumption | omega) (by first | assumption | omega) (by first | assumption | omega) _) ?_
        rintro _ T3 ⟨hHT3, w35, z34, rfl, w34, w33⟩
        have hFT3 : FR md_gr_checkOthers S T3 := FR.tr hFU2 w35 rfl
        show Rl _ _ _ _ _ [iv z34] _ _
        refine l_ireturn rfl (retI_z (by omega)) ?_
        have w36 : 0 ≤ Xi T3 890 2 ∧ Xi T3 890 2 ≤ 20 := hHT3.c _ _
        exact ⟨hHT3, hFT3, _, rfl, ⟨by omega, by omega⟩, (by first | assumption | omega)⟩
      refine And.intro (fun w37 => ⟨_, rfl, ?_⟩) (fun w38 => ?_)
      · refine l_aload_n rfl rfl ?_
        have w41 : Xi U2 890 1 = Xi U1 890 1 := (show Xi U2 890 1 = Xi U1 890 1 from by rw [eU2]; exact Xi_ne (by omega))
        have w42 : 0 ≤ Xi U1 890 1 ∧ Xi U1 890 1 ≤ 5126 := hHU1.c _ _
        refine l_callV rfl rfl rfl (t_gr_checkBe hHU2 (by first | assumption | omega) (by first | assumption | omega) (by first | assumption | omega) _) ?_
        rintro _ T4 ⟨hHT4, w45, z44, rfl, w44, w43⟩
        have hFT4 : FR md_gr_checkOthers S T4 := FR.tr hFU2 w45 rfl
        show Rl _ _ _ _ _ [iv z44] _ _
        refine l_ireturn rfl (retI_z (by omega)) ?_
        have w46 : 0 ≤ Xi T4 890 2 ∧ Xi T4 890 2 ≤ 20 := hHT4.c _ _
        exact ⟨hHT4, hFT4, _, rfl, ⟨by omega, by omega⟩, (by first | assumption | omega)⟩
      refine And.intro (fun w47 => ⟨_, rfl, ?_⟩) (fun w48 => ?_)
      · refine l_aload_n rfl rfl ?_
        refine l_bipush rfl rfl ?_
        refine l_pfi rfl rfl rfl rfl ?_
        obtain ⟨U5, eU5⟩ : ∃ T : sS, T = uI U2 890 2 (Int32.ofInt 17) := ⟨_, rfl⟩
        rw [← eU5]
        have hHU5 : HI U5 := by rw [eU5]; exact HI_w hHU2 (show 0 ≤ 17 by omega) (show 17 ≤ 20 by omega)
        have hFU5 : FR md_gr_checkOthers S U5 := by rw [eU5]; exact FR.wI hFU2 (mdf_i (r := (890, 891, 2, 3)) (List.mem_of_getElem? (i := 1) rfl) (inR_i (by omega) (by omega) (by omega) (by omega)))
        have w49 : Xi U5 890 2 = 17 := by rw [eU5]; exact Xi_same (by unfold rg; omega)
        have hso268 : SAY U5 (Xi U5 890 1) := SAY_sort eU5 (by assumption) (by decide)
        refine l_aload_n rfl rfl ?_
        have w50 : Xi U5 876 7 = Xi S 876 7 := (show Xi U5 876 7 = Xi U2 876 7 from by rw [eU5]; exact Xi_ne (by omega)).trans ( (show Xi U2 876 7 = Xi U1 876 7 from by rw [eU2]; exact Xi_ne (by omega)).trans ((show Xi U1 876 7 = Xi S 876 7 from by rw [eU1]; exact Xi_ne (by omega))))
        have w52 : Xi U5 890 1 = Xi U1 890 1 := (show Xi U5 890 1 = Xi U2 890 1 from by rw [eU5]; exact Xi_ne (by omega)).trans ((show Xi U2 890 1 = Xi U1 890 1 from by rw [eU2]; exact Xi_ne (by omega)))
        have w53 : 0 ≤ Xi U1 890 1 ∧ Xi U1 890 1 ≤ 5126 := hHU1.c _ _
        refine l_callV rfl rfl rfl (t_gr_takeName hHU5 (by first | assumption | omega) (by first | assumption | omega) _) ?_
        rintro _ T6 ⟨hHT6, w57, z56, rfl, w56, w54, w55⟩
        have hFT6 : FR md_gr_checkOthers S T6 := FR.tr hFU5 w57 rfl
        show Rl _ _ _ _ _ [iv z56] _ _
        refine l_if_eq rfl rfl (by unfold rg; omega) (fun w58 => ?_) (fun w59 => ?_)
        · refine l_iconst rfl ?_
          refine l_ireturn rfl rfl ?_
          have w60 : Xi T6 890 2 = Xi U5 890 2 := (show Xi T6 890 2 = Xi U5 890 2 from w57.x _ _ rfl)
          have w61 : 0 ≤ Xi U5 890 2 ∧ Xi U5 890 2 ≤ 20 := hHU5.c _ _
          exact ⟨hHT6, hFT6, _, rfl, ⟨by omega, by omega⟩, (by first | assumption | omega)⟩
        · refine l_aload_n rfl rfl ?_
          refine l_bipush rfl rfl ?_
          have w62 : Xi T6 876 7 = Xi S 876 7 := (show Xi T6 876 7 = Xi U5 876 7 from w57.x _ _ rfl).trans ( (show Xi U5 876 7 = Xi U2 876 7 from by rw [eU5]; exact Xi_ne (by omega)).trans ( (show Xi U2 876 7 = Xi U1 876 7 from by rw [eU2]; exact Xi_ne (by omega)).trans ((show Xi U1 876 7 = Xi S 876 7 from by rw [eU1]; exact Xi_ne (by omega)))))
          have w64 : 0 ≤ Xi T6 890 1 ∧ Xi T6 890 1 ≤ 5126 := hHT6.c _ _
          refine l_callV rfl rfl rfl (t_gr_take hHT6 12 ⟨by omega, by omega⟩ (by first | assumption | omega) (by first | assumption | omega) (by first | assumption | omega) _) ?_
          rintro _ T7 ⟨hHT7, w70, z69, rfl, w69, w65, w66, w67, w68⟩
          have hFT7 : FR md_gr_checkOthers S T7 := FR.tr hFT6 w70 rfl
          show Rl _ _ _ _ _ [iv z69] _ _
          refine l_if_eq rfl rfl (by unfold rg; omega) (fun w71 => ?_) (fun w72 => ?_)
          · refine l_iconst rfl ?_
            refine l_ireturn rfl rfl ?_
            have w73 : Xi T7 890 2 = Xi U5 890 2 := (show Xi T7 890 2 = Xi T6 890 2 from w70.x _ _ rfl).trans ((show Xi T6 890 2 = Xi U5 890 2 from w57.x _ _ rfl))
            have w74 : 0 ≤ Xi U5 890 2 ∧ Xi U5 890 2 ≤ 20 := hHU5.c _ _
            exact ⟨hHT7, hFT7, _, rfl, ⟨by omega, by omega⟩, (by first | assumption | omega)⟩
          · refine l_aload_n rfl rfl ?_
            have w75 : Xi T7 876 7 = Xi S 876 7 := (show Xi T7 876 7 = Xi T6 876 7 from w70.x _ _ rfl).trans ( (show Xi T6 876 7 = Xi U5 876 7 from w57.x _ _ rfl).trans ( (show Xi U5 876 7 = Xi U2 876 7 from by rw [eU5]; exact Xi_ne (by omega)).trans ( (show Xi U2 876 7 = Xi U1 876 7 from by rw [eU2]; exact Xi_ne (by omega)).trans ((show Xi U1 876 7 = Xi S 876 7 from by rw [eU1]; exact Xi_ne (by omega))))))
            have w77 : 0 ≤ Xi T7 890 1 ∧ Xi T7 890 1 ≤ 5126 := hHT7.c _ _
            refine l_callV rfl rfl rfl (t_gr_takeArt hHT7 (by first | assumption | omega) (by first | assumption | omega) _) ?_
            rintro _ T8 ⟨hHT8, w82, z81, rfl, w81, w78, w79, w80⟩
            have hFT8 : FR md_gr_checkOthers S T8 := FR.tr hFT7 w82 rfl
            show Rl _ _ _ _ _ [iv z81] _ _
            refine l_if_eq rfl rfl (by unfold rg; omega) (fun w83 => ?_) (fun w84 => ?_)
            · refine l_iconst rfl ?_
              refine l_ireturn rfl rfl ?_
              have w85 : Xi T8 890 2 = Xi U5 890 2 := (show Xi T8 890 2 = Xi T7 890 2 from w82.x _ _ rfl).trans ( (show Xi T7 890 2 = Xi T6 890 2 from w70.x _ _ rfl).trans ((show Xi T6 890 2 = Xi U5 890 2 from w57.x _ _ rfl)))
              have w86 : 0 ≤ Xi U5 890 2 ∧ Xi U5 890 2 ≤ 20 := hHU5.c _ _
              exact ⟨hHT8, hFT8, _, rfl, ⟨by omega, by omega⟩, (by first | assumption | omega)⟩
            · refine l_aload_n rfl rfl ?_
              have w87 : Xi T8 876 7 = Xi S 876 7 := (show Xi T8 876 7 = Xi T7 876 7 from w82.x _ _ rfl).trans ( (show Xi T7 876 7 = Xi T6 876 7 from w70.x _ _ rfl).trans ( (show Xi T6 876 7 = Xi U5 876 7 from w57.x _ _ rfl).trans ( (show Xi U5 876 7 = Xi U2 876 7 from by rw [eU5]; exact Xi_ne (by omega)).trans ( (show Xi U2 876 7 = Xi U1 876 7 from by rw [eU2]; exact Xi_ne (by omega)).trans ((show Xi U1 876 7 = Xi S 876 7 from by rw [eU1]; exact Xi_ne (by omega)))))))
              have w89 : 0 ≤ Xi T8 890 1 ∧ Xi T8 890 1 ≤ 5126 := hHT8.c _ _
              refine l_callV rfl rfl rfl (t_gr_takeRun hHT8 (by first | assumption | omega) (by first | assumption | omega) _) ?_
              rintro _ T9 ⟨hHT9, w94, z93, rfl, w93, w90, w91, w92⟩
              have hFT9 : FR md_gr_checkOthers S T9 := FR.tr hFT8 w94 rfl
              show Rl _ _ _ _ _ [iv z93] _ _
              refine l_if_eq rfl rfl (by unfold rg; omega) (fun w95 => ?_) (fun w96 => ?_)
              · refine l_iconst rfl ?_
                refine l_ireturn rfl rfl ?_
                have w97 : Xi T9 890 2 = Xi U5 890 2 := (show Xi T9 890 2 = Xi T8 890 2 from w94.x _ _ rfl).trans ( (show Xi T8 890 2 = Xi T7 890 2 from w82.x _ _ rfl).trans ( (show Xi T7 890 2 = Xi T6 890 2 from w70.x _ _ rfl).trans ((show Xi T6 890 2 = Xi U5 890 2 from w57.x _ _ rfl))))
                have w98 : 0 ≤ Xi U5 890 2 ∧ Xi U5 890 2 ≤ 20 := hHU5.c _ _
                exact ⟨hHT9, hFT9, _, rfl, ⟨by omega, by omega⟩, (by first | assumption | omega)⟩
              · refine l_aload_n rfl rfl ?_
                refine l_bipush rfl rfl ?_
                have w99 : Xi T9 876 7 = Xi S 876 7 := (show Xi T9 876 7 = Xi T8 876 7 from w94.x _ _ rfl).trans ( (show Xi T8 876 7 = Xi T7 876 7 from w82.x _ _ rfl).trans ( (show Xi T7 876 7 = Xi T6 876 7 from w70.x _ _ rfl).trans ( (show Xi T6 876 7 = Xi U5 876 7 from w57.x _ _ rfl).trans ( (show Xi U5 876 7 = Xi U2 876 7 from by rw [eU5]; exact Xi_ne (by omega)).trans ( (show Xi U2 876 7 = Xi U1 876 7 from by rw [eU2]; exact Xi_ne (by omega)).trans ((show Xi U1 876 7 = Xi S 876 7 from by rw [eU1]; exact Xi_ne (by omega))))))))
                have w101 : 0 ≤ Xi T9 890 1 ∧ Xi T9 890 1 ≤ 5126 := hHT9.c _ _
                refine l_callV rfl rfl rfl (t_gr_take hHT9 17 ⟨by omega, by omega⟩ (by first | assumption | omega) (by first | assumption | omega) (by first | assumption | omega) _) ?_
                rintro _ T10 ⟨hHT10, w107, z106, rfl, w106, w102, w103, w104, w105⟩
                have hFT10 : FR md_gr_checkOthers S T10 := FR.tr hFT9 w107 rfl
                show Rl _ _ _ _ _ [iv z106] _ _
                refine l_if_eq rfl rfl (by unfold rg; omega) (fun w108 => ?_) (fun w109 => ?_)
                · refine l_iconst rfl ?_
                  refine l_ireturn rfl rfl ?_
                  have w110 : Xi T10 890 2 = Xi U5 890 2 := (show Xi T10 890 2 = Xi T9 890 2 from w107.x _ _ rfl).trans ( (show Xi T9 890 2 = Xi T8 890 2 from w94.x _ _ rfl).trans ( (show Xi T8 890 2 = Xi T7 890 2 from w82.x _ _ rfl).trans ( (show Xi T7 890 2 = Xi T6 890 2 from w70.x _ _ rfl).trans ((show Xi T6 890 2 = Xi U5 890 2 from w57.x _ _ rfl)))))
                  have w111 : 0 ≤ Xi U5 890 2 ∧ Xi U5 890 2 ≤ 20 := hHU5.c _ _
                  exact ⟨hHT10, hFT10, _, rfl, ⟨by omega, by omega⟩, (by first | assumption | omega)⟩
                · refine l_aload_n rfl rfl ?_
                  have w112 : Xi T10 876 7 = Xi S 876 7 := (show Xi T10 876 7 = Xi T9 876 7 from w107.x _ _ rfl).trans ( (show Xi T9 876 7 = Xi T8 876 7 from w94.x _ _ rfl).trans ( (show Xi T8 876 7 = Xi T7 876 7 from w82.x _ _ rfl).trans ( (show Xi T7 876 7 = Xi T6 876 7 from w70.x _ _ rfl).trans ( (show Xi T6 876 7 = Xi U5 876 7 from w57.x _ _ rfl).trans ( (show Xi U5 876 7 = Xi U2 876 7 from by rw [eU5]; exact Xi_ne (by omega)).trans ( (show Xi U2 876 7 = Xi U1 876 7 from by rw [eU2]; exact Xi_ne (by omega)).trans ((show Xi U1 876 7 = Xi S 876 7 from by rw [eU1]; exact Xi_ne (by omega)))))))))
                  have w114 : 0 ≤ Xi T10 890 1 ∧ Xi T10 890 1 ≤ 5126 := hHT10.c _ _
                  refine l_callV rfl rfl rfl (t_gr_takeRun hHT10 (by first | assumption | omega) (by first | assumption | omega) _) ?_
                  rintro _ T11 ⟨hHT11, w119, z118, rfl, w118, w115, w116, w117⟩
                  have hFT11 : FR md_gr_checkOthers S T11 := FR.tr hFT10 w119 rfl
                  show Rl _ _ _ _ _ [iv z118] _ _
                  refine l_if_eq rfl rfl (by unfold rg; omega) (fun w120 => ?_) (fun w121 => ?_)
                  · refine l_iconst rfl ?_
                    refine l_ireturn rfl rfl ?_
                    have w122 : Xi T11 890 2 = Xi U5 890 2 := (show Xi T11 890 2 = Xi T10 890 2 from w119.x _ _ rfl).trans ( (show Xi T10 890 2 = Xi T9 890 2 from w107.x _ _ rfl).trans ( (show Xi T9 890 2 = Xi T8 890 2 from w94.x _ _ rfl).trans ( (show Xi T8 890 2 = Xi T7 890 2 from w82.x _ _ rfl).trans ( (show Xi T7 890 2 = Xi T6 890 2 from w70.x _ _ rfl).trans ((show Xi T6 890 2 = Xi U5 890 2 from w57.x _ _ rfl))))))
                    have w123 : 0 ≤ Xi U5 890 2 ∧ Xi U5 890 2 ≤ 20 := hHU5.c _ _
                    exact ⟨hHT11, hFT11, _, rfl, ⟨by omega, by omega⟩, (by first | assumption | omega)⟩
                  · refine l_aload_n rfl rfl ?_
                    refine l_bipush rfl rfl ?_
                    have w124 : Xi T11 876 7 = Xi S 876 7 := (show Xi T11 876 7 = Xi T10 876 7 from w119.x _ _ rfl).trans ( (show Xi T10 876 7 = Xi T9 876 7 from w107.x _ _ rfl).trans ( (show Xi T9 876 7 = Xi T8 876 7 from w94.x _ _ rfl).trans ( (show Xi T8 876 7 = Xi T7 876 7 from w82.x _ _ rfl).trans ( (show Xi T7 876 7 = Xi T6 876 7 from w70.x _ _ rfl).trans ( (show Xi T6 876 7 = Xi U5 876 7 from w57.x _ _ rfl).trans ( (show Xi U5 876 7 = Xi U2 876 7 from by rw [eU5]; exact Xi_ne (by omega)).trans ( (show Xi U2 876 7 = Xi U1 876 7 from by rw [eU2]; exact Xi_ne (by omega)).trans ((show Xi U1 876 7 = Xi S 876 7 from by rw [eU1]; exact Xi_ne (by omega))))))))))
                    have w126 : 0 ≤ Xi T11 890 1 ∧ Xi T11 890 1 ≤ 5126 := hHT11.c _ _
                    refine l_callV rfl rfl rfl (t_gr_take hHT11 103 ⟨by omega, by omega⟩ (by first | assumption | omega) (by first | assumption | omega) (by first | assumption | omega) _) ?_
                    rintro _ T12 ⟨hHT12, w132, z131, rfl, w131, w127, w128, w129, w130⟩
                    have hFT12 : FR md_gr_checkOthers S T12 := FR.tr hFT11 w132 rfl
                    show Rl _ _ _ _ _ [iv z131] _ _
                    refine l_if_eq rfl rfl (by unfold rg; omega) (fun w133 => ?_) (fun w134 => ?_)
                    · refine l_iconst rfl ?_
                      refine l_ireturn rfl rfl ?_
                      have w135 : Xi T12 890 2 = Xi U5 890 2 := (show Xi T12 890 2 = Xi T11 890 2 from w132.x _ _ rfl).trans ( (show Xi T11 890 2 = Xi T10 890 2 from w119.x _ _ rfl).trans ( (show Xi T10 890 2 = Xi T9 890 2 from w107.x _ _ rfl).trans ( (show Xi T9 890 2 = Xi T8 890 2 from w94.x _ _ rfl).trans ( (show Xi T8 890 2 = Xi T7 890 2 from w82.x _ _ rfl).trans ( (show Xi T7 890 2 = Xi T6 890 2 from w70.x _ _ rfl).trans ((show Xi T6 890 2 = Xi U5 890 2 from w57.x _ _ rfl)))))))
                      have w136 : 0 ≤ Xi U5 890 2 ∧ Xi U5 890 2 ≤ 20 := hHU5.c _ _
                      exact ⟨hHT12, hFT12, _, rfl, ⟨by omega, by omega⟩, (by first | assumption | omega)⟩
                    · refine l_iconst rfl ?_
                      refine l_goto rfl rfl ?_
                      refine l_ireturn rfl rfl ?_
                      have w137 : Xi T12 890 2 = Xi U5 890 2 := (show Xi T12 890 2 = Xi T11 890 2 from w132.x _ _ rfl).trans ( (show Xi T11 890 2 = Xi T10 890 2 from w119.x _ _ rfl).trans ( (show Xi T10 890 2 = Xi T9 890 2 from w107.x _ _ rfl).trans ( (show Xi T9 890 2 = Xi T8 890 2 from w94.x _ _ rfl).trans ( (show Xi T8 890 2 = Xi T7 890 2 from w82.x _ _ rfl).trans ( (show Xi T7 890 2 = Xi T6 890 2 from w70.x _ _ rfl).trans ((show Xi T6 890 2 = Xi U5 890 2 from w57.x _ _ rfl)))))))
                      have w138 : 0 ≤ Xi U5 890 2 ∧ Xi U5 890 2 ≤ 20 := hHU5.c _ _
                      exact ⟨hHT12, hFT12, _, rfl, ⟨by omega, by omega⟩, (by first | assumption | omega)⟩
      refine And.intro (fun w139 => ⟨_, rfl, ?_⟩) (fun w140 => ?_)
      · refine l_aload_n rfl rfl ?_
        refine l_bipush rfl rfl ?_
        refine l_pfi rfl rfl rfl rfl ?_
        obtain ⟨U13, eU13⟩ : ∃ T : sS, T = uI U2 890 2 (Int32.ofInt 18) := ⟨_, rfl⟩
        rw [← eU13]
        have hHU13 : HI U13 := by rw [eU13]; exact HI_w hHU2 (show 0 ≤ 18 by omega) (show 18 ≤ 20 by omega)
        have hFU13 : FR md_gr_checkOthers S U13 := by rw [eU13]; exact FR.wI hFU2 (mdf_i (r := (890, 891, 2, 3)) (List.mem_of_getElem? (i := 1) rfl) (inR_i (by omega) (by omega) (by omega) (by omega)))
        have w141 : Xi U13 890 2 = 18 := by rw [eU13]; exact Xi_same (by unfold rg; omega)
        have hso335 : SAY U13 (Xi U13 890 1) := SAY_sort eU13 (by assumption) (by decide)
        refine l_aload_n rfl rfl ?_
        have w142 : Xi U13 876 7 = Xi S 876 7 := (show Xi U13 876 7 = Xi U2 876 7 from by rw [eU13]; exact Xi_ne (by omega)).trans ( (show Xi U2 876 7 = Xi U1 876 7 from by rw [eU2]; exact Xi_ne (by omega)).trans ((show Xi U1 876 7 = Xi S 876 7 from by rw [eU1]; exact Xi_ne (by omega))))
        have w144 : Xi U13 890 1 = Xi U1 890 1 := (show Xi U13 890 1 = Xi U2 890 1 from by rw [eU13]; exact Xi_ne (by omega)).trans ((show Xi U2 890 1 = Xi U1 890 1 from by rw [eU2]; exact Xi_ne (by omega)))
        have w145 : 0 ≤ Xi U1 890 1 ∧ Xi U1 890 1 ≤ 5126 := hHU1.c _ _
        refine l_callV rfl rfl rfl (t_gr_takeName hHU13 (by first | assumption | omega) (by first | assumption | omega) _) ?_
        rintro _ T14 ⟨hHT14, w149, z148, rfl, w148, w146, w147⟩
        have hFT14 : FR md_gr_checkOthers S T14 := FR.tr hFU13 w149 rfl
        show Rl _ _ _ _ _ [iv z148] _ _
        refine l_if_eq rfl rfl (by unfold rg; omega) (fun w150 => ?_) (fun w151 => ?_)
        · refine l_iconst rfl ?_
          refine l_ireturn rfl rfl ?_
          have w152 : Xi T14 890 2 = Xi U13 890 2 := (show Xi T14 890 2 = Xi U13 890 2 from w149.x _ _ rfl)
          have w153 : 0 ≤ Xi U13 890 2 ∧ Xi U13 890 2 ≤ 20 := hHU13.c _ _
          exact ⟨hHT14, hFT14, _, rfl, ⟨by omega, by omega⟩, (by first | assumption | omega)⟩
        · refine l_aload_n rfl rfl ?_
          refine l_bipush rfl rfl ?_
          have w154 : Xi T14 876 7 = Xi S 876 7 := (show Xi T14 876 7 = Xi U13 876 7 from w149.x _ _ rfl).trans ( (show Xi U13 876 7 = Xi U2 876 7 from by rw [eU13]; exact Xi_ne (by omega)).trans ( (show Xi U2 876 7 = Xi U1 876 7 from by rw [eU2]; exact Xi_ne (by omega)).trans ((show Xi U1 876 7 = Xi S 876 7 from by rw [eU1]; exact Xi_ne (by omega)))))
          have w156 : 0 ≤ Xi T14 890 1 ∧ Xi T14 890 1 ≤ 5126 := hHT14.c _ _
          refine l_callV rfl rfl rfl (t_gr_take hHT14 13 ⟨by omega, by omega⟩ (by first | assumption | omega) (by first | assumption | omega) (by first | assumption | omega) _) ?_
          rintro _ T15 ⟨hHT15, w162, z161, rfl, w161, w157, w158, w159, w160⟩
          have hFT15 : FR md_gr_checkOthers S T15 := FR.tr hFT14 w162 rfl
          show Rl _ _ _ _ _ [iv z161] _ _
          refine l_if_eq rfl rfl (by unfold rg; omega) (fun w163 => ?_) (fun w164 => ?_)
          · refine l_iconst rfl ?_
            refine l_ireturn rfl rfl ?_
            have w165 : Xi T15 890 2 = Xi U13 890 2 := (show Xi T15 890 2 = Xi T14 890 2 from w162.x _ _ rfl).trans ((show Xi T14 890 2 = Xi U13 890 2 from w149.x _ _ rfl))
            have w166 : 0 ≤ Xi U13 890 2 ∧ Xi U13 890 2 ≤ 20 := hHU13.c _ _
            exact ⟨hHT15, hFT15, _, rfl, ⟨by omega, by omega⟩, (by first | assumption | omega)⟩
          · refine l_aload_n rfl rfl ?_
            refine l_bipush rfl rfl ?_
            have w167 : Xi T15 876 7 = Xi S 876 7 := (show Xi T15 876 7 = Xi T14 876 7 from w162.x _ _ rfl).trans ( (show Xi T14 876 7 = Xi U13 876 7 from w149.x _ _ rfl).trans ( (show Xi U13 876 7 = Xi U2 876 7 from by rw [eU13]; exact Xi_ne (by omega)).trans ( (show Xi U2 876 7 = Xi U1 876 7 from by rw [eU2]; exact Xi_ne (by omega)).trans ((show Xi U1 876 7 = Xi S 876 7 from by rw [eU1]; exact Xi_ne (by omega))))))
            have w169 : 0 ≤ Xi T15 890 1 ∧ Xi T15 890 1 ≤ 5126 := hHT15.c _ _
            refine l_callV rfl rfl rfl (t_gr_take hHT15 14 ⟨by omega, by omega⟩ (by first | assumption | omega) (by first | assumption | omega) (by first | assumption | omega) _) ?_
            rintro _ T16 ⟨hHT16, w175, z174, rfl, w174, w170, w171, w172, w173⟩
            have hFT16 : FR md_gr_checkOthers S T16 := FR.tr hFT15 w175 rfl
            show Rl _ _ _ _ _ [iv z174] _ _
            refine l_if_eq rfl rfl (by unfold rg; omega) (fun w176 => ?_) (fun w177 => ?_)
            · refine l_iconst rfl ?_
              refine l_ireturn rfl rfl ?_
              have w178 : Xi T16 890 2 = Xi U13 890 2 := (show Xi T16 890 2 = Xi T15 890 2 from w175.x _ _ rfl).trans ( (show Xi T15 890 2 = Xi T14 890 2 from w162.x _ _ rfl).trans ((show Xi T14 890 2 = Xi U13 890 2 from w149.x _ _ rfl)))
              have w179 : 0 ≤ Xi U13 890 2 ∧ Xi U13 890 2 ≤ 20 := hHU13.c _ _
              exact ⟨hHT16, hFT16, _, rfl, ⟨by omega, by omega⟩, (by first | assumption | omega)⟩
            · refine l_aload_n rfl rfl ?_
              have w180 : Xi T16 876 7 = Xi S 876 7 := (show Xi T16 876 7 = Xi T15 876 7 from w175.x _ _ rfl).trans ( (show Xi T15 876 7 = Xi T14 876 7 from w162.x _ _ rfl).trans ( (show Xi T14 876 7 = Xi U13 876 7 from w149.x _ _ rfl).trans ( (show Xi U13 876 7 = Xi U2 876 7 from by rw [eU13]; exact Xi_ne (by omega)).trans ( (show Xi U2 876 7 = Xi U1 876 7 from by rw [eU2]; exact Xi_ne (by omega)).trans ((show Xi U1 876 7 = Xi S 876 7 from by rw [eU1]; exact Xi_ne (by omega)))))))
              have w182 : 0 ≤ Xi T16 890 1 ∧ Xi T16 890 1 ≤ 5126 := hHT16.c _ _
              refine l_callV rfl rfl rfl (t_gr_takeRun hHT16 (by first | assumption | omega) (by first | assumption | omega) _) ?_
              rintro _ T17 ⟨hHT17, w187, z186, rfl, w186, w183, w184, w185⟩
              have hFT17 : FR md_gr_checkOthers S T17 := FR.tr hFT16 w187 rfl
              show Rl _ _ _ _ _ [iv z186] _ _
              refine l_if_eq rfl rfl (by unfold rg; omega) (fun w188 => ?_) (fun w189 => ?_)
              · refine l_iconst rfl ?_
                refine l_ireturn rfl rfl ?_
                have w190 : Xi T17 890 2 = Xi U13 890 2 := (show Xi T17 890 2 = Xi T16 890 2 from w187.x _ _ rfl).trans ( (show Xi T16 890 2 = Xi T15 890 2 from w175.x _ _ rfl).trans ( (show Xi T15 890 2 = Xi T14 890 2 from w162.x _ _ rfl).trans ((show Xi T14 890 2 = Xi U13 890 2 from w149.x _ _ rfl))))
                have w191 : 0 ≤ Xi U13 890 2 ∧ Xi U13 890 2 ≤ 20 := hHU13.c _ _
                exact ⟨hHT17, hFT17, _, rfl, ⟨by omega, by omega⟩, (by first | assumption | omega)⟩
              · refine l_aload_n rfl rfl ?_
                refine l_bipush rfl rfl ?_
                have w192 : Xi T17 876 7 = Xi S 876 7 := (show Xi T17 876 7 = Xi T16 876 7 from w187.x _ _ rfl).trans ( (show Xi T16 876 7 = Xi T15 876 7 from w175.x _ _ rfl).trans ( (show Xi T15 876 7 = Xi T14 876 7 from w162.x _ _ rfl).trans ( (show Xi T14 876 7 = Xi U13 876 7 from w149.x _ _ rfl).trans ( (show Xi U13 876 7 = Xi U2 876 7 from by rw [eU13]; exact Xi_ne (by omega)).trans ( (show Xi U2 876 7 = Xi U1 876 7 from by rw [eU2]; exact Xi_ne (by omega)).trans ((show Xi U1 876 7 = Xi S 876 7 from by rw [eU1]; exact Xi_ne (by omega))))))))
                have w194 : 0 ≤ Xi T17 890 1 ∧ Xi T17 890 1 ≤ 5126 := hHT17.c _ _
                refine l_callV rfl rfl rfl (t_gr_take hHT17 15 ⟨by omega, by omega⟩ (by first | assumption | omega) (by first | assumption | omega) (by first | assumption | omega) _) ?_
                rintro _ T18 ⟨hHT18, w200, z199, rfl, w199, w195, w196, w197, w198⟩
                have hFT18 : FR md_gr_checkOthers S T18 := FR.tr hFT17 w200 rfl
                show Rl _ _ _ _ _ [iv z199] _ _
                refine l_if_eq rfl rfl (by unfold rg; omega) (fun w201 => ?_) (fun w202 => ?_)
                · refine l_iconst rfl ?_
                  refine l_ireturn rfl rfl ?_
                  have w203 : Xi T18 890 2 = Xi U13 890 2 := (show Xi T18 890 2 = Xi T17 890 2 from w200.x _ _ rfl).trans ( (show Xi T17 890 2 = Xi T16 890 2 from w187.x _ _ rfl).trans ( (show Xi T16 890 2 = Xi T15 890 2 from w175.x _ _ rfl).trans ( (show Xi T15 890 2 = Xi T14 890 2 from w162.x _ _ rfl).trans ((show Xi T14 890 2 = Xi U13 890 2 from w149.x _ _ rfl)))))
                  have w204 : 0 ≤ Xi U13 890 2 ∧ Xi U13 890 2 ≤ 20 := hHU13.c _ _
                  exact ⟨hHT18, hFT18, _, rfl, ⟨by omega, by omega⟩, (by first | assumption | omega)⟩
                · refine l_aload_n rfl rfl ?_
                  have w205 : Xi T18 876 7 = Xi S 876 7 := (show Xi T18 876 7 = Xi T17 876 7 from w200.x _ _ rfl).trans ( (show Xi T17 876 7 = Xi T16 876 7 from w187.x _ _ rfl).trans ( (show Xi T16 876 7 = Xi T15 876 7 from w175.x _ _ rfl).trans ( (show Xi T15 876 7 = Xi T14 876 7 from w162.x _ _ rfl).trans ( (show Xi T14 876 7 = Xi U13 876 7 from w149.x _ _ rfl).trans ( (show Xi U13 876 7 = Xi U2 876 7 from by rw [eU13]; exact Xi_ne (by omega)).trans ( (show Xi U2 876 7 = Xi U1 876 7 from by rw [eU2]; exact Xi_ne (by omega)).trans ((show Xi U1 876 7 = Xi S 876 7 from by rw [eU1]; exact Xi_ne (by omega)))))))))
                  have w207 : 0 ≤ Xi T18 890 1 ∧ Xi T18 890 1 ≤ 5126 := hHT18.c _ _
                  refine l_callV rfl rfl rfl (t_gr_takeRun hHT18 (by first | assumption | omega) (by first | assumption | omega) _) ?_
                  rintro _ T19 ⟨hHT19, w212, z211, rfl, w211, w208, w209, w210⟩
                  have hFT19 : FR md_gr_checkOthers S T19 := FR.tr hFT18 w212 rfl
                  show Rl _ _ _ _ _ [iv z211] _ _
                  refine l_if_eq rfl rfl (by unfold rg; omega) (fun w213 => ?_) (fun w214 => ?_)
                  · refine l_iconst rfl ?_
                    refine l_ireturn rfl rfl ?_
                    have w215 : Xi T19 890 2 = Xi U13 890 2 := (show Xi T19 890 2 = Xi T18 890 2 from w212.x _ _ rfl).trans ( (show Xi T18 890 2 = Xi T17 890 2 from w200.x _ _ rfl).trans ( (show Xi T17 890 2 = Xi T16 890 2 from w187.x _ _ rfl).trans ( (show Xi T16 890 2 = Xi T15 890 2 from w175.x _ _ rfl).trans ( (show Xi T15 890 2 = Xi T14 890 2 from w162.x _ _ rfl).trans ((show Xi T14 890 2 = Xi U13 890 2 from w149.x _ _ rfl))))))
                    have w216 : 0 ≤ Xi U13 890 2 ∧ Xi U13 890 2 ≤ 20 := hHU13.c _ _
                    exact ⟨hHT19, hFT19, _, rfl, ⟨by omega, by omega⟩, (by first | assumption | omega)⟩
                  · refine l_aload_n rfl rfl ?_
                    refine l_bipush rfl rfl ?_
                    have w217 : Xi T19 876 7 = Xi S 876 7 := (show Xi T19 876 7 = Xi T18 876 7 from w212.x _ _ rfl).trans ( (show Xi T18 876 7 = Xi T17 876 7 from w200.x _ _ rfl).trans ( (show Xi T17 876 7 = Xi T16 876 7 from w187.x _ _ rfl).trans ( (show Xi T16 876 7 = Xi T15 876 7 from w175.x _ _ rfl).trans ( (show Xi T15 876 7 = Xi T14 876 7 from w162.x _ _ rfl).trans ( (show Xi T14 876 7 = Xi U13 876 7 from w149.x _ _ rfl).trans ( (show Xi U13 876 7 = Xi U2 876 7 from by rw [eU13]; exact Xi_ne (by omega)).trans ( (show Xi U2 876 7 = Xi U1 876 7 from by rw [eU2]; exact Xi_ne (by omega)).trans ((show Xi U1 876 7 = Xi S 876 7 from by rw [eU1]; exact Xi_ne (by omega))))))))))
                    have w219 : 0 ≤ Xi T19 890 1 ∧ Xi T19 890 1 ≤ 5126 := hHT19.c _ _
                    refine l_callV rfl rfl rfl (t_gr_take hHT19 103 ⟨by omega, by omega⟩ (by first | assumption | omega) (by first | assumption | omega) (by first | assumption | omega) _) ?_
                    rintro _ T20 ⟨hHT20, w225, z224, rfl, w224, w220, w221, w222, w223⟩
                    have hFT20 : FR md_gr_checkOthers S T20 := FR.tr hFT19 w225 rfl
                    show Rl _ _ _ _ _ [iv z224] _ _
                    refine l_if_eq rfl rfl (by unfold rg; omega) (fun w226 => ?_) (fun w227 => ?_)
                    · refine l_iconst rfl ?_
                      refine l_ireturn rfl rfl ?_
                      have w228 : Xi T20 890 2 = Xi U13 890 2 := (show Xi T20 890 2 = Xi T19 890 2 from w225.x _ _ rfl).trans ( (show Xi T19 890 2 = Xi T18 890 2 from w212.x _ _ rfl).trans ( (show Xi T18 890 2 = Xi T17 890 2 from w200.x _ _ rfl).trans ( (show Xi T17 890 2 = Xi T16 890 2 from w187.x _ _ rfl).trans ( (show Xi T16 890 2 = Xi T15 890 2 from w175.x _ _ rfl).trans ( (show Xi T15 890 2 = Xi T14 890 2 from w162.x _ _ rfl).trans ((show Xi T14 890 2 = Xi U13 890 2 from w149.x _ _ rfl)))))))
                      have w229 : 0 ≤ Xi U13 890 2 ∧ Xi U13 890 2 ≤ 20 := hHU13.c _ _
                      exact ⟨hHT20, hFT20, _, rfl, ⟨by omega, by omega⟩, (by first | assumption | omega)⟩
                    · refine l_iconst rfl ?_
                      refine l_goto rfl rfl ?_
                      refine l_ireturn rfl rfl ?_
                      have w230 : Xi T20 890 2 = Xi U13 890 2 := (show Xi T20 890 2 = Xi T19 890 2 from w225.x _ _ rfl).trans ( (show Xi T19 890 2 = Xi T18 890 2 from w212.x _ _ rfl).trans ( (show Xi T18 890 2 = Xi T17 890 2 from w200.x _ _ rfl).trans ( (show Xi T17 890 2 = Xi T16 890 2 from w187.x _ _ rfl).trans ( (show Xi T16 890 2 = Xi T15 890 2 from w175.x _ _ rfl).trans ( (show Xi T15 890 2 = Xi T14 890 2 from w162.x _ _ rfl).trans ((show Xi T14 890 2 = Xi U13 890 2 from w149.x _ _ rfl)))))))
                      have w231 : 0 ≤ Xi U13 890 2 ∧ Xi U13 890 2 ≤ 20 := hHU13.c _ _
                      exact ⟨hHT20, hFT20, _, rfl, ⟨by omega, by omega⟩, (by first | assumption | omega)⟩
      refine And.intro (fun w232 => ⟨_, rfl, ?_⟩) (fun w233 => ?_)
      · refine l_aload_n rfl rfl ?_
        refine l_bipush rfl rfl ?_
        refine l_pfi rfl rfl rfl rfl ?_
        obtain ⟨U21, eU21⟩ : ∃ T : sS, T = uI U2 890 2 (Int32.ofInt 19) := ⟨_, rfl⟩
        rw [← eU21]
        have hHU21 : HI U21 := by rw [eU21]; exact HI_w hHU2 (show 0 ≤ 19 by omega) (show 19 ≤ 20 by omega)
        have hFU21 : FR md_gr_checkOthers S U21 := by rw [eU21]; exact FR.wI hFU2 (mdf_i (r := (890, 891, 2, 3)) (List.mem_of_getElem? (i := 1) rfl) (inR_i (by omega) (by omega) (by omega) (by omega)))
        have w234 : Xi U21 890 2 = 19 := by rw [eU21]; exact Xi_same (by unfold rg; omega)
        have hso404 : SAY U21 (Xi U21 890 1) := SAY_sort eU21 (by assumption) (by decide)
        refine l_aload_n rfl rfl ?_
        have w235 : Xi U21 876 7 = Xi S 876 7 := (show Xi U21 876 7 = Xi U2 876 7 from by rw [eU21]; exact Xi_ne (by omega)).trans ( (show Xi U2 876 7 = Xi U1 876 7 from by rw [eU2]; exact Xi_ne (by omega)).trans ((show Xi U1 876 7 = Xi S 876 7 from by rw [eU1]; exact Xi_ne (by omega))))
        have w237 : Xi U21 890 1 = Xi U1 890 1 := (show Xi U21 890 1 = Xi U2 890 1 from by rw [eU21]; exact Xi_ne (by omega)).trans ((show Xi U2 890 1 = Xi U1 890 1 from by rw [eU2]; exact Xi_ne (by omega)))
        have w238 : 0 ≤ Xi U1 890 1 ∧ Xi U1 890 1 ≤ 5126 := hHU1.c _ _
        refine l_callV rfl rfl rfl (t_gr_takeName hHU21 (by first | assumption | omega) (by first | assumption | omega) _) ?_
        rintro _ T22 ⟨hHT22, w242, z241, rfl, w241, w239, w240⟩
        have hFT22 : FR md_gr_checkOthers S T22 := FR.tr hFU21 w242 rfl
        show Rl _ _ _ _ _ [iv z241] _ _
        refine l_if_eq rfl rfl (by unfold rg; omega) (fun w243 => ?_) (fun w244 => ?_)
        · refine l_iconst rfl ?_
          refine l_ireturn rfl rfl ?_
          have w245 : Xi T22 890 2 = Xi U21 890 2 := (show Xi T22 890 2 = Xi U21 890 2 from w242.x _ _ rfl)
          have w246 : 0 ≤ Xi U21 890 2 ∧ Xi U21 890 2 ≤ 20 := hHU21.c _ _
          exact ⟨hHT22, hFT22, _, rfl, ⟨by omega, by omega⟩, (by first | assumption | omega)⟩
        · refine l_aload_n rfl rfl ?_
          refine l_bipush rfl rfl ?_
          have w247 : Xi T22 876 7 = Xi S 876 7 := (show Xi T22 876 7 = Xi U21 876 7 from w242.x _ _ rfl).trans ( (show Xi U21 876 7 = Xi U2 876 7 from by rw [eU21]; exact Xi_ne (by omega)).trans ( (show Xi U2 876 7 = Xi U1 876 7 from by rw [eU2]; exact Xi_ne (by omega)).trans ((show Xi U1 876 7 = Xi S 876 7 from by rw [eU1]; exact Xi_ne (by omega)))))
          have w249 : 0 ≤ Xi T22 890 1 ∧ Xi T22 890 1 ≤ 5126 := hHT22.c _ _
          refine l_callV rfl rfl rfl (t_gr_take hHT22 21 ⟨by omega, by omega⟩ (by first | assumption | omega) (by first | assumption | omega) (by first | assumption | omega) _) ?_
          rintro _ T23 ⟨hHT23, w255, z254, rfl, w254, w250, w251, w252, w253⟩
          have hFT23 : FR md_gr_checkOthers S T23 := FR.tr hFT22 w255 rfl
          show Rl _ _ _ _ _ [iv z254] _ _
          refine l_if_eq rfl rfl (by unfold rg; omega) (fun w256 => ?_) (fun w257 => ?_)
          · refine l_iconst rfl ?_
            refine l_ireturn rfl rfl ?_
            have w258 : Xi T23 890 2 = Xi U21 890 2 := (show Xi T23 890 2 = Xi T22 890 2 from w255.x _ _ rfl).trans ((show Xi T22 890 2 = Xi U21 890 2 from w242.x _ _ rfl))
            have w259 : 0 ≤ Xi U21 890 2 ∧ Xi U21 890 2 ≤ 20 := hHU21.c _ _
            exact ⟨hHT23, hFT23, _, rfl, ⟨by omega, by omega⟩, (by first | assumption | omega)⟩
          · refine l_aload_n rfl rfl ?_
            have w260 : Xi T23 876 7 = Xi S 876 7 := (show Xi T23 876 7 = Xi T22 876 7 from w255.x _ _ rfl).trans ( (show Xi T22 876 7 = Xi U21 876 7 from w242.x _ _ rfl).trans ( (show Xi U21 876 7 = Xi U2 876 7 from by rw [eU21]; exact Xi_ne (by omega)).trans ( (show Xi U2 876 7 = Xi U1 876 7 from by rw [eU2]; exact Xi_ne (by omega)).trans ((show Xi U1 876 7 = Xi S 876 7 from by rw [eU1]; exact Xi_ne (by omega))))))
            have w262 : 0 ≤ Xi T23 890 1 ∧ Xi T23 890 1 ≤ 5126 := hHT23.c _ _
            refine l_callV rfl rfl rfl (t_gr_takeHowMany hHT23 (by first | assumption | omega) (by first | assumption | omega) _) ?_
            rintro _ T24 ⟨hHT24, w266, z265, rfl, w265, w263, w264⟩
            have hFT24 : FR md_gr_checkOthers S T24 := FR.tr hFT23 w266 rfl
            show Rl _ _ _ _ _ [iv z265] _ _
            refine l_if_eq rfl rfl (by unfold rg; omega) (fun w267 => ?_) (fun w268 => ?_)
            · refine l_iconst rfl ?_
              refine l_ireturn rfl rfl ?_
              have w269 : Xi T24 890 2 = Xi U21 890 2 := (show Xi T24 890 2 = Xi T23 890 2 from w266.x _ _ rfl).trans ( (show Xi T23 890 2 = Xi T22 890 2 from w255.x _ _ rfl).trans ((show Xi T22 890 2 = Xi U21 890 2 from w242.x _ _ rfl)))
              have w270 : 0 ≤ Xi U21 890 2 ∧ Xi U21 890 2 ≤ 20 := hHU21.c _ _
              exact ⟨hHT24, hFT24, _, rfl, ⟨by omega, by omega⟩, (by first | assumption | omega)⟩
            · refine l_aload_n rfl rfl ?_
              have w271 : Xi T24 876 7 = Xi S 876 7 := (show Xi T24 876 7 = Xi T23 876 7 from w266.x _ _ rfl).trans ( (show Xi T23 876 7 = Xi T22 876 7 from w255.x _ _ rfl).trans ( (show Xi T22 876 7 = Xi U21 876 7 from w242.x _ _ rfl).trans ( (show Xi U21 876 7 = Xi U2 876 7 from by rw [eU21]; exact Xi_ne (by omega)).trans ( (show Xi U2 876 7 = Xi U1 876 7 from by rw [eU2]; exact Xi_ne (by omega)).trans ((show Xi U1 876 7 = Xi S 876 7 from by rw [eU1]; exact Xi_ne (by omega)))))))
              have w273 : 0 ≤ Xi T24 890 1 ∧ Xi T24 890 1 ≤ 5126 := hHT24.c _ _
              refine l_callV rfl rfl rfl (t_gr_takeRun hHT24 (by first | assumption | omega) (by first | assumption | omega) _) ?_
              rintro _ T25 ⟨hHT25, w278, z277, rfl, w277, w274, w275, w276⟩
              have hFT25 : FR md_gr_checkOthers S T25 := FR.tr hFT24 w278 rfl
              show Rl _ _ _ _ _ [iv z277] _ _
              refine l_if_eq rfl rfl (by unfold rg; omega) (fun w279 => ?_) (fun w280 => ?_)
              · refine l_iconst rfl ?_
                refine l_ireturn rfl rfl ?_
                have w281 : Xi T25 890 2 = Xi U21 890 2 := (show Xi T25 890 2 = Xi T24 890 2 from w278.x _ _ rfl).trans ( (show Xi T24 890 2 = Xi T23 890 2 from w266.x _ _ rfl).trans ( (show Xi T23 890 2 = Xi T22 890 2 from w255.x _ _ rfl).trans ((show Xi T22 890 2 = Xi U21 890 2 from w242.x _ _ rfl))))
                have w282 : 0 ≤ Xi U21 890 2 ∧ Xi U21 890 2 ≤ 20 := hHU21.c _ _
                exact ⟨hHT25, hFT25, _, rfl, ⟨by omega, by omega⟩, (by first | assumption | omega)⟩
              · refine l_aload_n rfl rfl ?_
                refine l_bipush rfl rfl ?_
                have w283 : Xi T25 876 7 = Xi S 876 7 := (show Xi T25 876 7 = Xi T24 876 7 from w278.x _ _ rfl).trans ( (show Xi T24 876 7 = Xi T23 876 7 from w266.x _ _ rfl).trans ( (show Xi T23 876 7 = Xi T22 876 7 from w255.x _ _ rfl).trans ( (show Xi T22 876 7 = Xi U21 876 7 from w242.x _ _ rfl).trans ( (show Xi U21 876 7 = Xi U2 876 7 from by rw [eU21]; exact Xi_ne (by omega)).trans ( (show Xi U2 876 7 = Xi U1 876 7 from by rw [eU2]; exact Xi_ne (by omega)).trans ((show Xi U1 876 7 = Xi S 876 7 from by rw [eU1]; exact Xi_ne (by omega))))))))
                have w285 : 0 ≤ Xi T25 890 1 ∧ Xi T25 890 1 ≤ 5126 := hHT25.c _ _
                refine l_callV rfl rfl rfl (t_gr_take hHT25 11 ⟨by omega, by omega⟩ (by first | assumption | omega) (by first | assumption | omega) (by first | assumption | omega) _) ?_
                rintro _ T26 ⟨hHT26, w291, z290, rfl, w290, w286, w287, w288, w289⟩
                have hFT26 : FR md_gr_checkOthers S T26 := FR.tr hFT25 w291 rfl
                show Rl _ _ _ _ _ [iv z290] _ _
                refine l_if_eq rfl rfl (by unfold rg; omega) (fun w292 => ?_) (fun w293 => ?_)
                · refine l_iconst rfl ?_
                  refine l_ireturn rfl rfl ?_
                  have w294 : Xi T26 890 2 = Xi U21 890 2 := (show Xi T26 890 2 = Xi T25 890 2 from w291.x _ _ rfl).trans ( (show Xi T25 890 2 = Xi T24 890 2 from w278.x _ _ rfl).trans ( (show Xi T24 890 2 = Xi T23 890 2 from w266.x _ _ rfl).trans ( (show Xi T23 890 2 = Xi T22 890 2 from w255.x _ _ rfl).trans ((show Xi T22 890 2 = Xi U21 890 2 from w242.x _ _ rfl)))))
                  have w295 : 0 ≤ Xi U21 890 2 ∧ Xi U21 890 2 ≤ 20 := hHU21.c _ _
                  exact ⟨hHT26, hFT26, _, rfl, ⟨by omega, by omega⟩, (by first | assumption | omega)⟩
                · refine l_aload_n rfl rfl ?_
                  have w296 : Xi T26 876 7 = Xi S 876 7 := (show Xi T26 876 7 = Xi T25 876 7 from w291.x _ _ rfl).trans ( (show Xi T25 876 7 = Xi T24 876 7 from w278.x _ _ rfl).trans ( (show Xi T24 876 7 = Xi T23 876 7 from w266.x _ _ rfl).trans ( (show Xi T23 876 7 = Xi T22 876 7 from w255.x _ _ rfl).trans ( (show Xi T22 876 7 = Xi U21 876 7 from w242.x _ _ rfl).trans ( (show Xi U21 876 7 = Xi U2 876 7 from by rw [eU21]; exact Xi_ne (by omega)).trans ( (show Xi U2 876 7 = Xi U1 876 7 from by rw [eU2]; exact Xi_ne (by omega)).trans ((show Xi U1 876 7 = Xi S 876 7 from by rw [eU1]; exact Xi_ne (by omega)))))))))
                  have w298 : 0 ≤ Xi T26 890 1 ∧ Xi T26 890 1 ≤ 5126 := hHT26.c _ _
                  refine l_callV rfl rfl rfl (t_gr_takeHowMany hHT26 (by first | assumption | omega) (by first | assumption | omega) _) ?_
                  rintro _ T27 ⟨hHT27, w302, z301, rfl, w301, w299, w300⟩
                  have hFT27 : FR md_gr_checkOthers S T27 := FR.tr hFT26 w302 rfl
                  show Rl _ _ _ _ _ [iv z301] _ _
                  refine l_if_eq rfl rfl (by unfold rg; omega) (fun w303 => ?_) (fun w304 => ?_)
                  · refine l_iconst rfl ?_
                    refine l_ireturn rfl rfl ?_
                    have w305 : Xi T27 890 2 = Xi U21 890 2 := (show Xi T27 890 2 = Xi T26 890 2 from w302.x _ _ rfl).trans ( (show Xi T26 890 2 = Xi T25 890 2 from w291.x _ _ rfl).trans ( (show Xi T25 890 2 = Xi T24 890 2 from w278.x _ _ rfl).trans ( (show Xi T24 890 2 = Xi T23 890 2 from w266.x _ _ rfl).trans ( (show Xi T23 890 2 = Xi T22 890 2 from w255.x _ _ rfl).trans ((show Xi T22 890 2 = Xi U21 890 2 from w242.x _ _ rfl))))))
                    have w306 : 0 ≤ Xi U21 890 2 ∧ Xi U21 890 2 ≤ 20 := hHU21.c _ _
                    exact ⟨hHT27, hFT27, _, rfl, ⟨by omega, by omega⟩, (by first | assumption | omega)⟩
                  · refine l_aload_n rfl rfl ?_
                    have w307 : Xi T27 876 7 = Xi S 876 7 := (show Xi T27 876 7 = Xi T26 876 7 from w302.x _ _ rfl).trans ( (show Xi T26 876 7 = Xi T25 876 7 from w291.x _ _ rfl).trans ( (show Xi T25 876 7 = Xi T24 876 7 from w278.x _ _ rfl).trans ( (show Xi T24 876 7 = Xi T23 876 7 from w266.x _ _ rfl).trans ( (show Xi T23 876 7 = Xi T22 876 7 from w255.x _ _ rfl).trans ( (show Xi T22 876 7 = Xi U21 876 7 from w242.x _ _ rfl).trans ( (show Xi U21 876 7 = Xi U2 876 7 from by rw [eU21]; exact Xi_ne (by omega)).trans ( (show Xi U2 876 7 = Xi U1 876 7 from by rw [eU2]; exact Xi_ne (by omega)).trans ((show Xi U1 876 7 = Xi S 876 7 from by rw [eU1]; exact Xi_ne (by omega))))))))))
                    have w309 : 0 ≤ Xi T27 890 1 ∧ Xi T27 890 1 ≤ 5126 := hHT27.c _ _
                    refine l_callV rfl rfl rfl (t_gr_takeRun hHT27 (by first | assumption | omega) (by first | assumption | omega) _) ?_
                    rintro _ T28 ⟨hHT28, w314, z313, rfl, w313, w310, w311, w312⟩
                    have hFT28 : FR md_gr_checkOthers S T28 := FR.tr hFT27 w314 rfl
                    show Rl _ _ _ _ _ [iv z313] _ _
                    refine l_if_eq rfl rfl (by unfold rg; omega) (fun w315 => ?_) (fun w316 => ?_)
                    · refine l_iconst rfl ?_
                      refine l_ireturn rfl rfl ?_
                      have w317 : Xi T28 890 2 = Xi U21 890 2 := (show Xi T28 890 2 = Xi T27 890 2 from w314.x _ _ rfl).trans ( (show Xi T27 890 2 = Xi T26 890 2 from w302.x _ _ rfl).trans ( (show Xi T26 890 2 = Xi T25 890 2 from w291.x _ _ rfl).trans ( (show Xi T25 890 2 = Xi T24 890 2 from w278.x _ _ rfl).trans ( (show Xi T24 890 2 = Xi T23 890 2 from w266.x _ _ rfl).trans ( (show Xi T23 890 2 = Xi T22 890 2 from w255.x _ _ rfl).trans ((show Xi T22 890 2 = Xi U21 890 2 from w242.x _ _ rfl)))))))
                      have w318 : 0 ≤ Xi U21 890 2 ∧ Xi U21 890 2 ≤ 20 := hHU21.c _ _
                      exact ⟨hHT28, hFT28, _, rfl, ⟨by omega, by omega⟩, (by first | assumption | omega)⟩
                    · refine l_aload_n rfl rfl ?_
                      refine l_bipush rfl rfl ?_
                      have w319 : Xi T28 876 7 = Xi S 876 7 := (show Xi T28 876 7 = Xi T27 876 7 from w314.x _ _ rfl).trans ( (show Xi T27 876 7 = Xi T26 876 7 from w302.x _ _ rfl).trans ( (show Xi T26 876 7 = Xi T25 876 7 from w291.x _ _ rfl).trans ( (show Xi T25 876 7 = Xi T24 876 7 from w278.x _ _ rfl).trans ( (show Xi T24 876 7 = Xi T23 876 7 from w266.x _ _ rfl).trans ( (show Xi T23 876 7 = Xi T22 876 7 from w255.x _ _ rfl).trans ( (show Xi T22 876 7 = Xi U21 876 7 from w242.x _ _ rfl).trans ( (show Xi U21 876 7 = Xi U2 876 7 from by rw [eU21]; exact Xi_ne (by omega)).trans ( (show Xi U2 876 7 = Xi U1 876 7 from by rw [eU2]; exact Xi_ne (by omega)).trans ((show Xi U1 876 7 = Xi S 876 7 from by rw [eU1]; exact Xi_ne (by omega)))))))))))
                      have w321 : 0 ≤ Xi T28 890 1 ∧ Xi T28 890 1 ≤ 5126 := hHT28.c _ _
                      refine l_callV rfl rfl rfl (t_gr_take hHT28 103 ⟨by omega, by omega⟩ (by first | assumption | omega) (by first | assumption | omega) (by first | assumption | omega) _) ?_
                      rintro _ T29 ⟨hHT29, w327, z326, rfl, w326, w322, w323, w324, w325⟩
                      have hFT29 : FR md_gr_checkOthers S T29 := FR.tr hFT28 w327 rfl
                      show Rl _ _ _ _ _ [iv z326] _ _
                      refine l_if_eq rfl rfl (by unfold rg; omega) (fun w328 => ?_) (fun w329 => ?_)
                      · refine l_iconst rfl ?_
                        refine l_ireturn rfl rfl ?_
                        have w330 : Xi T29 890 2 = Xi U21 890 2 := (show Xi T29 890 2 = Xi T28 890 2 from w327.x _ _ rfl).trans ( (show Xi T28 890 2 = Xi T27 890 2 from w314.x _ _ rfl).trans ( (show Xi T27 890 2 = Xi T26 890 2 from w302.x _ _ rfl).trans ( (show Xi T26 890 2 = Xi T25 890 2 from w291.x _ _ rfl).trans ( (show Xi T25 890 2 = Xi T24 890 2 from w278.x _ _ rfl).trans ( (show Xi T24 890 2 = Xi T23 890 2 from w266.x _ _ rfl).trans ( (show Xi T23 890 2 = Xi T22 890 2 from w255.x _ _ rfl).trans ((show Xi T22 890 2 = Xi U21 890 2 from w242.x _ _ rfl))))))))
                        have w331 : 0 ≤ Xi U21 890 2 ∧ Xi U21 890 2 ≤ 20 := hHU21.c _ _
                        exact ⟨hHT29, hFT29, _, rfl, ⟨by omega, by omega⟩, (by first | assumption | omega)⟩
                      · refine l_iconst rfl ?_
                        refine l_goto rfl rfl ?_
                        refine l_ireturn rfl rfl ?_
                        have w332 : Xi T29 890 2 = Xi U21 890 2 := (show Xi T29 890 2 = Xi T28 890 2 from w327.x _ _ rfl).trans ( (show Xi T28 890 2 = Xi T27 890 2 from w314.x _ _ rfl).trans ( (show Xi T27 890 2 = Xi T26 890 2 from w302.x _ _ rfl).trans ( (show Xi T26 890 2 = Xi T25 890 2 from w291.x _ _ rfl).trans ( (show Xi T25 890 2 = Xi T24 890 2 from w278.x _ _ rfl).trans ( (show Xi T24 890 2 = Xi T23 890 2 from w266.x _ _ rfl).trans ( (show Xi T23 890 2 = Xi T22 890 2 from w255.x _ _ rfl).trans ((show Xi T22 890 2 = Xi U21 890 2 from w242.x _ _ rfl))))))))
                        have w333 : 0 ≤ Xi U21 890 2 ∧ Xi U21 890 2 ≤ 20 := hHU21.c _ _
                        exact ⟨hHT29, hFT29, _, rfl, ⟨by omega, by omega⟩, (by first | assumption | omega)⟩
      refine ⟨_, rfl, ?_⟩
      refine l_aload_n rfl rfl ?_
      refine l_bipush rfl rfl ?_
      refine l_pfi rfl rfl rfl rfl ?_
      obtain ⟨U30, eU30⟩ : ∃ T : sS, T = uI U2 890 2 (Int32.ofInt 20) := ⟨_, rfl⟩
      rw [← eU30]
      have hHU30 : HI U30 := by rw [eU30]; exact HI_w hHU2 (show 0 ≤ 20 by omega) (show 20 ≤ 20 by omega)
      have hFU30 : FR md_gr_checkOthers S U30 := by rw [eU30]; exact FR.wI hFU2 (mdf_i (r := (890, 891, 2, 3)) (List.mem_of_getElem? (i := 1) rfl) (inR_i (by omega) (by omega) (by omega) (by omega)))
      have w334 : Xi U30 890 2 = 20 := by rw [eU30]; exact Xi_same (by unfold rg; omega)
      have hso478 : SAY U30 (Xi U30 890 1) := SAY_sort eU30 (by assumption) (by decide)
      refine l_aload_n rfl rfl ?_
      refine l_bipush rfl rfl ?_
      refine l_bipush rfl rfl ?_
      have w335 : Xi U30 876 7 = Xi S 876 7 := (show Xi U30 876 7 = Xi U2 876 7 from by rw [eU30]; exact Xi_ne (by omega)).trans ( (show Xi U2 876 7 = Xi U1 876 7 from by rw [eU2]; exact Xi_ne (by omega)).trans ((show Xi U1 876 7 = Xi S 876 7 from by rw [eU1]; exact Xi_ne (by omega))))
      have w337 : Xi U30 890 1 = Xi U1 890 1 := (show Xi U30 890 1 = Xi U2 890 1 from by rw [eU30]; exact Xi_ne (by omega)).trans ((show Xi U2 890 1 = Xi U1 890 1 from by rw [eU2]; exact Xi_ne (by omega)))
      have w338 : 0 ≤ Xi U1 890 1 ∧ Xi U1 890 1 ≤ 5126 := hHU1.c _ _
      refine l_callV rfl rfl rfl (t_gr_takeLoose hHU30 16 104 ⟨by omega, by omega⟩ ⟨by omega, by omega⟩ (by first | assumption | omega) (by first | assumption | omega) (by first | assumption | omega) (by first | assumption | omega) _) ?_
      rintro _ T31 ⟨hHT31, w342, z341, rfl, w341, w339, w340⟩
      have hFT31 : FR md_gr_checkOthers S T31 := FR.tr hFU30 w342 rfl
      show Rl _ _ _ _ _ [iv z341] _ _
      refine l_if_eq rfl rfl (by unfold rg; omega) (fun w343 => ?_) (fun w344 => ?_)
      · refine l_iconst rfl ?_
        refine l_ireturn rfl rfl ?_
        have w345 : Xi T31 890 2 = Xi U30 890 2 := (show Xi T31 890 2 = Xi U30 890 2 from w342.x _ _ rfl)
        have w346 : 0 ≤ Xi U30 890 2 ∧ Xi U30 890 2 ≤ 20 := hHU30.c _ _
        exact ⟨hHT31, hFT31, _, rfl, ⟨by omega, by omega⟩, (by first | assumption | omega)⟩
      · refine l_aload_n rfl rfl ?_
        refine l_bipush rfl rfl ?_
        have w347 : Xi T31 876 7 = Xi S 876 7 := (show Xi T31 876 7 = Xi U30 876 7 from w342.x _ _ rfl).trans ( (show Xi U30 876 7 = Xi U2 876 7 from by rw [eU30]; exact Xi_ne (by omega)).trans ( (show Xi U2 876 7 = Xi U1 876 7 from by rw [eU2]; exact Xi_ne (by omega)).trans ((show Xi U1 876 7 = Xi S 876 7 from by rw [eU1]; exact Xi_ne (by omega)))))
        have w349 : 0 ≤ Xi T31 890 1 ∧ Xi T31 890 1 ≤ 5126 := hHT31.c _ _
        refine l_callV rfl rfl rfl (t_gr_take hHT31 103 ⟨by omega, by omega⟩ (by first | assumption | omega) (by first | assumption | omega) (by first | assumption | omega) _) ?_
        rintro _ T32 ⟨hHT32, w355, z354, rfl, w354, w350, w351, w352, w353⟩
        have hFT32 : FR md_gr_checkOthers S T32 := FR.tr hFT31 w355 rfl
        show Rl _ _ _ _ _ [iv z354] _ _
        refine l_if_eq rfl rfl (by unfold rg; omega) (fun w356 => ?_) (fun w357 => ?_)
        · refine l_iconst rfl ?_
          refine l_ireturn rfl rfl ?_
          have w358 : Xi T32 890 2 = Xi U30 890 2 := (show Xi T32 890 2 = Xi T31 890 2 from w355.x _ _ rfl).trans ((show Xi T31 890 2 = Xi U30 890 2 from w342.x _ _ rfl))
          have w359 : 0 ≤ Xi U30 890 2 ∧ Xi U30 890 2 ≤ 20 := hHU30.c _ _
          exact ⟨hHT32, hFT32, _, rfl, ⟨by omega, by omega⟩, (by first | assumption | omega)⟩
        · refine l_iconst rfl ?_
          refine l_goto rfl rfl ?_
          refine l_ireturn rfl rfl ?_
          have w360 : Xi T32 890 2 = Xi U30 890 2 := (show Xi T32 890 2 = Xi T31 890 2 from w355.x _ _ rfl).trans ((show Xi T31 890 2 = Xi U30 890 2 from w342.x _ _ rfl))
          have w361 : 0 ≤ Xi U30 890 2 ∧ Xi U30 890 2 ≤ 20 := hHU30.c _ _
          exact ⟨hHT32, hFT32, _, rfl, ⟨by omega, by omega⟩, (by first | assumption | omega)⟩
    · refine l_aload_n rfl rfl ?_
      refine l_gfr rfl rfl rfl rfl rfl (hH.r 890 0 876 rfl) ?_
      refine l_iconst rfl ?_
      refine l_callV rfl rfl rfl (t_to_typeAt hH 1 ⟨by omega, by omega⟩ _) ?_
      rintro _ _ ⟨rfl, z366, rfl, w366, w363, w364, w365⟩
      show Rl _ _ _ _ _ [iv z366] _ _
      refine l_bipush rfl rfl ?_
      refine l_icmp_ne rfl rfl (by unfold rg; omega) (by unfold rg; omega) (fun w367 => ?_) (fun w368 => ?_)
      · refine l_aload_n rfl rfl ?_
        refine l_iconst rfl ?_
        refine l_pfi rfl rfl rfl rfl ?_
        obtain ⟨U33, eU33⟩ : ∃ T : sS, T = uI S 890 1 (Int32.ofInt 0) := ⟨_, rfl⟩
        rw [← eU33]
        have hHU33 : HI U33 := by rw [eU33]; exact HI_w hH (show 0 ≤ 0 by omega) (show 0 ≤ 5126 by omega)
        have hFU33 : FR md_gr_checkOthers S U33 := by rw [eU33]; exact FR.wI hF (mdf_i (r := (890, 891, 1, 2)) (List.mem_of_getElem? (i := 0) rfl) (inR_i (by omega) (by omega) (by omega) (by omega)))
        have w369 : Xi U33 890 1 = 0 := by rw [eU33]; exact Xi_same (by unfold rg; omega)
        have hs183 : SAY U33 (Xi U33 890 1) := SAY_v0 (by omega)
        refine l_aload_n rfl rfl ?_
        refine l_aload_n rfl rfl ?_
        refine l_gfr rfl rfl rfl rfl rfl (hHU33.r 890 0 876 rfl) ?_
        have w370 : Xi U33 876 7 = Xi S 876 7 := (show Xi U33 876 7 = Xi S 876 7 from by rw [eU33]; exact Xi_ne (by omega))
        refine l_callV rfl rfl rfl (t_to_tellingKey hHU33 _) ?_
        rintro _ _ ⟨rfl, z373, rfl, w373, w372⟩
        show Rl _ _ _ _ _ [iv z373, .ref 890] _ _
        refine l_pfi rfl rfl rfl rfl ?_
        obtain ⟨U34, eU34⟩ : ∃ T : sS, T = uI U33 890 3 (Int32.ofInt z373) := ⟨_, rfl⟩
        rw [← eU34]
        have hHU34 : HI U34 := by rw [eU34]; exact HI_w hHU33 (show -1 ≤ z373 by omega) (show z373 ≤ 5124 by omega)
        have hFU34 : FR md_gr_checkOthers S U34 := by rw [eU34]; exact FR.wI hFU33 (mdf_i (r := (890, 891, 3, 4)) (List.mem_of_getElem? (i := 2) rfl) (inR_i (by omega) (by omega) (by omega) (by omega)))
        have w374 : Xi U34 890 3 = z373 := by rw [eU34]; exact Xi_same (by unfold rg; omega)
        have hso194 : SAY U34 (Xi U34 890 1) := SAY_sort eU34 (by assumption) (by decide)
        refine l_aload_n rfl rfl ?_
        refine l_gfr rfl rfl rfl rfl rfl (hHU34.r 890 0 876 rfl) ?_
        refine l_aload_n rfl rfl ?_
        refine l_gfi rfl rfl rfl rfl rfl ?_
        have w375 : Xi U34 876 7 = Xi S 876 7 := (show Xi U34 876 7 = Xi U33 876 7 from by rw [eU34]; exact Xi_ne (by omega)).trans ((show Xi U33 876 7 = Xi S 876 7 from by rw [eU33]; exact Xi_ne (by omega)))
        refine l_callV rfl rfl rfl (t_to_typeAt hHU34 (Xi U34 890 3) ⟨by omega, by omega⟩ _) ?_
        rintro _ _ ⟨rfl, z380, rfl, w380, w377, w378, w379⟩
        show Rl _ _ _ _ _ [iv z380] _ _
        refine l_lsw rfl rfl (by unfold rg; omega) ?_
        refine And.intro (fun w381 => ⟨_, rfl, ?_⟩) (fun w382 => ?_)
        · refine l_aload_n rfl rfl ?_
          have w385 : Xi U34 890 1 = Xi U33 890 1 := (show Xi U34 890 1 = Xi U33 890 1 from by rw [eU34]; exact Xi_ne (by omega))
          have w386 : 0 ≤ Xi U33 890 1 ∧ Xi U33 890 1 ≤ 5126 := hHU33.c _ _
          refine l_callV rfl rfl rfl (t_gr_checkBe hHU34 (by first | assumption | omega) (by first | assumption | omega) (by first | assumption | omega) _) ?_
          rintro _ T35 ⟨hHT35, w389, z388, rfl, w388, w387⟩
          have hFT35 : FR md_gr_checkOthers S T35 := FR.tr hFU34 w389 rfl
          show Rl _ _ _ _ _ [iv z388] _ _
          refine l_ireturn rfl (retI_z (by omega)) ?_
          have w390 : 0 ≤ Xi T35 890 2 ∧ Xi T35 890 2 ≤ 20 := hHT35.c _ _
          exact ⟨hHT35, hFT35, _, rfl, ⟨by omega, by omega⟩, (by first | assumption | omega)⟩
        refine And.intro (fun w391 => ⟨_, rfl, ?_⟩) (fun w392 => ?_)
        · refine l_aload_n rfl rfl ?_
          have w395 : Xi U34 890 1 = Xi U33 890 1 := (show Xi U34 890 1 = Xi U33 890 1 from by rw [eU34]; exact Xi_ne (by omega))
          have w396 : 0 ≤ Xi U33 890 1 ∧ Xi U33 890 1 ≤ 5126 := hHU33.c _ _
          refine l_callV rfl rfl rfl (t_gr_checkBe hHU34 (by first | assumption | omega) (by first | assumption | omega) (by first | assumption | omega) _) ?_
          rintro _ T36 ⟨hHT36, w399, z398, rfl, w398, w397⟩
          have hFT36 : FR md_gr_checkOthers S T36 := FR.tr hFU34 w399 rfl
          show Rl _ _ _ _ _ [iv z398] _ _
          refine l_ireturn rfl (retI_z (by omega)) ?_
          have w400 : 0 ≤ Xi T36 890 2 ∧ Xi T36 890 2 ≤ 20 := hHT36.c _ _
          exact ⟨hHT36, hFT36, _, rfl, ⟨by omega, by omega⟩, (by first | assumption | omega)⟩
        refine And.intro (fun w401 => ⟨_, rfl, ?_⟩) (fun w402 => ?_)
        · refine l_aload_n rfl rfl ?_
          refine l_bipush rfl rfl ?_
          refine l_pfi rfl rfl rfl rfl ?_
          obtain ⟨U37, eU37⟩ : ∃ T : sS, T = uI U34 890 2 (Int32.ofInt 17) := ⟨_, rfl⟩
          rw [← eU37]
          have hHU37 : HI U37 := by rw [eU37]; exact HI_w hHU34 (show 0 ≤ 17 by omega) (show 17 ≤ 20 by omega)
          have hFU37 : FR md_gr_checkOthers S U37 := by rw [eU37]; exact FR.wI hFU34 (mdf_i (r := (890, 891, 2, 3)) (List.mem_of_getElem? (i := 1) rfl) (inR_i (by omega) (by omega) (by omega) (by omega)))
          have w403 : Xi U37 890 2 = 17 := by rw [eU37]; exact Xi_same (by unfold rg; omega)
          have hso268 : SAY U37 (Xi U37 890 1) := SAY_sort eU37 (by assumption) (by decide)
          refine l_aload_n rfl rfl ?_
          have w404 : Xi U37 876 7 = Xi S 876 7 := (show Xi U37 876 7 = Xi U34 876 7 from by rw [eU37]; exact Xi_ne (by omega)).trans ( (show Xi U34 876 7 = Xi U33 876 7 from by rw [eU34]; exact Xi_ne (by omega)).trans ((show Xi U33 876 7 = Xi S 876 7 from by rw [eU33]; exact Xi_ne (by omega))))
          have w406 : Xi U37 890 1 = Xi U33 890 1 := (show Xi U37 890 1 = Xi U34 890 1 from by rw [eU37]; exact Xi_ne (by omega)).trans ((show Xi U34 890 1 = Xi U33 890 1 from by rw [eU34]; exact Xi_ne (by omega)))
          have w407 : 0 ≤ Xi U33 890 1 ∧ Xi U33 890 1 ≤ 5126 := hHU33.c _ _
          refine l_callV rfl rfl rfl (t_gr_takeName hHU37 (by first | assumption | omega) (by first | assumption | omega) _) ?_
          rintro _ T38 ⟨hHT38, w411, z410, rfl, w410, w408, w409⟩
          have hFT38 : FR md_gr_checkOthers S T38 := FR.tr hFU37 w411 rfl
          show Rl _ _ _ _ _ [iv z410] _ _
          refine l_if_eq rfl rfl (by unfold rg; omega) (fun w412 => ?_) (fun w413 => ?_)
          · refine l_iconst rfl ?_
            refine l_ireturn rfl rfl ?_
            have w414 : Xi T38 890 2 = Xi U37 890 2 := (show Xi T38 890 2 = Xi U37 890 2 from w411.x _ _ rfl)
            have w415 : 0 ≤ Xi U37 890 2 ∧ Xi U37 890 2 ≤ 20 := hHU37.c _ _
            exact ⟨hHT38, hFT38, _, rfl, ⟨by omega, by omega⟩, (by first | assumption | omega)⟩
          · refine l_aload_n rfl rfl ?_
            refine l_bipush rfl rfl ?_
            have w416 : Xi T38 876 7 = Xi S 876 7 := (show Xi T38 876 7 = Xi U37 876 7 from w411.x _ _ rfl).trans ( (show Xi U37 876 7 = Xi U34 876 7 from by rw [eU37]; exact Xi_ne (by omega)).trans ( (show Xi U34 876 7 = Xi U33 876 7 from by rw [eU34]; exact Xi_ne (by omega)).trans ((show Xi U33 876 7 = Xi S 876 7 from by rw [eU33]; exact Xi_ne (by omega)))))
            have w418 : 0 ≤ Xi T38 890 1 ∧ Xi T38 890 1 ≤ 5126 := hHT38.c _ _
            refine l_callV rfl rfl rfl (t_gr_take hHT38 12 ⟨by omega, by omega⟩ (by first | assumption | omega) (by first | assumption | omega) (by first | assumption | omega) _) ?_
            rintro _ T39 ⟨hHT39, w424, z423, rfl, w423, w419, w420, w421, w422⟩
            have hFT39 : FR md_gr_checkOthers S T39 := FR.tr hFT38 w424 rfl
            show Rl _ _ _ _ _ [iv z423] _ _
            refine l_if_eq rfl rfl (by unfold rg; omega) (fun w425 => ?_) (fun w426 => ?_)
            · refine l_iconst rfl ?_
              refine l_ireturn rfl rfl ?_
              have w427 : Xi T39 890 2 = Xi U37 890 2 := (show Xi T39 890 2 = Xi T38 890 2 from w424.x _ _ rfl).trans ((show Xi T38 890 2 = Xi U37 890 2 from w411.x _ _ rfl))
              have w428 : 0 ≤ Xi U37 890 2 ∧ Xi U37 890 2 ≤ 20 := hHU37.c _ _
              exact ⟨hHT39, hFT39, _, rfl, ⟨by omega, by omega⟩, (by first | assumption | omega)⟩
            · refine l_aload_n rfl rfl ?_
              have w429 : Xi T39 876 7 = Xi S 876 7 := (show Xi T39 876 7 = Xi T38 876 7 from w424.x _ _ rfl).trans ( (show Xi T38 876 7 = Xi U37 876 7 from w411.x _ _ rfl).trans ( (show Xi U37 876 7 = Xi U34 876 7 from by rw [eU37]; exact Xi_ne (by omega)).trans ( (show Xi U34 876 7 = Xi U33 876 7 from by rw [eU34]; exact Xi_ne (by omega)).trans ((show Xi U33 876 7 = Xi S 876 7 from by rw [eU33]; exact Xi_ne (by omega))))))
              have w431 : 0 ≤ Xi T39 890 1 ∧ Xi T39 890 1 ≤ 5126 := hHT39.c _ _
              refine l_callV rfl rfl rfl (t_gr_takeArt hHT39 (by first | assumption | omega) (by first | assumption | omega) _) ?_
              rintro _ T40 ⟨hHT40, w436, z435, rfl, w435, w432, w433, w434⟩
              have hFT40 : FR md_gr_checkOthers S T40 := FR.tr hFT39 w436 rfl
              show Rl _ _ _ _ _ [iv z435] _ _
              refine l_if_eq rfl rfl (by unfold rg; omega) (fun w437 => ?_) (fun w438 => ?_)
              · refine l_iconst rfl ?_
                refine l_ireturn rfl rfl ?_
                have w439 : Xi T40 890 2 = Xi U37 890 2 := (show Xi T40 890 2 = Xi T39 890 2 from w436.x _ _ rfl).trans ( (show Xi T39 890 2 = Xi T38 890 2 from w424.x _ _ rfl).trans ((show Xi T38 890 2 = Xi U37 890 2 from w411.x _ _ rfl)))
                have w440 : 0 ≤ Xi U37 890 2 ∧ Xi U37 890 2 ≤ 20 := hHU37.c _ _
                exact ⟨hHT40, hFT40, _, rfl, ⟨by omega, by omega⟩, (by first | assumption | omega)⟩
              · refine l_aload_n rfl rfl ?_
                have w441 : Xi T40 876 7 = Xi S 876 7 := (show Xi T40 876 7 = Xi T39 876 7 from w436.x _ _ rfl).trans ( (show Xi T39 876 7 = Xi T38 876 7 from w424.x _ _ rfl).trans ( (show Xi T38 876 7 = Xi U37 876 7 from w411.x _ _ rfl).trans ( (show Xi U37 876 7 = Xi U34 876 7 from by rw [eU37]; exact Xi_ne (by omega)).trans ( (show Xi U34 876 7 = Xi U33 876 7 from by rw [eU34]; exact Xi_ne (by omega)).trans ((show Xi U33 876 7 = Xi S 876 7 from by rw [eU33]; exact Xi_ne (by omega)))))))
                have w443 : 0 ≤ Xi T40 890 1 ∧ Xi T40 890 1 ≤ 5126 := hHT40.c _ _
                refine l_callV rfl rfl rfl (t_gr_takeRun hHT40 (by first | assumption | omega) (by first | assumption | omega) _) ?_
                rintro _ T41 ⟨hHT41, w448, z447, rfl, w447, w444, w445, w446⟩
                have hFT41 : FR md_gr_checkOthers S T41 := FR.tr hFT40 w448 rfl
                show Rl _ _ _ _ _ [iv z447] _ _
                refine l_if_eq rfl rfl (by unfold rg; omega) (fun w449 => ?_) (fun w450 => ?_)
                · refine l_iconst rfl ?_
                  refine l_ireturn rfl rfl ?_
                  have w451 : Xi T41 890 2 = Xi U37 890 2 := (show Xi T41 890 2 = Xi T40 890 2 from w448.x _ _ rfl).trans ( (show Xi T40 890 2 = Xi T39 890 2 from w436.x _ _ rfl).trans ( (show Xi T39 890 2 = Xi T38 890 2 from w424.x _ _ rfl).trans ((show Xi T38 890 2 = Xi U37 890 2 from w411.x _ _ rfl))))
                  have w452 : 0 ≤ Xi U37 890 2 ∧ Xi U37 890 2 ≤ 20 := hHU37.c _ _
                  exact ⟨hHT41, hFT41, _, rfl, ⟨by omega, by omega⟩, (by first | assumption | omega)⟩
                · refine l_aload_n rfl rfl ?_
                  refine l_bipush rfl rfl ?_
                  have w453 : Xi T41 876 7 = Xi S 876 7 := (show Xi T41 876 7 = Xi T40 876 7 from w448.x _ _ rfl).trans ( (show Xi T40 876 7 = Xi T39 876 7 from w436.x _ _ rfl).trans ( (show Xi T39 876 7 = Xi T38 876 7 from w424.x _ _ rfl).trans ( (show Xi T38 876 7 = Xi U37 876 7 from w411.x _ _ rfl).trans ( (show Xi U37 876 7 = Xi U34 876 7 from by rw [eU37]; exact Xi_ne (by omega)).trans ( (show Xi U34 876 7 = Xi U33 876 7 from by rw [eU34]; exact Xi_ne (by omega)).trans ((show Xi U33 876 7 = Xi S 876 7 from by rw [eU33]; exact Xi_ne (by omega))))))))
                  have w455 : 0 ≤ Xi T41 890 1 ∧ Xi T41 890 1 ≤ 5126 := hHT41.c _ _
                  refine l_callV rfl rfl rfl (t_gr_take hHT41 17 ⟨by omega, by omega⟩ (by first | assumption | omega) (by first | assumption | omega) (by first | assumption | omega) _) ?_
                  rintro _ T42 ⟨hHT42, w461, z460, rfl, w460, w456, w457, w458, w459⟩
                  have hFT42 : FR md_gr_checkOthers S T42 := FR.tr hFT41 w461 rfl
                  show Rl _ _ _ _ _ [iv z460] _ _
                  refine l_if_eq rfl rfl (by unfold rg; omega) (fun w462 => ?_) (fun w463 => ?_)
                  · refine l_iconst rfl ?_
                    refine l_ireturn rfl rfl ?_
                    have w464 : Xi T42 890 2 = Xi U37 890 2 := (show Xi T42 890 2 = Xi T41 890 2 from w461.x _ _ rfl).trans ( (show Xi T41 890 2 = Xi T40 890 2 from w448.x _ _ rfl).trans ( (show Xi T40 890 2 = Xi T39 890 2 from w436.x _ _ rfl).trans ( (show Xi T39 890 2 = Xi T38 890 2 from w424.x _ _ rfl).trans ((show Xi T38 890 2 = Xi U37 890 2 from w411.x _ _ rfl)))))
                    have w465 : 0 ≤ Xi U37 890 2 ∧ Xi U37 890 2 ≤ 20 := hHU37.c _ _
                    exact ⟨hHT42, hFT42, _, rfl, ⟨by omega, by omega⟩, (by first | assumption | omega)⟩
                  · refine l_aload_n rfl rfl ?_
                    have w466 : Xi T42 876 7 = Xi S 876 7 := (show Xi T42 876 7 = Xi T41 876 7 from w461.x _ _ rfl).trans ( (show Xi T41 876 7 = Xi T40 876 7 from w448.x _ _ rfl).trans ( (show Xi T40 876 7 = Xi T39 876 7 from w436.x _ _ rfl).trans ( (show Xi T39 876 7 = Xi T38 876 7 from w424.x _ _ rfl).trans ( (show Xi T38 876 7 = Xi U37 876 7 from w411.x _ _ rfl).trans ( (show Xi U37 876 7 = Xi U34 876 7 from by rw [eU37]; exact Xi_ne (by omega)).trans ( (show Xi U34 876 7 = Xi U33 876 7 from by rw [eU34]; exact Xi_ne (by omega)).trans ((show Xi U33 876 7 = Xi S 876 7 from by rw [eU33]; exact Xi_ne (by omega)))))))))
                    have w468 : 0 ≤ Xi T42 890 1 ∧ Xi T42 890 1 ≤ 5126 := hHT42.c _ _
                    refine l_callV rfl rfl rfl (t_gr_takeRun hHT42 (by first | assumption | omega) (by first | assumption | omega) _) ?_
                    rintro _ T43 ⟨hHT43, w473, z472, rfl, w472, w469, w470, w471⟩
                    have hFT43 : FR md_gr_checkOthers S T43 := FR.tr hFT42 w473 rfl
                    show Rl _ _ _ _ _ [iv z472] _ _
                    refine l_if_eq rfl rfl (by unfold rg; omega) (fun w474 => ?_) (fun w475 => ?_)
                    · refine l_iconst rfl ?_
                      refine l_ireturn rfl rfl ?_
                      have w476 : Xi T43 890 2 = Xi U37 890 2 := (show Xi T43 890 2 = Xi T42 890 2 from w473.x _ _ rfl).trans ( (show Xi T42 890 2 = Xi T41 890 2 from w461.x _ _ rfl).trans ( (show Xi T41 890 2 = Xi T40 890 2 from w448.x _ _ rfl).trans ( (show Xi T40 890 2 = Xi T39 890 2 from w436.x _ _ rfl).trans ( (show Xi T39 890 2 = Xi T38 890 2 from w424.x _ _ rfl).trans ((show Xi T38 890 2 = Xi U37 890 2 from w411.x _ _ rfl))))))
                      have w477 : 0 ≤ Xi U37 890 2 ∧ Xi U37 890 2 ≤ 20 := hHU37.c _ _
                      exact ⟨hHT43, hFT43, _, rfl, ⟨by omega, by omega⟩, (by first | assumption | omega)⟩
                    · refine l_aload_n rfl rfl ?_
                      refine l_bipush rfl rfl ?_
                      have w478 : Xi T43 876 7 = Xi S 876 7 := (show Xi T43 876 7 = Xi T42 876 7 from w473.x _ _ rfl).trans ( (show Xi T42 876 7 = Xi T41 876 7 from w461.x _ _ rfl).trans ( (show Xi T41 876 7 = Xi T40 876 7 from w448.x _ _ rfl).trans ( (show Xi T40 876 7 = Xi T39 876 7 from w436.x _ _ rfl).trans ( (show Xi T39 876 7 = Xi T38 876 7 from w424.x _ _ rfl).trans ( (show Xi T38 876 7 = Xi U37 876 7 from w411.x _ _ rfl).trans ( (show Xi U37 876 7 = Xi U34 876 7 from by rw [eU37]; exact Xi_ne (by omega)).trans ( (show Xi U34 876 7 = Xi U33 876 7 from by rw [eU34]; exact Xi_ne (by omega)).trans ((show Xi U33 876 7 = Xi S 876 7 from by rw [eU33]; exact Xi_ne (by omega))))))))))
                      have w480 : 0 ≤ Xi T43 890 1 ∧ Xi T43 890 1 ≤ 5126 := hHT43.c _ _
                      refine l_callV rfl rfl rfl (t_gr_take hHT43 103 ⟨by omega, by omega⟩ (by first | assumption | omega) (by first | assumption | omega) (by first | assumption | omega) _) ?_
                      rintro _ T44 ⟨hHT44, w486, z485, rfl, w485, w481, w482, w483, w484⟩
                      have hFT44 : FR md_gr_checkOthers S T44 := FR.tr hFT43 w486 rfl
                      show Rl _ _ _ _ _ [iv z485] _ _
                      refine l_if_eq rfl rfl (by unfold rg; omega) (fun w487 => ?_) (fun w488 => ?_)
                      · refine l_iconst rfl ?_
                        refine l_ireturn rfl rfl ?_
                        have w489 : Xi T44 890 2 = Xi U37 890 2 := (show Xi T44 890 2 = Xi T43 890 2 from w486.x _ _ rfl).trans ( (show Xi T43 890 2 = Xi T42 890 2 from w473.x _ _ rfl).trans ( (show Xi T42 890 2 = Xi T41 890 2 from w461.x _ _ rfl).trans ( (show Xi T41 890 2 = Xi T40 890 2 from w448.x _ _ rfl).trans ( (show Xi T40 890 2 = Xi T39 890 2 from w436.x _ _ rfl).trans ( (show Xi T39 890 2 = Xi T38 890 2 from w424.x _ _ rfl).trans ((show Xi T38 890 2 = Xi U37 890 2 from w411.x _ _ rfl)))))))
                        have w490 : 0 ≤ Xi U37 890 2 ∧ Xi U37 890 2 ≤ 20 := hHU37.c _ _
                        exact ⟨hHT44, hFT44, _, rfl, ⟨by omega, by omega⟩, (by first | assumption | omega)⟩
                      · refine l_iconst rfl ?_
                        refine l_goto rfl rfl ?_
                        refine l_ireturn rfl rfl ?_
                        have w491 : Xi T44 890 2 = Xi U37 890 2 := (show Xi T44 890 2 = Xi T43 890 2 from w486.x _ _ rfl).trans ( (show Xi T43 890 2 = Xi T42 890 2 from w473.x _ _ rfl).trans ( (show Xi T42 890 2 = Xi T41 890 2 from w461.x _ _ rfl).trans ( (show Xi T41 890 2 = Xi T40 890 2 from w448.x _ _ rfl).trans ( (show Xi T40 890 2 = Xi T39 890 2 from w436.x _ _ rfl).trans ( (show Xi T39 890 2 = Xi T38 890 2 from w424.x _ _ rfl).trans ((show Xi T38 890 2 = Xi U37 890 2 from w411.x _ _ rfl)))))))
                        have w492 : 0 ≤ Xi U37 890 2 ∧ Xi U37 890 2 ≤ 20 := hHU37.c _ _
                        exact ⟨hHT44, hFT44, _, rfl, ⟨by omega, by omega⟩, (by first | assumption | omega)⟩
        refine And.intro (fun w493 => ⟨_, rfl, ?_⟩) (fun w494 => ?_)
        · refine l_aload_n rfl rfl ?_
          refine l_bipush rfl rfl ?_
          refine l_pfi rfl rfl rfl rfl ?_
          obtain ⟨U45, eU45⟩ : ∃ T : sS, T = uI U34 890 2 (Int32.ofInt 18) := ⟨_, rfl⟩
          rw [← eU45]
          have hHU45 : HI U45 := by rw [eU45]; exact HI_w hHU34 (show 0 ≤ 18 by omega) (show 18 ≤ 20 by omega)
          have hFU45 : FR md_gr_checkOthers S U45 := by rw [eU45]; exact FR.wI hFU34 (mdf_i (r := (890, 891, 2, 3)) (List.mem_of_getElem? (i := 1) rfl) (inR_i (by omega) (by omega) (by omega) (by omega)))
          have w495 : Xi U45 890 2 = 18 := by rw [eU45]; exact Xi_same (by unfold rg; omega)
          have hso335 : SAY U45 (Xi U45 890 1) := SAY_sort eU45 (by assumption) (by decide)
          refine l_aload_n rfl rfl ?_
          have w496 : Xi U45 876 7 = Xi S 876 7 := (show Xi U45 876 7 = Xi U34 876 7 from by rw [eU45]; exact Xi_ne (by omega)).trans ( (show Xi U34 876 7 = Xi U33 876 7 from by rw [eU34]; exact Xi_ne (by omega)).trans ((show Xi U33 876 7 = Xi S 876 7 from by rw [eU33]; exact Xi_ne (by omega))))
          have w498 : Xi U45 890 1 = Xi U33 890 1 := (show Xi U45 890 1 = Xi U34 890 1 from by rw [eU45]; exact Xi_ne (by omega)).trans ((show Xi U34 890 1 = Xi U33 890 1 from by rw [eU34]; exact Xi_ne (by omega)))
          have w499 : 0 ≤ Xi U33 890 1 ∧ Xi U33 890 1 ≤ 5126 := hHU33.c _ _
          refine l_callV rfl rfl rfl (t_gr_takeName hHU45 (by first | assumption | omega) (by first | assumption | omega) _) ?_
          rintro _ T46 ⟨hHT46, w503, z502, rfl, w502, w500, w501⟩
          have hFT46 : FR md_gr_checkOthers S T46 := FR.tr hFU45 w503 rfl
          show Rl _ _ _ _ _ [iv z502] _ _
          refine l_if_eq rfl rfl (by unfold rg; omega) (fun w504 => ?_) (fun w505 => ?_)
          · refine l_iconst rfl ?_
            refine l_ireturn rfl rfl ?_
            have w506 : Xi T46 890 2 = Xi U45 890 2 := (show Xi T46 890 2 = Xi U45 890 2 from w503.x _ _ rfl)
            have w507 : 0 ≤ Xi U45 890 2 ∧ Xi U45 890 2 ≤ 20 := hHU45.c _ _
            exact ⟨hHT46, hFT46, _, rfl, ⟨by omega, by omega⟩, (by first | assumption | omega)⟩
          · refine l_aload_n rfl rfl ?_
            refine l_bipush rfl rfl ?_
            have w508 : Xi T46 876 7 = Xi S 876 7 := (show Xi T46 876 7 = Xi U45 876 7 from w503.x _ _ rfl).trans ( (show Xi U45 876 7 = Xi U34 876 7 from by rw [eU45]; exact Xi_ne (by omega)).trans ( (show Xi U34 876 7 = Xi U33 876 7 from by rw [eU34]; exact Xi_ne (by omega)).trans ((show Xi U33 876 7 = Xi S 876 7 from by rw [eU33]; exact Xi_ne (by omega)))))
            have w510 : 0 ≤ Xi T46 890 1 ∧ Xi T46 890 1 ≤ 5126 := hHT46.c _ _
            refine l_callV rfl rfl rfl (t_gr_take hHT46 13 ⟨by omega, by omega⟩ (by first | assumption | omega) (by first | assumption | omega) (by first | assumption | omega) _) ?_
            rintro _ T47 ⟨hHT47, w516, z515, rfl, w515, w511, w512, w513, w514⟩
            have hFT47 : FR md_gr_checkOthers S T47 := FR.tr hFT46 w516 rfl
            show Rl _ _ _ _ _ [iv z515] _ _
            refine l_if_eq rfl rfl (by unfold rg; omega) (fun w517 => ?_) (fun w518 => ?_)
            · refine l_iconst rfl ?_
              refine l_ireturn rfl rfl ?_
              have w519 : Xi T47 890 2 = Xi U45 890 2 := (show Xi T47 890 2 = Xi T46 890 2 from w516.x _ _ rfl).trans ((show Xi T46 890 2 = Xi U45 890 2 from w503.x _ _ rfl))
              have w520 : 0 ≤ Xi U45 890 2 ∧ Xi U45 890 2 ≤ 20 := hHU45.c _ _
              exact ⟨hHT47, hFT47, _, rfl, ⟨by omega, by omega⟩, (by first | assumption | omega)⟩
            · refine l_aload_n rfl rfl ?_
              refine l_bipush rfl rfl ?_
              have w521 : Xi T47 876 7 = Xi S 876 7 := (show Xi T47 876 7 = Xi T46 876 7 from w516.x _ _ rfl).trans ( (show Xi T46 876 7 = Xi U45 876 7 from w503.x _ _ rfl).trans ( (show Xi U45 876 7 = Xi U34 876 7 from by rw [eU45]; exact Xi_ne (by omega)).trans ( (show Xi U34 876 7 = Xi U33 876 7 from by rw [eU34]; exact Xi_ne (by omega)).trans ((show Xi U33 876 7 = Xi S 876 7 from by rw [eU33]; exact Xi_ne (by omega))))))
              have w523 : 0 ≤ Xi T47 890 1 ∧ Xi T47 890 1 ≤ 5126 := hHT47.c _ _
              refine l_callV rfl rfl rfl (t_gr_take hHT47 14 ⟨by omega, by omega⟩ (by first | assumption | omega) (by first | assumption | omega) (by first | assumption | omega) _) ?_
              rintro _ T48 ⟨hHT48, w529, z528, rfl, w528, w524, w525, w526, w527⟩
              have hFT48 : FR md_gr_checkOthers S T48 := FR.tr hFT47 w529 rfl
              show Rl _ _ _ _ _ [iv z528] _ _
              refine l_if_eq rfl rfl (by unfold rg; omega) (fun w530 => ?_) (fun w531 => ?_)
              · refine l_iconst rfl ?_
                refine l_ireturn rfl rfl ?_
                have w532 : Xi T48 890 2 = Xi U45 890 2 := (show Xi T48 890 2 = Xi T47 890 2 from w529.x _ _ rfl).trans ( (show Xi T47 890 2 = Xi T46 890 2 from w516.x _ _ rfl).trans ((show Xi T46 890 2 = Xi U45 890 2 from w503.x _ _ rfl)))
                have w533 : 0 ≤ Xi U45 890 2 ∧ Xi U45 890 2 ≤ 20 := hHU45.c _ _
                exact ⟨hHT48, hFT48, _, rfl, ⟨by omega, by omega⟩, (by first | assumption | omega)⟩
              · refine l_aload_n rfl rfl ?_
                have w534 : Xi T48 876 7 = Xi S 876 7 := (show Xi T48 876 7 = Xi T47 876 7 from w529.x _ _ rfl).trans ( (show Xi T47 876 7 = Xi T46 876 7 from w516.x _ _ rfl).trans ( (show Xi T46 876 7 = Xi U45 876 7 from w503.x _ _ rfl).trans ( (show Xi U45 876 7 = Xi U34 876 7 from by rw [eU45]; exact Xi_ne (by omega)).trans ( (show Xi U34 876 7 = Xi U33 876 7 from by rw [eU34]; exact Xi_ne (by omega)).trans ((show Xi U33 876 7 = Xi S 876 7 from by rw [eU33]; exact Xi_ne (by omega)))))))
                have w536 : 0 ≤ Xi T48 890 1 ∧ Xi T48 890 1 ≤ 5126 := hHT48.c _ _
                refine l_callV rfl rfl rfl (t_gr_takeRun hHT48 (by first | assumption | omega) (by first | assumption | omega) _) ?_
                rintro _ T49 ⟨hHT49, w541, z540, rfl, w540, w537, w538, w539⟩
                have hFT49 : FR md_gr_checkOthers S T49 := FR.tr hFT48 w541 rfl
                show Rl _ _ _ _ _ [iv z540] _ _
                refine l_if_eq rfl rfl (by unfold rg; omega) (fun w542 => ?_) (fun w543 => ?_)
                · refine l_iconst rfl ?_
                  refine l_ireturn rfl rfl ?_
                  have w544 : Xi T49 890 2 = Xi U45 890 2 := (show Xi T49 890 2 = Xi T48 890 2 from w541.x _ _ rfl).trans ( (show Xi T48 890 2 = Xi T47 890 2 from w529.x _ _ rfl).trans ( (show Xi T47 890 2 = Xi T46 890 2 from w516.x _ _ rfl).trans ((show Xi T46 890 2 = Xi U45 890 2 from w503.x _ _ rfl))))
                  have w545 : 0 ≤ Xi U45 890 2 ∧ Xi U45 890 2 ≤ 20 := hHU45.c _ _
                  exact ⟨hHT49, hFT49, _, rfl, ⟨by omega, by omega⟩, (by first | assumption | omega)⟩
                · refine l_aload_n rfl rfl ?_
                  refine l_bipush rfl rfl ?_
                  have w546 : Xi T49 876 7 = Xi S 876 7 := (show Xi T49 876 7 = Xi T48 876 7 from w541.x _ _ rfl).trans ( (show Xi T48 876 7 = Xi T47 876 7 from w529.x _ _ rfl).trans ( (show Xi T47 876 7 = Xi T46 876 7 from w516.x _ _ rfl).trans ( (show Xi T46 876 7 = Xi U45 876 7 from w503.x _ _ rfl).trans ( (show Xi U45 876 7 = Xi U34 876 7 from by rw [eU45]; exact Xi_ne (by omega)).trans ( (show Xi U34 876 7 = Xi U33 876 7 from by rw [eU34]; exact Xi_ne (by omega)).trans ((show Xi U33 876 7 = Xi S 876 7 from by rw [eU33]; exact Xi_ne (by omega))))))))
                  have w548 : 0 ≤ Xi T49 890 1 ∧ Xi T49 890 1 ≤ 5126 := hHT49.c _ _
                  refine l_callV rfl rfl rfl (t_gr_take hHT49 15 ⟨by omega, by omega⟩ (by first | assumption | omega) (by first | assumption | omega) (by first | assumption | omega) _) ?_
                  rintro _ T50 ⟨hHT50, w554, z553, rfl, w553, w549, w550, w551, w552⟩
                  have hFT50 : FR md_gr_checkOthers S T50 := FR.tr hFT49 w554 rfl
                  show Rl _ _ _ _ _ [iv z553] _ _
                  refine l_if_eq rfl rfl (by unfold rg; omega) (fun w555 => ?_) (fun w556 => ?_)
                  · refine l_iconst rfl ?_
                    refine l_ireturn rfl rfl ?_
                    have w557 : Xi T50 890 2 = Xi U45 890 2 := (show Xi T50 890 2 = Xi T49 890 2 from w554.x _ _ rfl).trans ( (show Xi T49 890 2 = Xi T48 890 2 from w541.x _ _ rfl).trans ( (show Xi T48 890 2 = Xi T47 890 2 from w529.x _ _ rfl).trans ( (show Xi T47 890 2 = Xi T46 890 2 from w516.x _ _ rfl).trans ((show Xi T46 890 2 = Xi U45 890 2 from w503.x _ _ rfl)))))
                    have w558 : 0 ≤ Xi U45 890 2 ∧ Xi U45 890 2 ≤ 20 := hHU45.c _ _
                    exact ⟨hHT50, hFT50, _, rfl, ⟨by omega, by omega⟩, (by first | assumption | omega)⟩
                  · refine l_aload_n rfl rfl ?_
                    have w559 : Xi T50 876 7 = Xi S 876 7 := (show Xi T50 876 7 = Xi T49 876 7 from w554.x _ _ rfl).trans ( (show Xi T49 876 7 = Xi T48 876 7 from w541.x _ _ rfl).trans ( (show Xi T48 876 7 = Xi T47 876 7 from w529.x _ _ rfl).trans ( (show Xi T47 876 7 = Xi T46 876 7 from w516.x _ _ rfl).trans ( (show Xi T46 876 7 = Xi U45 876 7 from w503.x _ _ rfl).trans ( (show Xi U45 876 7 = Xi U34 876 7 from by rw [eU45]; exact Xi_ne (by omega)).trans ( (show Xi U34 876 7 = Xi U33 876 7 from by rw [eU34]; exact Xi_ne (by omega)).trans ((show Xi U33 876 7 = Xi S 876 7 from by rw [eU33]; exact Xi_ne (by omega)))))))))
                    have w561 : 0 ≤ Xi T50 890 1 ∧ Xi T50 890 1 ≤ 5126 := hHT50.c _ _
                    refine l_callV rfl rfl rfl (t_gr_takeRun hHT50 (by first | assumption | omega) (by first | assumption | omega) _) ?_
                    rintro _ T51 ⟨hHT51, w566, z565, rfl, w565, w562, w563, w564⟩
                    have hFT51 : FR md_gr_checkOthers S T51 := FR.tr hFT50 w566 rfl
                    show Rl _ _ _ _ _ [iv z565] _ _
                    refine l_if_eq rfl rfl (by unfold rg; omega) (fun w567 => ?_) (fun w568 => ?_)
                    · refine l_iconst rfl ?_
                      refine l_ireturn rfl rfl ?_
                      have w569 : Xi T51 890 2 = Xi U45 890 2 := (show Xi T51 890 2 = Xi T50 890 2 from w566.x _ _ rfl).trans ( (show Xi T50 890 2 = Xi T49 890 2 from w554.x _ _ rfl).trans ( (show Xi T49 890 2 = Xi T48 890 2 from w541.x _ _ rfl).trans ( (show Xi T48 890 2 = Xi T47 890 2 from w529.x _ _ rfl).trans ( (show Xi T47 890 2 = Xi T46 890 2 from w516.x _ _ rfl).trans ((show Xi T46 890 2 = Xi U45 890 2 from w503.x _ _ rfl))))))
                      have w570 : 0 ≤ Xi U45 890 2 ∧ Xi U45 890 2 ≤ 20 := hHU45.c _ _
                      exact ⟨hHT51, hFT51, _, rfl, ⟨by omega, by omega⟩, (by first | assumption | omega)⟩
                    · refine l_aload_n rfl rfl ?_
                      refine l_bipush rfl rfl ?_
                      have w571 : Xi T51 876 7 = Xi S 876 7 := (show Xi T51 876 7 = Xi T50 876 7 from w566.x _ _ rfl).trans ( (show Xi T50 876 7 = Xi T49 876 7 from w554.x _ _ rfl).trans ( (show Xi T49 876 7 = Xi T48 876 7 from w541.x _ _ rfl).trans ( (show Xi T48 876 7 = Xi T47 876 7 from w529.x _ _ rfl).trans ( (show Xi T47 876 7 = Xi T46 876 7 from w516.x _ _ rfl).trans ( (show Xi T46 876 7 = Xi U45 876 7 from w503.x _ _ rfl).trans ( (show Xi U45 876 7 = Xi U34 876 7 from by rw [eU45]; exact Xi_ne (by omega)).trans ( (show Xi U34 876 7 = Xi U33 876 7 from by rw [eU34]; exact Xi_ne (by omega)).trans ((show Xi U33 876 7 = Xi S 876 7 from by rw [eU33]; exact Xi_ne (by omega))))))))))
                      have w573 : 0 ≤ Xi T51 890 1 ∧ Xi T51 890 1 ≤ 5126 := hHT51.c _ _
                      refine l_callV rfl rfl rfl (t_gr_take hHT51 103 ⟨by omega, by omega⟩ (by first | assumption | omega) (by first | assumption | omega) (by first | assumption | omega) _) ?_
                      rintro _ T52 ⟨hHT52, w579, z578, rfl, w578, w574, w575, w576, w577⟩
                      have hFT52 : FR md_gr_checkOthers S T52 := FR.tr hFT51 w579 rfl
                      show Rl _ _ _ _ _ [iv z578] _ _
                      refine l_if_eq rfl rfl (by unfold rg; omega) (fun w580 => ?_) (fun w581 => ?_)
                      · refine l_iconst rfl ?_
                        refine l_ireturn rfl rfl ?_
                        have w582 : Xi T52 890 2 = Xi U45 890 2 := (show Xi T52 890 2 = Xi T51 890 2 from w579.x _ _ rfl).trans ( (show Xi T51 890 2 = Xi T50 890 2 from w566.x _ _ rfl).trans ( (show Xi T50 890 2 = Xi T49 890 2 from w554.x _ _ rfl).trans ( (show Xi T49 890 2 = Xi T48 890 2 from w541.x _ _ rfl).trans ( (show Xi T48 890 2 = Xi T47 890 2 from w529.x _ _ rfl).trans ( (show Xi T47 890 2 = Xi T46 890 2 from w516.x _ _ rfl).trans ((show Xi T46 890 2 = Xi U45 890 2 from w503.x _ _ rfl)))))))
                        have w583 : 0 ≤ Xi U45 890 2 ∧ Xi U45 890 2 ≤ 20 := hHU45.c _ _
                        exact ⟨hHT52, hFT52, _, rfl, ⟨by omega, by omega⟩, (by first | assumption | omega)⟩
                      · refine l_iconst rfl ?_
                        refine l_goto rfl rfl ?_
                        refine l_ireturn rfl rfl ?_
                        have w584 : Xi T52 890 2 = Xi U45 890 2 := (show Xi T52 890 2 = Xi T51 890 2 from w579.x _ _ rfl).trans ( (show Xi T51 890 2 = Xi T50 890 2 from w566.x _ _ rfl).trans ( (show Xi T50 890 2 = Xi T49 890 2 from w554.x _ _ rfl).trans ( (show Xi T49 890 2 = Xi T48 890 2 from w541.x _ _ rfl).trans ( (show Xi T48 890 2 = Xi T47 890 2 from w529.x _ _ rfl).trans ( (show Xi T47 890 2 = Xi T46 890 2 from w516.x _ _ rfl).trans ((show Xi T46 890 2 = Xi U45 890 2 from w503.x _ _ rfl)))))))
                        have w585 : 0 ≤ Xi U45 890 2 ∧ Xi U45 890 2 ≤ 20 := hHU45.c _ _
                        exact ⟨hHT52, hFT52, _, rfl, ⟨by omega, by omega⟩, (by first | assumption | omega)⟩
        refine And.intro (fun w586 => ⟨_, rfl, ?_⟩) (fun w587 => ?_)
        · refine l_aload_n rfl rfl ?_
          refine l_bipush rfl rfl ?_
          refine l_pfi rfl rfl rfl rfl ?_
          obtain ⟨U53, eU53⟩ : ∃ T : sS, T = uI U34 890 2 (Int32.ofInt 19) := ⟨_, rfl⟩
          rw [← eU53]
          have hHU53 : HI U53 := by rw [eU53]; exact HI_w hHU34 (show 0 ≤ 19 by omega) (show 19 ≤ 20 by omega)
          have hFU53 : FR md_gr_checkOthers S U53 := by rw [eU53]; exact FR.wI hFU34 (mdf_i (r := (890, 891, 2, 3)) (List.mem_of_getElem? (i := 1) rfl) (inR_i (by omega) (by omega) (by omega) (by omega)))
          have w588 : Xi U53 890 2 = 19 := by rw [eU53]; exact Xi_same (by unfold rg; omega)
          have hso404 : SAY U53 (Xi U53 890 1) := SAY_sort eU53 (by assumption) (by decide)
          refine l_aload_n rfl rfl ?_
          have w589 : Xi U53 876 7 = Xi S 876 7 := (show Xi U53 876 7 = Xi U34 876 7 from by rw [eU53]; exact Xi_ne (by omega)).trans ( (show Xi U34 876 7 = Xi U33 876 7 from by rw [eU34]; exact Xi_ne (by omega)).trans ((show Xi U33 876 7 = Xi S 876 7 from by rw [eU33]; exact Xi_ne (by omega))))
          have w591 : Xi U53 890 1 = Xi U33 890 1 := (show Xi U53 890 1 = Xi U34 890 1 from by rw [eU53]; exact Xi_ne (by omega)).trans ((show Xi U34 890 1 = Xi U33 890 1 from by rw [eU34]; exact Xi_ne (by omega)))
          have w592 : 0 ≤ Xi U33 890 1 ∧ Xi U33 890 1 ≤ 5126 := hHU33.c _ _
          refine l_callV rfl rfl rfl (t_gr_takeName hHU53 (by first | assumption | omega) (by first | assumption | omega) _) ?_
          rintro _ T54 ⟨hHT54, w596, z595, rfl, w595, w593, w594⟩
          have hFT54 : FR md_gr_checkOthers S T54 := FR.tr hFU53 w596 rfl
          show Rl _ _ _ _ _ [iv z595] _ _
          refine l_if_eq rfl rfl (by unfold rg; omega) (fun w597 => ?_) (fun w598 => ?_)
          · refine l_iconst rfl ?_
            refine l_ireturn rfl rfl ?_
            have w599 : Xi T54 890 2 = Xi U53 890 2 := (show Xi T54 890 2 = Xi U53 890 2 from w596.x _ _ rfl)
            have w600 : 0 ≤ Xi U53 890 2 ∧ Xi U53 890 2 ≤ 20 := hHU53.c _ _
            exact ⟨hHT54, hFT54, _, rfl, ⟨by omega, by omega⟩, (by first | assumption | omega)⟩
          · refine l_aload_n rfl rfl ?_
            refine l_bipush rfl rfl ?_
            have w601 : Xi T54 876 7 = Xi S 876 7 := (show Xi T54 876 7 = Xi U53 876 7 from w596.x _ _ rfl).trans ( (show Xi U53 876 7 = Xi U34 876 7 from by rw [eU53]; exact Xi_ne (by omega)).trans ( (show Xi U34 876 7 = Xi U33 876 7 from by rw [eU34]; exact Xi_ne (by omega)).trans ((show Xi U33 876 7 = Xi S 876 7 from by rw [eU33]; exact Xi_ne (by omega)))))
            have w603 : 0 ≤ Xi T54 890 1 ∧ Xi T54 890 1 ≤ 5126 := hHT54.c _ _
            refine l_callV rfl rfl rfl (t_gr_take hHT54 21 ⟨by omega, by omega⟩ (by first | assumption | omega) (by first | assumption | omega) (by first | assumption | omega) _) ?_
            rintro _ T55 ⟨hHT55, w609, z608, rfl, w608, w604, w605, w606, w607⟩
            have hFT55 : FR md_gr_checkOthers S T55 := FR.tr hFT54 w609 rfl
            show Rl _ _ _ _ _ [iv z608] _ _
            refine l_if_eq rfl rfl (by unfold rg; omega) (fun w610 => ?_) (fun w611 => ?_)
            · refine l_iconst rfl ?_
              refine l_ireturn rfl rfl ?_
              have w612 : Xi T55 890 2 = Xi U53 890 2 := (show Xi T55 890 2 = Xi T54 890 2 from w609.x _ _ rfl).trans ((show Xi T54 890 2 = Xi U53 890 2 from w596.x _ _ rfl))
              have w613 : 0 ≤ Xi U53 890 2 ∧ Xi U53 890 2 ≤ 20 := hHU53.c _ _
              exact ⟨hHT55, hFT55, _, rfl, ⟨by omega, by omega⟩, (by first | assumption | omega)⟩
            · refine l_aload_n rfl rfl ?_
              have w614 : Xi T55 876 7 = Xi S 876 7 := (show Xi T55 876 7 = Xi T54 876 7 from w609.x _ _ rfl).trans ( (show Xi T54 876 7 = Xi U53 876 7 from w596.x _ _ rfl).trans ( (show Xi U53 876 7 = Xi U34 876 7 from by rw [eU53]; exact Xi_ne (by omega)).trans ( (show Xi U34 876 7 = Xi U33 876 7 from by rw [eU34]; exact Xi_ne (by omega)).trans ((show Xi U33 876 7 = Xi S 876 7 from by rw [eU33]; exact Xi_ne (by omega))))))
              have w616 : 0 ≤ Xi T55 890 1 ∧ Xi T55 890 1 ≤ 5126 := hHT55.c _ _
              refine l_callV rfl rfl rfl (t_gr_takeHowMany hHT55 (by first | assumption | omega) (by first | assumption | omega) _) ?_
              rintro _ T56 ⟨hHT56, w620, z619, rfl, w619, w617, w618⟩
              have hFT56 : FR md_gr_checkOthers S T56 := FR.tr hFT55 w620 rfl
              show Rl _ _ _ _ _ [iv z619] _ _
              refine l_if_eq rfl rfl (by unfold rg; omega) (fun w621 => ?_) (fun w622 => ?_)
              · refine l_iconst rfl ?_
                refine l_ireturn rfl rfl ?_
                have w623 : Xi T56 890 2 = Xi U53 890 2 := (show Xi T56 890 2 = Xi T55 890 2 from w620.x _ _ rfl).trans ( (show Xi T55 890 2 = Xi T54 890 2 from w609.x _ _ rfl).trans ((show Xi T54 890 2 = Xi U53 890 2 from w596.x _ _ rfl)))
                have w624 : 0 ≤ Xi U53 890 2 ∧ Xi U53 890 2 ≤ 20 := hHU53.c _ _
                exact ⟨hHT56, hFT56, _, rfl, ⟨by omega, by omega⟩, (by first | assumption | omega)⟩
              · refine l_aload_n rfl rfl ?_
                have w625 : Xi T56 876 7 = Xi S 876 7 := (show Xi T56 876 7 = Xi T55 876 7 from w620.x _ _ rfl).trans ( (show Xi T55 876 7 = Xi T54 876 7 from w609.x _ _ rfl).trans ( (show Xi T54 876 7 = Xi U53 876 7 from w596.x _ _ rfl).trans ( (show Xi U53 876 7 = Xi U34 876 7 from by rw [eU53]; exact Xi_ne (by omega)).trans ( (show Xi U34 876 7 = Xi U33 876 7 from by rw [eU34]; exact Xi_ne (by omega)).trans ((show Xi U33 876 7 = Xi S 876 7 from by rw [eU33]; exact Xi_ne (by omega)))))))
                have w627 : 0 ≤ Xi T56 890 1 ∧ Xi T56 890 1 ≤ 5126 := hHT56.c _ _
                refine l_callV rfl rfl rfl (t_gr_takeRun hHT56 (by first | assumption | omega) (by first | assumption | omega) _) ?_
                rintro _ T57 ⟨hHT57, w632, z631, rfl, w631, w628, w629, w630⟩
                have hFT57 : FR md_gr_checkOthers S T57 := FR.tr hFT56 w632 rfl
                show Rl _ _ _ _ _ [iv z631] _ _
                refine l_if_eq rfl rfl (by unfold rg; omega) (fun w633 => ?_) (fun w634 => ?_)
                · refine l_iconst rfl ?_
                  refine l_ireturn rfl rfl ?_
                  have w635 : Xi T57 890 2 = Xi U53 890 2 := (show Xi T57 890 2 = Xi T56 890 2 from w632.x _ _ rfl).trans ( (show Xi T56 890 2 = Xi T55 890 2 from w620.x _ _ rfl).trans ( (show Xi T55 890 2 = Xi T54 890 2 from w609.x _ _ rfl).trans ((show Xi T54 890 2 = Xi U53 890 2 from w596.x _ _ rfl))))
                  have w636 : 0 ≤ Xi U53 890 2 ∧ Xi U53 890 2 ≤ 20 := hHU53.c _ _
                  exact ⟨hHT57, hFT57, _, rfl, ⟨by omega, by omega⟩, (by first | assumption | omega)⟩
                · refine l_aload_n rfl rfl ?_
                  refine l_bipush rfl rfl ?_
                  have w637 : Xi T57 876 7 = Xi S 876 7 := (show Xi T57 876 7 = Xi T56 876 7 from w632.x _ _ rfl).trans ( (show Xi T56 876 7 = Xi T55 876 7 from w620.x _ _ rfl).trans ( (show Xi T55 876 7 = Xi T54 876 7 from w609.x _ _ rfl).trans ( (show Xi T54 876 7 = Xi U53 876 7 from w596.x _ _ rfl).trans ( (show Xi U53 876 7 = Xi U34 876 7 from by rw [eU53]; exact Xi_ne (by omega)).trans ( (show Xi U34 876 7 = Xi U33 876 7 from by rw [eU34]; exact Xi_ne (by omega)).trans ((show Xi U33 876 7 = Xi S 876 7 from by rw [eU33]; exact Xi_ne (by omega))))))))
                  have w639 : 0 ≤ Xi T57 890 1 ∧ Xi T57 890 1 ≤ 5126 := hHT57.c _ _
                  refine l_callV rfl rfl rfl (t_gr_take hHT57 11 ⟨by omega, by omega⟩ (by first | assumption | omega) (by first | assumption | omega) (by first | assumption | omega) _) ?_
                  rintro _ T58 ⟨hHT58, w645, z644, rfl, w644, w640, w641, w642, w643⟩
                  have hFT58 : FR md_gr_checkOthers S T58 := FR.tr hFT57 w645 rfl
                  show Rl _ _ _ _ _ [iv z644] _ _
                  refine l_if_eq rfl rfl (by unfold rg; omega) (fun w646 => ?_) (fun w647 => ?_)
                  · refine l_iconst rfl ?_
                    refine l_ireturn rfl rfl ?_
                    have w648 : Xi T58 890 2 = Xi U53 890 2 := (show Xi T58 890 2 = Xi T57 890 2 from w645.x _ _ rfl).trans ( (show Xi T57 890 2 = Xi T56 890 2 from w632.x _ _ rfl).trans ( (show Xi T56 890 2 = Xi T55 890 2 from w620.x _ _ rfl).trans ( (show Xi T55 890 2 = Xi T54 890 2 from w609.x _ _ rfl).trans ((show Xi T54 890 2 = Xi U53 890 2 from w596.x _ _ rfl)))))
                    have w649 : 0 ≤ Xi U53 890 2 ∧ Xi U53 890 2 ≤ 20 := hHU53.c _ _
                    exact ⟨hHT58, hFT58, _, rfl, ⟨by omega, by omega⟩, (by first | assumption | omega)⟩
                  · refine l_aload_n rfl rfl ?_
                    have w650 : Xi T58 876 7 = Xi S 876 7 := (show Xi T58 876 7 = Xi T57 876 7 from w645.x _ _ rfl).trans ( (show Xi T57 876 7 = Xi T56 876 7 from w632.x _ _ rfl).trans ( (show Xi T56 876 7 = Xi T55 876 7 from w620.x _ _ rfl).trans ( (show Xi T55 876 7 = Xi T54 876 7 from w609.x _ _ rfl).trans ( (show Xi T54 876 7 = Xi U53 876 7 from w596.x _ _ rfl).trans ( (show Xi U53 876 7 = Xi U34 876 7 from by rw [eU53]; exact Xi_ne (by omega)).trans ( (show Xi U34 876 7 = Xi U33 876 7 from by rw [eU34]; exact Xi_ne (by omega)).trans ((show Xi U33 876 7 = Xi S 876 7 from by rw [eU33]; exact Xi_ne (by omega)))))))))
                    have w652 : 0 ≤ Xi T58 890 1 ∧ Xi T58 890 1 ≤ 5126 := hHT58.c _ _
                    refine l_callV rfl rfl rfl (t_gr_takeHowMany hHT58 (by first | assumption | omega) (by first | assumption | omega) _) ?_
                    rintro _ T59 ⟨hHT59, w656, z655, rfl, w655, w653, w654⟩
                    have hFT59 : FR md_gr_checkOthers S T59 := FR.tr hFT58 w656 rfl
                    show Rl _ _ _ _ _ [iv z655] _ _
                    refine l_if_eq rfl rfl (by unfold rg; omega) (fun w657 => ?_) (fun w658 => ?_)
                    · refine l_iconst rfl ?_
                      refine l_ireturn rfl rfl ?_
                      have w659 : Xi T59 890 2 = Xi U53 890 2 := (show Xi T59 890 2 = Xi T58 890 2 from w656.x _ _ rfl).trans ( (show Xi T58 890 2 = Xi T57 890 2 from w645.x _ _ rfl).trans ( (show Xi T57 890 2 = Xi T56 890 2 from w632.x _ _ rfl).trans ( (show Xi T56 890 2 = Xi T55 890 2 from w620.x _ _ rfl).trans ( (show Xi T55 890 2 = Xi T54 890 2 from w609.x _ _ rfl).trans ((show Xi T54 890 2 = Xi U53 890 2 from w596.x _ _ rfl))))))
                      have w660 : 0 ≤ Xi U53 890 2 ∧ Xi U53 890 2 ≤ 20 := hHU53.c _ _
                      exact ⟨hHT59, hFT59, _, rfl, ⟨by omega, by omega⟩, (by first | assumption | omega)⟩
                    · refine l_aload_n rfl rfl ?_
                      have w661 : Xi T59 876 7 = Xi S 876 7 := (show Xi T59 876 7 = Xi T58 876 7 from w656.x _ _ rfl).trans ( (show Xi T58 876 7 = Xi T57 876 7 from w645.x _ _ rfl).trans ( (show Xi T57 876 7 = Xi T56 876 7 from w632.x _ _ rfl).trans ( (show Xi T56 876 7 = Xi T55 876 7 from w620.x _ _ rfl).trans ( (show Xi T55 876 7 = Xi T54 876 7 from w609.x _ _ rfl).trans ( (show Xi T54 876 7 = Xi U53 876 7 from w596.x _ _ rfl).trans ( (show Xi U53 876 7 = Xi U34 876 7 from by rw [eU53]; exact Xi_ne (by omega)).trans ( (show Xi U34 876 7 = Xi U33 876 7 from by rw [eU34]; exact Xi_ne (by omega)).trans ((show Xi U33 876 7 = Xi S 876 7 from by rw [eU33]; exact Xi_ne (by omega))))))))))
                      have w663 : 0 ≤ Xi T59 890 1 ∧ Xi T59 890 1 ≤ 5126 := hHT59.c _ _
                      refine l_callV rfl rfl rfl (t_gr_takeRun hHT59 (by first | assumption | omega) (by first | assumption | omega) _) ?_
                      rintro _ T60 ⟨hHT60, w668, z667, rfl, w667, w664, w665, w666⟩
                      have hFT60 : FR md_gr_checkOthers S T60 := FR.tr hFT59 w668 rfl
                      show Rl _ _ _ _ _ [iv z667] _ _
                      refine l_if_eq rfl rfl (by unfold rg; omega) (fun w669 => ?_) (fun w670 => ?_)
                      · refine l_iconst rfl ?_
                        refine l_ireturn rfl rfl ?_
                        have w671 : Xi T60 890 2 = Xi U53 890 2 := (show Xi T60 890 2 = Xi T59 890 2 from w668.x _ _ rfl).trans ( (show Xi T59 890 2 = Xi T58 890 2 from w656.x _ _ rfl).trans ( (show Xi T58 890 2 = Xi T57 890 2 from w645.x _ _ rfl).trans ( (show Xi T57 890 2 = Xi T56 890 2 from w632.x _ _ rfl).trans ( (show Xi T56 890 2 = Xi T55 890 2 from w620.x _ _ rfl).trans ( (show Xi T55 890 2 = Xi T54 890 2 from w609.x _ _ rfl).trans ((show Xi T54 890 2 = Xi U53 890 2 from w596.x _ _ rfl)))))))
                        have w672 : 0 ≤ Xi U53 890 2 ∧ Xi U53 890 2 ≤ 20 := hHU53.c _ _
                        exact ⟨hHT60, hFT60, _, rfl, ⟨by omega, by omega⟩, (by first | assumption | omega)⟩
                      · refine l_aload_n rfl rfl ?_
                        refine l_bipush rfl rfl ?_
                        have w673 : Xi T60 876 7 = Xi S 876 7 := (show Xi T60 876 7 = Xi T59 876 7 from w668.x _ _ rfl).trans ( (show Xi T59 876 7 = Xi T58 876 7 from w656.x _ _ rfl).trans ( (show Xi T58 876 7 = Xi T57 876 7 from w645.x _ _ rfl).trans ( (show Xi T57 876 7 = Xi T56 876 7 from w632.x _ _ rfl).trans ( (show Xi T56 876 7 = Xi T55 876 7 from w620.x _ _ rfl).trans ( (show Xi T55 876 7 = Xi T54 876 7 from w609.x _ _ rfl).trans ( (show Xi T54 876 7 = Xi U53 876 7 from w596.x _ _ rfl).trans ( (show Xi U53 876 7 = Xi U34 876 7 from by rw [eU53]; exact Xi_ne (by omega)).trans ( (show Xi U34 876 7 = Xi U33 876 7 from by rw [eU34]; exact Xi_ne (by omega)).trans ((show Xi U33 876 7 = Xi S 876 7 from by rw [eU33]; exact Xi_ne (by omega)))))))))))
                        have w675 : 0 ≤ Xi T60 890 1 ∧ Xi T60 890 1 ≤ 5126 := hHT60.c _ _
                        refine l_callV rfl rfl rfl (t_gr_take hHT60 103 ⟨by omega, by omega⟩ (by first | assumption | omega) (by first | assumption | omega) (by first | assumption | omega) _) ?_
                        rintro _ T61 ⟨hHT61, w681, z680, rfl, w680, w676, w677, w678, w679⟩
                        have hFT61 : FR md_gr_checkOthers S T61 := FR.tr hFT60 w681 rfl
                        show Rl _ _ _ _ _ [iv z680] _ _
                        refine l_if_eq rfl rfl (by unfold rg; omega) (fun w682 => ?_) (fun w683 => ?_)
                        · refine l_iconst rfl ?_
                          refine l_ireturn rfl rfl ?_
                          have w684 : Xi T61 890 2 = Xi U53 890 2 := (show Xi T61 890 2 = Xi T60 890 2 from w681.x _ _ rfl).trans ( (show Xi T60 890 2 = Xi T59 890 2 from w668.x _ _ rfl).trans ( (show Xi T59 890 2 = Xi T58 890 2 from w656.x _ _ rfl).trans ( (show Xi T58 890 2 = Xi T57 890 2 from w645.x _ _ rfl).trans ( (show Xi T57 890 2 = Xi T56 890 2 from w632.x _ _ rfl).trans ( (show Xi T56 890 2 = Xi T55 890 2 from w620.x _ _ rfl).trans ( (show Xi T55 890 2 = Xi T54 890 2 from w609.x _ _ rfl).trans ((show Xi T54 890 2 = Xi U53 890 2 from w596.x _ _ rfl))))))))
                          have w685 : 0 ≤ Xi U53 890 2 ∧ Xi U53 890 2 ≤ 20 := hHU53.c _ _
                          exact ⟨hHT61, hFT61, _, rfl, ⟨by omega, by omega⟩, (by first | assumption | omega)⟩
                        · refine l_iconst rfl ?_
                          refine l_goto rfl rfl ?_
                          refine l_ireturn rfl rfl ?_
                          have w686 : Xi T61 890 2 = Xi U53 890 2 := (show Xi T61 890 2 = Xi T60 890 2 from w681.x _ _ rfl).trans ( (show Xi T60 890 2 = Xi T59 890 2 from w668.x _ _ rfl).trans ( (show Xi T59 890 2 = Xi T58 890 2 from w656.x _ _ rfl).trans ( (show Xi T58 890 2 = Xi T57 890 2 from w645.x _ _ rfl).trans ( (show Xi T57 890 2 = Xi T56 890 2 from w632.x _ _ rfl).trans ( (show Xi T56 890 2 = Xi T55 890 2 from w620.x _ _ rfl).trans ( (show Xi T55 890 2 = Xi T54 890 2 from w609.x _ _ rfl).trans ((show Xi T54 890 2 = Xi U53 890 2 from w596.x _ _ rfl))))))))
                          have w687 : 0 ≤ Xi U53 890 2 ∧ Xi U53 890 2 ≤ 20 := hHU53.c _ _
                          exact ⟨hHT61, hFT61, _, rfl, ⟨by omega, by omega⟩, (by first | assumption | omega)⟩
        refine ⟨_, rfl, ?_⟩
        refine l_aload_n rfl rfl ?_
        refine l_bipush rfl rfl ?_
        refine l_pfi rfl rfl rfl rfl ?_
        obtain ⟨U62, eU62⟩ : ∃ T : sS, T = uI U34 890 2 (Int32.ofInt 20) := ⟨_, rfl⟩
        rw [← eU62]
        have hHU62 : HI U62 := by rw [eU62]; exact HI_w hHU34 (show 0 ≤ 20 by omega) (show 20 ≤ 20 by omega)
        have hFU62 : FR md_gr_checkOthers S U62 := by rw [eU62]; exact FR.wI hFU34 (mdf_i (r := (890, 891, 2, 3)) (List.mem_of_getElem? (i := 1) rfl) (inR_i (by omega) (by omega) (by omega) (by omega)))
        have w688 : Xi U62 890 2 = 20 := by rw [eU62]; exact Xi_same (by unfold rg; omega)
        have hso478 : SAY U62 (Xi U62 890 1) := SAY_sort eU62 (by assumption) (by decide)
        refine l_aload_n rfl rfl ?_
        refine l_bipush rfl rfl ?_
        refine l_bipush rfl rfl ?_
        have w689 : Xi U62 876 7 = Xi S 876 7 := (show Xi U62 876 7 = Xi U34 876 7 from by rw [eU62]; exact Xi_ne (by omega)).trans ( (show Xi U34 876 7 = Xi U33 876 7 from by rw [eU34]; exact Xi_ne (by omega)).trans ((show Xi U33 876 7 = Xi S 876 7 from by rw [eU33]; exact Xi_ne (by omega))))
        have w691 : Xi U62 890 1 = Xi U33 890 1 := (show Xi U62 890 1 = Xi U34 890 1 from by rw [eU62]; exact Xi_ne (by omega)).trans ((show Xi U34 890 1 = Xi U33 890 1 from by rw [eU34]; exact Xi_ne (by omega)))
        have w692 : 0 ≤ Xi U33 890 1 ∧ Xi U33 890 1 ≤ 5126 := hHU33.c _ _
        refine l_callV rfl rfl rfl (t_gr_takeLoose hHU62 16 104 ⟨by omega, by omega⟩ ⟨by omega, by omega⟩ (by first | assumption | omega) (by first | assumption | omega) (by first | assumption | omega) (by first | assumption | omega) _) ?_
        rintro _ T63 ⟨hHT63, w696, z695, rfl, w695, w693, w694⟩
        have hFT63 : FR md_gr_checkOthers S T63 := FR.tr hFU62 w696 rfl
        show Rl _ _ _ _ _ [iv z695] _ _
        refine l_if_eq rfl rfl (by unfold rg; omega) (fun w697 => ?_) (fun w698 => ?_)
        · refine l_iconst rfl ?_
          refine l_ireturn rfl rfl ?_
          have w699 : Xi T63 890 2 = Xi U62 890 2 := (show Xi T63 890 2 = Xi U62 890 2 from w696.x _ _ rfl)
          have w700 : 0 ≤ Xi U62 890 2 ∧ Xi U62 890 2 ≤ 20 := hHU62.c _ _
          exact ⟨hHT63, hFT63, _, rfl, ⟨by omega, by omega⟩, (by first | assumption | omega)⟩
        · refine l_aload_n rfl rfl ?_
          refine l_bipush rfl rfl ?_
          have w701 : Xi T63 876 7 = Xi S 876 7 := (show Xi T63 876 7 = Xi U62 876 7 from w696.x _ _ rfl).trans ( (show Xi U62 876 7 = Xi U34 876 7 from by rw [eU62]; exact Xi_ne (by omega)).trans ( (show Xi U34 876 7 = Xi U33 876 7 from by rw [eU34]; exact Xi_ne (by omega)).trans ((show Xi U33 876 7 = Xi S 876 7 from by rw [eU33]; exact Xi_ne (by omega)))))
          have w703 : 0 ≤ Xi T63 890 1 ∧ Xi T63 890 1 ≤ 5126 := hHT63.c _ _
          refine l_callV rfl rfl rfl (t_gr_take hHT63 103 ⟨by omega, by omega⟩ (by first | assumption | omega) (by first | assumption | omega) (by first | assumption | omega) _) ?_
          rintro _ T64 ⟨hHT64, w709, z708, rfl, w708, w704, w705, w706, w707⟩
          have hFT64 : FR md_gr_checkOthers S T64 := FR.tr hFT63 w709 rfl
          show Rl _ _ _ _ _ [iv z708] _ _
          refine l_if_eq rfl rfl (by unfold rg; omega) (fun w710 => ?_) (fun w711 => ?_)
          · refine l_iconst rfl ?_
            refine l_ireturn rfl rfl ?_
            have w712 : Xi T64 890 2 = Xi U62 890 2 := (show Xi T64 890 2 = Xi T63 890 2 from w709.x _ _ rfl).trans ((show Xi T63 890 2 = Xi U62 890 2 from w696.x _ _ rfl))
            have w713 : 0 ≤ Xi U62 890 2 ∧ Xi U62 890 2 ≤ 20 := hHU62.c _ _
            exact ⟨hHT64, hFT64, _, rfl, ⟨by omega, by omega⟩, (by first | assumption | omega)⟩
          · refine l_iconst rfl ?_
            refine l_goto rfl rfl ?_
            refine l_ireturn rfl rfl ?_
            have w714 : Xi T64 890 2 = Xi U62 890 2 := (show Xi T64 890 2 = Xi T63 890 2 from w709.x _ _ rfl).trans ((show Xi T63 890 2 = Xi U62 890 2 from w696.x _ _ rfl))
            have w715 : 0 ≤ Xi U62 890 2 ∧ Xi U62 890 2 ≤ 20 := hHU62.c _ _
            exact ⟨hHT64, hFT64, _, rfl, ⟨by omega, by omega⟩, (by first | assumption | omega)⟩
      · refine l_aload_n rfl rfl ?_
        refine l_bipush rfl rfl ?_
        refine l_pfi rfl rfl rfl rfl ?_
        obtain ⟨U65, eU65⟩ : ∃ T : sS, T = uI S 890 2 (Int32.ofInt 8) := ⟨_, rfl⟩
        rw [← eU65]
        have hHU65 : HI U65 := by rw [eU65]; exact HI_w hH (show 0 ≤ 8 by omega) (show 8 ≤ 20 by omega)
        have hFU65 : FR md_gr_checkOthers S U65 := by rw [eU65]; exact FR.wI hF (mdf_i (r := (890, 891, 2, 3)) (List.mem_of_getElem? (i := 1) rfl) (inR_i (by omega) (by omega) (by omega) (by omega)))
        have w716 : Xi U65 890 2 = 8 := by rw [eU65]; exact Xi_same (by unfold rg; omega)
        refine l_aload_n rfl rfl ?_
        refine l_iconst rfl ?_
        refine l_pfi rfl rfl rfl rfl ?_
        obtain ⟨U66, eU66⟩ : ∃ T : sS, T = uI U65 890 1 (Int32.ofInt 2) := ⟨_, rfl⟩
        rw [← eU66]
        have hHU66 : HI U66 := by rw [eU66]; exact HI_w hHU65 (show 0 ≤ 2 by omega) (show 2 ≤ 5126 by omega)
        have hFU66 : FR md_gr_checkOthers S U66 := by rw [eU66]; exact FR.wI hFU65 (mdf_i (r := (890, 891, 1, 2)) (List.mem_of_getElem? (i := 0) rfl) (inR_i (by omega) (by omega) (by omega) (by omega)))
        have w717 : Xi U66 890 1 = 2 := by rw [eU66]; exact Xi_same (by unfold rg; omega)
        have hs133 : SAY U66 (Xi U66 890 1) := SAY_v2 (by omega) (m877 hFU66 rfl) (by omega) (by omega)
        refine l_aload_n rfl rfl ?_
        refine l_bipush rfl rfl ?_
        have w718 : Xi U66 876 7 = Xi S 876 7 := (show Xi U66 876 7 = Xi U65 876 7 from by rw [eU66]; exact Xi_ne (by omega)).trans ((show Xi U65 876 7 = Xi S 876 7 from by rw [eU65]; exact Xi_ne (by omega)))
        have w720 : 0 ≤ Xi U66 890 1 ∧ Xi U66 890 1 ≤ 5126 := hHU66.c _ _
        refine l_callV rfl rfl rfl (t_gr_take hHU66 7 ⟨by omega, by omega⟩ (by first | assumption | omega) (by first | assumption | omega) (by first | assumption | omega) _) ?_
        rintro _ T67 ⟨hHT67, w726, z725, rfl, w725, w721, w722, w723, w724⟩
        have hFT67 : FR md_gr_checkOthers S T67 := FR.tr hFU66 w726 rfl
        show Rl _ _ _ _ _ [iv z725] _ _
        refine l_if_eq rfl rfl (by unfold rg; omega) (fun w727 => ?_) (fun w728 => ?_)
        · refine l_iconst rfl ?_
          refine l_ireturn rfl rfl ?_
          have w729 : Xi T67 890 2 = Xi U65 890 2 := (show Xi T67 890 2 = Xi U66 890 2 from w726.x _ _ rfl).trans ((show Xi U66 890 2 = Xi U65 890 2 from by rw [eU66]; exact Xi_ne (by omega)))
          have w730 : 0 ≤ Xi U65 890 2 ∧ Xi U65 890 2 ≤ 20 := hHU65.c _ _
          exact ⟨hHT67, hFT67, _, rfl, ⟨by omega, by omega⟩, (by first | assumption | omega)⟩
        · refine l_aload_n rfl rfl ?_
          have w731 : Xi T67 876 7 = Xi S 876 7 := (show Xi T67 876 7 = Xi U66 876 7 from w726.x _ _ rfl).trans ( (show Xi U66 876 7 = Xi U65 876 7 from by rw [eU66]; exact Xi_ne (by omega)).trans ((show Xi U65 876 7 = Xi S 876 7 from by rw [eU65]; exact Xi_ne (by omega))))
          have w733 : 0 ≤ Xi T67 890 1 ∧ Xi T67 890 1 ≤ 5126 := hHT67.c _ _
          refine l_callV rfl rfl rfl (t_gr_takeName hHT67 (by first | assumption | omega) (by first | assumption | omega) _) ?_
          rintro _ T68 ⟨hHT68, w737, z736, rfl, w736, w734, w735⟩
          have hFT68 : FR md_gr_checkOthers S T68 := FR.tr hFT67 w737 rfl
          show Rl _ _ _ _ _ [iv z736] _ _
          refine l_if_eq rfl rfl (by unfold rg; omega) (fun w738 => ?_) (fun w739 => ?_)
          · refine l_iconst rfl ?_
            refine l_ireturn rfl rfl ?_
            have w740 : Xi T68 890 2 = Xi U65 890 2 := (show Xi T68 890 2 = Xi T67 890 2 from w737.x _ _ rfl).trans ( (show Xi T67 890 2 = Xi U66 890 2 from w726.x _ _ rfl).trans ((show Xi U66 890 2 = Xi U65 890 2 from by rw [eU66]; exact Xi_ne (by omega))))
            have w741 : 0 ≤ Xi U65 890 2 ∧ Xi U65 890 2 ≤ 20 := hHU65.c _ _
            exact ⟨hHT68, hFT68, _, rfl, ⟨by omega, by omega⟩, (by first | assumption | omega)⟩
          · refine l_aload_n rfl rfl ?_
            have w742 : Xi T68 876 7 = Xi S 876 7 := (show Xi T68 876 7 = Xi T67 876 7 from w737.x _ _ rfl).trans ( (show Xi T67 876 7 = Xi U66 876 7 from w726.x _ _ rfl).trans ( (show Xi U66 876 7 = Xi U65 876 7 from by rw [eU66]; exact Xi_ne (by omega)).trans ((show Xi U65 876 7 = Xi S 876 7 from by rw [eU65]; exact Xi_ne (by omega)))))
            have w744 : 0 ≤ Xi T68 890 1 ∧ Xi T68 890 1 ≤ 5126 := hHT68.c _ _
            refine l_callV rfl rfl rfl (t_gr_takeBe hHT68 (by first | assumption | omega) (by first | assumption | omega) _) ?_
            rintro _ T69 ⟨hHT69, w748, z747, rfl, w747, w745, w746⟩
            have hFT69 : FR md_gr_checkOthers S T69 := FR.tr hFT68 w748 rfl
            show Rl _ _ _ _ _ [iv z747] _ _
            refine l_if_eq rfl rfl (by unfold rg; omega) (fun w749 => ?_) (fun w750 => ?_)
            · refine l_iconst rfl ?_
              refine l_ireturn rfl rfl ?_
              have w751 : Xi T69 890 2 = Xi U65 890 2 := (show Xi T69 890 2 = Xi T68 890 2 from w748.x _ _ rfl).trans ( (show Xi T68 890 2 = Xi T67 890 2 from w737.x _ _ rfl).trans ( (show Xi T67 890 2 = Xi U66 890 2 from w726.x _ _ rfl).trans ((show Xi U66 890 2 = Xi U65 890 2 from by rw [eU66]; exact Xi_ne (by omega)))))
              have w752 : 0 ≤ Xi U65 890 2 ∧ Xi U65 890 2 ≤ 20 := hHU65.c _ _
              exact ⟨hHT69, hFT69, _, rfl, ⟨by omega, by omega⟩, (by first | assumption | omega)⟩
            · refine l_aload_n rfl rfl ?_
              have w753 : Xi T69 876 7 = Xi S 876 7 := (show Xi T69 876 7 = Xi T68 876 7 from w748.x _ _ rfl).trans ( (show Xi T68 876 7 = Xi T67 876 7 from w737.x _ _ rfl).trans ( (show Xi T67 876 7 = Xi U66 876 7 from w726.x _ _ rfl).trans ( (show Xi U66 876 7 = Xi U65 876 7 from by rw [eU66]; exact Xi_ne (by omega)).trans ((show Xi U65 876 7 = Xi S 876 7 from by rw [eU65]; exact Xi_ne (by omega))))))
              have w755 : 0 ≤ Xi T69 890 1 ∧ Xi T69 890 1 ≤ 5126 := hHT69.c _ _
              refine l_callV rfl rfl rfl (t_gr_takeRun hHT69 (by first | assumption | omega) (by first | assumption | omega) _) ?_
              rintro _ T70 ⟨hHT70, w760, z759, rfl, w759, w756, w757, w758⟩
              have hFT70 : FR md_gr_checkOthers S T70 := FR.tr hFT69 w760 rfl
              show Rl _ _ _ _ _ [iv z759] _ _
              refine l_if_eq rfl rfl (by unfold rg; omega) (fun w761 => ?_) (fun w762 => ?_)
              · refine l_iconst rfl ?_
                refine l_ireturn rfl rfl ?_
                have w763 : Xi T70 890 2 = Xi U65 890 2 := (show Xi T70 890 2 = Xi T69 890 2 from w760.x _ _ rfl).trans ( (show Xi T69 890 2 = Xi T68 890 2 from w748.x _ _ rfl).trans ( (show Xi T68 890 2 = Xi T67 890 2 from w737.x _ _ rfl).trans ( (show Xi T67 890 2 = Xi U66 890 2 from w726.x _ _ rfl).trans ((show Xi U66 890 2 = Xi U65 890 2 from by rw [eU66]; exact Xi_ne (by omega))))))
                have w764 : 0 ≤ Xi U65 890 2 ∧ Xi U65 890 2 ≤ 20 := hHU65.c _ _
                exact ⟨hHT70, hFT70, _, rfl, ⟨by omega, by omega⟩, (by first | assumption | omega)⟩
              · refine l_aload_n rfl rfl ?_
                refine l_bipush rfl rfl ?_
                have w765 : Xi T70 876 7 = Xi S 876 7 := (show Xi T70 876 7 = Xi T69 876 7 from w760.x _ _ rfl).trans ( (show Xi T69 876 7 = Xi T68 876 7 from w748.x _ _ rfl).trans ( (show Xi T68 876 7 = Xi T67 876 7 from w737.x _ _ rfl).trans ( (show Xi T67 876 7 = Xi U66 876 7 from w726.x _ _ rfl).trans ( (show Xi U66 876 7 = Xi U65 876 7 from by rw [eU66]; exact Xi_ne (by omega)).trans ((show Xi U65 876 7 = Xi S 876 7 from by rw [eU65]; exact Xi_ne (by omega)))))))
                have w767 : 0 ≤ Xi T70 890 1 ∧ Xi T70 890 1 ≤ 5126 := hHT70.c _ _
                refine l_callV rfl rfl rfl (t_gr_take hHT70 103 ⟨by omega, by omega⟩ (by first | assumption | omega) (by first | assumption | omega) (by first | assumption | omega) _) ?_
                rintro _ T71 ⟨hHT71, w773, z772, rfl, w772, w768, w769, w770, w771⟩
                have hFT71 : FR md_gr_checkOthers S T71 := FR.tr hFT70 w773 rfl
                show Rl _ _ _ _ _ [iv z772] _ _
                refine l_if_eq rfl rfl (by unfold rg; omega) (fun w774 => ?_) (fun w775 => ?_)
                · refine l_iconst rfl ?_
                  refine l_ireturn rfl rfl ?_
                  have w776 : Xi T71 890 2 = Xi U65 890 2 := (show Xi T71 890 2 = Xi T70 890 2 from w773.x _ _ rfl).trans ( (show Xi T70 890 2 = Xi T69 890 2 from w760.x _ _ rfl).trans ( (show Xi T69 890 2 = Xi T68 890 2 from w748.x _ _ rfl).trans ( (show Xi T68 890 2 = Xi T67 890 2 from w737.x _ _ rfl).trans ( (show Xi T67 890 2 = Xi U66 890 2 from w726.x _ _ rfl).trans ((show Xi U66 890 2 = Xi U65 890 2 from by rw [eU66]; exact Xi_ne (by omega)))))))
                  have w777 : 0 ≤ Xi U65 890 2 ∧ Xi U65 890 2 ≤ 20 := hHU65.c _ _
                  exact ⟨hHT71, hFT71, _, rfl, ⟨by omega, by omega⟩, (by first | assumption | omega)⟩
                · refine l_iconst rfl ?_
                  refine l_goto rfl rfl ?_
                  refine l_ireturn rfl rfl ?_
                  have w778 : Xi T71 890 2 = Xi U65 890 2 := (show Xi T71 890 2 = Xi T70 890 2 from w773.x _ _ rfl).trans ( (show Xi T70 890 2 = Xi T69 890 2 from w760.x _ _ rfl).trans ( (show Xi T69 890 2 = Xi T68 890 2 from w748.x _ _ rfl).trans ( (show Xi T68 890 2 = Xi T67 890 2 from w737.x _ _ rfl).trans ( (show Xi T67 890 2 = Xi U66 890 2 from w726.x _ _ rfl).trans ((show Xi U66 890 2 = Xi U65 890 2 from by rw [eU66]; exact Xi_ne (by omega)))))))
                  have w779 : 0 ≤ Xi U65 890 2 ∧ Xi U65 890 2 ≤ 20 := hHU65.c _ _
                  exact ⟨hHT71, hFT71, _, rfl, ⟨by omega, by omega⟩, (by first | assumption | omega)⟩
  · refine l_aload_n rfl rfl ?_
    refine l_gfr rfl rfl rfl rfl rfl (hH.r 890 0 876 rfl) ?_
    refine l_iconst rfl ?_
    refine l_callV rfl rfl rfl (t_to_typeAt hH 1 ⟨by omega, by omega⟩ _) ?_
    rintro _ _ ⟨rfl, z784, rfl, w784, w781, w782, w783⟩
    show Rl _ _ _ _ _ [iv z784] _ _
    refine l_bipush rfl rfl ?_
    refine l_icmp_ne rfl rfl (by unfold rg; omega) (by unfold rg; omega) (fun w785 => ?_) (fun w786 => ?_)
    · refine l_aload_n rfl rfl ?_
      refine l_gfr rfl rfl rfl rfl rfl (hH.r 890 0 876 rfl) ?_
      refine l_iconst rfl ?_
      refine l_callV rfl rfl rfl (t_to_typeAt hH 0 ⟨by omega, by omega⟩ _) ?_
      rintro _ _ ⟨rfl, z791, rfl, w791, w788, w789, w790⟩
      show Rl _ _ _ _ _ [iv z791] _ _
      refine l_iconst rfl ?_
      refine l_icmp_ne rfl rfl (by unfold rg; omega) (by unfold rg; omega) (fun w792 => ?_) (fun w793 => ?_)
      · refine l_aload_n rfl rfl ?_
        refine l_iconst rfl ?_
        refine l_pfi rfl rfl rfl rfl ?_
        obtain ⟨U72, eU72⟩ : ∃ T : sS, T = uI S 890 1 (Int32.ofInt 0) := ⟨_, rfl⟩
        rw [← eU72]
        have hHU72 : HI U72 := by rw [eU72]; exact HI_w hH (show 0 ≤ 0 by omega) (show 0 ≤ 5126 by omega)
        have hFU72 : FR md_gr_checkOthers S U72 := by rw [eU72]; exact FR.wI hF (mdf_i (r := (890, 891, 1, 2)) (List.mem_of_getElem? (i := 0) rfl) (inR_i (by omega) (by omega) (by omega) (by omega)))
        have w794 : Xi U72 890 1 = 0 := by rw [eU72]; exact Xi_same (by unfold rg; omega)
        have hs183 : SAY U72 (Xi U72 890 1) := SAY_v0 (by omega)
        refine l_aload_n rfl rfl ?_
        refine l_aload_n rfl rfl ?_
        refine l_gfr rfl rfl rfl rfl rfl (hHU72.r 890 0 876 rfl) ?_
        have w795 : Xi U72 876 7 = Xi S 876 7 := (show Xi U72 876 7 = Xi S 876 7 from by rw [eU72]; exact Xi_ne (by omega))
        refine l_callV rfl rfl rfl (t_to_tellingKey hHU72 _) ?_
        rintro _ _ ⟨rfl, z798, rfl, w798, w797⟩
        show Rl _ _ _ _ _ [iv z798, .ref 890] _ _
        refine l_pfi rfl rfl rfl rfl ?_
        obtain ⟨U73, eU73⟩ : ∃ T : sS, T = uI U72 890 3 (Int32.ofInt z798) := ⟨_, rfl⟩
        rw [← eU73]
        have hHU73 : HI U73 := by rw [eU73]; exact HI_w hHU72 (show -1 ≤ z798 by omega) (show z798 ≤ 5124 by omega)
        have hFU73 : FR md_gr_checkOthers S U73 := by rw [eU73]; exact FR.wI hFU72 (mdf_i (r := (890, 891, 3, 4)) (List.mem_of_getElem? (i := 2) rfl) (inR_i (by omega) (by omega) (by omega) (by omega)))
        have w799 : Xi U73 890 3 = z798 := by rw [eU73]; exact Xi_same (by unfold rg; omega)
        have hso194 : SAY U73 (Xi U73 890 1) := SAY_sort eU73 (by assumption) (by decide)
        refine l_aload_n rfl rfl ?_
        refine l_gfr rfl rfl rfl rfl rfl (hHU73.r 890 0 876 rfl) ?_
        refine l_aload_n rfl rfl ?_
        refine l_gfi rfl rfl rfl rfl rfl ?_
        have w800 : Xi U73 876 7 = Xi S 876 7 := (show Xi U73 876 7 = Xi U72 876 7 from by rw [eU73]; exact Xi_ne (by omega)).trans ((show Xi U72 876 7 = Xi S 876 7 from by rw [eU72]; exact Xi_ne (by omega)))
        refine l_callV rfl rfl rfl (t_to_typeAt hHU73 (Xi U73 890 3) ⟨by omega, by omega⟩ _) ?_
        rintro _ _ ⟨rfl, z805, rfl, w805, w802, w803, w804⟩
        show Rl _ _ _ _ _ [iv z805] _ _
        refine l_lsw rfl rfl (by unfold rg; omega) ?_
        refine And.intro (fun w806 => ⟨_, rfl, ?_⟩) (fun w807 => ?_)
        · refine l_aload_n rfl rfl ?_
          have w810 : Xi U73 890 1 = Xi U72 890 1 := (show Xi U73 890 1 = Xi U72 890 1 from by rw [eU73]; exact Xi_ne (by omega))
          have w811 : 0 ≤ Xi U72 890 1 ∧ Xi U72 890 1 ≤ 5126 := hHU72.c _ _
          refine l_callV rfl rfl rfl (t_gr_checkBe hHU73 (by first | assumption | omega) (by first | assumption | omega) (by first | assumption | omega) _) ?_
          rintro _ T74 ⟨hHT74, w814, z813, rfl, w813, w812⟩
          have hFT74 : FR md_gr_checkOthers S T74 := FR.tr hFU73 w814 rfl
          show Rl _ _ _ _ _ [iv z813] _ _
          refine l_ireturn rfl (retI_z (by omega)) ?_
          have w815 : 0 ≤ Xi T74 890 2 ∧ Xi T74 890 2 ≤ 20 := hHT74.c _ _
          exact ⟨hHT74, hFT74, _, rfl, ⟨by omega, by omega⟩, (by first | assumption | omega)⟩
        refine And.intro (fun w816 => ⟨_, rfl, ?_⟩) (fun w817 => ?_)
        · refine l_aload_n rfl rfl ?_
          have w820 : Xi U73 890 1 = Xi U72 890 1 := (show Xi U73 890 1 = Xi U72 890 1 from by rw [eU73]; exact Xi_ne (by omega))
          have w821 : 0 ≤ Xi U72 890 1 ∧ Xi U72 890 1 ≤ 5126 := hHU72.c _ _
          refine l_callV rfl rfl rfl (t_gr_checkBe hHU73 (by first | assumption | omega) (by first | assumption | omega) (by first | assumption | omega) _) ?_
          rintro _ T75 ⟨hHT75, w824, z823, rfl, w823, w822⟩
          have hFT75 : FR md_gr_checkOthers S T75 := FR.tr hFU73 w824 rfl
          show Rl _ _ _ _ _ [iv z823] _ _
          refine l_ireturn rfl (retI_z (by omega)) ?_
          have w825 : 0 ≤ Xi T75 890 2 ∧ Xi T75 890 2 ≤ 20 := hHT75.c _ _
          exact ⟨hHT75, hFT75, _, rfl, ⟨by omega, by omega⟩, (by first | assumption | omega)⟩
        refine And.intro (fun w826 => ⟨_, rfl, ?_⟩) (fun w827 => ?_)
        · refine l_aload_n rfl rfl ?_
          refine l_bipush rfl rfl ?_
          refine l_pfi rfl rfl rfl rfl ?_
          obtain ⟨U76, eU76⟩ : ∃ T : sS, T = uI U73 890 2 (Int32.ofInt 17) := ⟨_, rfl⟩
          rw [← eU76]
          have hHU76 : HI U76 := by rw [eU76]; exact HI_w hHU73 (show 0 ≤ 17 by omega) (show 17 ≤ 20 by omega)
          have hFU76 : FR md_gr_checkOthers S U76 := by rw [eU76]; exact FR.wI hFU73 (mdf_i (r := (890, 891, 2, 3)) (List.mem_of_getElem? (i := 1) rfl) (inR_i (by omega) (by omega) (by omega) (by omega)))
          have w828 : Xi U76 890 2 = 17 := by rw [eU76]; exact Xi_same (by unfold rg; omega)
          have hso268 : SAY U76 (Xi U76 890 1) := SAY_sort eU76 (by assumption) (by decide)
          refine l_aload_n rfl rfl ?_
          have w829 : Xi U76 876 7 = Xi S 876 7 := (show Xi U76 876 7 = Xi U73 876 7 from by rw [eU76]; exact Xi_ne (by omega)).trans ( (show Xi U73 876 7 = Xi U72 876 7 from by rw [eU73]; exact Xi_ne (by omega)).trans ((show Xi U72 876 7 = Xi S 876 7 from by rw [eU72]; exact Xi_ne (by omega))))
          have w831 : Xi U76 890 1 = Xi U72 890 1 := (show Xi U76 890 1 = Xi U73 890 1 from by rw [eU76]; exact Xi_ne (by omega)).trans ((show Xi U73 890 1 = Xi U72 890 1 from by rw [eU73]; exact Xi_ne (by omega)))
          have w832 : 0 ≤ Xi U72 890 1 ∧ Xi U72 890 1 ≤ 5126 := hHU72.c _ _
          refine l_callV rfl rfl rfl (t_gr_takeName hHU76 (by first | assumption | omega) (by first | assumption | omega) _) ?_
          rintro _ T77 ⟨hHT77, w836, z835, rfl, w835, w833, w834⟩
          have hFT77 : FR md_gr_checkOthers S T77 := FR.tr hFU76 w836 rfl
          show Rl _ _ _ _ _ [iv z835] _ _
          refine l_if_eq rfl rfl (by unfold rg; omega) (fun w837 => ?_) (fun w838 => ?_)
          · refine l_iconst rfl ?_
            refine l_ireturn rfl rfl ?_
            have w839 : Xi T77 890 2 = Xi U76 890 2 := (show Xi T77 890 2 = Xi U76 890 2 from w836.x _ _ rfl)
            have w840 : 0 ≤ Xi U76 890 2 ∧ Xi U76 890 2 ≤ 20 := hHU76.c _ _
            exact ⟨hHT77, hFT77, _, rfl, ⟨by omega, by omega⟩, (by first | assumption | omega)⟩
          · refine l_aload_n rfl rfl ?_
            refine l_bipush rfl rfl ?_
            have w841 : Xi T77 876 7 = Xi S 876 7 := (show Xi T77 876 7 = Xi U76 876 7 from w836.x _ _ rfl).trans ( (show Xi U76 876 7 = Xi U73 876 7 from by rw [eU76]; exact Xi_ne (by omega)).trans ( (show Xi U73 876 7 = Xi U72 876 7 from by rw [eU73]; exact Xi_ne (by omega)).trans ((show Xi U72 876 7 = Xi S 876 7 from by rw [eU72]; exact Xi_ne (by omega)))))
            have w843 : 0 ≤ Xi T77 890 1 ∧ Xi T77 890 1 ≤ 5126 := hHT77.c _ _
            refine l_callV rfl rfl rfl (t_gr_take hHT77 12 ⟨by omega, by omega⟩ (by first | assumption | omega) (by first | assumption | omega) (by first | assumption | omega) _) ?_
            rintro _ T78 ⟨hHT78, w849, z848, rfl, w848, w844, w845, w846, w847⟩
            have hFT78 : FR md_gr_checkOthers S T78 := FR.tr hFT77 w849 rfl
            show Rl _ _ _ _ _ [iv z848] _ _
            refine l_if_eq rfl rfl (by unfold rg; omega) (fun w850 => ?_) (fun w851 => ?_)
            · refine l_iconst rfl ?_
              refine l_ireturn rfl rfl ?_
              have w852 : Xi T78 890 2 = Xi U76 890 2 := (show Xi T78 890 2 = Xi T77 890 2 from w849.x _ _ rfl).trans ((show Xi T77 890 2 = Xi U76 890 2 from w836.x _ _ rfl))
              have w853 : 0 ≤ Xi U76 890 2 ∧ Xi U76 890 2 ≤ 20 := hHU76.c _ _
              exact ⟨hHT78, hFT78, _, rfl, ⟨by omega, by omega⟩, (by first | assumption | omega)⟩
            · refine l_aload_n rfl rfl ?_
              have w854 : Xi T78 876 7 = Xi S 876 7 := (show Xi T78 876 7 = Xi T77 876 7 from w849.x _ _ rfl).trans ( (show Xi T77 876 7 = Xi U76 876 7 from w836.x _ _ rfl).trans ( (show Xi U76 876 7 = Xi U73 876 7 from by rw [eU76]; exact Xi_ne (by omega)).trans ( (show Xi U73 876 7 = Xi U72 876 7 from by rw [eU73]; exact Xi_ne (by omega)).trans ((show Xi U72 876 7 = Xi S 876 7 from by rw [eU72]; exact Xi_ne (by omega))))))
              have w856 : 0 ≤ Xi T78 890 1 ∧ Xi T78 890 1 ≤ 5126 := hHT78.c _ _
              refine l_callV rfl rfl rfl (t_gr_takeArt hHT78 (by first | assumption | omega) (by first | assumption | omega) _) ?_
              rintro _ T79 ⟨hHT79, w861, z860, rfl, w860, w857, w858, w859⟩
              have hFT79 : FR md_gr_checkOthers S T79 := FR.tr hFT78 w861 rfl
              show Rl _ _ _ _ _ [iv z860] _ _
              refine l_if_eq rfl rfl (by unfold rg; omega) (fun w862 => ?_) (fun w863 => ?_)
              · refine l_iconst rfl ?_
                refine l_ireturn rfl rfl ?_
                have w864 : Xi T79 890 2 = Xi U76 890 2 := (show Xi T79 890 2 = Xi T78 890 2 from w861.x _ _ rfl).trans ( (show Xi T78 890 2 = Xi T77 890 2 from w849.x _ _ rfl).trans ((show Xi T77 890 2 = Xi U76 890 2 from w836.x _ _ rfl)))
                have w865 : 0 ≤ Xi U76 890 2 ∧ Xi U76 890 2 ≤ 20 := hHU76.c _ _
                exact ⟨hHT79, hFT79, _, rfl, ⟨by omega, by omega⟩, (by first | assumption | omega)⟩
              · refine l_aload_n rfl rfl ?_
                have w866 : Xi T79 876 7 = Xi S 876 7 := (show Xi T79 876 7 = Xi T78 876 7 from w861.x _ _ rfl).trans ( (show Xi T78 876 7 = Xi T77 876 7 from w849.x _ _ rfl).trans ( (show Xi T77 876 7 = Xi U76 876 7 from w836.x _ _ rfl).trans ( (show Xi U76 876 7 = Xi U73 876 7 from by rw [eU76]; exact Xi_ne (by omega)).trans ( (show Xi U73 876 7 = Xi U72 876 7 from by rw [eU73]; exact Xi_ne (by omega)).trans ((show Xi U72 876 7 = Xi S 876 7 from by rw [eU72]; exact Xi_ne (by omega)))))))
                have w868 : 0 ≤ Xi T79 890 1 ∧ Xi T79 890 1 ≤ 5126 := hHT79.c _ _
                refine l_callV rfl rfl rfl (t_gr_takeRun hHT79 (by first | assumption | omega) (by first | assumption | omega) _) ?_
                rintro _ T80 ⟨hHT80, w873, z872, rfl, w872, w869, w870, w871⟩
                have hFT80 : FR md_gr_checkOthers S T80 := FR.tr hFT79 w873 rfl
                show Rl _ _ _ _ _ [iv z872] _ _
                refine l_if_eq rfl rfl (by unfold rg; omega) (fun w874 => ?_) (fun w875 => ?_)
                · refine l_iconst rfl ?_
                  refine l_ireturn rfl rfl ?_
                  have w876 : Xi T80 890 2 = Xi U76 890 2 := (show Xi T80 890 2 = Xi T79 890 2 from w873.x _ _ rfl).trans ( (show Xi T79 890 2 = Xi T78 890 2 from w861.x _ _ rfl).trans ( (show Xi T78 890 2 = Xi T77 890 2 from w849.x _ _ rfl).trans ((show Xi T77 890 2 = Xi U76 890 2 from w836.x _ _ rfl))))
                  have w877 : 0 ≤ Xi U76 890 2 ∧ Xi U76 890 2 ≤ 20 := hHU76.c _ _
                  exact ⟨hHT80, hFT80, _, rfl, ⟨by omega, by omega⟩, (by first | assumption | omega)⟩
                · refine l_aload_n rfl rfl ?_
                  refine l_bipush rfl rfl ?_
                  have w878 : Xi T80 876 7 = Xi S 876 7 := (show Xi T80 876 7 = Xi T79 876 7 from w873.x _ _ rfl).trans ( (show Xi T79 876 7 = Xi T78 876 7 from w861.x _ _ rfl).trans ( (show Xi T78 876 7 = Xi T77 876 7 from w849.x _ _ rfl).trans ( (show Xi T77 876 7 = Xi U76 876 7 from w836.x _ _ rfl).trans ( (show Xi U76 876 7 = Xi U73 876 7 from by rw [eU76]; exact Xi_ne (by omega)).trans ( (show Xi U73 876 7 = Xi U72 876 7 from by rw [eU73]; exact Xi_ne (by omega)).trans ((show Xi U72 876 7 = Xi S 876 7 from by rw [eU72]; exact Xi_ne (by omega))))))))
                  have w880 : 0 ≤ Xi T80 890 1 ∧ Xi T80 890 1 ≤ 5126 := hHT80.c _ _
                  refine l_callV rfl rfl rfl (t_gr_take hHT80 17 ⟨by omega, by omega⟩ (by first | assumption | omega) (by first | assumption | omega) (by first | assumption | omega) _) ?_
                  rintro _ T81 ⟨hHT81, w886, z885, rfl, w885, w881, w882, w883, w884⟩
                  have hFT81 : FR md_gr_checkOthers S T81 := FR.tr hFT80 w886 rfl
                  show Rl _ _ _ _ _ [iv z885] _ _
                  refine l_if_eq rfl rfl (by unfold rg; omega) (fun w887 => ?_) (fun w888 => ?_)
                  · refine l_iconst rfl ?_
                    refine l_ireturn rfl rfl ?_
                    have w889 : Xi T81 890 2 = Xi U76 890 2 := (show Xi T81 890 2 = Xi T80 890 2 from w886.x _ _ rfl).trans ( (show Xi T80 890 2 = Xi T79 890 2 from w873.x _ _ rfl).trans ( (show Xi T79 890 2 = Xi T78 890 2 from w861.x _ _ rfl).trans ( (show Xi T78 890 2 = Xi T77 890 2 from w849.x _ _ rfl).trans ((show Xi T77 890 2 = Xi U76 890 2 from w836.x _ _ rfl)))))
                    have w890 : 0 ≤ Xi U76 890 2 ∧ Xi U76 890 2 ≤ 20 := hHU76.c _ _
                    exact ⟨hHT81, hFT81, _, rfl, ⟨by omega, by omega⟩, (by first | assumption | omega)⟩
                  · refine l_aload_n rfl rfl ?_
                    have w891 : Xi T81 876 7 = Xi S 876 7 := (show Xi T81 876 7 = Xi T80 876 7 from w886.x _ _ rfl).trans ( (show Xi T80 876 7 = Xi T79 876 7 from w873.x _ _ rfl).trans ( (show Xi T79 876 7 = Xi T78 876 7 from w861.x _ _ rfl).trans ( (show Xi T78 876 7 = Xi T77 876 7 from w849.x _ _ rfl).trans ( (show Xi T77 876 7 = Xi U76 876 7 from w836.x _ _ rfl).trans ( (show Xi U76 876 7 = Xi U73 876 7 from by rw [eU76]; exact Xi_ne (by omega)).trans ( (show Xi U73 876 7 = Xi U72 876 7 from by rw [eU73]; exact Xi_ne (by omega)).trans ((show Xi U72 876 7 = Xi S 876 7 from by rw [eU72]; exact Xi_ne (by omega)))))))))
                    have w893 : 0 ≤ Xi T81 890 1 ∧ Xi T81 890 1 ≤ 5126 := hHT81.c _ _
                    refine l_callV rfl rfl rfl (t_gr_takeRun hHT81 (by first | assumption | omega) (by first | assumption | omega) _) ?_
                    rintro _ T82 ⟨hHT82, w898, z897, rfl, w897, w894, w895, w896⟩
                    have hFT82 : FR md_gr_checkOthers S T82 := FR.tr hFT81 w898 rfl
                    show Rl _ _ _ _ _ [iv z897] _ _
                    refine l_if_eq rfl rfl (by unfold rg; omega) (fun w899 => ?_) (fun w900 => ?_)
                    · refine l_iconst rfl ?_
                      refine l_ireturn rfl rfl ?_
                      have w901 : Xi T82 890 2 = Xi U76 890 2 := (show Xi T82 890 2 = Xi T81 890 2 from w898.x _ _ rfl).trans ( (show Xi T81 890 2 = Xi T80 890 2 from w886.x _ _ rfl).trans ( (show Xi T80 890 2 = Xi T79 890 2 from w873.x _ _ rfl).trans ( (show Xi T79 890 2 = Xi T78 890 2 from w861.x _ _ rfl).trans ( (show Xi T78 890 2 = Xi T77 890 2 from w849.x _ _ rfl).trans ((show Xi T77 890 2 = Xi U76 890 2 from w836.x _ _ rfl))))))
                      have w902 : 0 ≤ Xi U76 890 2 ∧ Xi U76 890 2 ≤ 20 := hHU76.c _ _
                      exact ⟨hHT82, hFT82, _, rfl, ⟨by omega, by omega⟩, (by first | assumption | omega)⟩
                    · refine l_aload_n rfl rfl ?_
                      refine l_bipush rfl rfl ?_
                      have w903 : Xi T82 876 7 = Xi S 876 7 := (show Xi T82 876 7 = Xi T81 876 7 from w898.x _ _ rfl).trans ( (show Xi T81 876 7 = Xi T80 876 7 from w886.x _ _ rfl).trans ( (show Xi T80 876 7 = Xi T79 876 7 from w873.x _ _ rfl).trans ( (show Xi T79 876 7 = Xi T78 876 7 from w861.x _ _ rfl).trans ( (show Xi T78 876 7 = Xi T77 876 7 from w849.x _ _ rfl).trans ( (show Xi T77 876 7 = Xi U76 876 7 from w836.x _ _ rfl).trans ( (show Xi U76 876 7 = Xi U73 876 7 from by rw [eU76]; exact Xi_ne (by omega)).trans ( (show Xi U73 876 7 = Xi U72 876 7 from by rw [eU73]; exact Xi_ne (by omega)).trans ((show Xi U72 876 7 = Xi S 876 7 from by rw [eU72]; exact Xi_ne (by omega))))))))))
                      have w905 : 0 ≤ Xi T82 890 1 ∧ Xi T82 890 1 ≤ 5126 := hHT82.c _ _
                      refine l_callV rfl rfl rfl (t_gr_take hHT82 103 ⟨by omega, by omega⟩ (by first | assumption | omega) (by first | assumption | omega) (by first | assumption | omega) _) ?_
                      rintro _ T83 ⟨hHT83, w911, z910, rfl, w910, w906, w907, w908, w909⟩
                      have hFT83 : FR md_gr_checkOthers S T83 := FR.tr hFT82 w911 rfl
                      show Rl _ _ _ _ _ [iv z910] _ _
                      refine l_if_eq rfl rfl (by unfold rg; omega) (fun w912 => ?_) (fun w913 => ?_)
                      · refine l_iconst rfl ?_
                        refine l_ireturn rfl rfl ?_
                        have w914 : Xi T83 890 2 = Xi U76 890 2 := (show Xi T83 890 2 = Xi T82 890 2 from w911.x _ _ rfl).trans ( (show Xi T82 890 2 = Xi T81 890 2 from w898.x _ _ rfl).trans ( (show Xi T81 890 2 = Xi T80 890 2 from w886.x _ _ rfl).trans ( (show Xi T80 890 2 = Xi T79 890 2 from w873.x _ _ rfl).trans ( (show Xi T79 890 2 = Xi T78 890 2 from w861.x _ _ rfl).trans ( (show Xi T78 890 2 = Xi T77 890 2 from w849.x _ _ rfl).trans ((show Xi T77 890 2 = Xi U76 890 2 from w836.x _ _ rfl)))))))
                        have w915 : 0 ≤ Xi U76 890 2 ∧ Xi U76 890 2 ≤ 20 := hHU76.c _ _
                        exact ⟨hHT83, hFT83, _, rfl, ⟨by omega, by omega⟩, (by first | assumption | omega)⟩
                      · refine l_iconst rfl ?_
                        refine l_goto rfl rfl ?_
                        refine l_ireturn rfl rfl ?_
                        have w916 : Xi T83 890 2 = Xi U76 890 2 := (show Xi T83 890 2 = Xi T82 890 2 from w911.x _ _ rfl).trans ( (show Xi T82 890 2 = Xi T81 890 2 from w898.x _ _ rfl).trans ( (show Xi T81 890 2 = Xi T80 890 2 from w886.x _ _ rfl).trans ( (show Xi T80 890 2 = Xi T79 890 2 from w873.x _ _ rfl).trans ( (show Xi T79 890 2 = Xi T78 890 2 from w861.x _ _ rfl).trans ( (show Xi T78 890 2 = Xi T77 890 2 from w849.x _ _ rfl).trans ((show Xi T77 890 2 = Xi U76 890 2 from w836.x _ _ rfl)))))))
                        have w917 : 0 ≤ Xi U76 890 2 ∧ Xi U76 890 2 ≤ 20 := hHU76.c _ _
                        exact ⟨hHT83, hFT83, _, rfl, ⟨by omega, by omega⟩, (by first | assumption | omega)⟩
        refine And.intro (fun w918 => ⟨_, rfl, ?_⟩) (fun w919 => ?_)
        · refine l_aload_n rfl rfl ?_
          refine l_bipush rfl rfl ?_
          refine l_pfi rfl rfl rfl rfl ?_
          obtain ⟨U84, eU84⟩ : ∃ T : sS, T = uI U73 890 2 (Int32.ofInt 18) := ⟨_, rfl⟩
          rw [← eU84]
          have hHU84 : HI U84 := by rw [eU84]; exact HI_w hHU73 (show 0 ≤ 18 by omega) (show 18 ≤ 20 by omega)
          have hFU84 : FR md_gr_checkOthers S U84 := by rw [eU84]; exact FR.wI hFU73 (mdf_i (r := (890, 891, 2, 3)) (List.mem_of_getElem? (i := 1) rfl) (inR_i (by omega) (by omega) (by omega) (by omega)))
          have w920 : Xi U84 890 2 = 18 := by rw [eU84]; exact Xi_same (by unfold rg; omega)
          have hso335 : SAY U84 (Xi U84 890 1) := SAY_sort eU84 (by assumption) (by decide)
          refine l_aload_n rfl rfl ?_
          have w921 : Xi U84 876 7 = Xi S 876 7 := (show Xi U84 876 7 = Xi U73 876 7 from by rw [eU84]; exact Xi_ne (by omega)).trans ( (show Xi U73 876 7 = Xi U72 876 7 from by rw [eU73]; exact Xi_ne (by omega)).trans ((show Xi U72 876 7 = Xi S 876 7 from by rw [eU72]; exact Xi_ne (by omega))))
          have w923 : Xi U84 890 1 = Xi U72 890 1 := (show Xi U84 890 1 = Xi U73 890 1 from by rw [eU84]; exact Xi_ne (by omega)).trans ((show Xi U73 890 1 = Xi U72 890 1 from by rw [eU73]; exact Xi_ne (by omega)))
          have w924 : 0 ≤ Xi U72 890 1 ∧ Xi U72 890 1 ≤ 5126 := hHU72.c _ _
          refine l_callV rfl rfl rfl (t_gr_takeName hHU84 (by first | assumption | omega) (by first | assumption | omega) _) ?_
          rintro _ T85 ⟨hHT85, w928, z927, rfl, w927, w925, w926⟩
          have hFT85 : FR md_gr_checkOthers S T85 := FR.tr hFU84 w928 rfl
          show Rl _ _ _ _ _ [iv z927] _ _
          refine l_if_eq rfl rfl (by unfold rg; omega) (fun w929 => ?_) (fun w930 => ?_)
          · refine l_iconst rfl ?_
            refine l_ireturn rfl rfl ?_
            have w931 : Xi T85 890 2 = Xi U84 890 2 := (show Xi T85 890 2 = Xi U84 890 2 from w928.x _ _ rfl)
            have w932 : 0 ≤ Xi U84 890 2 ∧ Xi U84 890 2 ≤ 20 := hHU84.c _ _
            exact ⟨hHT85, hFT85, _, rfl, ⟨by omega, by omega⟩, (by first | assumption | omega)⟩
          · refine l_aload_n rfl rfl ?_
            refine l_bipush rfl rfl ?_
            have w933 : Xi T85 876 7 = Xi S 876 7 := (show Xi T85 876 7 = Xi U84 876 7 from w928.x _ _ rfl).trans ( (show Xi U84 876 7 = Xi U73 876 7 from by rw [eU84]; exact Xi_ne (by omega)).trans ( (show Xi U73 876 7 = Xi U72 876 7 from by rw [eU73]; exact Xi_ne (by omega)).trans ((show Xi U72 876 7 = Xi S 876 7 from by rw [eU72]; exact Xi_ne (by omega)))))
            have w935 : 0 ≤ Xi T85 890 1 ∧ Xi T85 890 1 ≤ 5126 := hHT85.c _ _
            refine l_callV rfl rfl rfl (t_gr_take hHT85 13 ⟨by omega, by omega⟩ (by first | assumption | omega) (by first | assumption | omega) (by first | assumption | omega) _) ?_
            rintro _ T86 ⟨hHT86, w941, z940, rfl, w940, w936, w937, w938, w939⟩
            have hFT86 : FR md_gr_checkOthers S T86 := FR.tr hFT85 w941 rfl
            show Rl _ _ _ _ _ [iv z940] _ _
            refine l_if_eq rfl rfl (by unfold rg; omega) (fun w942 => ?_) (fun w943 => ?_)
            · refine l_iconst rfl ?_
              refine l_ireturn rfl rfl ?_
              have w944 : Xi T86 890 2 = Xi U84 890 2 := (show Xi T86 890 2 = Xi T85 890 2 from w941.x _ _ rfl).trans ((show Xi T85 890 2 = Xi U84 890 2 from w928.x _ _ rfl))
              have w945 : 0 ≤ Xi U84 890 2 ∧ Xi U84 890 2 ≤ 20 := hHU84.c _ _
              exact ⟨hHT86, hFT86, _, rfl, ⟨by omega, by omega⟩, (by first | assumption | omega)⟩
            · refine l_aload_n rfl rfl ?_
              refine l_bipush rfl rfl ?_
              have w946 : Xi T86 876 7 = Xi S 876 7 := (show Xi T86 876 7 = Xi T85 876 7 from w941.x _ _ rfl).trans ( (show Xi T85 876 7 = Xi U84 876 7 from w928.x _ _ rfl).trans ( (show Xi U84 876 7 = Xi U73 876 7 from by rw [eU84]; exact Xi_ne (by omega)).trans ( (show Xi U73 876 7 = Xi U72 876 7 from by rw [eU73]; exact Xi_ne (by omega)).trans ((show Xi U72 876 7 = Xi S 876 7 from by rw [eU72]; exact Xi_ne (by omega))))))
              have w948 : 0 ≤ Xi T86 890 1 ∧ Xi T86 890 1 ≤ 5126 := hHT86.c _ _
              refine l_callV rfl rfl rfl (t_gr_take hHT86 14 ⟨by omega, by omega⟩ (by first | assumption | omega) (by first | assumption | omega) (by first | assumption | omega) _) ?_
              rintro _ T87 ⟨hHT87, w954, z953, rfl, w953, w949, w950, w951, w952⟩
              have hFT87 : FR md_gr_checkOthers S T87 := FR.tr hFT86 w954 rfl
              show Rl _ _ _ _ _ [iv z953] _ _
              refine l_if_eq rfl rfl (by unfold rg; omega) (fun w955 => ?_) (fun w956 => ?_)
              · refine l_iconst rfl ?_
                refine l_ireturn rfl rfl ?_
                have w957 : Xi T87 890 2 = Xi U84 890 2 := (show Xi T87 890 2 = Xi T86 890 2 from w954.x _ _ rfl).trans ( (show Xi T86 890 2 = Xi T85 890 2 from w941.x _ _ rfl).trans ((show Xi T85 890 2 = Xi U84 890 2 from w928.x _ _ rfl)))
                have w958 : 0 ≤ Xi U84 890 2 ∧ Xi U84 890 2 ≤ 20 := hHU84.c _ _
                exact ⟨hHT87, hFT87, _, rfl, ⟨by omega, by omega⟩, (by first | assumption | omega)⟩
              · refine l_aload_n rfl rfl ?_
                have w959 : Xi T87 876 7 = Xi S 876 7 := (show Xi T87 876 7 = Xi T86 876 7 from w954.x _ _ rfl).trans ( (show Xi T86 876 7 = Xi T85 876 7 from w941.x _ _ rfl).trans ( (show Xi T85 876 7 = Xi U84 876 7 from w928.x _ _ rfl).trans ( (show Xi U84 876 7 = Xi U73 876 7 from by rw [eU84]; exact Xi_ne (by omega)).trans ( (show Xi U73 876 7 = Xi U72 876 7 from by rw [eU73]; exact Xi_ne (by omega)).trans ((show Xi U72 876 7 = Xi S 876 7 from by rw [eU72]; exact Xi_ne (by omega)))))))
                have w961 : 0 ≤ Xi T87 890 1 ∧ Xi T87 890 1 ≤ 5126 := hHT87.c _ _
                refine l_callV rfl rfl rfl (t_gr_takeRun hHT87 (by first | assumption | omega) (by first | assumption | omega) _) ?_
                rintro _ T88 ⟨hHT88, w966, z965, rfl, w965, w962, w963, w964⟩
                have hFT88 : FR md_gr_checkOthers S T88 := FR.tr hFT87 w966 rfl
                show Rl _ _ _ _ _ [iv z965] _ _
                refine l_if_eq rfl rfl (by unfold rg; omega) (fun w967 => ?_) (fun w968 => ?_)
                · refine l_iconst rfl ?_
                  refine l_ireturn rfl rfl ?_
                  have w969 : Xi T88 890 2 = Xi U84 890 2 := (show Xi T88 890 2 = Xi T87 890 2 from w966.x _ _ rfl).trans ( (show Xi T87 890 2 = Xi T86 890 2 from w954.x _ _ rfl).trans ( (show Xi T86 890 2 = Xi T85 890 2 from w941.x _ _ rfl).trans ((show Xi T85 890 2 = Xi U84 890 2 from w928.x _ _ rfl))))
                  have w970 : 0 ≤ Xi U84 890 2 ∧ Xi U84 890 2 ≤ 20 := hHU84.c _ _
                  exact ⟨hHT88, hFT88, _, rfl, ⟨by omega, by omega⟩, (by first | assumption | omega)⟩
                · refine l_aload_n rfl rfl ?_
                  refine l_bipush rfl rfl ?_
                  have w971 : Xi T88 876 7 = Xi S 876 7 := (show Xi T88 876 7 = Xi T87 876 7 from w966.x _ _ rfl).trans ( (show Xi T87 876 7 = Xi T86 876 7 from w954.x _ _ rfl).trans ( (show Xi T86 876 7 = Xi T85 876 7 from w941.x _ _ rfl).trans ( (show Xi T85 876 7 = Xi U84 876 7 from w928.x _ _ rfl).trans ( (show Xi U84 876 7 = Xi U73 876 7 from by rw [eU84]; exact Xi_ne (by omega)).trans ( (show Xi U73 876 7 = Xi U72 876 7 from by rw [eU73]; exact Xi_ne (by omega)).trans ((show Xi U72 876 7 = Xi S 876 7 from by rw [eU72]; exact Xi_ne (by omega))))))))
                  have w973 : 0 ≤ Xi T88 890 1 ∧ Xi T88 890 1 ≤ 5126 := hHT88.c _ _
                  refine l_callV rfl rfl rfl (t_gr_take hHT88 15 ⟨by omega, by omega⟩ (by first | assumption | omega) (by first | assumption | omega) (by first | assumption | omega) _) ?_
                  rintro _ T89 ⟨hHT89, w979, z978, rfl, w978, w974, w975, w976, w977⟩
                  have hFT89 : FR md_gr_checkOthers S T89 := FR.tr hFT88 w979 rfl
                  show Rl _ _ _ _ _ [iv z978] _ _
                  refine l_if_eq rfl rfl (by unfold rg; omega) (fun w980 => ?_) (fun w981 => ?_)
                  · refine l_iconst rfl ?_
                    refine l_ireturn rfl rfl ?_
                    have w982 : Xi T89 890 2 = Xi U84 890 2 := (show Xi T89 890 2 = Xi T88 890 2 from w979.x _ _ rfl).trans ( (show Xi T88 890 2 = Xi T87 890 2 from w966.x _ _ rfl).trans ( (show Xi T87 890 2 = Xi T86 890 2 from w954.x _ _ rfl).trans ( (show Xi T86 890 2 = Xi T85 890 2 from w941.x _ _ rfl).trans ((show Xi T85 890 2 = Xi U84 890 2 from w928.x _ _ rfl)))))
                    have w983 : 0 ≤ Xi U84 890 2 ∧ Xi U84 890 2 ≤ 20 := hHU84.c _ _
                    exact ⟨hHT89, hFT89, _, rfl, ⟨by omega, by omega⟩, (by first | assumption | omega)⟩
                  · refine l_aload_n rfl rfl ?_
                    have w984 : Xi T89 876 7 = Xi S 876 7 := (show Xi T89 876 7 = Xi T88 876 7 from w979.x _ _ rfl).trans ( (show Xi T88 876 7 = Xi T87 876 7 from w966.x _ _ rfl).trans ( (show Xi T87 876 7 = Xi T86 876 7 from w954.x _ _ rfl).trans ( (show Xi T86 876 7 = Xi T85 876 7 from w941.x _ _ rfl).trans ( (show Xi T85 876 7 = Xi U84 876 7 from w928.x _ _ rfl).trans ( (show Xi U84 876 7 = Xi U73 876 7 from by rw [eU84]; exact Xi_ne (by omega)).trans ( (show Xi U73 876 7 = Xi U72 876 7 from by rw [eU73]; exact Xi_ne (by omega)).trans ((show Xi U72 876 7 = Xi S 876 7 from by rw [eU72]; exact Xi_ne (by omega)))))))))
                    have w986 : 0 ≤ Xi T89 890 1 ∧ Xi T89 890 1 ≤ 5126 := hHT89.c _ _
                    refine l_callV rfl rfl rfl (t_gr_takeRun hHT89 (by first | assumption | omega) (by first | assumption | omega) _) ?_
                    rintro _ T90 ⟨hHT90, w991, z990, rfl, w990, w987, w988, w989⟩
                    have hFT90 : FR md_gr_checkOthers S T90 := FR.tr hFT89 w991 rfl
                    show Rl _ _ _ _ _ [iv z990] _ _
                    refine l_if_eq rfl rfl (by unfold rg; omega) (fun w992 => ?_) (fun w993 => ?_)
                    · refine l_iconst rfl ?_
                      refine l_ireturn rfl rfl ?_
                      have w994 : Xi T90 890 2 = Xi U84 890 2 := (show Xi T90 890 2 = Xi T89 890 2 from w991.x _ _ rfl).trans ( (show Xi T89 890 2 = Xi T88 890 2 from w979.x _ _ rfl).trans ( (show Xi T88 890 2 = Xi T87 890 2 from w966.x _ _ rfl).trans ( (show Xi T87 890 2 = Xi T86 890 2 from w954.x _ _ rfl).trans ( (show Xi T86 890 2 = Xi T85 890 2 from w941.x _ _ rfl).trans ((show Xi T85 890 2 = Xi U84 890 2 from w928.x _ _ rfl))))))
                      have w995 : 0 ≤ Xi U84 890 2 ∧ Xi U84 890 2 ≤ 20 := hHU84.c _ _
                      exact ⟨hHT90, hFT90, _, rfl, ⟨by omega, by omega⟩, (by first | assumption | omega)⟩
                    · refine l_aload_n rfl rfl ?_
                      refine l_bipush rfl rfl ?_
                      have w996 : Xi T90 876 7 = Xi S 876 7 := (show Xi T90 876 7 = Xi T89 876 7 from w991.x _ _ rfl).trans ( (show Xi T89 876 7 = Xi T88 876 7 from w979.x _ _ rfl).trans ( (show Xi T88 876 7 = Xi T87 876 7 from w966.x _ _ rfl).trans ( (show Xi T87 876 7 = Xi T86 876 7 from w954.x _ _ rfl).trans ( (show Xi T86 876 7 = Xi T85 876 7 from w941.x _ _ rfl).trans ( (show Xi T85 876 7 = Xi U84 876 7 from w928.x _ _ rfl).trans ( (show Xi U84 876 7 = Xi U73 876 7 from by rw [eU84]; exact Xi_ne (by omega)).trans ( (show Xi U73 876 7 = Xi U72 876 7 from by rw [eU73]; exact Xi_ne (by omega)).trans ((show Xi U72 876 7 = Xi S 876 7 from by rw [eU72]; exact Xi_ne (by omega))))))))))
                      have w998 : 0 ≤ Xi T90 890 1 ∧ Xi T90 890 1 ≤ 5126 := hHT90.c _ _
                      refine l_callV rfl rfl rfl (t_gr_take hHT90 103 ⟨by omega, by omega⟩ (by first | assumption | omega) (by first | assumption | omega) (by first | assumption | omega) _) ?_
                      rintro _ T91 ⟨hHT91, w1004, z1003, rfl, w1003, w999, w1000, w1001, w1002⟩
                      have hFT91 : FR md_gr_checkOthers S T91 := FR.tr hFT90 w1004 rfl
                      show Rl _ _ _ _ _ [iv z1003] _ _
                      refine l_if_eq rfl rfl (by unfold rg; omega) (fun w1005 => ?_) (fun w1006 => ?_)
                      · refine l_iconst rfl ?_
                        refine l_ireturn rfl rfl ?_
                        have w1007 : Xi T91 890 2 = Xi U84 890 2 := (show Xi T91 890 2 = Xi T90 890 2 from w1004.x _ _ rfl).trans ( (show Xi T90 890 2 = Xi T89 890 2 from w991.x _ _ rfl).trans ( (show Xi T89 890 2 = Xi T88 890 2 from w979.x _ _ rfl).trans ( (show Xi T88 890 2 = Xi T87 890 2 from w966.x _ _ rfl).trans ( (show Xi T87 890 2 = Xi T86 890 2 from w954.x _ _ rfl).trans ( (show Xi T86 890 2 = Xi T85 890 2 from w941.x _ _ rfl).trans ((show Xi T85 890 2 = Xi U84 890 2 from w928.x _ _ rfl)))))))
                        have w1008 : 0 ≤ Xi U84 890 2 ∧ Xi U84 890 2 ≤ 20 := hHU84.c _ _
                        exact ⟨hHT91, hFT91, _, rfl, ⟨by omega, by omega⟩, (by first | assumption | omega)⟩
                      · refine l_iconst rfl ?_
                        refine l_goto rfl rfl ?_
                        refine l_ireturn rfl rfl ?_
                        have w1009 : Xi T91 890 2 = Xi U84 890 2 := (show Xi T91 890 2 = Xi T90 890 2 from w1004.x _ _ rfl).trans ( (show Xi T90 890 2 = Xi T89 890 2 from w991.x _ _ rfl).trans ( (show Xi T89 890 2 = Xi T88 890 2 from w979.x _ _ rfl).trans ( (show Xi T88 890 2 = Xi T87 890 2 from w966.x _ _ rfl).trans ( (show Xi T87 890 2 = Xi T86 890 2 from w954.x _ _ rfl).trans ( (show Xi T86 890 2 = Xi T85 890 2 from w941.x _ _ rfl).trans ((show Xi T85 890 2 = Xi U84 890 2 from w928.x _ _ rfl)))))))
                        have w1010 : 0 ≤ Xi U84 890 2 ∧ Xi U84 890 2 ≤ 20 := hHU84.c _ _
                        exact ⟨hHT91, hFT91, _, rfl, ⟨by omega, by omega⟩, (by first | assumption | omega)⟩
        refine And.intro (fun w1011 => ⟨_, rfl, ?_⟩) (fun w1012 => ?_)
        · refine l_aload_n rfl rfl ?_
          refine l_bipush rfl rfl ?_
          refine l_pfi rfl rfl rfl rfl ?_
          obtain ⟨U92, eU92⟩ : ∃ T : sS, T = uI U73 890 2 (Int32.ofInt 19) := ⟨_, rfl⟩
          rw [← eU92]
          have hHU92 : HI U92 := by rw [eU92]; exact HI_w hHU73 (show 0 ≤ 19 by omega) (show 19 ≤ 20 by omega)
          have hFU92 : FR md_gr_checkOthers S U92 := by rw [eU92]; exact FR.wI hFU73 (mdf_i (r := (890, 891, 2, 3)) (List.mem_of_getElem? (i := 1) rfl) (inR_i (by omega) (by omega) (by omega) (by omega)))
          have w1013 : Xi U92 890 2 = 19 := by rw [eU92]; exact Xi_same (by unfold rg; omega)
          have hso404 : SAY U92 (Xi U92 890 1) := SAY_sort eU92 (by assumption) (by decide)
          refine l_aload_n rfl rfl ?_
          have w1014 : Xi U92 876 7 = Xi S 876 7 := (show Xi U92 876 7 = Xi U73 876 7 from by rw [eU92]; exact Xi_ne (by omega)).trans ( (show Xi U73 876 7 = Xi U72 876 7 from by rw [eU73]; exact Xi_ne (by omega)).trans ((show Xi U72 876 7 = Xi S 876 7 from by rw [eU72]; exact Xi_ne (by omega))))
          have w1016 : Xi U92 890 1 = Xi U72 890 1 := (show Xi U92 890 1 = Xi U73 890 1 from by rw [eU92]; exact Xi_ne (by omega)).trans ((show Xi U73 890 1 = Xi U72 890 1 from by rw [eU73]; exact Xi_ne (by omega)))
          have w1017 : 0 ≤ Xi U72 890 1 ∧ Xi U72 890 1 ≤ 5126 := hHU72.c _ _
          refine l_callV rfl rfl rfl (t_gr_takeName hHU92 (by first | assumption | omega) (by first | assumption | omega) _) ?_
          rintro _ T93 ⟨hHT93, w1021, z1020, rfl, w1020, w1018, w1019⟩
          have hFT93 : FR md_gr_checkOthers S T93 := FR.tr hFU92 w1021 rfl
          show Rl _ _ _ _ _ [iv z1020] _ _
          refine l_if_eq rfl rfl (by unfold rg; omega) (fun w1022 => ?_) (fun w1023 => ?_)
          · refine l_iconst rfl ?_
            refine l_ireturn rfl rfl ?_
            have w1024 : Xi T93 890 2 = Xi U92 890 2 := (show Xi T93 890 2 = Xi U92 890 2 from w1021.x _ _ rfl)
            have w1025 : 0 ≤ Xi U92 890 2 ∧ Xi U92 890 2 ≤ 20 := hHU92.c _ _
            exact ⟨hHT93, hFT93, _, rfl, ⟨by omega, by omega⟩, (by first | assumption | omega)⟩
          · refine l_aload_n rfl rfl ?_
            refine l_bipush rfl rfl ?_
            have w1026 : Xi T93 876 7 = Xi S 876 7 := (show Xi T93 876 7 = Xi U92 876 7 from w1021.x _ _ rfl).trans ( (show Xi U92 876 7 = Xi U73 876 7 from by rw [eU92]; exact Xi_ne (by omega)).trans ( (show Xi U73 876 7 = Xi U72 876 7 from by rw [eU73]; exact Xi_ne (by omega)).trans ((show Xi U72 876 7 = Xi S 876 7 from by rw [eU72]; exact Xi_ne (by omega)))))
            have w1028 : 0 ≤ Xi T93 890 1 ∧ Xi T93 890 1 ≤ 5126 := hHT93.c _ _
            refine l_callV rfl rfl rfl (t_gr_take hHT93 21 ⟨by omega, by omega⟩ (by first | assumption | omega) (by first | assumption | omega) (by first | assumption | omega) _) ?_
            rintro _ T94 ⟨hHT94, w1034, z1033, rfl, w1033, w1029, w1030, w1031, w1032⟩
            have hFT94 : FR md_gr_checkOthers S T94 := FR.tr hFT93 w1034 rfl
            show Rl _ _ _ _ _ [iv z1033] _ _
            refine l_if_eq rfl rfl (by unfold rg; omega) (fun w1035 => ?_) (fun w1036 => ?_)
            · refine l_iconst rfl ?_
              refine l_ireturn rfl rfl ?_
              have w1037 : Xi T94 890 2 = Xi U92 890 2 := (show Xi T94 890 2 = Xi T93 890 2 from w1034.x _ _ rfl).trans ((show Xi T93 890 2 = Xi U92 890 2 from w1021.x _ _ rfl))
              have w1038 : 0 ≤ Xi U92 890 2 ∧ Xi U92 890 2 ≤ 20 := hHU92.c _ _
              exact ⟨hHT94, hFT94, _, rfl, ⟨by omega, by omega⟩, (by first | assumption | omega)⟩
            · refine l_aload_n rfl rfl ?_
              have w1039 : Xi T94 876 7 = Xi S 876 7 := (show Xi T94 876 7 = Xi T93 876 7 from w1034.x _ _ rfl).trans ( (show Xi T93 876 7 = Xi U92 876 7 from w1021.x _ _ rfl).trans ( (show Xi U92 876 7 = Xi U73 876 7 from by rw [eU92]; exact Xi_ne (by omega)).trans ( (show Xi U73 876 7 = Xi U72 876 7 from by rw [eU73]; exact Xi_ne (by omega)).trans ((show Xi U72 876 7 = Xi S 876 7 from by rw [eU72]; exact Xi_ne (by omega))))))
              have w1041 : 0 ≤ Xi T94 890 1 ∧ Xi T94 890 1 ≤ 5126 := hHT94.c _ _
              refine l_callV rfl rfl rfl (t_gr_takeHowMany hHT94 (by first | assumption | omega) (by first | assumption | omega) _) ?_
              rintro _ T95 ⟨hHT95, w1045, z1044, rfl, w1044, w1042, w1043⟩
              have hFT95 : FR md_gr_checkOthers S T95 := FR.tr hFT94 w1045 rfl
              show Rl _ _ _ _ _ [iv z1044] _ _
              refine l_if_eq rfl rfl (by unfold rg; omega) (fun w1046 => ?_) (fun w1047 => ?_)
              · refine l_iconst rfl ?_
                refine l_ireturn rfl rfl ?_
                have w1048 : Xi T95 890 2 = Xi U92 890 2 := (show Xi T95 890 2 = Xi T94 890 2 from w1045.x _ _ rfl).trans ( (show Xi T94 890 2 = Xi T93 890 2 from w1034.x _ _ rfl).trans ((show Xi T93 890 2 = Xi U92 890 2 from w1021.x _ _ rfl)))
                have w1049 : 0 ≤ Xi U92 890 2 ∧ Xi U92 890 2 ≤ 20 := hHU92.c _ _
                exact ⟨hHT95, hFT95, _, rfl, ⟨by omega, by omega⟩, (by first | assumption | omega)⟩
              · refine l_aload_n rfl rfl ?_
                have w1050 : Xi T95 876 7 = Xi S 876 7 := (show Xi T95 876 7 = Xi T94 876 7 from w1045.x _ _ rfl).trans ( (show Xi T94 876 7 = Xi T93 876 7 from w1034.x _ _ rfl).trans ( (show Xi T93 876 7 = Xi U92 876 7 from w1021.x _ _ rfl).trans ( (show Xi U92 876 7 = Xi U73 876 7 from by rw [eU92]; exact Xi_ne (by omega)).trans ( (show Xi U73 876 7 = Xi U72 876 7 from by rw [eU73]; exact Xi_ne (by omega)).trans ((show Xi U72 876 7 = Xi S 876 7 from by rw [eU72]; exact Xi_ne (by omega)))))))
                have w1052 : 0 ≤ Xi T95 890 1 ∧ Xi T95 890 1 ≤ 5126 := hHT95.c _ _
                refine l_callV rfl rfl rfl (t_gr_takeRun hHT95 (by first | assumption | omega) (by first | assumption | omega) _) ?_
                rintro _ T96 ⟨hHT96, w1057, z1056, rfl, w1056, w1053, w1054, w1055⟩
                have hFT96 : FR md_gr_checkOthers S T96 := FR.tr hFT95 w1057 rfl
                show Rl _ _ _ _ _ [iv z1056] _ _
                refine l_if_eq rfl rfl (by unfold rg; omega) (fun w1058 => ?_) (fun w1059 => ?_)
                · refine l_iconst rfl ?_
                  refine l_ireturn rfl rfl ?_
                  have w1060 : Xi T96 890 2 = Xi U92 890 2 := (show Xi T96 890 2 = Xi T95 890 2 from w1057.x _ _ rfl).trans ( (show Xi T95 890 2 = Xi T94 890 2 from w1045.x _ _ rfl).trans ( (show Xi T94 890 2 = Xi T93 890 2 from w1034.x _ _ rfl).trans ((show Xi T93 890 2 = Xi U92 890 2 from w1021.x _ _ rfl))))
                  have w1061 : 0 ≤ Xi U92 890 2 ∧ Xi U92 890 2 ≤ 20 := hHU92.c _ _
                  exact ⟨hHT96, hFT96, _, rfl, ⟨by omega, by omega⟩, (by first | assumption | omega)⟩
                · refine l_aload_n rfl rfl ?_
                  refine l_bipush rfl rfl ?_
                  have w1062 : Xi T96 876 7 = Xi S 876 7 := (show Xi T96 876 7 = Xi T95 876 7 from w1057.x _ _ rfl).trans ( (show Xi T95 876 7 = Xi T94 876 7 from w1045.x _ _ rfl).trans ( (show Xi T94 876 7 = Xi T93 876 7 from w1034.x _ _ rfl).trans ( (show Xi T93 876 7 = Xi U92 876 7 from w1021.x _ _ rfl).trans ( (show Xi U92 876 7 = Xi U73 876 7 from by rw [eU92]; exact Xi_ne (by omega)).trans ( (show Xi U73 876 7 = Xi U72 876 7 from by rw [eU73]; exact Xi_ne (by omega)).trans ((show Xi U72 876 7 = Xi S 876 7 from by rw [eU72]; exact Xi_ne (by omega))))))))
                  have w1064 : 0 ≤ Xi T96 890 1 ∧ Xi T96 890 1 ≤ 5126 := hHT96.c _ _
                  refine l_callV rfl rfl rfl (t_gr_take hHT96 11 ⟨by omega, by omega⟩ (by first | assumption | omega) (by first | assumption | omega) (by first | assumption | omega) _) ?_
                  rintro _ T97 ⟨hHT97, w1070, z1069, rfl, w1069, w1065, w1066, w1067, w1068⟩
                  have hFT97 : FR md_gr_checkOthers S T97 := FR.tr hFT96 w1070 rfl
                  show Rl _ _ _ _ _ [iv z1069] _ _
                  refine l_if_eq rfl rfl (by unfold rg; omega) (fun w1071 => ?_) (fun w1072 => ?_)
                  · refine l_iconst rfl ?_
                    refine l_ireturn rfl rfl ?_
                    have w1073 : Xi T97 890 2 = Xi U92 890 2 := (show Xi T97 890 2 = Xi T96 890 2 from w1070.x _ _ rfl).trans ( (show Xi T96 890 2 = Xi T95 890 2 from w1057.x _ _ rfl).trans ( (show Xi T95 890 2 = Xi T94 890 2 from w1045.x _ _ rfl).trans ( (show Xi T94 890 2 = Xi T93 890 2 from w1034.x _ _ rfl).trans ((show Xi T93 890 2 = Xi U92 890 2 from w1021.x _ _ rfl)))))
                    have w1074 : 0 ≤ Xi U92 890 2 ∧ Xi U92 890 2 ≤ 20 := hHU92.c _ _
                    exact ⟨hHT97, hFT97, _, rfl, ⟨by omega, by omega⟩, (by first | assumption | omega)⟩
                  · refine l_aload_n rfl rfl ?_
                    have w1075 : Xi T97 876 7 = Xi S 876 7 := (show Xi T97 876 7 = Xi T96 876 7 from w1070.x _ _ rfl).trans ( (show Xi T96 876 7 = Xi T95 876 7 from w1057.x _ _ rfl).trans ( (show Xi T95 876 7 = Xi T94 876 7 from w1045.x _ _ rfl).trans ( (show Xi T94 876 7 = Xi T93 876 7 from w1034.x _ _ rfl).trans ( (show Xi T93 876 7 = Xi U92 876 7 from w1021.x _ _ rfl).trans ( (show Xi U92 876 7 = Xi U73 876 7 from by rw [eU92]; exact Xi_ne (by omega)).trans ( (show Xi U73 876 7 = Xi U72 876 7 from by rw [eU73]; exact Xi_ne (by omega)).trans ((show Xi U72 876 7 = Xi S 876 7 from by rw [eU72]; exact Xi_ne (by omega)))))))))
                    have w1077 : 0 ≤ Xi T97 890 1 ∧ Xi T97 890 1 ≤ 5126 := hHT97.c _ _
                    refine l_callV rfl rfl rfl (t_gr_takeHowMany hHT97 (by first | assumption | omega) (by first | assumption | omega) _) ?_
                    rintro _ T98 ⟨hHT98, w1081, z1080, rfl, w1080, w1078, w1079⟩
                    have hFT98 : FR md_gr_checkOthers S T98 := FR.tr hFT97 w1081 rfl
                    show Rl _ _ _ _ _ [iv z1080] _ _
                    refine l_if_eq rfl rfl (by unfold rg; omega) (fun w1082 => ?_) (fun w1083 => ?_)
                    · refine l_iconst rfl ?_
                      refine l_ireturn rfl rfl ?_
                      have w1084 : Xi T98 890 2 = Xi U92 890 2 := (show Xi T98 890 2 = Xi T97 890 2 from w1081.x _ _ rfl).trans ( (show Xi T97 890 2 = Xi T96 890 2 from w1070.x _ _ rfl).trans ( (show Xi T96 890 2 = Xi T95 890 2 from w1057.x _ _ rfl).trans ( (show Xi T95 890 2 = Xi T94 890 2 from w1045.x _ _ rfl).trans ( (show Xi T94 890 2 = Xi T93 890 2 from w1034.x _ _ rfl).trans ((show Xi T93 890 2 = Xi U92 890 2 from w1021.x _ _ rfl))))))
                      have w1085 : 0 ≤ Xi U92 890 2 ∧ Xi U92 890 2 ≤ 20 := hHU92.c _ _
                      exact ⟨hHT98, hFT98, _, rfl, ⟨by omega, by omega⟩, (by first | assumption | omega)⟩
                    · refine l_aload_n rfl rfl ?_
                      have w1086 : Xi T98 876 7 = Xi S 876 7 := (show Xi T98 876 7 = Xi T97 876 7 from w1081.x _ _ rfl).trans ( (show Xi T97 876 7 = Xi T96 876 7 from w1070.x _ _ rfl).trans ( (show Xi T96 876 7 = Xi T95 876 7 from w1057.x _ _ rfl).trans ( (show Xi T95 876 7 = Xi T94 876 7 from w1045.x _ _ rfl).trans ( (show Xi T94 876 7 = Xi T93 876 7 from w1034.x _ _ rfl).trans ( (show Xi T93 876 7 = Xi U92 876 7 from w1021.x _ _ rfl).trans ( (show Xi U92 876 7 = Xi U73 876 7 from by rw [eU92]; exact Xi_ne (by omega)).trans ( (show Xi U73 876 7 = Xi U72 876 7 from by rw [eU73]; exact Xi_ne (by omega)).trans ((show Xi U72 876 7 = Xi S 876 7 from by rw [eU72]; exact Xi_ne (by omega))))))))))
                      have w1088 : 0 ≤ Xi T98 890 1 ∧ Xi T98 890 1 ≤ 5126 := hHT98.c _ _
                      refine l_callV rfl rfl rfl (t_gr_takeRun hHT98 (by first | assumption | omega) (by first | assumption | omega) _) ?_
                      rintro _ T99 ⟨hHT99, w1093, z1092, rfl, w1092, w1089, w1090, w1091⟩
                      have hFT99 : FR md_gr_checkOthers S T99 := FR.tr hFT98 w1093 rfl
                      show Rl _ _ _ _ _ [iv z1092] _ _
                      refine l_if_eq rfl rfl (by unfold rg; omega) (fun w1094 => ?_) (fun w1095 => ?_)
                      · refine l_iconst rfl ?_
                        refine l_ireturn rfl rfl ?_
                        have w1096 : Xi T99 890 2 = Xi U92 890 2 := (show Xi T99 890 2 = Xi T98 890 2 from w1093.x _ _ rfl).trans ( (show Xi T98 890 2 = Xi T97 890 2 from w1081.x _ _ rfl).trans ( (show Xi T97 890 2 = Xi T96 890 2 from w1070.x _ _ rfl).trans ( (show Xi T96 890 2 = Xi T95 890 2 from w1057.x _ _ rfl).trans ( (show Xi T95 890 2 = Xi T94 890 2 from w1045.x _ _ rfl).trans ( (show Xi T94 890 2 = Xi T93 890 2 from w1034.x _ _ rfl).trans ((show Xi T93 890 2 = Xi U92 890 2 from w1021.x _ _ rfl)))))))
                        have w1097 : 0 ≤ Xi U92 890 2 ∧ Xi U92 890 2 ≤ 20 := hHU92.c _ _
                        exact ⟨hHT99, hFT99, _, rfl, ⟨by omega, by omega⟩, (by first | assumption | omega)⟩
                      · refine l_aload_n rfl rfl ?_
                        refine l_bipush rfl rfl ?_
                        have w1098 : Xi T99 876 7 = Xi S 876 7 := (show Xi T99 876 7 = Xi T98 876 7 from w1093.x _ _ rfl).trans ( (show Xi T98 876 7 = Xi T97 876 7 from w1081.x _ _ rfl).trans ( (show Xi T97 876 7 = Xi T96 876 7 from w1070.x _ _ rfl).trans ( (show Xi T96 876 7 = Xi T95 876 7 from w1057.x _ _ rfl).trans ( (show Xi T95 876 7 = Xi T94 876 7 from w1045.x _ _ rfl).trans ( (show Xi T94 876 7 = Xi T93 876 7 from w1034.x _ _ rfl).trans ( (show Xi T93 876 7 = Xi U92 876 7 from w1021.x _ _ rfl).trans ( (show Xi U92 876 7 = Xi U73 876 7 from by rw [eU92]; exact Xi_ne (by omega)).trans ( (show Xi U73 876 7 = Xi U72 876 7 from by rw [eU73]; exact Xi_ne (by omega)).trans ((show Xi U72 876 7 = Xi S 876 7 from by rw [eU72]; exact Xi_ne (by omega)))))))))))
                        have w1100 : 0 ≤ Xi T99 890 1 ∧ Xi T99 890 1 ≤ 5126 := hHT99.c _ _
                        refine l_callV rfl rfl rfl (t_gr_take hHT99 103 ⟨by omega, by omega⟩ (by first | assumption | omega) (by first | assumption | omega) (by first | assumption | omega) _) ?_
                        rintro _ T100 ⟨hHT100, w1106, z1105, rfl, w1105, w1101, w1102, w1103, w1104⟩
                        have hFT100 : FR md_gr_checkOthers S T100 := FR.tr hFT99 w1106 rfl
                        show Rl _ _ _ _ _ [iv z1105] _ _
                        refine l_if_eq rfl rfl (by unfold rg; omega) (fun w1107 => ?_) (fun w1108 => ?_)
                        · refine l_iconst rfl ?_
                          refine l_ireturn rfl rfl ?_
                          have w1109 : Xi T100 890 2 = Xi U92 890 2 := (show Xi T100 890 2 = Xi T99 890 2 from w1106.x _ _ rfl).trans ( (show Xi T99 890 2 = Xi T98 890 2 from w1093.x _ _ rfl).trans ( (show Xi T98 890 2 = Xi T97 890 2 from w1081.x _ _ rfl).trans ( (show Xi T97 890 2 = Xi T96 890 2 from w1070.x _ _ rfl).trans ( (show Xi T96 890 2 = Xi T95 890 2 from w1057.x _ _ rfl).trans ( (show Xi T95 890 2 = Xi T94 890 2 from w1045.x _ _ rfl).trans ( (show Xi T94 890 2 = Xi T93 890 2 from w1034.x _ _ rfl).trans ((show Xi T93 890 2 = Xi U92 890 2 from w1021.x _ _ rfl))))))))
                          have w1110 : 0 ≤ Xi U92 890 2 ∧ Xi U92 890 2 ≤ 20 := hHU92.c _ _
                          exact ⟨hHT100, hFT100, _, rfl, ⟨by omega, by omega⟩, (by first | assumption | omega)⟩
                        · refine l_iconst rfl ?_
                          refine l_goto rfl rfl ?_
                          refine l_ireturn rfl rfl ?_
                          have w1111 : Xi T100 890 2 = Xi U92 890 2 := (show Xi T100 890 2 = Xi T99 890 2 from w1106.x _ _ rfl).trans ( (show Xi T99 890 2 = Xi T98 890 2 from w1093.x _ _ rfl).trans ( (show Xi T98 890 2 = Xi T97 890 2 from w1081.x _ _ rfl).trans ( (show Xi T97 890 2 = Xi T96 890 2 from w1070.x _ _ rfl).trans ( (show Xi T96 890 2 = Xi T95 890 2 from w1057.x _ _ rfl).trans ( (show Xi T95 890 2 = Xi T94 890 2 from w1045.x _ _ rfl).trans ( (show Xi T94 890 2 = Xi T93 890 2 from w1034.x _ _ rfl).trans ((show Xi T93 890 2 = Xi U92 890 2 from w1021.x _ _ rfl))))))))
                          have w1112 : 0 ≤ Xi U92 890 2 ∧ Xi U92 890 2 ≤ 20 := hHU92.c _ _
                          exact ⟨hHT100, hFT100, _, rfl, ⟨by omega, by omega⟩, (by first | assumption | omega)⟩
        refine ⟨_, rfl, ?_⟩
        refine l_aload_n rfl rfl ?_
        refine l_bipush rfl rfl ?_
        refine l_pfi rfl rfl rfl rfl ?_
        obtain ⟨U101, eU101⟩ : ∃ T : sS, T = uI U73 890 2 (Int32.ofInt 20) := ⟨_, rfl⟩
        rw [← eU101]
        have hHU101 : HI U101 := by rw [eU101]; exact HI_w hHU73 (show 0 ≤ 20 by omega) (show 20 ≤ 20 by omega)
        have hFU101 : FR md_gr_checkOthers S U101 := by rw [eU101]; exact FR.wI hFU73 (mdf_i (r := (890, 891, 2, 3)) (List.mem_of_getElem? (i := 1) rfl) (inR_i (by omega) (by omega) (by omega) (by omega)))
        have w1113 : Xi U101 890 2 = 20 := by rw [eU101]; exact Xi_same (by unfold rg; omega)
        have hso478 : SAY U101 (Xi U101 890 1) := SAY_sort eU101 (by assumption) (by decide)
        refine l_aload_n rfl rfl ?_
        refine l_bipush rfl rfl ?_
        refine l_bipush rfl rfl ?_
        have w1114 : Xi U101 876 7 = Xi S 876 7 := (show Xi U101 876 7 = Xi U73 876 7 from by rw [eU101]; exact Xi_ne (by omega)).trans ( (show Xi U73 876 7 = Xi U72 876 7 from by rw [eU73]; exact Xi_ne (by omega)).trans ((show Xi U72 876 7 = Xi S 876 7 from by rw [eU72]; exact Xi_ne (by omega))))
        have w1116 : Xi U101 890 1 = Xi U72 890 1 := (show Xi U101 890 1 = Xi U73 890 1 from by rw [eU101]; exact Xi_ne (by omega)).trans ((show Xi U73 890 1 = Xi U72 890 1 from by rw [eU73]; exact Xi_ne (by omega)))
        have w1117 : 0 ≤ Xi U72 890 1 ∧ Xi U72 890 1 ≤ 5126 := hHU72.c _ _
        refine l_callV rfl rfl rfl (t_gr_takeLoose hHU101 16 104 ⟨by omega, by omega⟩ ⟨by omega, by omega⟩ (by first | assumption | omega) (by first | assumption | omega) (by first | assumption | omega) (by first | assumption | omega) _) ?_
        rintro _ T102 ⟨hHT102, w1121, z1120, rfl, w1120, w1118, w1119⟩
        have hFT102 : FR md_gr_checkOthers S T102 := FR.tr hFU101 w1121 rfl
        show Rl _ _ _ _ _ [iv z1120] _ _
        refine l_if_eq rfl rfl (by unfold rg; omega) (fun w1122 => ?_) (fun w1123 => ?_)
        · refine l_iconst rfl ?_
          refine l_ireturn rfl rfl ?_
          have w1124 : Xi T102 890 2 = Xi U101 890 2 := (show Xi T102 890 2 = Xi U101 890 2 from w1121.x _ _ rfl)
          have w1125 : 0 ≤ Xi U101 890 2 ∧ Xi U101 890 2 ≤ 20 := hHU101.c _ _
          exact ⟨hHT102, hFT102, _, rfl, ⟨by omega, by omega⟩, (by first | assumption | omega)⟩
        · refine l_aload_n rfl rfl ?_
          refine l_bipush rfl rfl ?_
          have w1126 : Xi T102 876 7 = Xi S 876 7 := (show Xi T102 876 7 = Xi U101 876 7 from w1121.x _ _ rfl).trans ( (show Xi U101 876 7 = Xi U73 876 7 from by rw [eU101]; exact Xi_ne (by omega)).trans ( (show Xi U73 876 7 = Xi U72 876 7 from by rw [eU73]; exact Xi_ne (by omega)).trans ((show Xi U72 876 7 = Xi S 876 7 from by rw [eU72]; exact Xi_ne (by omega)))))
          have w1128 : 0 ≤ Xi T102 890 1 ∧ Xi T102 890 1 ≤ 5126 := hHT102.c _ _
          refine l_callV rfl rfl rfl (t_gr_take hHT102 103 ⟨by omega, by omega⟩ (by first | assumption | omega) (by first | assumption | omega) (by first | assumption | omega) _) ?_
          rintro _ T103 ⟨hHT103, w1134, z1133, rfl, w1133, w1129, w1130, w1131, w1132⟩
          have hFT103 : FR md_gr_checkOthers S T103 := FR.tr hFT102 w1134 rfl
          show Rl _ _ _ _ _ [iv z1133] _ _
          refine l_if_eq rfl rfl (by unfold rg; omega) (fun w1135 => ?_) (fun w1136 => ?_)
          · refine l_iconst rfl ?_
            refine l_ireturn rfl rfl ?_
            have w1137 : Xi T103 890 2 = Xi U101 890 2 := (show Xi T103 890 2 = Xi T102 890 2 from w1134.x _ _ rfl).trans ((show Xi T102 890 2 = Xi U101 890 2 from w1121.x _ _ rfl))
            have w1138 : 0 ≤ Xi U101 890 2 ∧ Xi U101 890 2 ≤ 20 := hHU101.c _ _
            exact ⟨hHT103, hFT103, _, rfl, ⟨by omega, by omega⟩, (by first | assumption | omega)⟩
          · refine l_iconst rfl ?_
            refine l_goto rfl rfl ?_
            refine l_ireturn rfl rfl ?_
            have w1139 : Xi T103 890 2 = Xi U101 890 2 := (show Xi T103 890 2 = Xi T102 890 2 from w1134.x _ _ rfl).trans ((show Xi T102 890 2 = Xi U101 890 2 from w1121.x _ _ rfl))
            have w1140 : 0 ≤ Xi U101 890 2 ∧ Xi U101 890 2 ≤ 20 := hHU101.c _ _
            exact ⟨hHT103, hFT103, _, rfl, ⟨by omega, by omega⟩, (by first | assumption | omega)⟩
      · refine l_aload_n rfl rfl ?_
        refine l_gfr rfl rfl rfl rfl rfl (hH.r 890 0 876 rfl) ?_
        refine l_iconst rfl ?_
        refine l_callV rfl rfl rfl (t_to_typeAt hH 1 ⟨by omega, by omega⟩ _) ?_
        rintro _ _ ⟨rfl, z1145, rfl, w1145, w1142, w1143, w1144⟩
        show Rl _ _ _ _ _ [iv z1145] _ _
        refine l_bipush rfl rfl ?_
        refine l_icmp_ne rfl rfl (by unfold rg; omega) (by unfold rg; omega) (fun w1146 => ?_) (fun w1147 => ?_)
        · refine l_aload_n rfl rfl ?_
          refine l_iconst rfl ?_
          refine l_pfi rfl rfl rfl rfl ?_
          obtain ⟨U104, eU104⟩ : ∃ T : sS, T = uI S 890 1 (Int32.ofInt 0) := ⟨_, rfl⟩
          rw [← eU104]
          have hHU104 : HI U104 := by rw [eU104]; exact HI_w hH (show 0 ≤ 0 by omega) (show 0 ≤ 5126 by omega)
          have hFU104 : FR md_gr_checkOthers S U104 := by rw [eU104]; exact FR.wI hF (mdf_i (r := (890, 891, 1, 2)) (List.mem_of_getElem? (i := 0) rfl) (inR_i (by omega) (by omega) (by omega) (by omega)))
          have w1148 : Xi U104 890 1 = 0 := by rw [eU104]; exact Xi_same (by unfold rg; omega)
          have hs183 : SAY U104 (Xi U104 890 1) := SAY_v0 (by omega)
          refine l_aload_n rfl rfl ?_
          refine l_aload_n rfl rfl ?_
          refine l_gfr rfl rfl rfl rfl rfl (hHU104.r 890 0 876 rfl) ?_
          have w1149 : Xi U104 876 7 = Xi S 876 7 := (show Xi U104 876 7 = Xi S 876 7 from by rw [eU104]; exact Xi_ne (by omega))
          refine l_callV rfl rfl rfl (t_to_tellingKey hHU104 _) ?_
          rintro _ _ ⟨rfl, z1152, rfl, w1152, w1151⟩
          show Rl _ _ _ _ _ [iv z1152, .ref 890] _ _
          refine l_pfi rfl rfl rfl rfl ?_
          obtain ⟨U105, eU105⟩ : ∃ T : sS, T = uI U104 890 3 (Int32.ofInt z1152) := ⟨_, rfl⟩
          rw [← eU105]
          have hHU105 : HI U105 := by rw [eU105]; exact HI_w hHU104 (show -1 ≤ z1152 by omega) (show z1152 ≤ 5124 by omega)
          have hFU105 : FR md_gr_checkOthers S U105 := by rw [eU105]; exact FR.wI hFU104 (mdf_i (r := (890, 891, 3, 4)) (List.mem_of_getElem? (i := 2) rfl) (inR_i (by omega) (by omega) (by omega) (by omega)))
          have w1153 : Xi U105 890 3 = z1152 := by rw [eU105]; exact Xi_same (by unfold rg; omega)
          have hso194 : SAY U105 (Xi U105 890 1) := SAY_sort eU105 (by assumption) (by decide)
          refine l_aload_n rfl rfl ?_
          refine l_gfr rfl rfl rfl rfl rfl (hHU105.r 890 0 876 rfl) ?_
          refine l_aload_n rfl rfl ?_
          refine l_gfi rfl rfl rfl rfl rfl ?_
          have w1154 : Xi U105 876 7 = Xi S 876 7 := (show Xi U105 876 7 = Xi U104 876 7 from by rw [eU105]; exact Xi_ne (by omega)).trans ((show Xi U104 876 7 = Xi S 876 7 from by rw [eU104]; exact Xi_ne (by omega)))
          refine l_callV rfl rfl rfl (t_to_typeAt hHU105 (Xi U105 890 3) ⟨by omega, by omega⟩ _) ?_
          rintro _ _ ⟨rfl, z1159, rfl, w1159, w1156, w1157, w1158⟩
          show Rl _ _ _ _ _ [iv z1159] _ _
          refine l_lsw rfl rfl (by unfold rg; omega) ?_
          refine And.intro (fun w1160 => ⟨_, rfl, ?_⟩) (fun w1161 => ?_)
          · refine l_aload_n rfl rfl ?_
            have w1164 : Xi U105 890 1 = Xi U104 890 1 := (show Xi U105 890 1 = Xi U104 890 1 from by rw [eU105]; exact Xi_ne (by omega))
            have w1165 : 0 ≤ Xi U104 890 1 ∧ Xi U104 890 1 ≤ 5126 := hHU104.c _ _
            refine l_callV rfl rfl rfl (t_gr_checkBe hHU105 (by first | assumption | omega) (by first | assumption | omega) (by first | assumption | omega) _) ?_
            rintro _ T106 ⟨hHT106, w1168, z1167, rfl, w1167, w1166⟩
            have hFT106 : FR md_gr_checkOthers S T106 := FR.tr hFU105 w1168 rfl
            show Rl _ _ _ _ _ [iv z1167] _ _
            refine l_ireturn rfl (retI_z (by omega)) ?_
            have w1169 : 0 ≤ Xi T106 890 2 ∧ Xi T106 890 2 ≤ 20 := hHT106.c _ _
            exact ⟨hHT106, hFT106, _, rfl, ⟨by omega, by omega⟩, (by first | assumption | omega)⟩
          refine And.intro (fun w1170 => ⟨_, rfl, ?_⟩) (fun w1171 => ?_)
          · refine l_aload_n rfl rfl ?_
            have w1174 : Xi U105 890 1 = Xi U104 890 1 := (show Xi U105 890 1 = Xi U104 890 1 from by rw [eU105]; exact Xi_ne (by omega))
            have w1175 : 0 ≤ Xi U104 890 1 ∧ Xi U104 890 1 ≤ 5126 := hHU104.c _ _
            refine l_callV rfl rfl rfl (t_gr_checkBe hHU105 (by first | assumption | omega) (by first | assumption | omega) (by first | assumption | omega) _) ?_
            rintro _ T107 ⟨hHT107, w1178, z1177, rfl, w1177, w1176⟩
            have hFT107 : FR md_gr_checkOthers S T107 := FR.tr hFU105 w1178 rfl
            show Rl _ _ _ _ _ [iv z1177] _ _
            refine l_ireturn rfl (retI_z (by omega)) ?_
            have w1179 : 0 ≤ Xi T107 890 2 ∧ Xi T107 890 2 ≤ 20 := hHT107.c _ _
            exact ⟨hHT107, hFT107, _, rfl, ⟨by omega, by omega⟩, (by first | assumption | omega)⟩
          refine And.intro (fun w1180 => ⟨_, rfl, ?_⟩) (fun w1181 => ?_)
          · refine l_aload_n rfl rfl ?_
            refine l_bipush rfl rfl ?_
            refine l_pfi rfl rfl rfl rfl ?_
            obtain ⟨U108, eU108⟩ : ∃ T : sS, T = uI U105 890 2 (Int32.ofInt 17) := ⟨_, rfl⟩
            rw [← eU108]
            have hHU108 : HI U108 := by rw [eU108]; exact HI_w hHU105 (show 0 ≤ 17 by omega) (show 17 ≤ 20 by omega)
            have hFU108 : FR md_gr_checkOthers S U108 := by rw [eU108]; exact FR.wI hFU105 (mdf_i (r := (890, 891, 2, 3)) (List.mem_of_getElem? (i := 1) rfl) (inR_i (by omega) (by omega) (by omega) (by omega)))
            have w1182 : Xi U108 890 2 = 17 := by rw [eU108]; exact Xi_same (by unfold rg; omega)
            have hso268 : SAY U108 (Xi U108 890 1) := SAY_sort eU108 (by assumption) (by decide)
            refine l_aload_n rfl rfl ?_
            have w1183 : Xi U108 876 7 = Xi S 876 7 := (show Xi U108 876 7 = Xi U105 876 7 from by rw [eU108]; exact Xi_ne (by omega)).trans ( (show Xi U105 876 7 = Xi U104 876 7 from by rw [eU105]; exact Xi_ne (by omega)).trans ((show Xi U104 876 7 = Xi S 876 7 from by rw [eU104]; exact Xi_ne (by omega))))
            have w1185 : Xi U108 890 1 = Xi U104 890 1 := (show Xi U108 890 1 = Xi U105 890 1 from by rw [eU108]; exact Xi_ne (by omega)).trans ((show Xi U105 890 1 = Xi U104 890 1 from by rw [eU105]; exact Xi_ne (by omega)))
            have w1186 : 0 ≤ Xi U104 890 1 ∧ Xi U104 890 1 ≤ 5126 := hHU104.c _ _
            refine l_callV rfl rfl rfl (t_gr_takeName hHU108 (by first | assumption | omega) (by first | assumption | omega) _) ?_
            rintro _ T109 ⟨hHT109, w1190, z1189, rfl, w1189, w1187, w1188⟩
            have hFT109 : FR md_gr_checkOthers S T109 := FR.tr hFU108 w1190 rfl
            show Rl _ _ _ _ _ [iv z1189] _ _
            refine l_if_eq rfl rfl (by unfold rg; omega) (fun w1191 => ?_) (fun w1192 => ?_)
            · refine l_iconst rfl ?_
              refine l_ireturn rfl rfl ?_
              have w1193 : Xi T109 890 2 = Xi U108 890 2 := (show Xi T109 890 2 = Xi U108 890 2 from w1190.x _ _ rfl)
              have w1194 : 0 ≤ Xi U108 890 2 ∧ Xi U108 890 2 ≤ 20 := hHU108.c _ _
              exact ⟨hHT109, hFT109, _, rfl, ⟨by omega, by omega⟩, (by first | assumption | omega)⟩
            · refine l_aload_n rfl rfl ?_
              refine l_bipush rfl rfl ?_
              have w1195 : Xi T109 876 7 = Xi S 876 7 := (show Xi T109 876 7 = Xi U108 876 7 from w1190.x _ _ rfl).trans ( (show Xi U108 876 7 = Xi U105 876 7 from by rw [eU108]; exact Xi_ne (by omega)).trans ( (show Xi U105 876 7 = Xi U104 876 7 from by rw [eU105]; exact Xi_ne (by omega)).trans ((show Xi U104 876 7 = Xi S 876 7 from by rw [eU104]; exact Xi_ne (by omega)))))
              have w1197 : 0 ≤ Xi T109 890 1 ∧ Xi T109 890 1 ≤ 5126 := hHT109.c _ _
              refine l_callV rfl rfl rfl (t_gr_take hHT109 12 ⟨by omega, by omega⟩ (by first | assumption | omega) (by first | assumption | omega) (by first | assumption | omega) _) ?_
              rintro _ T110 ⟨hHT110, w1203, z1202, rfl, w1202, w1198, w1199, w1200, w1201⟩
              have hFT110 : FR md_gr_checkOthers S T110 := FR.tr hFT109 w1203 rfl
              show Rl _ _ _ _ _ [iv z1202] _ _
              refine l_if_eq rfl rfl (by unfold rg; omega) (fun w1204 => ?_) (fun w1205 => ?_)
              · refine l_iconst rfl ?_
                refine l_ireturn rfl rfl ?_
                have w1206 : Xi T110 890 2 = Xi U108 890 2 := (show Xi T110 890 2 = Xi T109 890 2 from w1203.x _ _ rfl).trans ((show Xi T109 890 2 = Xi U108 890 2 from w1190.x _ _ rfl))
                have w1207 : 0 ≤ Xi U108 890 2 ∧ Xi U108 890 2 ≤ 20 := hHU108.c _ _
                exact ⟨hHT110, hFT110, _, rfl, ⟨by omega, by omega⟩, (by first | assumption | omega)⟩
              · refine l_aload_n rfl rfl ?_
                have w1208 : Xi T110 876 7 = Xi S 876 7 := (show Xi T110 876 7 = Xi T109 876 7 from w1203.x _ _ rfl).trans ( (show Xi T109 876 7 = Xi U108 876 7 from w1190.x _ _ rfl).trans ( (show Xi U108 876 7 = Xi U105 876 7 from by rw [eU108]; exact Xi_ne (by omega)).trans ( (show Xi U105 876 7 = Xi U104 876 7 from by rw [eU105]; exact Xi_ne (by omega)).trans ((show Xi U104 876 7 = Xi S 876 7 from by rw [eU104]; exact Xi_ne (by omega))))))
                have w1210 : 0 ≤ Xi T110 890 1 ∧ Xi T110 890 1 ≤ 5126 := hHT110.c _ _
                refine l_callV rfl rfl rfl (t_gr_takeArt hHT110 (by first | assumption | omega) (by first | assumption | omega) _) ?_
                rintro _ T111 ⟨hHT111, w1215, z1214, rfl, w1214, w1211, w1212, w1213⟩
                have hFT111 : FR md_gr_checkOthers S T111 := FR.tr hFT110 w1215 rfl
                show Rl _ _ _ _ _ [iv z1214] _ _
                refine l_if_eq rfl rfl (by unfold rg; omega) (fun w1216 => ?_) (fun w1217 => ?_)
                · refine l_iconst rfl ?_
                  refine l_ireturn rfl rfl ?_
                  have w1218 : Xi T111 890 2 = Xi U108 890 2 := (show Xi T111 890 2 = Xi T110 890 2 from w1215.x _ _ rfl).trans ( (show Xi T110 890 2 = Xi T109 890 2 from w1203.x _ _ rfl).trans ((show Xi T109 890 2 = Xi U108 890 2 from w1190.x _ _ rfl)))
                  have w1219 : 0 ≤ Xi U108 890 2 ∧ Xi U108 890 2 ≤ 20 := hHU108.c _ _
                  exact ⟨hHT111, hFT111, _, rfl, ⟨by omega, by omega⟩, (by first | assumption | omega)⟩
                · refine l_aload_n rfl rfl ?_
                  have w1220 : Xi T111 876 7 = Xi S 876 7 := (show Xi T111 876 7 = Xi T110 876 7 from w1215.x _ _ rfl).trans ( (show Xi T110 876 7 = Xi T109 876 7 from w1203.x _ _ rfl).trans ( (show Xi T109 876 7 = Xi U108 876 7 from w1190.x _ _ rfl).trans ( (show Xi U108 876 7 = Xi U105 876 7 from by rw [eU108]; exact Xi_ne (by omega)).trans ( (show Xi U105 876 7 = Xi U104 876 7 from by rw [eU105]; exact Xi_ne (by omega)).trans ((show Xi U104 876 7 = Xi S 876 7 from by rw [eU104]; exact Xi_ne (by omega)))))))
                  have w1222 : 0 ≤ Xi T111 890 1 ∧ Xi T111 890 1 ≤ 5126 := hHT111.c _ _
                  refine l_callV rfl rfl rfl (t_gr_takeRun hHT111 (by first | assumption | omega) (by first | assumption | omega) _) ?_
                  rintro _ T112 ⟨hHT112, w1227, z1226, rfl, w1226, w1223, w1224, w1225⟩
                  have hFT112 : FR md_gr_checkOthers S T112 := FR.tr hFT111 w1227 rfl
                  show Rl _ _ _ _ _ [iv z1226] _ _
                  refine l_if_eq rfl rfl (by unfold rg; omega) (fun w1228 => ?_) (fun w1229 => ?_)
                  · refine l_iconst rfl ?_
                    refine l_ireturn rfl rfl ?_
                    have w1230 : Xi T112 890 2 = Xi U108 890 2 := (show Xi T112 890 2 = Xi T111 890 2 from w1227.x _ _ rfl).trans ( (show Xi T111 890 2 = Xi T110 890 2 from w1215.x _ _ rfl).trans ( (show Xi T110 890 2 = Xi T109 890 2 from w1203.x _ _ rfl).trans ((show Xi T109 890 2 = Xi U108 890 2 from w1190.x _ _ rfl))))
                    have w1231 : 0 ≤ Xi U108 890 2 ∧ Xi U108 890 2 ≤ 20 := hHU108.c _ _
                    exact ⟨hHT112, hFT112, _, rfl, ⟨by omega, by omega⟩, (by first | assumption | omega)⟩
                  · refine l_aload_n rfl rfl ?_
                    refine l_bipush rfl rfl ?_
                    have w1232 : Xi T112 876 7 = Xi S 876 7 := (show Xi T112 876 7 = Xi T111 876 7 from w1227.x _ _ rfl).trans ( (show Xi T111 876 7 = Xi T110 876 7 from w1215.x _ _ rfl).trans ( (show Xi T110 876 7 = Xi T109 876 7 from w1203.x _ _ rfl).trans ( (show Xi T109 876 7 = Xi U108 876 7 from w1190.x _ _ rfl).trans ( (show Xi U108 876 7 = Xi U105 876 7 from by rw [eU108]; exact Xi_ne (by omega)).trans ( (show Xi U105 876 7 = Xi U104 876 7 from by rw [eU105]; exact Xi_ne (by omega)).trans ((show Xi U104 876 7 = Xi S 876 7 from by rw [eU104]; exact Xi_ne (by omega))))))))
                    have w1234 : 0 ≤ Xi T112 890 1 ∧ Xi T112 890 1 ≤ 5126 := hHT112.c _ _
                    refine l_callV rfl rfl rfl (t_gr_take hHT112 17 ⟨by omega, by omega⟩ (by first | assumption | omega) (by first | assumption | omega) (by first | assumption | omega) _) ?_
                    rintro _ T113 ⟨hHT113, w1240, z1239, rfl, w1239, w1235, w1236, w1237, w1238⟩
                    have hFT113 : FR md_gr_checkOthers S T113 := FR.tr hFT112 w1240 rfl
                    show Rl _ _ _ _ _ [iv z1239] _ _
                    refine l_if_eq rfl rfl (by unfold rg; omega) (fun w1241 => ?_) (fun w1242 => ?_)
                    · refine l_iconst rfl ?_
                      refine l_ireturn rfl rfl ?_
                      have w1243 : Xi T113 890 2 = Xi U108 890 2 := (show Xi T113 890 2 = Xi T112 890 2 from w1240.x _ _ rfl).trans ( (show Xi T112 890 2 = Xi T111 890 2 from w1227.x _ _ rfl).trans ( (show Xi T111 890 2 = Xi T110 890 2 from w1215.x _ _ rfl).trans ( (show Xi T110 890 2 = Xi T109 890 2 from w1203.x _ _ rfl).trans ((show Xi T109 890 2 = Xi U108 890 2 from w1190.x _ _ rfl)))))
                      have w1244 : 0 ≤ Xi U108 890 2 ∧ Xi U108 890 2 ≤ 20 := hHU108.c _ _
                      exact ⟨hHT113, hFT113, _, rfl, ⟨by omega, by omega⟩, (by first | assumption | omega)⟩
                    · refine l_aload_n rfl rfl ?_
                      have w1245 : Xi T113 876 7 = Xi S 876 7 := (show Xi T113 876 7 = Xi T112 876 7 from w1240.x _ _ rfl).trans ( (show Xi T112 876 7 = Xi T111 876 7 from w1227.x _ _ rfl).trans ( (show Xi T111 876 7 = Xi T110 876 7 from w1215.x _ _ rfl).trans ( (show Xi T110 876 7 = Xi T109 876 7 from w1203.x _ _ rfl).trans ( (show Xi T109 876 7 = Xi U108 876 7 from w1190.x _ _ rfl).trans ( (show Xi U108 876 7 = Xi U105 876 7 from by rw [eU108]; exact Xi_ne (by omega)).trans ( (show Xi U105 876 7 = Xi U104 876 7 from by rw [eU105]; exact Xi_ne (by omega)).trans ((show Xi U104 876 7 = Xi S 876 7 from by rw [eU104]; exact Xi_ne (by omega)))))))))
                      have w1247 : 0 ≤ Xi T113 890 1 ∧ Xi T113 890 1 ≤ 5126 := hHT113.c _ _
                      refine l_callV rfl rfl rfl (t_gr_takeRun hHT113 (by first | assumption | omega) (by first | assumption | omega) _) ?_
                      rintro _ T114 ⟨hHT114, w1252, z1251, rfl, w1251, w1248, w1249, w1250⟩
                      have hFT114 : FR md_gr_checkOthers S T114 := FR.tr hFT113 w1252 rfl
                      show Rl _ _ _ _ _ [iv z1251] _ _
                      refine l_if_eq rfl rfl (by unfold rg; omega) (fun w1253 => ?_) (fun w1254 => ?_)
                      · refine l_iconst rfl ?_
                        refine l_ireturn rfl rfl ?_
                        have w1255 : Xi T114 890 2 = Xi U108 890 2 := (show Xi T114 890 2 = Xi T113 890 2 from w1252.x _ _ rfl).trans ( (show Xi T113 890 2 = Xi T112 890 2 from w1240.x _ _ rfl).trans ( (show Xi T112 890 2 = Xi T111 890 2 from w1227.x _ _ rfl).trans ( (show Xi T111 890 2 = Xi T110 890 2 from w1215.x _ _ rfl).trans ( (show Xi T110 890 2 = Xi T109 890 2 from w1203.x _ _ rfl).trans ((show Xi T109 890 2 = Xi U108 890 2 from w1190.x _ _ rfl))))))
                        have w1256 : 0 ≤ Xi U108 890 2 ∧ Xi U108 890 2 ≤ 20 := hHU108.c _ _
                        exact ⟨hHT114, hFT114, _, rfl, ⟨by omega, by omega⟩, (by first | assumption | omega)⟩
                      · refine l_aload_n rfl rfl ?_
                        refine l_bipush rfl rfl ?_
                        have w1257 : Xi T114 876 7 = Xi S 876 7 := (show Xi T114 876 7 = Xi T113 876 7 from w1252.x _ _ rfl).trans ( (show Xi T113 876 7 = Xi T112 876 7 from w1240.x _ _ rfl).trans ( (show Xi T112 876 7 = Xi T111 876 7 from w1227.x _ _ rfl).trans ( (show Xi T111 876 7 = Xi T110 876 7 from w1215.x _ _ rfl).trans ( (show Xi T110 876 7 = Xi T109 876 7 from w1203.x _ _ rfl).trans ( (show Xi T109 876 7 = Xi U108 876 7 from w1190.x _ _ rfl).trans ( (show Xi U108 876 7 = Xi U105 876 7 from by rw [eU108]; exact Xi_ne (by omega)).trans ( (show Xi U105 876 7 = Xi U104 876 7 from by rw [eU105]; exact Xi_ne (by omega)).trans ((show Xi U104 876 7 = Xi S 876 7 from by rw [eU104]; exact Xi_ne (by omega))))))))))
                        have w1259 : 0 ≤ Xi T114 890 1 ∧ Xi T114 890 1 ≤ 5126 := hHT114.c _ _
                        refine l_callV rfl rfl rfl (t_gr_take hHT114 103 ⟨by omega, by omega⟩ (by first | assumption | omega) (by first | assumption | omega) (by first | assumption | omega) _) ?_
                        rintro _ T115 ⟨hHT115, w1265, z1264, rfl, w1264, w1260, w1261, w1262, w1263⟩
                        have hFT115 : FR md_gr_checkOthers S T115 := FR.tr hFT114 w1265 rfl
                        show Rl _ _ _ _ _ [iv z1264] _ _
                        refine l_if_eq rfl rfl (by unfold rg; omega) (fun w1266 => ?_) (fun w1267 => ?_)
                        · refine l_iconst rfl ?_
                          refine l_ireturn rfl rfl ?_
                          have w1268 : Xi T115 890 2 = Xi U108 890 2 := (show Xi T115 890 2 = Xi T114 890 2 from w1265.x _ _ rfl).trans ( (show Xi T114 890 2 = Xi T113 890 2 from w1252.x _ _ rfl).trans ( (show Xi T113 890 2 = Xi T112 890 2 from w1240.x _ _ rfl).trans ( (show Xi T112 890 2 = Xi T111 890 2 from w1227.x _ _ rfl).trans ( (show Xi T111 890 2 = Xi T110 890 2 from w1215.x _ _ rfl).trans ( (show Xi T110 890 2 = Xi T109 890 2 from w1203.x _ _ rfl).trans ((show Xi T109 890 2 = Xi U108 890 2 from w1190.x _ _ rfl)))))))
                          have w1269 : 0 ≤ Xi U108 890 2 ∧ Xi U108 890 2 ≤ 20 := hHU108.c _ _
                          exact ⟨hHT115, hFT115, _, rfl, ⟨by omega, by omega⟩, (by first | assumption | omega)⟩
                        · refine l_iconst rfl ?_
                          refine l_goto rfl rfl ?_
                          refine l_ireturn rfl rfl ?_
                          have w1270 : Xi T115 890 2 = Xi U108 890 2 := (show Xi T115 890 2 = Xi T114 890 2 from w1265.x _ _ rfl).trans ( (show Xi T114 890 2 = Xi T113 890 2 from w1252.x _ _ rfl).trans ( (show Xi T113 890 2 = Xi T112 890 2 from w1240.x _ _ rfl).trans ( (show Xi T112 890 2 = Xi T111 890 2 from w1227.x _ _ rfl).trans ( (show Xi T111 890 2 = Xi T110 890 2 from w1215.x _ _ rfl).trans ( (show Xi T110 890 2 = Xi T109 890 2 from w1203.x _ _ rfl).trans ((show Xi T109 890 2 = Xi U108 890 2 from w1190.x _ _ rfl)))))))
                          have w1271 : 0 ≤ Xi U108 890 2 ∧ Xi U108 890 2 ≤ 20 := hHU108.c _ _
                          exact ⟨hHT115, hFT115, _, rfl, ⟨by omega, by omega⟩, (by first | assumption | omega)⟩
          refine And.intro (fun w1272 => ⟨_, rfl, ?_⟩) (fun w1273 => ?_)
          · refine l_aload_n rfl rfl ?_
            refine l_bipush rfl rfl ?_
            refine l_pfi rfl rfl rfl rfl ?_
            obtain ⟨U116, eU116⟩ : ∃ T : sS, T = uI U105 890 2 (Int32.ofInt 18) := ⟨_, rfl⟩
            rw [← eU116]
            have hHU116 : HI U116 := by rw [eU116]; exact HI_w hHU105 (show 0 ≤ 18 by omega) (show 18 ≤ 20 by omega)
            have hFU116 : FR md_gr_checkOthers S U116 := by rw [eU116]; exact FR.wI hFU105 (mdf_i (r := (890, 891, 2, 3)) (List.mem_of_getElem? (i := 1) rfl) (inR_i (by omega) (by omega) (by omega) (by omega)))
            have w1274 : Xi U116 890 2 = 18 := by rw [eU116]; exact Xi_same (by unfold rg; omega)
            have hso335 : SAY U116 (Xi U116 890 1) := SAY_sort eU116 (by assumption) (by decide)
            refine l_aload_n rfl rfl ?_
            have w1275 : Xi U116 876 7 = Xi S 876 7 := (show Xi U116 876 7 = Xi U105 876 7 from by rw [eU116]; exact Xi_ne (by omega)).trans ( (show Xi U105 876 7 = Xi U104 876 7 from by rw [eU105]; exact Xi_ne (by omega)).trans ((show Xi U104 876 7 = Xi S 876 7 from by rw [eU104]; exact Xi_ne (by omega))))
            have w1277 : Xi U116 890 1 = Xi U104 890 1 := (show Xi U116 890 1 = Xi U105 890 1 from by rw [eU116]; exact Xi_ne (by omega)).trans ((show Xi U105 890 1 = Xi U104 890 1 from by rw [eU105]; exact Xi_ne (by omega)))
            have w1278 : 0 ≤ Xi U104 890 1 ∧ Xi U104 890 1 ≤ 5126 := hHU104.c _ _
            refine l_callV rfl rfl rfl (t_gr_takeName hHU116 (by first | assumption | omega) (by first | assumption | omega) _) ?_
            rintro _ T117 ⟨hHT117, w1282, z1281, rfl, w1281, w1279, w1280⟩
            have hFT117 : FR md_gr_checkOthers S T117 := FR.tr hFU116 w1282 rfl
            show Rl _ _ _ _ _ [iv z1281] _ _
            refine l_if_eq rfl rfl (by unfold rg; omega) (fun w1283 => ?_) (fun w1284 => ?_)
            · refine l_iconst rfl ?_
              refine l_ireturn rfl rfl ?_
              have w1285 : Xi T117 890 2 = Xi U116 890 2 := (show Xi T117 890 2 = Xi U116 890 2 from w1282.x _ _ rfl)
              have w1286 : 0 ≤ Xi U116 890 2 ∧ Xi U116 890 2 ≤ 20 := hHU116.c _ _
              exact ⟨hHT117, hFT117, _, rfl, ⟨by omega, by omega⟩, (by first | assumption | omega)⟩
            · refine l_aload_n rfl rfl ?_
              refine l_bipush rfl rfl ?_
              have w1287 : Xi T117 876 7 = Xi S 876 7 := (show Xi T117 876 7 = Xi U116 876 7 from w1282.x _ _ rfl).trans ( (show Xi U116 876 7 = Xi U105 876 7 from by rw [eU116]; exact Xi_ne (by omega)).trans ( (show Xi U105 876 7 = Xi U104 876 7 from by rw [eU105]; exact Xi_ne (by omega)).trans ((show Xi U104 876 7 = Xi S 876 7 from by rw [eU104]; exact Xi_ne (by omega)))))
              have w1289 : 0 ≤ Xi T117 890 1 ∧ Xi T117 890 1 ≤ 5126 := hHT117.c _ _
              refine l_callV rfl rfl rfl (t_gr_take hHT117 13 ⟨by omega, by omega⟩ (by first | assumption | omega) (by first | assumption | omega) (by first | assumption | omega) _) ?_
              rintro _ T118 ⟨hHT118, w1295, z1294, rfl, w1294, w1290, w1291, w1292, w1293⟩
              have hFT118 : FR md_gr_checkOthers S T118 := FR.tr hFT117 w1295 rfl
              show Rl _ _ _ _ _ [iv z1294] _ _
              refine l_if_eq rfl rfl (by unfold rg; omega) (fun w1296 => ?_) (fun w1297 => ?_)
              · refine l_iconst rfl ?_
                refine l_ireturn rfl rfl ?_
                have w1298 : Xi T118 890 2 = Xi U116 890 2 := (show Xi T118 890 2 = Xi T117 890 2 from w1295.x _ _ rfl).trans ((show Xi T117 890 2 = Xi U116 890 2 from w1282.x _ _ rfl))
                have w1299 : 0 ≤ Xi U116 890 2 ∧ Xi U116 890 2 ≤ 20 := hHU116.c _ _
                exact ⟨hHT118, hFT118, _, rfl, ⟨by omega, by omega⟩, (by first | assumption | omega)⟩
              · refine l_aload_n rfl rfl ?_
                refine l_bipush rfl rfl ?_
                have w1300 : Xi T118 876 7 = Xi S 876 7 := (show Xi T118 876 7 = Xi T117 876 7 from w1295.x _ _ rfl).trans ( (show Xi T117 876 7 = Xi U116 876 7 from w1282.x _ _ rfl).trans ( (show Xi U116 876 7 = Xi U105 876 7 from by rw [eU116]; exact Xi_ne (by omega)).trans ( (show Xi U105 876 7 = Xi U104 876 7 from by rw [eU105]; exact Xi_ne (by omega)).trans ((show Xi U104 876 7 = Xi S 876 7 from by rw [eU104]; exact Xi_ne (by omega))))))
                have w1302 : 0 ≤ Xi T118 890 1 ∧ Xi T118 890 1 ≤ 5126 := hHT118.c _ _
                refine l_callV rfl rfl rfl (t_gr_take hHT118 14 ⟨by omega, by omega⟩ (by first | assumption | omega) (by first | assumption | omega) (by first | assumption | omega) _) ?_
                rintro _ T119 ⟨hHT119, w1308, z1307, rfl, w1307, w1303, w1304, w1305, w1306⟩
                have hFT119 : FR md_gr_checkOthers S T119 := FR.tr hFT118 w1308 rfl
                show Rl _ _ _ _ _ [iv z1307] _ _
                refine l_if_eq rfl rfl (by unfold rg; omega) (fun w1309 => ?_) (fun w1310 => ?_)
                · refine l_iconst rfl ?_
                  refine l_ireturn rfl rfl ?_
                  have w1311 : Xi T119 890 2 = Xi U116 890 2 := (show Xi T119 890 2 = Xi T118 890 2 from w1308.x _ _ rfl).trans ( (show Xi T118 890 2 = Xi T117 890 2 from w1295.x _ _ rfl).trans ((show Xi T117 890 2 = Xi U116 890 2 from w1282.x _ _ rfl)))
                  have w1312 : 0 ≤ Xi U116 890 2 ∧ Xi U116 890 2 ≤ 20 := hHU116.c _ _
                  exact ⟨hHT119, hFT119, _, rfl, ⟨by omega, by omega⟩, (by first | assumption | omega)⟩
                · refine l_aload_n rfl rfl ?_
                  have w1313 : Xi T119 876 7 = Xi S 876 7 := (show Xi T119 876 7 = Xi T118 876 7 from w1308.x _ _ rfl).trans ( (show Xi T118 876 7 = Xi T117 876 7 from w1295.x _ _ rfl).trans ( (show Xi T117 876 7 = Xi U116 876 7 from w1282.x _ _ rfl).trans ( (show Xi U116 876 7 = Xi U105 876 7 from by rw [eU116]; exact Xi_ne (by omega)).trans ( (show Xi U105 876 7 = Xi U104 876 7 from by rw [eU105]; exact Xi_ne (by omega)).trans ((show Xi U104 876 7 = Xi S 876 7 from by rw [eU104]; exact Xi_ne (by omega)))))))
                  have w1315 : 0 ≤ Xi T119 890 1 ∧ Xi T119 890 1 ≤ 5126 := hHT119.c _ _
                  refine l_callV rfl rfl rfl (t_gr_takeRun hHT119 (by first | assumption | omega) (by first | assumption | omega) _) ?_
                  rintro _ T120 ⟨hHT120, w1320, z1319, rfl, w1319, w1316, w1317, w1318⟩
                  have hFT120 : FR md_gr_checkOthers S T120 := FR.tr hFT119 w1320 rfl
                  show Rl _ _ _ _ _ [iv z1319] _ _
                  refine l_if_eq rfl rfl (by unfold rg; omega) (fun w1321 => ?_) (fun w1322 => ?_)
                  · refine l_iconst rfl ?_
                    refine l_ireturn rfl rfl ?_
                    have w1323 : Xi T120 890 2 = Xi U116 890 2 := (show Xi T120 890 2 = Xi T119 890 2 from w1320.x _ _ rfl).trans ( (show Xi T119 890 2 = Xi T118 890 2 from w1308.x _ _ rfl).trans ( (show Xi T118 890 2 = Xi T117 890 2 from w1295.x _ _ rfl).trans ((show Xi T117 890 2 = Xi U116 890 2 from w1282.x _ _ rfl))))
                    have w1324 : 0 ≤ Xi U116 890 2 ∧ Xi U116 890 2 ≤ 20 := hHU116.c _ _
                    exact ⟨hHT120, hFT120, _, rfl, ⟨by omega, by omega⟩, (by first | assumption | omega)⟩
                  · refine l_aload_n rfl rfl ?_
                    refine l_bipush rfl rfl ?_
                    have w1325 : Xi T120 876 7 = Xi S 876 7 := (show Xi T120 876 7 = Xi T119 876 7 from w1320.x _ _ rfl).trans ( (show Xi T119 876 7 = Xi T118 876 7 from w1308.x _ _ rfl).trans ( (show Xi T118 876 7 = Xi T117 876 7 from w1295.x _ _ rfl).trans ( (show Xi T117 876 7 = Xi U116 876 7 from w1282.x _ _ rfl).trans ( (show Xi U116 876 7 = Xi U105 876 7 from by rw [eU116]; exact Xi_ne (by omega)).trans ( (show Xi U105 876 7 = Xi U104 876 7 from by rw [eU105]; exact Xi_ne (by omega)).trans ((show Xi U104 876 7 = Xi S 876 7 from by rw [eU104]; exact Xi_ne (by omega))))))))
                    have w1327 : 0 ≤ Xi T120 890 1 ∧ Xi T120 890 1 ≤ 5126 := hHT120.c _ _
                    refine l_callV rfl rfl rfl (t_gr_take hHT120 15 ⟨by omega, by omega⟩ (by first | assumption | omega) (by first | assumption | omega) (by first | assumption | omega) _) ?_
                    rintro _ T121 ⟨hHT121, w1333, z1332, rfl, w1332, w1328, w1329, w1330, w1331⟩
                    have hFT121 : FR md_gr_checkOthers S T121 := FR.tr hFT120 w1333 rfl
                    show Rl _ _ _ _ _ [iv z1332] _ _
                    refine l_if_eq rfl rfl (by unfold rg; omega) (fun w1334 => ?_) (fun w1335 => ?_)
                    · refine l_iconst rfl ?_
                      refine l_ireturn rfl rfl ?_
                      have w1336 : Xi T121 890 2 = Xi U116 890 2 := (show Xi T121 890 2 = Xi T120 890 2 from w1333.x _ _ rfl).trans ( (show Xi T120 890 2 = Xi T119 890 2 from w1320.x _ _ rfl).trans ( (show Xi T119 890 2 = Xi T118 890 2 from w1308.x _ _ rfl).trans ( (show Xi T118 890 2 = Xi T117 890 2 from w1295.x _ _ rfl).trans ((show Xi T117 890 2 = Xi U116 890 2 from w1282.x _ _ rfl)))))
                      have w1337 : 0 ≤ Xi U116 890 2 ∧ Xi U116 890 2 ≤ 20 := hHU116.c _ _
                      exact ⟨hHT121, hFT121, _, rfl, ⟨by omega, by omega⟩, (by first | assumption | omega)⟩
                    · refine l_aload_n rfl rfl ?_
                      have w1338 : Xi T121 876 7 = Xi S 876 7 := (show Xi T121 876 7 = Xi T120 876 7 from w1333.x _ _ rfl).trans ( (show Xi T120 876 7 = Xi T119 876 7 from w1320.x _ _ rfl).trans ( (show Xi T119 876 7 = Xi T118 876 7 from w1308.x _ _ rfl).trans ( (show Xi T118 876 7 = Xi T117 876 7 from w1295.x _ _ rfl).trans ( (show Xi T117 876 7 = Xi U116 876 7 from w1282.x _ _ rfl).trans ( (show Xi U116 876 7 = Xi U105 876 7 from by rw [eU116]; exact Xi_ne (by omega)).trans ( (show Xi U105 876 7 = Xi U104 876 7 from by rw [eU105]; exact Xi_ne (by omega)).trans ((show Xi U104 876 7 = Xi S 876 7 from by rw [eU104]; exact Xi_ne (by omega)))))))))
                      have w1340 : 0 ≤ Xi T121 890 1 ∧ Xi T121 890 1 ≤ 5126 := hHT121.c _ _
                      refine l_callV rfl rfl rfl (t_gr_takeRun hHT121 (by first | assumption | omega) (by first | assumption | omega) _) ?_
                      rintro _ T122 ⟨hHT122, w1345, z1344, rfl, w1344, w1341, w1342, w1343⟩
                      have hFT122 : FR md_gr_checkOthers S T122 := FR.tr hFT121 w1345 rfl
                      show Rl _ _ _ _ _ [iv z1344] _ _
                      refine l_if_eq rfl rfl (by unfold rg; omega) (fun w1346 => ?_) (fun w1347 => ?_)
                      · refine l_iconst rfl ?_
                        refine l_ireturn rfl rfl ?_
                        have w1348 : Xi T122 890 2 = Xi U116 890 2 := (show Xi T122 890 2 = Xi T121 890 2 from w1345.x _ _ rfl).trans ( (show Xi T121 890 2 = Xi T120 890 2 from w1333.x _ _ rfl).trans ( (show Xi T120 890 2 = Xi T119 890 2 from w1320.x _ _ rfl).trans ( (show Xi T119 890 2 = Xi T118 890 2 from w1308.x _ _ rfl).trans ( (show Xi T118 890 2 = Xi T117 890 2 from w1295.x _ _ rfl).trans ((show Xi T117 890 2 = Xi U116 890 2 from w1282.x _ _ rfl))))))
                        have w1349 : 0 ≤ Xi U116 890 2 ∧ Xi U116 890 2 ≤ 20 := hHU116.c _ _
                        exact ⟨hHT122, hFT122, _, rfl, ⟨by omega, by omega⟩, (by first | assumption | omega)⟩
                      · refine l_aload_n rfl rfl ?_
                        refine l_bipush rfl rfl ?_
                        have w1350 : Xi T122 876 7 = Xi S 876 7 := (show Xi T122 876 7 = Xi T121 876 7 from w1345.x _ _ rfl).trans ( (show Xi T121 876 7 = Xi T120 876 7 from w1333.x _ _ rfl).trans ( (show Xi T120 876 7 = Xi T119 876 7 from w1320.x _ _ rfl).trans ( (show Xi T119 876 7 = Xi T118 876 7 from w1308.x _ _ rfl).trans ( (show Xi T118 876 7 = Xi T117 876 7 from w1295.x _ _ rfl).trans ( (show Xi T117 876 7 = Xi U116 876 7 from w1282.x _ _ rfl).trans ( (show Xi U116 876 7 = Xi U105 876 7 from by rw [eU116]; exact Xi_ne (by omega)).trans ( (show Xi U105 876 7 = Xi U104 876 7 from by rw [eU105]; exact Xi_ne (by omega)).trans ((show Xi U104 876 7 = Xi S 876 7 from by rw [eU104]; exact Xi_ne (by omega))))))))))
                        have w1352 : 0 ≤ Xi T122 890 1 ∧ Xi T122 890 1 ≤ 5126 := hHT122.c _ _
                        refine l_callV rfl rfl rfl (t_gr_take hHT122 103 ⟨by omega, by omega⟩ (by first | assumption | omega) (by first | assumption | omega) (by first | assumption | omega) _) ?_
                        rintro _ T123 ⟨hHT123, w1358, z1357, rfl, w1357, w1353, w1354, w1355, w1356⟩
                        have hFT123 : FR md_gr_checkOthers S T123 := FR.tr hFT122 w1358 rfl
                        show Rl _ _ _ _ _ [iv z1357] _ _
                        refine l_if_eq rfl rfl (by unfold rg; omega) (fun w1359 => ?_) (fun w1360 => ?_)
                        · refine l_iconst rfl ?_
                          refine l_ireturn rfl rfl ?_
                          have w1361 : Xi T123 890 2 = Xi U116 890 2 := (show Xi T123 890 2 = Xi T122 890 2 from w1358.x _ _ rfl).trans ( (show Xi T122 890 2 = Xi T121 890 2 from w1345.x _ _ rfl).trans ( (show Xi T121 890 2 = Xi T120 890 2 from w1333.x _ _ rfl).trans ( (show Xi T120 890 2 = Xi T119 890 2 from w1320.x _ _ rfl).trans ( (show Xi T119 890 2 = Xi T118 890 2 from w1308.x _ _ rfl).trans ( (show Xi T118 890 2 = Xi T117 890 2 from w1295.x _ _ rfl).trans ((show Xi T117 890 2 = Xi U116 890 2 from w1282.x _ _ rfl)))))))
                          have w1362 : 0 ≤ Xi U116 890 2 ∧ Xi U116 890 2 ≤ 20 := hHU116.c _ _
                          exact ⟨hHT123, hFT123, _, rfl, ⟨by omega, by omega⟩, (by first | assumption | omega)⟩
                        · refine l_iconst rfl ?_
                          refine l_goto rfl rfl ?_
                          refine l_ireturn rfl rfl ?_
                          have w1363 : Xi T123 890 2 = Xi U116 890 2 := (show Xi T123 890 2 = Xi T122 890 2 from w1358.x _ _ rfl).trans ( (show Xi T122 890 2 = Xi T121 890 2 from w1345.x _ _ rfl).trans ( (show Xi T121 890 2 = Xi T120 890 2 from w1333.x _ _ rfl).trans ( (show Xi T120 890 2 = Xi T119 890 2 from w1320.x _ _ rfl).trans ( (show Xi T119 890 2 = Xi T118 890 2 from w1308.x _ _ rfl).trans ( (show Xi T118 890 2 = Xi T117 890 2 from w1295.x _ _ rfl).trans ((show Xi T117 890 2 = Xi U116 890 2 from w1282.x _ _ rfl)))))))
                          have w1364 : 0 ≤ Xi U116 890 2 ∧ Xi U116 890 2 ≤ 20 := hHU116.c _ _
                          exact ⟨hHT123, hFT123, _, rfl, ⟨by omega, by omega⟩, (by first | assumption | omega)⟩
          refine And.intro (fun w1365 => ⟨_, rfl, ?_⟩) (fun w1366 => ?_)
          · refine l_aload_n rfl rfl ?_
            refine l_bipush rfl rfl ?_
            refine l_pfi rfl rfl rfl rfl ?_
            obtain ⟨U124, eU124⟩ : ∃ T : sS, T = uI U105 890 2 (Int32.ofInt 19) := ⟨_, rfl⟩
            rw [← eU124]
            have hHU124 : HI U124 := by rw [eU124]; exact HI_w hHU105 (show 0 ≤ 19 by omega) (show 19 ≤ 20 by omega)
            have hFU124 : FR md_gr_checkOthers S U124 := by rw [eU124]; exact FR.wI hFU105 (mdf_i (r := (890, 891, 2, 3)) (List.mem_of_getElem? (i := 1) rfl) (inR_i (by omega) (by omega) (by omega) (by omega)))
            have w1367 : Xi U124 890 2 = 19 := by rw [eU124]; exact Xi_same (by unfold rg; omega)
            have hso404 : SAY U124 (Xi U124 890 1) := SAY_sort eU124 (by assumption) (by decide)
            refine l_aload_n rfl rfl ?_
            have w1368 : Xi U124 876 7 = Xi S 876 7 := (show Xi U124 876 7 = Xi U105 876 7 from by rw [eU124]; exact Xi_ne (by omega)).trans ( (show Xi U105 876 7 = Xi U104 876 7 from by rw [eU105]; exact Xi_ne (by omega)).trans ((show Xi U104 876 7 = Xi S 876 7 from by rw [eU104]; exact Xi_ne (by omega))))
            have w1370 : Xi U124 890 1 = Xi U104 890 1 := (show Xi U124 890 1 = Xi U105 890 1 from by rw [eU124]; exact Xi_ne (by omega)).trans ((show Xi U105 890 1 = Xi U104 890 1 from by rw [eU105]; exact Xi_ne (by omega)))
            have w1371 : 0 ≤ Xi U104 890 1 ∧ Xi U104 890 1 ≤ 5126 := hHU104.c _ _
            refine l_callV rfl rfl rfl (t_gr_takeName hHU124 (by first | assumption | omega) (by first | assumption | omega) _) ?_
            rintro _ T125 ⟨hHT125, w1375, z1374, rfl, w1374, w1372, w1373⟩
            have hFT125 : FR md_gr_checkOthers S T125 := FR.tr hFU124 w1375 rfl
            show Rl _ _ _ _ _ [iv z1374] _ _
            refine l_if_eq rfl rfl (by unfold rg; omega) (fun w1376 => ?_) (fun w1377 => ?_)
            · refine l_iconst rfl ?_
              refine l_ireturn rfl rfl ?_
              have w1378 : Xi T125 890 2 = Xi U124 890 2 := (show Xi T125 890 2 = Xi U124 890 2 from w1375.x _ _ rfl)
              have w1379 : 0 ≤ Xi U124 890 2 ∧ Xi U124 890 2 ≤ 20 := hHU124.c _ _
              exact ⟨hHT125, hFT125, _, rfl, ⟨by omega, by omega⟩, (by first | assumption | omega)⟩
            · refine l_aload_n rfl rfl ?_
              refine l_bipush rfl rfl ?_
              have w1380 : Xi T125 876 7 = Xi S 876 7 := (show Xi T125 876 7 = Xi U124 876 7 from w1375.x _ _ rfl).trans ( (show Xi U124 876 7 = Xi U105 876 7 from by rw [eU124]; exact Xi_ne (by omega)).trans ( (show Xi U105 876 7 = Xi U104 876 7 from by rw [eU105]; exact Xi_ne (by omega)).trans ((show Xi U104 876 7 = Xi S 876 7 from by rw [eU104]; exact Xi_ne (by omega)))))
              have w1382 : 0 ≤ Xi T125 890 1 ∧ Xi T125 890 1 ≤ 5126 := hHT125.c _ _
              refine l_callV rfl rfl rfl (t_gr_take hHT125 21 ⟨by omega, by omega⟩ (by first | assumption | omega) (by first | assumption | omega) (by first | assumption | omega) _) ?_
              rintro _ T126 ⟨hHT126, w1388, z1387, rfl, w1387, w1383, w1384, w1385, w1386⟩
              have hFT126 : FR md_gr_checkOthers S T126 := FR.tr hFT125 w1388 rfl
              show Rl _ _ _ _ _ [iv z1387] _ _
              refine l_if_eq rfl rfl (by unfold rg; omega) (fun w1389 => ?_) (fun w1390 => ?_)
              · refine l_iconst rfl ?_
                refine l_ireturn rfl rfl ?_
                have w1391 : Xi T126 890 2 = Xi U124 890 2 := (show Xi T126 890 2 = Xi T125 890 2 from w1388.x _ _ rfl).trans ((show Xi T125 890 2 = Xi U124 890 2 from w1375.x _ _ rfl))
                have w1392 : 0 ≤ Xi U124 890 2 ∧ Xi U124 890 2 ≤ 20 := hHU124.c _ _
                exact ⟨hHT126, hFT126, _, rfl, ⟨by omega, by omega⟩, (by first | assumption | omega)⟩
              · refine l_aload_n rfl rfl ?_
                have w1393 : Xi T126 876 7 = Xi S 876 7 := (show Xi T126 876 7 = Xi T125 876 7 from w1388.x _ _ rfl).trans ( (show Xi T125 876 7 = Xi U124 876 7 from w1375.x _ _ rfl).trans ( (show Xi U124 876 7 = Xi U105 876 7 from by rw [eU124]; exact Xi_ne (by omega)).trans ( (show Xi U105 876 7 = Xi U104 876 7 from by rw [eU105]; exact Xi_ne (by omega)).trans ((show Xi U104 876 7 = Xi S 876 7 from by rw [eU104]; exact Xi_ne (by omega))))))
                have w1395 : 0 ≤ Xi T126 890 1 ∧ Xi T126 890 1 ≤ 5126 := hHT126.c _ _
                refine l_callV rfl rfl rfl (t_gr_takeHowMany hHT126 (by first | assumption | omega) (by first | assumption | omega) _) ?_
                rintro _ T127 ⟨hHT127, w1399, z1398, rfl, w1398, w1396, w1397⟩
                have hFT127 : FR md_gr_checkOthers S T127 := FR.tr hFT126 w1399 rfl
                show Rl _ _ _ _ _ [iv z1398] _ _
                refine l_if_eq rfl rfl (by unfold rg; omega) (fun w1400 => ?_) (fun w1401 => ?_)
                · refine l_iconst rfl ?_
                  refine l_ireturn rfl rfl ?_
                  have w1402 : Xi T127 890 2 = Xi U124 890 2 := (show Xi T127 890 2 = Xi T126 890 2 from w1399.x _ _ rfl).trans ( (show Xi T126 890 2 = Xi T125 890 2 from w1388.x _ _ rfl).trans ((show Xi T125 890 2 = Xi U124 890 2 from w1375.x _ _ rfl)))
                  have w1403 : 0 ≤ Xi U124 890 2 ∧ Xi U124 890 2 ≤ 20 := hHU124.c _ _
                  exact ⟨hHT127, hFT127, _, rfl, ⟨by omega, by omega⟩, (by first | assumption | omega)⟩
                · refine l_aload_n rfl rfl ?_
                  have w1404 : Xi T127 876 7 = Xi S 876 7 := (show Xi T127 876 7 = Xi T126 876 7 from w1399.x _ _ rfl).trans ( (show Xi T126 876 7 = Xi T125 876 7 from w1388.x _ _ rfl).trans ( (show Xi T125 876 7 = Xi U124 876 7 from w1375.x _ _ rfl).trans ( (show Xi U124 876 7 = Xi U105 876 7 from by rw [eU124]; exact Xi_ne (by omega)).trans ( (show Xi U105 876 7 = Xi U104 876 7 from by rw [eU105]; exact Xi_ne (by omega)).trans ((show Xi U104 876 7 = Xi S 876 7 from by rw [eU104]; exact Xi_ne (by omega)))))))
                  have w1406 : 0 ≤ Xi T127 890 1 ∧ Xi T127 890 1 ≤ 5126 := hHT127.c _ _
                  refine l_callV rfl rfl rfl (t_gr_takeRun hHT127 (by first | assumption | omega) (by first | assumption | omega) _) ?_
                  rintro _ T128 ⟨hHT128, w1411, z1410, rfl, w1410, w1407, w1408, w1409⟩
                  have hFT128 : FR md_gr_checkOthers S T128 := FR.tr hFT127 w1411 rfl
                  show Rl _ _ _ _ _ [iv z1410] _ _
                  refine l_if_eq rfl rfl (by unfold rg; omega) (fun w1412 => ?_) (fun w1413 => ?_)
                  · refine l_iconst rfl ?_
                    refine l_ireturn rfl rfl ?_
                    have w1414 : Xi T128 890 2 = Xi U124 890 2 := (show Xi T128 890 2 = Xi T127 890 2 from w1411.x _ _ rfl).trans ( (show Xi T127 890 2 = Xi T126 890 2 from w1399.x _ _ rfl).trans ( (show Xi T126 890 2 = Xi T125 890 2 from w1388.x _ _ rfl).trans ((show Xi T125 890 2 = Xi U124 890 2 from w1375.x _ _ rfl))))
                    have w1415 : 0 ≤ Xi U124 890 2 ∧ Xi U124 890 2 ≤ 20 := hHU124.c _ _
                    exact ⟨hHT128, hFT128, _, rfl, ⟨by omega, by omega⟩, (by first | assumption | omega)⟩
                  · refine l_aload_n rfl rfl ?_
                    refine l_bipush rfl rfl ?_
                    have w1416 : Xi T128 876 7 = Xi S 876 7 := (show Xi T128 876 7 = Xi T127 876 7 from w1411.x _ _ rfl).trans ( (show Xi T127 876 7 = Xi T126 876 7 from w1399.x _ _ rfl).trans ( (show Xi T126 876 7 = Xi T125 876 7 from w1388.x _ _ rfl).trans ( (show Xi T125 876 7 = Xi U124 876 7 from w1375.x _ _ rfl).trans ( (show Xi U124 876 7 = Xi U105 876 7 from by rw [eU124]; exact Xi_ne (by omega)).trans ( (show Xi U105 876 7 = Xi U104 876 7 from by rw [eU105]; exact Xi_ne (by omega)).trans ((show Xi U104 876 7 = Xi S 876 7 from by rw [eU104]; exact Xi_ne (by omega))))))))
                    have w1418 : 0 ≤ Xi T128 890 1 ∧ Xi T128 890 1 ≤ 5126 := hHT128.c _ _
                    refine l_callV rfl rfl rfl (t_gr_take hHT128 11 ⟨by omega, by omega⟩ (by first | assumption | omega) (by first | assumption | omega) (by first | assumption | omega) _) ?_
                    rintro _ T129 ⟨hHT129, w1424, z1423, rfl, w1423, w1419, w1420, w1421, w1422⟩
                    have hFT129 : FR md_gr_checkOthers S T129 := FR.tr hFT128 w1424 rfl
                    show Rl _ _ _ _ _ [iv z1423] _ _
                    refine l_if_eq rfl rfl (by unfold rg; omega) (fun w1425 => ?_) (fun w1426 => ?_)
                    · refine l_iconst rfl ?_
                      refine l_ireturn rfl rfl ?_
                      have w1427 : Xi T129 890 2 = Xi U124 890 2 := (show Xi T129 890 2 = Xi T128 890 2 from w1424.x _ _ rfl).trans ( (show Xi T128 890 2 = Xi T127 890 2 from w1411.x _ _ rfl).trans ( (show Xi T127 890 2 = Xi T126 890 2 from w1399.x _ _ rfl).trans ( (show Xi T126 890 2 = Xi T125 890 2 from w1388.x _ _ rfl).trans ((show Xi T125 890 2 = Xi U124 890 2 from w1375.x _ _ rfl)))))
                      have w1428 : 0 ≤ Xi U124 890 2 ∧ Xi U124 890 2 ≤ 20 := hHU124.c _ _
                      exact ⟨hHT129, hFT129, _, rfl, ⟨by omega, by omega⟩, (by first | assumption | omega)⟩
                    · refine l_aload_n rfl rfl ?_
                      have w1429 : Xi T129 876 7 = Xi S 876 7 := (show Xi T129 876 7 = Xi T128 876 7 from w1424.x _ _ rfl).trans ( (show Xi T128 876 7 = Xi T127 876 7 from w1411.x _ _ rfl).trans ( (show Xi T127 876 7 = Xi T126 876 7 from w1399.x _ _ rfl).trans ( (show Xi T126 876 7 = Xi T125 876 7 from w1388.x _ _ rfl).trans ( (show Xi T125 876 7 = Xi U124 876 7 from w1375.x _ _ rfl).trans ( (show Xi U124 876 7 = Xi U105 876 7 from by rw [eU124]; exact Xi_ne (by omega)).trans ( (show Xi U105 876 7 = Xi U104 876 7 from by rw [eU105]; exact Xi_ne (by omega)).trans ((show Xi U104 876 7 = Xi S 876 7 from by rw [eU104]; exact Xi_ne (by omega)))))))))
                      have w1431 : 0 ≤ Xi T129 890 1 ∧ Xi T129 890 1 ≤ 5126 := hHT129.c _ _
                      refine l_callV rfl rfl rfl (t_gr_takeHowMany hHT129 (by first | assumption | omega) (by first | assumption | omega) _) ?_
                      rintro _ T130 ⟨hHT130, w1435, z1434, rfl, w1434, w1432, w1433⟩
                      have hFT130 : FR md_gr_checkOthers S T130 := FR.tr hFT129 w1435 rfl
                      show Rl _ _ _ _ _ [iv z1434] _ _
                      refine l_if_eq rfl rfl (by unfold rg; omega) (fun w1436 => ?_) (fun w1437 => ?_)
                      · refine l_iconst rfl ?_
                        refine l_ireturn rfl rfl ?_
                        have w1438 : Xi T130 890 2 = Xi U124 890 2 := (show Xi T130 890 2 = Xi T129 890 2 from w1435.x _ _ rfl).trans ( (show Xi T129 890 2 = Xi T128 890 2 from w1424.x _ _ rfl).trans ( (show Xi T128 890 2 = Xi T127 890 2 from w1411.x _ _ rfl).trans ( (show Xi T127 890 2 = Xi T126 890 2 from w1399.x _ _ rfl).trans ( (show Xi T126 890 2 = Xi T125 890 2 from w1388.x _ _ rfl).trans ((show Xi T125 890 2 = Xi U124 890 2 from w1375.x _ _ rfl))))))
                        have w1439 : 0 ≤ Xi U124 890 2 ∧ Xi U124 890 2 ≤ 20 := hHU124.c _ _
                        exact ⟨hHT130, hFT130, _, rfl, ⟨by omega, by omega⟩, (by first | assumption | omega)⟩
                      · refine l_aload_n rfl rfl ?_
                        have w1440 : Xi T130 876 7 = Xi S 876 7 := (show Xi T130 876 7 = Xi T129 876 7 from w1435.x _ _ rfl).trans ( (show Xi T129 876 7 = Xi T128 876 7 from w1424.x _ _ rfl).trans ( (show Xi T128 876 7 = Xi T127 876 7 from w1411.x _ _ rfl).trans ( (show Xi T127 876 7 = Xi T126 876 7 from w1399.x _ _ rfl).trans ( (show Xi T126 876 7 = Xi T125 876 7 from w1388.x _ _ rfl).trans ( (show Xi T125 876 7 = Xi U124 876 7 from w1375.x _ _ rfl).trans ( (show Xi U124 876 7 = Xi U105 876 7 from by rw [eU124]; exact Xi_ne (by omega)).trans ( (show Xi U105 876 7 = Xi U104 876 7 from by rw [eU105]; exact Xi_ne (by omega)).trans ((show Xi U104 876 7 = Xi S 876 7 from by rw [eU104]; exact Xi_ne (by omega))))))))))
                        have w1442 : 0 ≤ Xi T130 890 1 ∧ Xi T130 890 1 ≤ 5126 := hHT130.c _ _
                        refine l_callV rfl rfl rfl (t_gr_takeRun hHT130 (by first | assumption | omega) (by first | assumption | omega) _) ?_
                        rintro _ T131 ⟨hHT131, w1447, z1446, rfl, w1446, w1443, w1444, w1445⟩
                        have hFT131 : FR md_gr_checkOthers S T131 := FR.tr hFT130 w1447 rfl
                        show Rl _ _ _ _ _ [iv z1446] _ _
                        refine l_if_eq rfl rfl (by unfold rg; omega) (fun w1448 => ?_) (fun w1449 => ?_)
                        · refine l_iconst rfl ?_
                          refine l_ireturn rfl rfl ?_
                          have w1450 : Xi T131 890 2 = Xi U124 890 2 := (show Xi T131 890 2 = Xi T130 890 2 from w1447.x _ _ rfl).trans ( (show Xi T130 890 2 = Xi T129 890 2 from w1435.x _ _ rfl).trans ( (show Xi T129 890 2 = Xi T128 890 2 from w1424.x _ _ rfl).trans ( (show Xi T128 890 2 = Xi T127 890 2 from w1411.x _ _ rfl).trans ( (show Xi T127 890 2 = Xi T126 890 2 from w1399.x _ _ rfl).trans ( (show Xi T126 890 2 = Xi T125 890 2 from w1388.x _ _ rfl).trans ((show Xi T125 890 2 = Xi U124 890 2 from w1375.x _ _ rfl)))))))
                          have w1451 : 0 ≤ Xi U124 890 2 ∧ Xi U124 890 2 ≤ 20 := hHU124.c _ _
                          exact ⟨hHT131, hFT131, _, rfl, ⟨by omega, by omega⟩, (by first | assumption | omega)⟩
                        · refine l_aload_n rfl rfl ?_
                          refine l_bipush rfl rfl ?_
                          have w1452 : Xi T131 876 7 = Xi S 876 7 := (show Xi T131 876 7 = Xi T130 876 7 from w1447.x _ _ rfl).trans ( (show Xi T130 876 7 = Xi T129 876 7 from w1435.x _ _ rfl).trans ( (show Xi T129 876 7 = Xi T128 876 7 from w1424.x _ _ rfl).trans ( (show Xi T128 876 7 = Xi T127 876 7 from w1411.x _ _ rfl).trans ( (show Xi T127 876 7 = Xi T126 876 7 from w1399.x _ _ rfl).trans ( (show Xi T126 876 7 = Xi T125 876 7 from w1388.x _ _ rfl).trans ( (show Xi T125 876 7 = Xi U124 876 7 from w1375.x _ _ rfl).trans ( (show Xi U124 876 7 = Xi U105 876 7 from by rw [eU124]; exact Xi_ne (by omega)).trans ( (show Xi U105 876 7 = Xi U104 876 7 from by rw [eU105]; exact Xi_ne (by omega)).trans ((show Xi U104 876 7 = Xi S 876 7 from by rw [eU104]; exact Xi_ne (by omega)))))))))))
                          have w1454 : 0 ≤ Xi T131 890 1 ∧ Xi T131 890 1 ≤ 5126 := hHT131.c _ _
                          refine l_callV rfl rfl rfl (t_gr_take hHT131 103 ⟨by omega, by omega⟩ (by first | assumption | omega) (by first | assumption | omega) (by first | assumption | omega) _) ?_
                          rintro _ T132 ⟨hHT132, w1460, z1459, rfl, w1459, w1455, w1456, w1457, w1458⟩
                          have hFT132 : FR md_gr_checkOthers S T132 := FR.tr hFT131 w1460 rfl
                          show Rl _ _ _ _ _ [iv z1459] _ _
                          refine l_if_eq rfl rfl (by unfold rg; omega) (fun w1461 => ?_) (fun w1462 => ?_)
                          · refine l_iconst rfl ?_
                            refine l_ireturn rfl rfl ?_
                            have w1463 : Xi T132 890 2 = Xi U124 890 2 := (show Xi T132 890 2 = Xi T131 890 2 from w1460.x _ _ rfl).trans ( (show Xi T131 890 2 = Xi T130 890 2 from w1447.x _ _ rfl).trans ( (show Xi T130 890 2 = Xi T129 890 2 from w1435.x _ _ rfl).trans ( (show Xi T129 890 2 = Xi T128 890 2 from w1424.x _ _ rfl).trans ( (show Xi T128 890 2 = Xi T127 890 2 from w1411.x _ _ rfl).trans ( (show Xi T127 890 2 = Xi T126 890 2 from w1399.x _ _ rfl).trans ( (show Xi T126 890 2 = Xi T125 890 2 from w1388.x _ _ rfl).trans ((show Xi T125 890 2 = Xi U124 890 2 from w1375.x _ _ rfl))))))))
                            have w1464 : 0 ≤ Xi U124 890 2 ∧ Xi U124 890 2 ≤ 20 := hHU124.c _ _
                            exact ⟨hHT132, hFT132, _, rfl, ⟨by omega, by omega⟩, (by first | assumption | omega)⟩
                          · refine l_iconst rfl ?_
                            refine l_goto rfl rfl ?_
                            refine l_ireturn rfl rfl ?_
                            have w1465 : Xi T132 890 2 = Xi U124 890 2 := (show Xi T132 890 2 = Xi T131 890 2 from w1460.x _ _ rfl).trans ( (show Xi T131 890 2 = Xi T130 890 2 from w1447.x _ _ rfl).trans ( (show Xi T130 890 2 = Xi T129 890 2 from w1435.x _ _ rfl).trans ( (show Xi T129 890 2 = Xi T128 890 2 from w1424.x _ _ rfl).trans ( (show Xi T128 890 2 = Xi T127 890 2 from w1411.x _ _ rfl).trans ( (show Xi T127 890 2 = Xi T126 890 2 from w1399.x _ _ rfl).trans ( (show Xi T126 890 2 = Xi T125 890 2 from w1388.x _ _ rfl).trans ((show Xi T125 890 2 = Xi U124 890 2 from w1375.x _ _ rfl))))))))
                            have w1466 : 0 ≤ Xi U124 890 2 ∧ Xi U124 890 2 ≤ 20 := hHU124.c _ _
                            exact ⟨hHT132, hFT132, _, rfl, ⟨by omega, by omega⟩, (by first | assumption | omega)⟩
          refine ⟨_, rfl, ?_⟩
          refine l_aload_n rfl rfl ?_
          refine l_bipush rfl rfl ?_
          refine l_pfi rfl rfl rfl rfl ?_
          obtain ⟨U133, eU133⟩ : ∃ T : sS, T = uI U105 890 2 (Int32.ofInt 20) := ⟨_, rfl⟩
          rw [← eU133]
          have hHU133 : HI U133 := by rw [eU133]; exact HI_w hHU105 (show 0 ≤ 20 by omega) (show 20 ≤ 20 by omega)
          have hFU133 : FR md_gr_checkOthers S U133 := by rw [eU133]; exact FR.wI hFU105 (mdf_i (r := (890, 891, 2, 3)) (List.mem_of_getElem? (i := 1) rfl) (inR_i (by omega) (by omega) (by omega) (by omega)))
          have w1467 : Xi U133 890 2 = 20 := by rw [eU133]; exact Xi_same (by unfold rg; omega)
          have hso478 : SAY U133 (Xi U133 890 1) := SAY_sort eU133 (by assumption) (by decide)
          refine l_aload_n rfl rfl ?_
          refine l_bipush rfl rfl ?_
          refine l_bipush rfl rfl ?_
          have w1468 : Xi U133 876 7 = Xi S 876 7 := (show Xi U133 876 7 = Xi U105 876 7 from by rw [eU133]; exact Xi_ne (by omega)).trans ( (show Xi U105 876 7 = Xi U104 876 7 from by rw [eU105]; exact Xi_ne (by omega)).trans ((show Xi U104 876 7 = Xi S 876 7 from by rw [eU104]; exact Xi_ne (by omega))))
          have w1470 : Xi U133 890 1 = Xi U104 890 1 := (show Xi U133 890 1 = Xi U105 890 1 from by rw [eU133]; exact Xi_ne (by omega)).trans ((show Xi U105 890 1 = Xi U104 890 1 from by rw [eU105]; exact Xi_ne (by omega)))
          have w1471 : 0 ≤ Xi U104 890 1 ∧ Xi U104 890 1 ≤ 5126 := hHU104.c _ _
          refine l_callV rfl rfl rfl (t_gr_takeLoose hHU133 16 104 ⟨by omega, by omega⟩ ⟨by omega, by omega⟩ (by first | assumption | omega) (by first | assumption | omega) (by first | assumption | omega) (by first | assumption | omega) _) ?_
          rintro _ T134 ⟨hHT134, w1475, z1474, rfl, w1474, w1472, w1473⟩
          have hFT134 : FR md_gr_checkOthers S T134 := FR.tr hFU133 w1475 rfl
          show Rl _ _ _ _ _ [iv z1474] _ _
          refine l_if_eq rfl rfl (by unfold rg; omega) (fun w1476 => ?_) (fun w1477 => ?_)
          · refine l_iconst rfl ?_
            refine l_ireturn rfl rfl ?_
            have w1478 : Xi T134 890 2 = Xi U133 890 2 := (show Xi T134 890 2 = Xi U133 890 2 from w1475.x _ _ rfl)
            have w1479 : 0 ≤ Xi U133 890 2 ∧ Xi U133 890 2 ≤ 20 := hHU133.c _ _
            exact ⟨hHT134, hFT134, _, rfl, ⟨by omega, by omega⟩, (by first | assumption | omega)⟩
          · refine l_aload_n rfl rfl ?_
            refine l_bipush rfl rfl ?_
            have w1480 : Xi T134 876 7 = Xi S 876 7 := (show Xi T134 876 7 = Xi U133 876 7 from w1475.x _ _ rfl).trans ( (show Xi U133 876 7 = Xi U105 876 7 from by rw [eU133]; exact Xi_ne (by omega)).trans ( (show Xi U105 876 7 = Xi U104 876 7 from by rw [eU105]; exact Xi_ne (by omega)).trans ((show Xi U104 876 7 = Xi S 876 7 from by rw [eU104]; exact Xi_ne (by omega)))))
            have w1482 : 0 ≤ Xi T134 890 1 ∧ Xi T134 890 1 ≤ 5126 := hHT134.c _ _
            refine l_callV rfl rfl rfl (t_gr_take hHT134 103 ⟨by omega, by omega⟩ (by first | assumption | omega) (by first | assumption | omega) (by first | assumption | omega) _) ?_
            rintro _ T135 ⟨hHT135, w1488, z1487, rfl, w1487, w1483, w1484, w1485, w1486⟩
            have hFT135 : FR md_gr_checkOthers S T135 := FR.tr hFT134 w1488 rfl
            show Rl _ _ _ _ _ [iv z1487] _ _
            refine l_if_eq rfl rfl (by unfold rg; omega) (fun w1489 => ?_) (fun w1490 => ?_)
            · refine l_iconst rfl ?_
              refine l_ireturn rfl rfl ?_
              have w1491 : Xi T135 890 2 = Xi U133 890 2 := (show Xi T135 890 2 = Xi T134 890 2 from w1488.x _ _ rfl).trans ((show Xi T134 890 2 = Xi U133 890 2 from w1475.x _ _ rfl))
              have w1492 : 0 ≤ Xi U133 890 2 ∧ Xi U133 890 2 ≤ 20 := hHU133.c _ _
              exact ⟨hHT135, hFT135, _, rfl, ⟨by omega, by omega⟩, (by first | assumption | omega)⟩
            · refine l_iconst rfl ?_
              refine l_goto rfl rfl ?_
              refine l_ireturn rfl rfl ?_
              have w1493 : Xi T135 890 2 = Xi U133 890 2 := (show Xi T135 890 2 = Xi T134 890 2 from w1488.x _ _ rfl).trans ((show Xi T134 890 2 = Xi U133 890 2 from w1475.x _ _ rfl))
              have w1494 : 0 ≤ Xi U133 890 2 ∧ Xi U133 890 2 ≤ 20 := hHU133.c _ _
              exact ⟨hHT135, hFT135, _, rfl, ⟨by omega, by omega⟩, (by first | assumption | omega)⟩
        · refine l_aload_n rfl rfl ?_
          refine l_bipush rfl rfl ?_
          refine l_pfi rfl rfl rfl rfl ?_
          obtain ⟨U136, eU136⟩ : ∃ T : sS, T = uI S 890 2 (Int32.ofInt 8) := ⟨_, rfl⟩
          rw [← eU136]
          have hHU136 : HI U136 := by rw [eU136]; exact HI_w hH (show 0 ≤ 8 by omega) (show 8 ≤ 20 by omega)
          have hFU136 : FR md_gr_checkOthers S U136 := by rw [eU136]; exact FR.wI hF (mdf_i (r := (890, 891, 2, 3)) (List.mem_of_getElem? (i := 1) rfl) (inR_i (by omega) (by omega) (by omega) (by omega)))
          have w1495 : Xi U136 890 2 = 8 := by rw [eU136]; exact Xi_same (by unfold rg; omega)
          refine l_aload_n rfl rfl ?_
          refine l_iconst rfl ?_
          refine l_pfi rfl rfl rfl rfl ?_
          obtain ⟨U137, eU137⟩ : ∃ T : sS, T = uI U136 890 1 (Int32.ofInt 2) := ⟨_, rfl⟩
          rw [← eU137]
          have hHU137 : HI U137 := by rw [eU137]; exact HI_w hHU136 (show 0 ≤ 2 by omega) (show 2 ≤ 5126 by omega)
          have hFU137 : FR md_gr_checkOthers S U137 := by rw [eU137]; exact FR.wI hFU136 (mdf_i (r := (890, 891, 1, 2)) (List.mem_of_getElem? (i := 0) rfl) (inR_i (by omega) (by omega) (by omega) (by omega)))
          have w1496 : Xi U137 890 1 = 2 := by rw [eU137]; exact Xi_same (by unfold rg; omega)
          have hs133 : SAY U137 (Xi U137 890 1) := SAY_v2 (by omega) (m877 hFU137 rfl) (by omega) (by omega)
          refine l_aload_n rfl rfl ?_
          refine l_bipush rfl rfl ?_
          have w1497 : Xi U137 876 7 = Xi S 876 7 := (show Xi U137 876 7 = Xi U136 876 7 from by rw [eU137]; exact Xi_ne (by omega)).trans ((show Xi U136 876 7 = Xi S 876 7 from by rw [eU136]; exact Xi_ne (by omega)))
          have w1499 : 0 ≤ Xi U137 890 1 ∧ Xi U137 890 1 ≤ 5126 := hHU137.c _ _
          refine l_callV rfl rfl rfl (t_gr_take hHU137 7 ⟨by omega, by omega⟩ (by first | assumption | omega) (by first | assumption | omega) (by first | assumption | omega) _) ?_
          rintro _ T138 ⟨hHT138, w1505, z1504, rfl, w1504, w1500, w1501, w1502, w1503⟩
          have hFT138 : FR md_gr_checkOthers S T138 := FR.tr hFU137 w1505 rfl
          show Rl _ _ _ _ _ [iv z1504] _ _
          refine l_if_eq rfl rfl (by unfold rg; omega) (fun w1506 => ?_) (fun w1507 => ?_)
          · refine l_iconst rfl ?_
            refine l_ireturn rfl rfl ?_
            have w1508 : Xi T138 890 2 = Xi U136 890 2 := (show Xi T138 890 2 = Xi U137 890 2 from w1505.x _ _ rfl).trans ((show Xi U137 890 2 = Xi U136 890 2 from by rw [eU137]; exact Xi_ne (by omega)))
            have w1509 : 0 ≤ Xi U136 890 2 ∧ Xi U136 890 2 ≤ 20 := hHU136.c _ _
            exact ⟨hHT138, hFT138, _, rfl, ⟨by omega, by omega⟩, (by first | assumption | omega)⟩
          · refine l_aload_n rfl rfl ?_
            have w1510 : Xi T138 876 7 = Xi S 876 7 := (show Xi T138 876 7 = Xi U137 876 7 from w1505.x _ _ rfl).trans ( (show Xi U137 876 7 = Xi U136 876 7 from by rw [eU137]; exact Xi_ne (by omega)).trans ((show Xi U136 876 7 = Xi S 876 7 from by rw [eU136]; exact Xi_ne (by omega))))
            have w1512 : 0 ≤ Xi T138 890 1 ∧ Xi T138 890 1 ≤ 5126 := hHT138.c _ _
            refine l_callV rfl rfl rfl (t_gr_takeName hHT138 (by first | assumption | omega) (by first | assumption | omega) _) ?_
            rintro _ T139 ⟨hHT139, w1516, z1515, rfl, w1515, w1513, w1514⟩
            have hFT139 : FR md_gr_checkOthers S T139 := FR.tr hFT138 w1516 rfl
            show Rl _ _ _ _ _ [iv z1515] _ _
            refine l_if_eq rfl rfl (by unfold rg; omega) (fun w1517 => ?_) (fun w1518 => ?_)
            · refine l_iconst rfl ?_
              refine l_ireturn rfl rfl ?_
              have w1519 : Xi T139 890 2 = Xi U136 890 2 := (show Xi T139 890 2 = Xi T138 890 2 from w1516.x _ _ rfl).trans ( (show Xi T138 890 2 = Xi U137 890 2 from w1505.x _ _ rfl).trans ((show Xi U137 890 2 = Xi U136 890 2 from by rw [eU137]; exact Xi_ne (by omega))))
              have w1520 : 0 ≤ Xi U136 890 2 ∧ Xi U136 890 2 ≤ 20 := hHU136.c _ _
              exact ⟨hHT139, hFT139, _, rfl, ⟨by omega, by omega⟩, (by first | assumption | omega)⟩
            · refine l_aload_n rfl rfl ?_
              have w1521 : Xi T139 876 7 = Xi S 876 7 := (show Xi T139 876 7 = Xi T138 876 7 from w1516.x _ _ rfl).trans ( (show Xi T138 876 7 = Xi U137 876 7 from w1505.x _ _ rfl).trans ( (show Xi U137 876 7 = Xi U136 876 7 from by rw [eU137]; exact Xi_ne (by omega)).trans ((show Xi U136 876 7 = Xi S 876 7 from by rw [eU136]; exact Xi_ne (by omega)))))
              have w1523 : 0 ≤ Xi T139 890 1 ∧ Xi T139 890 1 ≤ 5126 := hHT139.c _ _
              refine l_callV rfl rfl rfl (t_gr_takeBe hHT139 (by first | assumption | omega) (by first | assumption | omega) _) ?_
              rintro _ T140 ⟨hHT140, w1527, z1526, rfl, w1526, w1524, w1525⟩
              have hFT140 : FR md_gr_checkOthers S T140 := FR.tr hFT139 w1527 rfl
              show Rl _ _ _ _ _ [iv z1526] _ _
              refine l_if_eq rfl rfl (by unfold rg; omega) (fun w1528 => ?_) (fun w1529 => ?_)
              · refine l_iconst rfl ?_
                refine l_ireturn rfl rfl ?_
                have w1530 : Xi T140 890 2 = Xi U136 890 2 := (show Xi T140 890 2 = Xi T139 890 2 from w1527.x _ _ rfl).trans ( (show Xi T139 890 2 = Xi T138 890 2 from w1516.x _ _ rfl).trans ( (show Xi T138 890 2 = Xi U137 890 2 from w1505.x _ _ rfl).trans ((show Xi U137 890 2 = Xi U136 890 2 from by rw [eU137]; exact Xi_ne (by omega)))))
                have w1531 : 0 ≤ Xi U136 890 2 ∧ Xi U136 890 2 ≤ 20 := hHU136.c _ _
                exact ⟨hHT140, hFT140, _, rfl, ⟨by omega, by omega⟩, (by first | assumption | omega)⟩
              · refine l_aload_n rfl rfl ?_
                have w1532 : Xi T140 876 7 = Xi S 876 7 := (show Xi T140 876 7 = Xi T139 876 7 from w1527.x _ _ rfl).trans ( (show Xi T139 876 7 = Xi T138 876 7 from w1516.x _ _ rfl).trans ( (show Xi T138 876 7 = Xi U137 876 7 from w1505.x _ _ rfl).trans ( (show Xi U137 876 7 = Xi U136 876 7 from by rw [eU137]; exact Xi_ne (by omega)).trans ((show Xi U136 876 7 = Xi S 876 7 from by rw [eU136]; exact Xi_ne (by omega))))))
                have w1534 : 0 ≤ Xi T140 890 1 ∧ Xi T140 890 1 ≤ 5126 := hHT140.c _ _
                refine l_callV rfl rfl rfl (t_gr_takeRun hHT140 (by first | assumption | omega) (by first | assumption | omega) _) ?_
                rintro _ T141 ⟨hHT141, w1539, z1538, rfl, w1538, w1535, w1536, w1537⟩
                have hFT141 : FR md_gr_checkOthers S T141 := FR.tr hFT140 w1539 rfl
                show Rl _ _ _ _ _ [iv z1538] _ _
                refine l_if_eq rfl rfl (by unfold rg; omega) (fun w1540 => ?_) (fun w1541 => ?_)
                · refine l_iconst rfl ?_
                  refine l_ireturn rfl rfl ?_
                  have w1542 : Xi T141 890 2 = Xi U136 890 2 := (show Xi T141 890 2 = Xi T140 890 2 from w1539.x _ _ rfl).trans ( (show Xi T140 890 2 = Xi T139 890 2 from w1527.x _ _ rfl).trans ( (show Xi T139 890 2 = Xi T138 890 2 from w1516.x _ _ rfl).trans ( (show Xi T138 890 2 = Xi U137 890 2 from w1505.x _ _ rfl).trans ((show Xi U137 890 2 = Xi U136 890 2 from by rw [eU137]; exact Xi_ne (by omega))))))
                  have w1543 : 0 ≤ Xi U136 890 2 ∧ Xi U136 890 2 ≤ 20 := hHU136.c _ _
                  exact ⟨hHT141, hFT141, _, rfl, ⟨by omega, by omega⟩, (by first | assumption | omega)⟩
                · refine l_aload_n rfl rfl ?_
                  refine l_bipush rfl rfl ?_
                  have w1544 : Xi T141 876 7 = Xi S 876 7 := (show Xi T141 876 7 = Xi T140 876 7 from w1539.x _ _ rfl).trans ( (show Xi T140 876 7 = Xi T139 876 7 from w1527.x _ _ rfl).trans ( (show Xi T139 876 7 = Xi T138 876 7 from w1516.x _ _ rfl).trans ( (show Xi T138 876 7 = Xi U137 876 7 from w1505.x _ _ rfl).trans ( (show Xi U137 876 7 = Xi U136 876 7 from by rw [eU137]; exact Xi_ne (by omega)).trans ((show Xi U136 876 7 = Xi S 876 7 from by rw [eU136]; exact Xi_ne (by omega)))))))
                  have w1546 : 0 ≤ Xi T141 890 1 ∧ Xi T141 890 1 ≤ 5126 := hHT141.c _ _
                  refine l_callV rfl rfl rfl (t_gr_take hHT141 103 ⟨by omega, by omega⟩ (by first | assumption | omega) (by first | assumption | omega) (by first | assumption | omega) _) ?_
                  rintro _ T142 ⟨hHT142, w1552, z1551, rfl, w1551, w1547, w1548, w1549, w1550⟩
                  have hFT142 : FR md_gr_checkOthers S T142 := FR.tr hFT141 w1552 rfl
                  show Rl _ _ _ _ _ [iv z1551] _ _
                  refine l_if_eq rfl rfl (by unfold rg; omega) (fun w1553 => ?_) (fun w1554 => ?_)
                  · refine l_iconst rfl ?_
                    refine l_ireturn rfl rfl ?_
                    have w1555 : Xi T142 890 2 = Xi U136 890 2 := (show Xi T142 890 2 = Xi T141 890 2 from w1552.x _ _ rfl).trans ( (show Xi T141 890 2 = Xi T140 890 2 from w1539.x _ _ rfl).trans ( (show Xi T140 890 2 = Xi T139 890 2 from w1527.x _ _ rfl).trans ( (show Xi T139 890 2 = Xi T138 890 2 from w1516.x _ _ rfl).trans ( (show Xi T138 890 2 = Xi U137 890 2 from w1505.x _ _ rfl).trans ((show Xi U137 890 2 = Xi U136 890 2 from by rw [eU137]; exact Xi_ne (by omega)))))))
                    have w1556 : 0 ≤ Xi U136 890 2 ∧ Xi U136 890 2 ≤ 20 := hHU136.c _ _
                    exact ⟨hHT142, hFT142, _, rfl, ⟨by omega, by omega⟩, (by first | assumption | omega)⟩
                  · refine l_iconst rfl ?_
                    refine l_goto rfl rfl ?_
                    refine l_ireturn rfl rfl ?_
                    have w1557 : Xi T142 890 2 = Xi U136 890 2 := (show Xi T142 890 2 = Xi T141 890 2 from w1552.x _ _ rfl).trans ( (show Xi T141 890 2 = Xi T140 890 2 from w1539.x _ _ rfl).trans ( (show Xi T140 890 2 = Xi T139 890 2 from w1527.x _ _ rfl).trans ( (show Xi T139 890 2 = Xi T138 890 2 from w1516.x _ _ rfl).trans ( (show Xi T138 890 2 = Xi U137 890 2 from w1505.x _ _ rfl).trans ((show Xi U137 890 2 = Xi U136 890 2 from by rw [eU137]; exact Xi_ne (by omega)))))))
                    have w1558 : 0 ≤ Xi U136 890 2 ∧ Xi U136 890 2 ≤ 20 := hHU136.c _ _
                    exact ⟨hHT142, hFT142, _, rfl, ⟨by omega, by omega⟩, (by first | assumption | omega)⟩
    · refine l_aload_n rfl rfl ?_
      refine l_bipush rfl rfl ?_
      refine l_pfi rfl rfl rfl rfl ?_
      obtain ⟨U143, eU143⟩ : ∃ T : sS, T = uI S 890 2 (Int32.ofInt 7) := ⟨_, rfl⟩
      rw [← eU143]
      have hHU143 : HI U143 := by rw [eU143]; exact HI_w hH (show 0 ≤ 7 by omega) (show 7 ≤ 20 by omega)
      have hFU143 : FR md_gr_checkOthers S U143 := by rw [eU143]; exact FR.wI hF (mdf_i (r := (890, 891, 2, 3)) (List.mem_of_getElem? (i := 1) rfl) (inR_i (by omega) (by omega) (by omega) (by omega)))
      have w1559 : Xi U143 890 2 = 7 := by rw [eU143]; exact Xi_same (by unfold rg; omega)
      refine l_aload_n rfl rfl ?_
      refine l_iconst rfl ?_
      refine l_pfi rfl rfl rfl rfl ?_
      obtain ⟨U144, eU144⟩ : ∃ T : sS, T = uI U143 890 1 (Int32.ofInt 2) := ⟨_, rfl⟩
      rw [← eU144]
      have hHU144 : HI U144 := by rw [eU144]; exact HI_w hHU143 (show 0 ≤ 2 by omega) (show 2 ≤ 5126 by omega)
      have hFU144 : FR md_gr_checkOthers S U144 := by rw [eU144]; exact FR.wI hFU143 (mdf_i (r := (890, 891, 1, 2)) (List.mem_of_getElem? (i := 0) rfl) (inR_i (by omega) (by omega) (by omega) (by omega)))
      have w1560 : Xi U144 890 1 = 2 := by rw [eU144]; exact Xi_same (by unfold rg; omega)
      have hs33 : SAY U144 (Xi U144 890 1) := SAY_v2 (by omega) (m877 hFU144 rfl) (by omega) (by omega)
      refine l_aload_n rfl rfl ?_
      refine l_bipush rfl rfl ?_
      have w1561 : Xi U144 876 7 = Xi S 876 7 := (show Xi U144 876 7 = Xi U143 876 7 from by rw [eU144]; exact Xi_ne (by omega)).trans ((show Xi U143 876 7 = Xi S 876 7 from by rw [eU143]; exact Xi_ne (by omega)))
      have w1563 : 0 ≤ Xi U144 890 1 ∧ Xi U144 890 1 ≤ 5126 := hHU144.c _ _
      refine l_callV rfl rfl rfl (t_gr_take hHU144 11 ⟨by omega, by omega⟩ (by first | assumption | omega) (by first | assumption | omega) (by first | assumption | omega) _) ?_
      rintro _ T145 ⟨hHT145, w1569, z1568, rfl, w1568, w1564, w1565, w1566, w1567⟩
      have hFT145 : FR md_gr_checkOthers S T145 := FR.tr hFU144 w1569 rfl
      show Rl _ _ _ _ _ [iv z1568] _ _
      refine l_if_eq rfl rfl (by unfold rg; omega) (fun w1570 => ?_) (fun w1571 => ?_)
      · refine l_iconst rfl ?_
        refine l_ireturn rfl rfl ?_
        have w1572 : Xi T145 890 2 = Xi U143 890 2 := (show Xi T145 890 2 = Xi U144 890 2 from w1569.x _ _ rfl).trans ((show Xi U144 890 2 = Xi U143 890 2 from by rw [eU144]; exact Xi_ne (by omega)))
        have w1573 : 0 ≤ Xi U143 890 2 ∧ Xi U143 890 2 ≤ 20 := hHU143.c _ _
        exact ⟨hHT145, hFT145, _, rfl, ⟨by omega, by omega⟩, (by first | assumption | omega)⟩
      · refine l_aload_n rfl rfl ?_
        have w1574 : Xi T145 876 7 = Xi S 876 7 := (show Xi T145 876 7 = Xi U144 876 7 from w1569.x _ _ rfl).trans ( (show Xi U144 876 7 = Xi U143 876 7 from by rw [eU144]; exact Xi_ne (by omega)).trans ((show Xi U143 876 7 = Xi S 876 7 from by rw [eU143]; exact Xi_ne (by omega))))
        have w1576 : 0 ≤ Xi T145 890 1 ∧ Xi T145 890 1 ≤ 5126 := hHT145.c _ _
        refine l_callV rfl rfl rfl (t_gr_takeRun hHT145 (by first | assumption | omega) (by first | assumption | omega) _) ?_
        rintro _ T146 ⟨hHT146, w1581, z1580, rfl, w1580, w1577, w1578, w1579⟩
        have hFT146 : FR md_gr_checkOthers S T146 := FR.tr hFT145 w1581 rfl
        show Rl _ _ _ _ _ [iv z1580] _ _
        refine l_if_eq rfl rfl (by unfold rg; omega) (fun w1582 => ?_) (fun w1583 => ?_)
        · refine l_iconst rfl ?_
          refine l_ireturn rfl rfl ?_
          have w1584 : Xi T146 890 2 = Xi U143 890 2 := (show Xi T146 890 2 = Xi T145 890 2 from w1581.x _ _ rfl).trans ( (show Xi T145 890 2 = Xi U144 890 2 from w1569.x _ _ rfl).trans ((show Xi U144 890 2 = Xi U143 890 2 from by rw [eU144]; exact Xi_ne (by omega))))
          have w1585 : 0 ≤ Xi U143 890 2 ∧ Xi U143 890 2 ≤ 20 := hHU143.c _ _
          exact ⟨hHT146, hFT146, _, rfl, ⟨by omega, by omega⟩, (by first | assumption | omega)⟩
        · refine l_aload_n rfl rfl ?_
          refine l_bipush rfl rfl ?_
          have w1586 : Xi T146 876 7 = Xi S 876 7 := (show Xi T146 876 7 = Xi T145 876 7 from w1581.x _ _ rfl).trans ( (show Xi T145 876 7 = Xi U144 876 7 from w1569.x _ _ rfl).trans ( (show Xi U144 876 7 = Xi U143 876 7 from by rw [eU144]; exact Xi_ne (by omega)).trans ((show Xi U143 876 7 = Xi S 876 7 from by rw [eU143]; exact Xi_ne (by omega)))))
          have w1588 : 0 ≤ Xi T146 890 1 ∧ Xi T146 890 1 ≤ 5126 := hHT146.c _ _
          refine l_callV rfl rfl rfl (t_gr_take hHT146 24 ⟨by omega, by omega⟩ (by first | assumption | omega) (by first | assumption | omega) (by first | assumption | omega) _) ?_
          rintro _ T147 ⟨hHT147, w1594, z1593, rfl, w1593, w1589, w1590, w1591, w1592⟩
          have hFT147 : FR md_gr_checkOthers S T147 := FR.tr hFT146 w1594 rfl
          show Rl _ _ _ _ _ [iv z1593] _ _
          refine l_if_eq rfl rfl (by unfold rg; omega) (fun w1595 => ?_) (fun w1596 => ?_)
          · refine l_iconst rfl ?_
            refine l_ireturn rfl rfl ?_
            have w1597 : Xi T147 890 2 = Xi U143 890 2 := (show Xi T147 890 2 = Xi T146 890 2 from w1594.x _ _ rfl).trans ( (show Xi T146 890 2 = Xi T145 890 2 from w1581.x _ _ rfl).trans ( (show Xi T145 890 2 = Xi U144 890 2 from w1569.x _ _ rfl).trans ((show Xi U144 890 2 = Xi U143 890 2 from by rw [eU144]; exact Xi_ne (by omega)))))
            have w1598 : 0 ≤ Xi U143 890 2 ∧ Xi U143 890 2 ≤ 20 := hHU143.c _ _
            exact ⟨hHT147, hFT147, _, rfl, ⟨by omega, by omega⟩, (by first | assumption | omega)⟩
          · refine l_aload_n rfl rfl ?_
            refine l_iconst rfl ?_
            have w1599 : Xi T147 876 7 = Xi S 876 7 := (show Xi T147 876 7 = Xi T146 876 7 from w1594.x _ _ rfl).trans ( (show Xi T146 876 7 = Xi T145 876 7 from w1581.x _ _ rfl).trans ( (show Xi T145 876 7 = Xi U144 876 7 from w1569.x _ _ rfl).trans ( (show Xi U144 876 7 = Xi U143 876 7 from by rw [eU144]; exact Xi_ne (by omega)).trans ((show Xi U143 876 7 = Xi S 876 7 from by rw [eU143]; exact Xi_ne (by omega))))))
            have w1601 : 0 ≤ Xi T147 890 1 ∧ Xi T147 890 1 ≤ 5126 := hHT147.c _ _
            refine l_callV rfl rfl rfl (t_gr_take hHT147 2 ⟨by omega, by omega⟩ (by first | assumption | omega) (by first | assumption | omega) (by first | assumption | omega) _) ?_
            rintro _ T148 ⟨hHT148, w1607, z1606, rfl, w1606, w1602, w1603, w1604, w1605⟩
            have hFT148 : FR md_gr_checkOthers S T148 := FR.tr hFT147 w1607 rfl
            show Rl _ _ _ _ _ [iv z1606] _ _
            refine l_if_eq rfl rfl (by unfold rg; omega) (fun w1608 => ?_) (fun w1609 => ?_)
            · refine l_iconst rfl ?_
              refine l_ireturn rfl rfl ?_
              have w1610 : Xi T148 890 2 = Xi U143 890 2 := (show Xi T148 890 2 = Xi T147 890 2 from w1607.x _ _ rfl).trans ( (show Xi T147 890 2 = Xi T146 890 2 from w1594.x _ _ rfl).trans ( (show Xi T146 890 2 = Xi T145 890 2 from w1581.x _ _ rfl).trans ( (show Xi T145 890 2 = Xi U144 890 2 from w1569.x _ _ rfl).trans ((show Xi U144 890 2 = Xi U143 890 2 from by rw [eU144]; exact Xi_ne (by omega))))))
              have w1611 : 0 ≤ Xi U143 890 2 ∧ Xi U143 890 2 ≤ 20 := hHU143.c _ _
              exact ⟨hHT148, hFT148, _, rfl, ⟨by omega, by omega⟩, (by first | assumption | omega)⟩
            · refine l_aload_n rfl rfl ?_
              have w1612 : Xi T148 876 7 = Xi S 876 7 := (show Xi T148 876 7 = Xi T147 876 7 from w1607.x _ _ rfl).trans ( (show Xi T147 876 7 = Xi T146 876 7 from w1594.x _ _ rfl).trans ( (show Xi T146 876 7 = Xi T145 876 7 from w1581.x _ _ rfl).trans ( (show Xi T145 876 7 = Xi U144 876 7 from w1569.x _ _ rfl).trans ( (show Xi U144 876 7 = Xi U143 876 7 from by rw [eU144]; exact Xi_ne (by omega)).trans ((show Xi U143 876 7 = Xi S 876 7 from by rw [eU143]; exact Xi_ne (by omega)))))))
              have w1614 : 0 ≤ Xi T148 890 1 ∧ Xi T148 890 1 ≤ 5126 := hHT148.c _ _
              refine l_callV rfl rfl rfl (t_gr_takeRun hHT148 (by first | assumption | omega) (by first | assumption | omega) _) ?_
              rintro _ T149 ⟨hHT149, w1619, z1618, rfl, w1618, w1615, w1616, w1617⟩
              have hFT149 : FR md_gr_checkOthers S T149 := FR.tr hFT148 w1619 rfl
              show Rl _ _ _ _ _ [iv z1618] _ _
              refine l_if_eq rfl rfl (by unfold rg; omega) (fun w1620 => ?_) (fun w1621 => ?_)
              · refine l_iconst rfl ?_
                refine l_ireturn rfl rfl ?_
                have w1622 : Xi T149 890 2 = Xi U143 890 2 := (show Xi T149 890 2 = Xi T148 890 2 from w1619.x _ _ rfl).trans ( (show Xi T148 890 2 = Xi T147 890 2 from w1607.x _ _ rfl).trans ( (show Xi T147 890 2 = Xi T146 890 2 from w1594.x _ _ rfl).trans ( (show Xi T146 890 2 = Xi T145 890 2 from w1581.x _ _ rfl).trans ( (show Xi T145 890 2 = Xi U144 890 2 from w1569.x _ _ rfl).trans ((show Xi U144 890 2 = Xi U143 890 2 from by rw [eU144]; exact Xi_ne (by omega)))))))
                have w1623 : 0 ≤ Xi U143 890 2 ∧ Xi U143 890 2 ≤ 20 := hHU143.c _ _
                exact ⟨hHT149, hFT149, _, rfl, ⟨by omega, by omega⟩, (by first | assumption | omega)⟩
              · refine l_aload_n rfl rfl ?_
                refine l_bipush rfl rfl ?_
                have w1624 : Xi T149 876 7 = Xi S 876 7 := (show Xi T149 876 7 = Xi T148 876 7 from w1619.x _ _ rfl).trans ( (show Xi T148 876 7 = Xi T147 876 7 from w1607.x _ _ rfl).trans ( (show Xi T147 876 7 = Xi T146 876 7 from w1594.x _ _ rfl).trans ( (show Xi T146 876 7 = Xi T145 876 7 from w1581.x _ _ rfl).trans ( (show Xi T145 876 7 = Xi U144 876 7 from w1569.x _ _ rfl).trans ( (show Xi U144 876 7 = Xi U143 876 7 from by rw [eU144]; exact Xi_ne (by omega)).trans ((show Xi U143 876 7 = Xi S 876 7 from by rw [eU143]; exact Xi_ne (by omega))))))))
                have w1626 : 0 ≤ Xi T149 890 1 ∧ Xi T149 890 1 ≤ 5126 := hHT149.c _ _
                refine l_callV rfl rfl rfl (t_gr_take hHT149 26 ⟨by omega, by omega⟩ (by first | assumption | omega) (by first | assumption | omega) (by first | assumption | omega) _) ?_
                rintro _ T150 ⟨hHT150, w1632, z1631, rfl, w1631, w1627, w1628, w1629, w1630⟩
                have hFT150 : FR md_gr_checkOthers S T150 := FR.tr hFT149 w1632 rfl
                show Rl _ _ _ _ _ [iv z1631] _ _
                refine l_if_eq rfl rfl (by unfold rg; omega) (fun w1633 => ?_) (fun w1634 => ?_)
                · refine l_iconst rfl ?_
                  refine l_ireturn rfl rfl ?_
                  have w1635 : Xi T150 890 2 = Xi U143 890 2 := (show Xi T150 890 2 = Xi T149 890 2 from w1632.x _ _ rfl).trans ( (show Xi T149 890 2 = Xi T148 890 2 from w1619.x _ _ rfl).trans ( (show Xi T148 890 2 = Xi T147 890 2 from w1607.x _ _ rfl).trans ( (show Xi T147 890 2 = Xi T146 890 2 from w1594.x _ _ rfl).trans ( (show Xi T146 890 2 = Xi T145 890 2 from w1581.x _ _ rfl).trans ( (show Xi T145 890 2 = Xi U144 890 2 from w1569.x _ _ rfl).trans ((show Xi U144 890 2 = Xi U143 890 2 from by rw [eU144]; exact Xi_ne (by omega))))))))
                  have w1636 : 0 ≤ Xi U143 890 2 ∧ Xi U143 890 2 ≤ 20 := hHU143.c _ _
                  exact ⟨hHT150, hFT150, _, rfl, ⟨by omega, by omega⟩, (by first | assumption | omega)⟩
                · refine l_aload_n rfl rfl ?_
                  refine l_bipush rfl rfl ?_
                  have w1637 : Xi T150 876 7 = Xi S 876 7 := (show Xi T150 876 7 = Xi T149 876 7 from w1632.x _ _ rfl).trans ( (show Xi T149 876 7 = Xi T148 876 7 from w1619.x _ _ rfl).trans ( (show Xi T148 876 7 = Xi T147 876 7 from w1607.x _ _ rfl).trans ( (show Xi T147 876 7 = Xi T146 876 7 from w1594.x _ _ rfl).trans ( (show Xi T146 876 7 = Xi T145 876 7 from w1581.x _ _ rfl).trans ( (show Xi T145 876 7 = Xi U144 876 7 from w1569.x _ _ rfl).trans ( (show Xi U144 876 7 = Xi U143 876 7 from by rw [eU144]; exact Xi_ne (by omega)).trans ((show Xi U143 876 7 = Xi S 876 7 from by rw [eU143]; exact Xi_ne (by omega)))))))))
                  have w1639 : 0 ≤ Xi T150 890 1 ∧ Xi T150 890 1 ≤ 5126 := hHT150.c _ _
                  refine l_callV rfl rfl rfl (t_gr_take hHT150 103 ⟨by omega, by omega⟩ (by first | assumption | omega) (by first | assumption | omega) (by first | assumption | omega) _) ?_
                  rintro _ T151 ⟨hHT151, w1645, z1644, rfl, w1644, w1640, w1641, w1642, w1643⟩
                  have hFT151 : FR md_gr_checkOthers S T151 := FR.tr hFT150 w1645 rfl
                  show Rl _ _ _ _ _ [iv z1644] _ _
                  refine l_if_eq rfl rfl (by unfold rg; omega) (fun w1646 => ?_) (fun w1647 => ?_)
                  · refine l_iconst rfl ?_
                    refine l_ireturn rfl rfl ?_
                    have w1648 : Xi T151 890 2 = Xi U143 890 2 := (show Xi T151 890 2 = Xi T150 890 2 from w1645.x _ _ rfl).trans ( (show Xi T150 890 2 = Xi T149 890 2 from w1632.x _ _ rfl).trans ( (show Xi T149 890 2 = Xi T148 890 2 from w1619.x _ _ rfl).trans ( (show Xi T148 890 2 = Xi T147 890 2 from w1607.x _ _ rfl).trans ( (show Xi T147 890 2 = Xi T146 890 2 from w1594.x _ _ rfl).trans ( (show Xi T146 890 2 = Xi T145 890 2 from w1581.x _ _ rfl).trans ( (show Xi T145 890 2 = Xi U144 890 2 from w1569.x _ _ rfl).trans ((show Xi U144 890 2 = Xi U143 890 2 from by rw [eU144]; exact Xi_ne (by omega)))))))))
                    have w1649 : 0 ≤ Xi U143 890 2 ∧ Xi U143 890 2 ≤ 20 := hHU143.c _ _
                    exact ⟨hHT151, hFT151, _, rfl, ⟨by omega, by omega⟩, (by first | assumption | omega)⟩
                  · refine l_iconst rfl ?_
                    refine l_goto rfl rfl ?_
                    refine l_ireturn rfl rfl ?_
                    have w1650 : Xi T151 890 2 = Xi U143 890 2 := (show Xi T151 890 2 = Xi T150 890 2 from w1645.x _ _ rfl).trans ( (show Xi T150 890 2 = Xi T149 890 2 from w1632.x _ _ rfl).trans ( (show Xi T149 890 2 = Xi T148 890 2 from w1619.x _ _ rfl).trans ( (show Xi T148 890 2 = Xi T147 890 2 from w1607.x _ _ rfl).trans ( (show Xi T147 890 2 = Xi T146 890 2 from w1594.x _ _ rfl).trans ( (show Xi T146 890 2 = Xi T145 890 2 from w1581.x _ _ rfl).trans ( (show Xi T145 890 2 = Xi U144 890 2 from w1569.x _ _ rfl).trans ((show Xi U144 890 2 = Xi U143 890 2 from by rw [eU144]; exact Xi_ne (by omega)))))))))
                    have w1651 : 0 ≤ Xi U143 890 2 ∧ Xi U143 890 2 ≤ 20 := hHU143.c _ _
                    exact ⟨hHT151, hFT151, _, rfl, ⟨by omega, by omega⟩, (by first | assumption | omega)⟩
